/-! Acts: takesBack, promise. Printed by wip/whole. -/
def c_takes (w : wv) (n : Int32) : Int32 × sv := match inN n (eN (wE w)) with
  | none => (-1, wV w)
  | some k => if wV w 3 k = 0 then (-2, wV w) else (nI (wV w 2 k - 3), upv (upv (wV w) 3 k 0) 2 k (wV w 2 k - 3))
def pvV (v : sv) (k g z : Nat) : sv := upv (upv v 3 k (g + 1)) 4 k z
def c_prom (w : wv) (i f n : Int32) : Int32 × sv := match inN i (eN (wE w)), inN f (eR (wE w) * eC (wE w)), rgN n 0 9 with
  | some k, some g, some z => if eK (wE w) k = 2 then (-3, wV w) else if wV w 2 k = 0 then (-4, wV w) else (nI (pcN (prN (pvV (wV w) k g z) (eN (wE w)))), pvV (wV w) k g z)
  | _, _, _ => (-1, wV w)
theorem ls3 : ∀ t, t ≤ 9 → (if nI 0 < nI t - nI 3 then nI t - nI 3 else nI 0) = nI (t - 3) := by decide
set_option maxHeartbeats 4000000 in
theorem x_drop {l : xLa} {d : Nat} {σ : xs} {w : wv} (ho : okQ w) (hw : XW σ w) {n : Int32} : TC l M_X_dropPromise (d + 10) [.ref 0, .int n] σ (fun r τ => r = some (.int (c_takes w n).1) ∧ XW τ (stV w (c_takes w n).2) ∧ XF σ τ ∧ K25 σ τ) := by
  show T l M_X_dropPromise (d + 10) 0 _ [] σ _
  refine T_lv (lv2 := [_, _]) rfl ?_
  have h := XQ.rf hw.v
  have hb0 := ho.fb
  have hb8 := ho.n8
  have hv := ho.2.1
  rcases inN_c n (eN (wE w)) with ⟨m, hm, rfl, hq⟩ | ⟨hq, hb⟩
  · have hqv : c_takes w (nI m) = if wV w 3 m = 0 then (-2, wV w) else (nI (wV w 2 m - 3), upv (upv (wV w) 3 m 0) 2 m (wV w 2 m - 3)) := by unfold c_takes; rw [hq]
    rw [hqv]
    clear hqv
    have hv7 := hv.2.2.2.2.2.2 m hm
    have hg := gI_c (show wV w 3 m < 2 ^ 31 by omega)
    have hgl := gI_lt (show wV w 3 m < 2 ^ 30 by omega)
    refine tt_aload_n d_X_dropPromise_0 rfl ?_
    refine tt_getR d_X_dropPromise_1 rfl rfl (by decide) rfl rfl ?_
    refine tt_iload_n d_X_dropPromise_4 rfl ?_
    refine tt_callV (x_School_has (d := d) h.n ho.n8) cw_School_has rfl rfl (by decide) rfl (by omega) d_X_dropPromise_5 rfl rfl (Nat.le_of_ble_eq_true rfl) (Nat.le_of_ble_eq_true rfl) rfl rfl rfl (fun v σ2 q => ?_)
    obtain ⟨rfl, e9⟩ := q
    rw [e9, X_in_N hm (by omega)]
    clear e9
    refine tn_if_ne (t := 13) (by omega) d_X_dropPromise_8 (by decide) (fun c_8 => ?_) (fun c_8 => ?_)
    · refine tt_aload_n d_X_dropPromise_13 rfl ?_
      refine tt_getR d_X_dropPromise_14 rfl rfl (by decide) rfl rfl ?_
      refine tt_getR d_X_dropPromise_17 rfl rfl (by decide) rfl rfl ?_
      refine tt_iload_n d_X_dropPromise_20 rfl ?_
      refine tn_iald d_X_dropPromise_21 rfl (by decide) (by omega) (h.t3 (by omega)) ?_
      refine tt_iconst (v := (-1)) d_X_dropPromise_22 (by decide) ?_
      refine tt_ic_ne (t := 29) d_X_dropPromise_23 (by decide) (fun c_23 => ?_) (fun c_23 => ?_)
      · rw [if_neg (fun q => c_23 (hg.1.mpr q))]
        refine tt_aload_n d_X_dropPromise_29 rfl ?_
        refine tt_getR d_X_dropPromise_30 rfl rfl (by decide) rfl rfl ?_
        refine tt_getR d_X_dropPromise_33 rfl rfl (by decide) rfl rfl ?_
        refine tt_iload_n d_X_dropPromise_36 rfl ?_
        refine tt_iconst (v := (-1)) d_X_dropPromise_37 (by decide) ?_
        refine tn_iast d_X_dropPromise_38 rfl (by decide) (by omega) ?_
        refine tt_aload_n d_X_dropPromise_39 rfl ?_
        refine tt_getR d_X_dropPromise_40 rfl rfl (by decide) rfl rfl ?_
        refine tt_getR d_X_dropPromise_43 rfl rfl (by decide) rfl rfl ?_
        refine tt_iload_n d_X_dropPromise_46 rfl ?_
        refine tt_iconst (v := nI 0) d_X_dropPromise_47 (by decide) ?_
        refine tt_aload_n d_X_dropPromise_48 rfl ?_
        refine tt_getR d_X_dropPromise_49 rfl rfl (by decide) rfl rfl ?_
        refine tt_getR d_X_dropPromise_52 rfl rfl (by decide) rfl rfl ?_
        refine tt_iload_n d_X_dropPromise_55 rfl ?_
        refine tn_iald d_X_dropPromise_56 rfl (by decide) (by omega) (h.t2 (by omega)) ?_
        refine tt_iconst (v := nI 3) d_X_dropPromise_57 (by decide) ?_
        refine tt_isub d_X_dropPromise_58 ?_
        refine tt_max d_X_dropPromise_59 rfl (Nat.le_of_ble_eq_true rfl) ?_
        refine tt_top (ls3 _ hv7.2.1) ?_
        refine tn_iast d_X_dropPromise_62 rfl (by decide) (by omega) ?_
        refine tt_aload_n d_X_dropPromise_63 rfl ?_
        refine tt_getR d_X_dropPromise_64 rfl rfl (by decide) rfl rfl ?_
        refine tt_getR d_X_dropPromise_67 rfl rfl (by decide) rfl rfl ?_
        refine tt_iload_n d_X_dropPromise_70 rfl ?_
        refine tn_iald d_X_dropPromise_71 rfl (by decide) (by omega) (show _ = nI (wV w 2 m - 3) from by rw [si_wI, if_pos ⟨rfl, rfl⟩]) ?_
        refine tt_iret rfl d_X_dropPromise_72 ?_
        exact ⟨rfl, hw.now (Fq.tr (Fq.wI (by omega)) (Fq.wI (by omega))) (ST_w2 (ST_w3 (x := 0) hw.2.1))⟩
      · rw [if_pos (hg.1.mp (Decidable.not_not.mp c_23))]
        refine tt_bipush (v := (-2)) d_X_dropPromise_26 (by decide) ?_
        refine tt_iret rfl d_X_dropPromise_28 ?_
        have y := hw.same
        exact ⟨rfl, y⟩
    · exact absurd c_8 (by decide)
  · have hqv : c_takes w n = (-1, wV w) := by unfold c_takes; rw [hq]
    rw [hqv]
    refine tt_aload_n d_X_dropPromise_0 rfl ?_
    refine tt_getR d_X_dropPromise_1 rfl rfl (by decide) rfl rfl ?_
    refine tt_iload_n d_X_dropPromise_4 rfl ?_
    refine tt_callV (x_School_has (d := d) h.n ho.n8) cw_School_has rfl rfl (by decide) rfl (by omega) d_X_dropPromise_5 rfl rfl (Nat.le_of_ble_eq_true rfl) (Nat.le_of_ble_eq_true rfl) rfl rfl rfl (fun v σ2 q => ?_)
    obtain ⟨rfl, e9⟩ := q
    rw [e9, X_in_none hb]
    clear e9
    refine tn_if_ne (t := 13) (by omega) d_X_dropPromise_8 (by decide) (fun c_8 => ?_) (fun c_8 => ?_)
    · exact absurd rfl c_8
    · refine tt_iconst (v := (-1)) d_X_dropPromise_11 (by decide) ?_
      refine tt_iret rfl d_X_dropPromise_12 ?_
      have y := hw.same
      exact ⟨rfl, y⟩

set_option maxHeartbeats 4000000 in
theorem y_takesOne {l : xLa} {d c : Nat} {σ : xs} {w : wv} (ho : okQ w) (hw : YW σ c w) {n : Int32} : TC l M_Y_takesOne (d + 10) [.ref 154, .int n] σ (fun r τ => r = some (.int (c_takes w n).1) ∧ YW τ c (stV w (c_takes w n).2) ∧ YF σ τ ∧ si τ 171 = si σ 171) := by
  show T l M_Y_takesOne (d + 10) 0 _ [] σ _
  refine T_lv (lv2 := [_, _]) rfl ?_
  have h := YQ.rf hw.v
  have hb0 := ho.fb
  have hb8 := ho.n8
  have hv := ho.2.1
  rcases inN_c n (eN (wE w)) with ⟨m, hm, rfl, hq⟩ | ⟨hq, hb⟩
  · have hqv : c_takes w (nI m) = if wV w 3 m = 0 then (-2, wV w) else (nI (wV w 2 m - 3), upv (upv (wV w) 3 m 0) 2 m (wV w 2 m - 3)) := by unfold c_takes; rw [hq]
    rw [hqv]
    clear hqv
    have hv7 := hv.2.2.2.2.2.2 m hm
    have hg := gI_c (show wV w 3 m < 2 ^ 31 by omega)
    have hgl := gI_lt (show wV w 3 m < 2 ^ 30 by omega)
    refine tt_aload_n d_Y_takesOne_0 rfl ?_
    refine tt_iload_n d_Y_takesOne_1 rfl ?_
    refine tt_callV (y_isFish (d := d) h.e.1.2.2.1 ho.n8) cw_Y_isFish rfl rfl (by decide) rfl (by omega) d_Y_takesOne_2 rfl rfl (Nat.le_of_ble_eq_true rfl) (Nat.le_of_ble_eq_true rfl) rfl rfl rfl (fun v σ2 q => ?_)
    obtain ⟨rfl, e9⟩ := q
    rw [e9, X_in_N hm (by omega)]
    clear e9
    refine tn_if_ne (t := 10) (by omega) d_Y_takesOne_5 (by decide) (fun c_5 => ?_) (fun c_5 => ?_)
    · refine tt_aload_n d_Y_takesOne_10 rfl ?_
      refine tt_getR d_Y_takesOne_11 rfl rfl (by decide) rfl rfl ?_
      refine tt_bipush (v := nI 17) d_Y_takesOne_14 (by decide) ?_
      refine tt_iload_n d_Y_takesOne_16 rfl ?_
      refine tn_iadd d_Y_takesOne_17 ?_
      refine tn_iald d_Y_takesOne_18 rfl (by decide) (by omega) ((h.1.2.1.2 _ (by omega)).2.2.1) ?_
      refine tt_if_ge (t := 25) d_Y_takesOne_19 (by decide) (fun c_19 => ?_) (fun c_19 => ?_)
      · rw [if_neg (fun q => fa_nlt2 (hgl.mpr q) c_19)]
        refine tt_aload_n d_Y_takesOne_25 rfl ?_
        refine tt_getR d_Y_takesOne_26 rfl rfl (by decide) rfl rfl ?_
        refine tt_bipush (v := nI 17) d_Y_takesOne_29 (by decide) ?_
        refine tt_iload_n d_Y_takesOne_31 rfl ?_
        refine tn_iadd d_Y_takesOne_32 ?_
        refine tt_iconst (v := (-1)) d_Y_takesOne_33 (by decide) ?_
        refine tn_iast d_Y_takesOne_34 rfl (by decide) (by omega) ?_
        refine tt_aload_n d_Y_takesOne_35 rfl ?_
        refine tt_getR d_Y_takesOne_36 rfl rfl (by decide) rfl rfl ?_
        refine tt_bipush (v := nI 25) d_Y_takesOne_39 (by decide) ?_
        refine tt_iload_n d_Y_takesOne_41 rfl ?_
        refine tn_iadd d_Y_takesOne_42 ?_
        refine tt_iconst (v := (-1)) d_Y_takesOne_43 (by decide) ?_
        refine tn_iast d_Y_takesOne_44 rfl (by decide) (by omega) ?_
        refine tt_aload_n d_Y_takesOne_45 rfl ?_
        refine tt_getR d_Y_takesOne_46 rfl rfl (by decide) rfl rfl ?_
        refine tt_bipush (v := nI 9) d_Y_takesOne_49 (by decide) ?_
        refine tt_iload_n d_Y_takesOne_51 rfl ?_
        refine tn_iadd d_Y_takesOne_52 ?_
        refine tt_iconst (v := nI 0) d_Y_takesOne_53 (by decide) ?_
        refine tt_aload_n d_Y_takesOne_54 rfl ?_
        refine tt_getR d_Y_takesOne_55 rfl rfl (by decide) rfl rfl ?_
        refine tt_bipush (v := nI 9) d_Y_takesOne_58 (by decide) ?_
        refine tt_iload_n d_Y_takesOne_60 rfl ?_
        refine tn_iadd d_Y_takesOne_61 ?_
        refine tn_iald d_Y_takesOne_62 rfl (by decide) (by omega) (show _ = nI (wV w 2 m) from by rw [si_wI, if_neg (by omega), si_wI, if_neg (by omega)]; exact (hw.2.1.2 m hm).2.1) ?_
        refine tt_iconst (v := nI 3) d_Y_takesOne_63 (by decide) ?_
        refine tt_isub d_Y_takesOne_64 ?_
        refine tt_max d_Y_takesOne_65 rfl (Nat.le_of_ble_eq_true rfl) ?_
        refine tt_top (ls3 _ hv7.2.1) ?_
        refine tn_iast d_Y_takesOne_68 rfl (by decide) (by omega) ?_
        refine tt_aload_n d_Y_takesOne_69 rfl ?_
        refine tt_getR d_Y_takesOne_70 rfl rfl (by decide) rfl rfl ?_
        refine tt_bipush (v := nI 9) d_Y_takesOne_73 (by decide) ?_
        refine tt_iload_n d_Y_takesOne_75 rfl ?_
        refine tn_iadd d_Y_takesOne_76 ?_
        refine tn_iald d_Y_takesOne_77 rfl (by decide) (by omega) (show _ = nI (wV w 2 m - 3) from by rw [si_wI, if_pos ⟨rfl, rfl⟩]) ?_
        refine tt_iret rfl d_Y_takesOne_78 ?_
        exact ⟨rfl, hw.now (Fq.tr (Fq.tr (Fq.wI rfl) (Fq.wI rfl)) (Fq.wI rfl)) (SY_2 (SY_3 hw.2.1 (by omega) hb8) (by omega) hb8)⟩
      · rw [if_pos (hgl.mp (Int32.not_le.mp c_19))]
        refine tt_bipush (v := (-2)) d_Y_takesOne_22 (by decide) ?_
        refine tt_iret rfl d_Y_takesOne_24 ?_
        have y := hw.same
        exact ⟨rfl, y⟩
    · exact absurd c_5 (by decide)
  · have hqv : c_takes w n = (-1, wV w) := by unfold c_takes; rw [hq]
    rw [hqv]
    refine tt_aload_n d_Y_takesOne_0 rfl ?_
    refine tt_iload_n d_Y_takesOne_1 rfl ?_
    refine tt_callV (y_isFish (d := d) h.e.1.2.2.1 ho.n8) cw_Y_isFish rfl rfl (by decide) rfl (by omega) d_Y_takesOne_2 rfl rfl (Nat.le_of_ble_eq_true rfl) (Nat.le_of_ble_eq_true rfl) rfl rfl rfl (fun v σ2 q => ?_)
    obtain ⟨rfl, e9⟩ := q
    rw [e9, X_in_none hb]
    clear e9
    refine tn_if_ne (t := 10) (by omega) d_Y_takesOne_5 (by decide) (fun c_5 => ?_) (fun c_5 => ?_)
    · exact absurd rfl c_5
    · refine tt_iconst (v := (-1)) d_Y_takesOne_8 (by decide) ?_
      refine tt_iret rfl d_Y_takesOne_9 ?_
      have y := hw.same
      exact ⟨rfl, y⟩

set_option maxHeartbeats 4000000 in
theorem x_makeP {l : xLa} {d : Nat} {σ : xs} {w : wv} (ho : okQ w) (hw : XW σ w) {i f n : Int32} : TC l M_X_makePromise (d + 10) [.ref 0, .ref 20, .int i, .int f, .int n] σ (fun r τ => r = some (.int (c_prom w i f n).1) ∧ XW τ (stV w (c_prom w i f n).2) ∧ XF σ τ ∧ K25 σ τ) := by
  show T l M_X_makePromise (d + 10) 0 _ [] σ _
  refine T_lv (lv2 := [_, _, _, _, _]) rfl ?_
  have h := XQ.rf hw.v
  have hb0 := ho.fb
  have hb8 := ho.n8
  have hv := ho.2.1
  rcases inN_c i (eN (wE w)) with ⟨k, hk, rfl, hq1⟩ | ⟨hq1, hb1⟩
  · rcases inN_c f (eR (wE w) * eC (wE w)) with ⟨g, hg, rfl, hq2⟩ | ⟨hq2, hb2⟩
    · rcases rgN_c n 0 9 with ⟨z, hz1, hz2, hz3, rfl, hq3⟩ | ⟨hq3, hb3⟩
      · have hqv : c_prom w (nI k) (nI g) (nI z) = if eK (wE w) k = 2 then (-3, wV w) else if wV w 2 k = 0 then (-4, wV w) else (nI (pcN (prN (pvV (wV w) k g z) (eN (wE w)))), pvV (wV w) k g z) := by unfold c_prom; rw [hq1, hq2, hq3]
        rw [hqv]
        clear hqv
        have hv7 := hv.2.2.2.2.2.2 k hk
        have hk3 := (ho.1.2.1 k (by omega)).1
        have hvn : okV (wE w) (pvV (wV w) k g z) := ok_4 (ok_3 hv (by omega)) (by omega)
        have hpl := prN_lt (pvV (wV w) k g z) hb8
        refine tt_aload_n d_X_makePromise_0 rfl ?_
        refine tt_getR d_X_makePromise_1 rfl rfl (by decide) rfl rfl ?_
        refine tt_iload_n d_X_makePromise_4 rfl ?_
        refine tt_callV (x_School_has (d := d) h.n ho.n8) cw_School_has rfl rfl (by decide) rfl (by omega) d_X_makePromise_5 rfl rfl (Nat.le_of_ble_eq_true rfl) (Nat.le_of_ble_eq_true rfl) rfl rfl rfl (fun v σ2 q => ?_)
        obtain ⟨rfl, e9⟩ := q
        rw [e9, X_in_N hk (by omega)]
        clear e9
        refine tn_if_eq (t := 34) (by omega) d_X_makePromise_8 (by decide) (fun c_8 => ?_) (fun c_8 => ?_)
        · exact absurd c_8 (by decide)
        · refine tt_aload_n d_X_makePromise_11 rfl ?_
          refine tt_getR d_X_makePromise_12 rfl rfl (by decide) rfl rfl ?_
          refine tt_iload_n d_X_makePromise_15 rfl ?_
          refine tt_callV (x_Lake_has (d := d) h.r h.cl ho.1.1.2.1 ho.1.1.2.2.2.1 ho.cp) cw_Lake_has rfl rfl (by decide) rfl (by omega) d_X_makePromise_16 rfl rfl (Nat.le_of_ble_eq_true rfl) (Nat.le_of_ble_eq_true rfl) rfl rfl rfl (fun v σ2 q => ?_)
          obtain ⟨rfl, e9⟩ := q
          rw [e9, X_in_N hg (by omega)]
          clear e9
          refine tn_if_eq (t := 34) (by omega) d_X_makePromise_19 (by decide) (fun c_19 => ?_) (fun c_19 => ?_)
          · exact absurd c_19 (by decide)
          · refine tt_iload d_X_makePromise_22 rfl ?_
            refine tn_if_lt (t := 34) (by omega) d_X_makePromise_24 (by decide) ?_
            refine tt_iload d_X_makePromise_27 rfl ?_
            refine tt_bipush (v := nI 9) d_X_makePromise_29 (by decide) ?_
            refine tn_ic_le (t := 36) (by omega) (by omega) d_X_makePromise_31 (by decide) (fun c_31 => ?_) (fun c_31 => ?_)
            · refine tt_aload_n d_X_makePromise_36 rfl ?_
              refine tt_getR d_X_makePromise_37 rfl rfl (by decide) rfl rfl ?_
              refine tt_getR d_X_makePromise_40 rfl rfl (by decide) rfl rfl ?_
              refine tt_iload_n d_X_makePromise_43 rfl ?_
              refine tn_iald d_X_makePromise_44 rfl (by decide) (by omega) (h.kd (by omega)) ?_
              refine tt_iconst (v := nI 2) d_X_makePromise_45 (by decide) ?_
              refine tn_ic_ne (t := 52) (by omega) (by omega) d_X_makePromise_46 (by decide) (fun c_46 => ?_) (fun c_46 => ?_)
              · rw [if_neg (by omega)]
                refine tt_aload_n d_X_makePromise_52 rfl ?_
                refine tt_getR d_X_makePromise_53 rfl rfl (by decide) rfl rfl ?_
                refine tt_iload_n d_X_makePromise_56 rfl ?_
                refine tn_iald d_X_makePromise_57 rfl (by decide) (by omega) (h.t2 (by omega)) ?_
                refine tn_if_ne (t := 64) (by omega) d_X_makePromise_58 (by decide) (fun c_58 => ?_) (fun c_58 => ?_)
                · rw [if_neg (by omega)]
                  refine tt_aload_n d_X_makePromise_64 rfl ?_
                  refine tt_getR d_X_makePromise_65 rfl rfl (by decide) rfl rfl ?_
                  refine tt_iload_n d_X_makePromise_68 rfl ?_
                  refine tt_iload_n d_X_makePromise_69 rfl ?_
                  refine tn_iast d_X_makePromise_70 rfl (by decide) (by omega) ?_
                  refine tt_aload_n d_X_makePromise_71 rfl ?_
                  refine tt_getR d_X_makePromise_72 rfl rfl (by decide) rfl rfl ?_
                  refine tt_iload_n d_X_makePromise_75 rfl ?_
                  refine tt_iload d_X_makePromise_76 rfl ?_
                  refine tn_iast d_X_makePromise_78 rfl (by decide) (by omega) ?_
                  refine tt_aload_n d_X_makePromise_79 rfl ?_
                  refine tt_aload_n d_X_makePromise_80 rfl ?_
                  refine tt_getR d_X_makePromise_81 rfl rfl (by decide) rfl rfl ?_
                  refine tn_get d_X_makePromise_84 rfl rfl (by decide) rfl h.n ?_
                  refine tt_callV (x_promN (d := d) isS_20 ho.1 hvn (ST_w4 (ST_w3 (x := g + 1) hw.2.1))) cw_State_promised rfl rfl (by decide) rfl (by omega) d_X_makePromise_87 rfl rfl (Nat.le_of_ble_eq_true rfl) (Nat.le_of_ble_eq_true rfl) rfl rfl rfl (fun v σ2 q => ?_)
                  obtain ⟨rfl, e9⟩ := q
                  rw [e9]
                  clear e9
                  refine tt_callS (x_bitN (d := d) hpl) cw_Integer_bitCount rfl (by omega) d_X_makePromise_90 rfl rfl (Nat.le_of_ble_eq_true rfl) (Nat.le_of_ble_eq_true rfl) rfl rfl rfl (fun v σ2 q => ?_)
                  obtain ⟨rfl, e9⟩ := q
                  rw [e9]
                  clear e9
                  refine tt_iret rfl d_X_makePromise_93 ?_
                  exact ⟨rfl, hw.now (Fq.tr (Fq.wI (by omega)) (Fq.wI (by omega))) (ST_w4 (ST_w3 (x := g + 1) hw.2.1))⟩
                · rw [if_pos (by omega)]
                  refine tt_bipush (v := (-4)) d_X_makePromise_61 (by decide) ?_
                  refine tt_iret rfl d_X_makePromise_63 ?_
                  have y := hw.same
                  exact ⟨rfl, y⟩
              · rw [if_pos (by omega)]
                refine tt_bipush (v := (-3)) d_X_makePromise_49 (by decide) ?_
                refine tt_iret rfl d_X_makePromise_51 ?_
                have y := hw.same
                exact ⟨rfl, y⟩
            · omega
      · have hqv : c_prom w (nI k) (nI g) n = (-1, wV w) := by unfold c_prom; rw [hq1, hq2, hq3]
        rw [hqv]
        refine tt_aload_n d_X_makePromise_0 rfl ?_
        refine tt_getR d_X_makePromise_1 rfl rfl (by decide) rfl rfl ?_
        refine tt_iload_n d_X_makePromise_4 rfl ?_
        refine tt_callV (x_School_has (d := d) h.n ho.n8) cw_School_has rfl rfl (by decide) rfl (by omega) d_X_makePromise_5 rfl rfl (Nat.le_of_ble_eq_true rfl) (Nat.le_of_ble_eq_true rfl) rfl rfl rfl (fun v σ2 q => ?_)
        obtain ⟨rfl, e9⟩ := q
        rw [e9, X_in_N hk (by omega)]
        clear e9
        refine tn_if_eq (t := 34) (by omega) d_X_makePromise_8 (by decide) (fun c_8 => ?_) (fun c_8 => ?_)
        · exact absurd c_8 (by decide)
        · refine tt_aload_n d_X_makePromise_11 rfl ?_
          refine tt_getR d_X_makePromise_12 rfl rfl (by decide) rfl rfl ?_
          refine tt_iload_n d_X_makePromise_15 rfl ?_
          refine tt_callV (x_Lake_has (d := d) h.r h.cl ho.1.1.2.1 ho.1.1.2.2.2.1 ho.cp) cw_Lake_has rfl rfl (by decide) rfl (by omega) d_X_makePromise_16 rfl rfl (Nat.le_of_ble_eq_true rfl) (Nat.le_of_ble_eq_true rfl) rfl rfl rfl (fun v σ2 q => ?_)
          obtain ⟨rfl, e9⟩ := q
          rw [e9, X_in_N hg (by omega)]
          clear e9
          refine tn_if_eq (t := 34) (by omega) d_X_makePromise_19 (by decide) (fun c_19 => ?_) (fun c_19 => ?_)
          · exact absurd c_19 (by decide)
          · refine tt_iload d_X_makePromise_22 rfl ?_
            refine tt_if_lt (t := 34) d_X_makePromise_24 (by decide) (fun c_24 => ?_) (fun c_24 => ?_)
            · refine tt_iconst (v := (-1)) d_X_makePromise_34 (by decide) ?_
              refine tt_iret rfl d_X_makePromise_35 ?_
              have y := hw.same
              exact ⟨rfl, y⟩
            · refine tt_iload d_X_makePromise_27 rfl ?_
              refine tt_bipush (v := nI 9) d_X_makePromise_29 (by decide) ?_
              refine tt_ic_le (t := 36) d_X_makePromise_31 (by decide) (fun c_31 => ?_) (fun c_31 => ?_)
              · exact (rg_f (a := 0) (b := 9) (by decide) (by decide) hb3 (by rw [nI_0]; exact c_24) c_31).elim
              · refine tt_iconst (v := (-1)) d_X_makePromise_34 (by decide) ?_
                refine tt_iret rfl d_X_makePromise_35 ?_
                have y := hw.same
                exact ⟨rfl, y⟩
    · have hqv : c_prom w (nI k) f n = (-1, wV w) := by unfold c_prom; rw [hq1, hq2]
      rw [hqv]
      refine tt_aload_n d_X_makePromise_0 rfl ?_
      refine tt_getR d_X_makePromise_1 rfl rfl (by decide) rfl rfl ?_
      refine tt_iload_n d_X_makePromise_4 rfl ?_
      refine tt_callV (x_School_has (d := d) h.n ho.n8) cw_School_has rfl rfl (by decide) rfl (by omega) d_X_makePromise_5 rfl rfl (Nat.le_of_ble_eq_true rfl) (Nat.le_of_ble_eq_true rfl) rfl rfl rfl (fun v σ2 q => ?_)
      obtain ⟨rfl, e9⟩ := q
      rw [e9, X_in_N hk (by omega)]
      clear e9
      refine tn_if_eq (t := 34) (by omega) d_X_makePromise_8 (by decide) (fun c_8 => ?_) (fun c_8 => ?_)
      · exact absurd c_8 (by decide)
      · refine tt_aload_n d_X_makePromise_11 rfl ?_
        refine tt_getR d_X_makePromise_12 rfl rfl (by decide) rfl rfl ?_
        refine tt_iload_n d_X_makePromise_15 rfl ?_
        refine tt_callV (x_Lake_has (d := d) h.r h.cl ho.1.1.2.1 ho.1.1.2.2.2.1 ho.cp) cw_Lake_has rfl rfl (by decide) rfl (by omega) d_X_makePromise_16 rfl rfl (Nat.le_of_ble_eq_true rfl) (Nat.le_of_ble_eq_true rfl) rfl rfl rfl (fun v σ2 q => ?_)
        obtain ⟨rfl, e9⟩ := q
        rw [e9, X_in_none hb2]
        clear e9
        refine tn_if_eq (t := 34) (by omega) d_X_makePromise_19 (by decide) (fun c_19 => ?_) (fun c_19 => ?_)
        · refine tt_iconst (v := (-1)) d_X_makePromise_34 (by decide) ?_
          refine tt_iret rfl d_X_makePromise_35 ?_
          have y := hw.same
          exact ⟨rfl, y⟩
        · exact absurd rfl c_19
  · have hqv : c_prom w i f n = (-1, wV w) := by unfold c_prom; rw [hq1]
    rw [hqv]
    refine tt_aload_n d_X_makePromise_0 rfl ?_
    refine tt_getR d_X_makePromise_1 rfl rfl (by decide) rfl rfl ?_
    refine tt_iload_n d_X_makePromise_4 rfl ?_
    refine tt_callV (x_School_has (d := d) h.n ho.n8) cw_School_has rfl rfl (by decide) rfl (by omega) d_X_makePromise_5 rfl rfl (Nat.le_of_ble_eq_true rfl) (Nat.le_of_ble_eq_true rfl) rfl rfl rfl (fun v σ2 q => ?_)
    obtain ⟨rfl, e9⟩ := q
    rw [e9, X_in_none hb1]
    clear e9
    refine tn_if_eq (t := 34) (by omega) d_X_makePromise_8 (by decide) (fun c_8 => ?_) (fun c_8 => ?_)
    · refine tt_iconst (v := (-1)) d_X_makePromise_34 (by decide) ?_
      refine tt_iret rfl d_X_makePromise_35 ?_
      have y := hw.same
      exact ⟨rfl, y⟩
    · exact absurd rfl c_8

set_option maxHeartbeats 4000000 in
theorem y_promises {l : xLa} {d c : Nat} {σ : xs} {w : wv} (ho : okQ w) (hw : YW σ c w) {i f n : Int32} : TC l M_Y_promises (d + 10) [.ref 154, .ref 160, .int i, .int f, .int n] σ (fun r τ => r = some (.int (c_prom w i f n).1) ∧ YW τ c (stV w (c_prom w i f n).2) ∧ YF σ τ ∧ si τ 171 = si σ 171) := by
  show T l M_Y_promises (d + 10) 0 _ [] σ _
  refine T_lv (lv2 := [_, _, _, _, _]) rfl ?_
  have h := YQ.rf hw.v
  have hb0 := ho.fb
  have hb8 := ho.n8
  have hv := ho.2.1
  rcases inN_c i (eN (wE w)) with ⟨k, hk, rfl, hq1⟩ | ⟨hq1, hb1⟩
  · rcases inN_c f (eR (wE w) * eC (wE w)) with ⟨g, hg, rfl, hq2⟩ | ⟨hq2, hb2⟩
    · rcases rgN_c n 0 9 with ⟨z, hz1, hz2, hz3, rfl, hq3⟩ | ⟨hq3, hb3⟩
      · have hqv : c_prom w (nI k) (nI g) (nI z) = if eK (wE w) k = 2 then (-3, wV w) else if wV w 2 k = 0 then (-4, wV w) else (nI (pcN (prN (pvV (wV w) k g z) (eN (wE w)))), pvV (wV w) k g z) := by unfold c_prom; rw [hq1, hq2, hq3]
        rw [hqv]
        clear hqv
        have hv7 := hv.2.2.2.2.2.2 k hk
        have hk3 := (ho.1.2.1 k (by omega)).1
        have hvn : okV (wE w) (pvV (wV w) k g z) := ok_4 (ok_3 hv (by omega)) (by omega)
        have hpl := prN_lt (pvV (wV w) k g z) hb8
        refine tt_aload_n d_Y_promises_0 rfl ?_
        refine tt_iload_n d_Y_promises_1 rfl ?_
        refine tt_callV (y_isFish (d := d) h.e.1.2.2.1 ho.n8) cw_Y_isFish rfl rfl (by decide) rfl (by omega) d_Y_promises_2 rfl rfl (Nat.le_of_ble_eq_true rfl) (Nat.le_of_ble_eq_true rfl) rfl rfl rfl (fun v σ2 q => ?_)
        obtain ⟨rfl, e9⟩ := q
        rw [e9, X_in_N hk (by omega)]
        clear e9
        refine tn_if_eq (t := 29) (by omega) d_Y_promises_5 (by decide) (fun c_5 => ?_) (fun c_5 => ?_)
        · exact absurd c_5 (by decide)
        · refine tt_aload_n d_Y_promises_8 rfl ?_
          refine tt_iload_n d_Y_promises_9 rfl ?_
          refine tt_callV (y_isField (d := d) h.e.1.1 h.e.1.2.1 ho.1.1.2.1 ho.1.1.2.2.2.1 ho.cp) cw_Y_isField rfl rfl (by decide) rfl (by omega) d_Y_promises_10 rfl rfl (Nat.le_of_ble_eq_true rfl) (Nat.le_of_ble_eq_true rfl) rfl rfl rfl (fun v σ2 q => ?_)
          obtain ⟨rfl, e9⟩ := q
          rw [e9, X_in_N hg (by omega)]
          clear e9
          refine tn_if_eq (t := 29) (by omega) d_Y_promises_13 (by decide) (fun c_13 => ?_) (fun c_13 => ?_)
          · exact absurd c_13 (by decide)
          · refine tt_iload d_Y_promises_16 rfl ?_
            refine tt_i2l d_Y_promises_18 ?_
            refine tt_lconst (v := 0) d_Y_promises_19 (by decide) ?_
            refine tt_ldc2_w d_Y_promises_20 rfl ?_
            refine tt_callS (y_in (d := d)) cw_Y_in rfl (by omega) d_Y_promises_23 rfl rfl (Nat.le_of_ble_eq_true rfl) (Nat.le_of_ble_eq_true rfl) rfl rfl rfl (fun v σ2 q => ?_)
            obtain ⟨rfl, e9⟩ := q
            rw [e9, show Yin (nI z).toInt64 0 9 = nI 1 from Yin_t (a := 0) (b := 9) rfl rfl (by omega) (by omega) (by decide)]
            clear e9
            refine tn_if_ne (t := 31) (by omega) d_Y_promises_26 (by decide) (fun c_26 => ?_) (fun c_26 => ?_)
            · refine tt_aload_n d_Y_promises_31 rfl ?_
              refine tt_getR d_Y_promises_32 rfl rfl (by decide) rfl rfl ?_
              refine tt_iload_n d_Y_promises_35 rfl ?_
              refine tn_iald d_Y_promises_36 rfl (by decide) (by omega) ((h.e.2.1 _ (by omega)).1) ?_
              refine tt_iconst (v := nI 2) d_Y_promises_37 (by decide) ?_
              refine tn_ic_ne (t := 44) (by omega) (by omega) d_Y_promises_38 (by decide) (fun c_38 => ?_) (fun c_38 => ?_)
              · rw [if_neg (by omega)]
                refine tt_aload_n d_Y_promises_44 rfl ?_
                refine tt_bipush (v := nI 9) d_Y_promises_45 (by decide) ?_
                refine tt_iload_n d_Y_promises_47 rfl ?_
                refine tn_iadd d_Y_promises_48 ?_
                refine tn_iald d_Y_promises_49 rfl (by decide) (by omega) ((h.1.2.1.2 _ (by omega)).2.1) ?_
                refine tn_if_ne (t := 56) (by omega) d_Y_promises_50 (by decide) (fun c_50 => ?_) (fun c_50 => ?_)
                · rw [if_neg (by omega)]
                  refine tt_aload_n d_Y_promises_56 rfl ?_
                  refine tt_bipush (v := nI 17) d_Y_promises_57 (by decide) ?_
                  refine tt_iload_n d_Y_promises_59 rfl ?_
                  refine tn_iadd d_Y_promises_60 ?_
                  refine tt_iload_n d_Y_promises_61 rfl ?_
                  refine tn_iast d_Y_promises_62 rfl (by decide) (by omega) ?_
                  refine tt_aload_n d_Y_promises_63 rfl ?_
                  refine tt_bipush (v := nI 25) d_Y_promises_64 (by decide) ?_
                  refine tt_iload_n d_Y_promises_66 rfl ?_
                  refine tn_iadd d_Y_promises_67 ?_
                  refine tt_iload d_Y_promises_68 rfl ?_
                  refine tn_iast d_Y_promises_70 rfl (by decide) (by omega) ?_
                  refine tt_aload_n d_Y_promises_71 rfl ?_
                  refine tt_aload_n d_Y_promises_72 rfl ?_
                  refine tt_callV (y_promN (d := d) isY_160 ho.1 hvn hw.1.1.1.2.2.1 (SY_34 hw.2.1 (by omega) hb8)) cw_Y_promised rfl rfl (by decide) rfl (by omega) d_Y_promises_73 rfl rfl (Nat.le_of_ble_eq_true rfl) (Nat.le_of_ble_eq_true rfl) rfl rfl rfl (fun v σ2 q => ?_)
                  obtain ⟨rfl, e9⟩ := q
                  rw [e9]
                  clear e9
                  refine tt_callS (x_bitN (d := d) hpl) cw_Integer_bitCount rfl (by omega) d_Y_promises_76 rfl rfl (Nat.le_of_ble_eq_true rfl) (Nat.le_of_ble_eq_true rfl) rfl rfl rfl (fun v σ2 q => ?_)
                  obtain ⟨rfl, e9⟩ := q
                  rw [e9]
                  clear e9
                  refine tt_iret rfl d_Y_promises_79 ?_
                  exact ⟨rfl, hw.now (Fq.tr (Fq.wI rfl) (Fq.wI rfl)) (SY_34 hw.2.1 (by omega) hb8)⟩
                · rw [if_pos (by omega)]
                  refine tt_bipush (v := (-4)) d_Y_promises_53 (by decide) ?_
                  refine tt_iret rfl d_Y_promises_55 ?_
                  have y := hw.same
                  exact ⟨rfl, y⟩
              · rw [if_pos (by omega)]
                refine tt_bipush (v := (-3)) d_Y_promises_41 (by decide) ?_
                refine tt_iret rfl d_Y_promises_43 ?_
                have y := hw.same
                exact ⟨rfl, y⟩
            · exact absurd c_26 (by decide)
      · have hqv : c_prom w (nI k) (nI g) n = (-1, wV w) := by unfold c_prom; rw [hq1, hq2, hq3]
        rw [hqv]
        refine tt_aload_n d_Y_promises_0 rfl ?_
        refine tt_iload_n d_Y_promises_1 rfl ?_
        refine tt_callV (y_isFish (d := d) h.e.1.2.2.1 ho.n8) cw_Y_isFish rfl rfl (by decide) rfl (by omega) d_Y_promises_2 rfl rfl (Nat.le_of_ble_eq_true rfl) (Nat.le_of_ble_eq_true rfl) rfl rfl rfl (fun v σ2 q => ?_)
        obtain ⟨rfl, e9⟩ := q
        rw [e9, X_in_N hk (by omega)]
        clear e9
        refine tn_if_eq (t := 29) (by omega) d_Y_promises_5 (by decide) (fun c_5 => ?_) (fun c_5 => ?_)
        · exact absurd c_5 (by decide)
        · refine tt_aload_n d_Y_promises_8 rfl ?_
          refine tt_iload_n d_Y_promises_9 rfl ?_
          refine tt_callV (y_isField (d := d) h.e.1.1 h.e.1.2.1 ho.1.1.2.1 ho.1.1.2.2.2.1 ho.cp) cw_Y_isField rfl rfl (by decide) rfl (by omega) d_Y_promises_10 rfl rfl (Nat.le_of_ble_eq_true rfl) (Nat.le_of_ble_eq_true rfl) rfl rfl rfl (fun v σ2 q => ?_)
          obtain ⟨rfl, e9⟩ := q
          rw [e9, X_in_N hg (by omega)]
          clear e9
          refine tn_if_eq (t := 29) (by omega) d_Y_promises_13 (by decide) (fun c_13 => ?_) (fun c_13 => ?_)
          · exact absurd c_13 (by decide)
          · refine tt_iload d_Y_promises_16 rfl ?_
            refine tt_i2l d_Y_promises_18 ?_
            refine tt_lconst (v := 0) d_Y_promises_19 (by decide) ?_
            refine tt_ldc2_w d_Y_promises_20 rfl ?_
            refine tt_callS (y_in (d := d)) cw_Y_in rfl (by omega) d_Y_promises_23 rfl rfl (Nat.le_of_ble_eq_true rfl) (Nat.le_of_ble_eq_true rfl) rfl rfl rfl (fun v σ2 q => ?_)
            obtain ⟨rfl, e9⟩ := q
            rw [e9, show Yin n.toInt64 0 9 = nI 0 from Yin_f (a := 0) (b := 9) rfl rfl (by decide) (by decide) hb3]
            clear e9
            refine tn_if_ne (t := 31) (by omega) d_Y_promises_26 (by decide) (fun c_26 => ?_) (fun c_26 => ?_)
            · exact absurd rfl c_26
            · refine tt_iconst (v := (-1)) d_Y_promises_29 (by decide) ?_
              refine tt_iret rfl d_Y_promises_30 ?_
              have y := hw.same
              exact ⟨rfl, y⟩
    · have hqv : c_prom w (nI k) f n = (-1, wV w) := by unfold c_prom; rw [hq1, hq2]
      rw [hqv]
      refine tt_aload_n d_Y_promises_0 rfl ?_
      refine tt_iload_n d_Y_promises_1 rfl ?_
      refine tt_callV (y_isFish (d := d) h.e.1.2.2.1 ho.n8) cw_Y_isFish rfl rfl (by decide) rfl (by omega) d_Y_promises_2 rfl rfl (Nat.le_of_ble_eq_true rfl) (Nat.le_of_ble_eq_true rfl) rfl rfl rfl (fun v σ2 q => ?_)
      obtain ⟨rfl, e9⟩ := q
      rw [e9, X_in_N hk (by omega)]
      clear e9
      refine tn_if_eq (t := 29) (by omega) d_Y_promises_5 (by decide) (fun c_5 => ?_) (fun c_5 => ?_)
      · exact absurd c_5 (by decide)
      · refine tt_aload_n d_Y_promises_8 rfl ?_
        refine tt_iload_n d_Y_promises_9 rfl ?_
        refine tt_callV (y_isField (d := d) h.e.1.1 h.e.1.2.1 ho.1.1.2.1 ho.1.1.2.2.2.1 ho.cp) cw_Y_isField rfl rfl (by decide) rfl (by omega) d_Y_promises_10 rfl rfl (Nat.le_of_ble_eq_true rfl) (Nat.le_of_ble_eq_true rfl) rfl rfl rfl (fun v σ2 q => ?_)
        obtain ⟨rfl, e9⟩ := q
        rw [e9, X_in_none hb2]
        clear e9
        refine tn_if_eq (t := 29) (by omega) d_Y_promises_13 (by decide) (fun c_13 => ?_) (fun c_13 => ?_)
        · refine tt_iconst (v := (-1)) d_Y_promises_29 (by decide) ?_
          refine tt_iret rfl d_Y_promises_30 ?_
          have y := hw.same
          exact ⟨rfl, y⟩
        · exact absurd rfl c_13
  · have hqv : c_prom w i f n = (-1, wV w) := by unfold c_prom; rw [hq1]
    rw [hqv]
    refine tt_aload_n d_Y_promises_0 rfl ?_
    refine tt_iload_n d_Y_promises_1 rfl ?_
    refine tt_callV (y_isFish (d := d) h.e.1.2.2.1 ho.n8) cw_Y_isFish rfl rfl (by decide) rfl (by omega) d_Y_promises_2 rfl rfl (Nat.le_of_ble_eq_true rfl) (Nat.le_of_ble_eq_true rfl) rfl rfl rfl (fun v σ2 q => ?_)
    obtain ⟨rfl, e9⟩ := q
    rw [e9, X_in_none hb1]
    clear e9
    refine tn_if_eq (t := 29) (by omega) d_Y_promises_5 (by decide) (fun c_5 => ?_) (fun c_5 => ?_)
    · refine tt_iconst (v := (-1)) d_Y_promises_29 (by decide) ?_
      refine tt_iret rfl d_Y_promises_30 ?_
      have y := hw.same
      exact ⟨rfl, y⟩
    · exact absurd rfl c_5

set_option maxHeartbeats 4000000 in
theorem xc_takesBack {l : xLa} {d : Nat} {σ : xs} {w : wv} (ho : okQ w) (hw : XW σ w) (hl : (wU w).length ≤ 15) {n : Int32} : TC l M_X_takesBack (d + 30) [.ref 0, .int n] σ (fun r τ => r = some (.int (a_act w (c_takes w n)).1) ∧ XW τ (a_act w (c_takes w n)).2 ∧ XF σ τ) := by
  show T l M_X_takesBack (d + 30) 0 _ [] σ _
  refine T_lv (lv2 := [_, _]) rfl ?_
  have h := XQ.rf hw.v
  have hd0 := hw.2.2.2.1
  have hb0 := ho.fb
  have hb8 := ho.n8
  refine tt_aload_n d_X_takesBack_0 rfl ?_
  refine tt_getR d_X_takesBack_1 rfl rfl (by decide) rfl rfl ?_
  refine tt_aload_n d_X_takesBack_4 rfl ?_
  refine tt_getR d_X_takesBack_5 rfl rfl (by decide) rfl rfl ?_
  refine tt_callV (x_before (d := d) hw) cw_State_copy rfl rfl (by decide) rfl (by omega) d_X_takesBack_8 rfl rfl (Nat.le_of_ble_eq_true rfl) (Nat.le_of_ble_eq_true rfl) rfl rfl rfl (fun v σ2 q => ?_)
  obtain ⟨rfl, k1, k2, k3⟩ := q
  refine tt_aload_n d_X_takesBack_11 rfl ?_
  refine tt_aload_n d_X_takesBack_12 rfl ?_
  refine tt_iload_n d_X_takesBack_13 rfl ?_
  refine tt_callV (x_drop (d := d) ho k1) cw_X_dropPromise rfl rfl (by decide) rfl (by omega) d_X_takesBack_14 rfl rfl (Nat.le_of_ble_eq_true rfl) (Nat.le_of_ble_eq_true rfl) rfl rfl rfl (fun v σ2 q => ?_)
  obtain ⟨rfl, k4, k5, k6⟩ := q
  refine tt_callV (x_noted (d := d) (w := stV w (c_takes w n).2) hl k4 (k6 _ k3)) cw_X_noted rfl rfl (by decide) rfl (by omega) d_X_takesBack_17 rfl rfl (Nat.le_of_ble_eq_true rfl) (Nat.le_of_ble_eq_true rfl) rfl rfl rfl (fun v σ2 q => ?_)
  obtain ⟨rfl, k7, k8⟩ := q
  refine tt_iret rfl d_X_takesBack_20 ?_
  exact ⟨rfl, k7, k2.tr (k5.tr k8)⟩

set_option maxHeartbeats 4000000 in
theorem yc_takesBack {l : xLa} {d c : Nat} {σ : xs} {w : wv} (ho : okQ w) (hw : YW σ c w) (hl : (wU w).length ≤ 15) {n : Int32} : TC l M_Y_takesBack (d + 150) [.ref 154, .int n] σ (fun r τ => r = some (.int (a_act w (c_takes w n)).1) ∧ YW τ c (a_act w (c_takes w n)).2 ∧ YF σ τ) := by
  show T l M_Y_takesBack (d + 150) 0 _ [] σ _
  refine T_lv (lv2 := [_, _]) rfl ?_
  have h := YQ.rf hw.v
  have hd0 := hw.2.2.2.1
  have hb0 := ho.fb
  have hb8 := ho.n8
  refine tt_aload_n d_Y_takesBack_0 rfl ?_
  refine tt_iconst (v := nI 0) d_Y_takesBack_1 (by decide) ?_
  refine tt_putI d_Y_takesBack_2 rfl rfl (by decide) rfl (xpok_int rfl) rfl ?_
  replace h := h.thr (x := nI 0)
  replace hd0 := hd0.thr (x := nI 0)
  refine tt_aload_n d_Y_takesBack_5 rfl ?_
  refine tt_callV (y_putsBy (d := d) hb8 hl (h.ww hd0)) cw_Y_putsBy rfl rfl (by decide) rfl (by omega) d_Y_takesBack_6 rfl rfl (Nat.le_of_ble_eq_true rfl) (Nat.le_of_ble_eq_true rfl) rfl rfl rfl (fun v σ2 q => ?_)
  obtain ⟨rfl, k1, k2, k3⟩ := q
  refine tt_aload_n d_Y_takesBack_9 rfl ?_
  refine tt_aload_n d_Y_takesBack_10 rfl ?_
  refine tt_iload_n d_Y_takesBack_11 rfl ?_
  refine tt_callV (y_takesOne (d := d) ho k1) cw_Y_takesOne rfl rfl (by decide) rfl (by omega) d_Y_takesBack_12 rfl rfl (Nat.le_of_ble_eq_true rfl) (Nat.le_of_ble_eq_true rfl) rfl rfl rfl (fun v σ2 q => ?_)
  obtain ⟨rfl, k4, k5, k6⟩ := q
  refine tt_callV (y_counted (d := d) (w := stV w (c_takes w n).2) hb8 hl k4 (by rw [k6]; exact k3)) cw_Y_counted rfl rfl (by decide) rfl (by omega) d_Y_takesBack_15 rfl rfl (Nat.le_of_ble_eq_true rfl) (Nat.le_of_ble_eq_true rfl) rfl rfl rfl (fun v σ2 q => ?_)
  obtain ⟨rfl, k7, k8⟩ := q
  refine tt_iret rfl d_Y_takesBack_18 ?_
  exact ⟨rfl, k7, h.2.tr (k2.tr (k5.tr k8))⟩

set_option maxHeartbeats 4000000 in
theorem xc_promise {l : xLa} {d : Nat} {σ : xs} {w : wv} (ho : okQ w) (hw : XW σ w) (hl : (wU w).length ≤ 15) {i f n : Int32} : TC l M_X_promise (d + 30) [.ref 0, .int i, .int f, .int n] σ (fun r τ => r = some (.int (a_act w (c_prom w i f n)).1) ∧ XW τ (a_act w (c_prom w i f n)).2 ∧ XF σ τ) := by
  show T l M_X_promise (d + 30) 0 _ [] σ _
  refine T_lv (lv2 := [_, _, _, _]) rfl ?_
  have h := XQ.rf hw.v
  have hd0 := hw.2.2.2.1
  have hb0 := ho.fb
  have hb8 := ho.n8
  refine tt_aload_n d_X_promise_0 rfl ?_
  refine tt_getR d_X_promise_1 rfl rfl (by decide) rfl rfl ?_
  refine tt_aload_n d_X_promise_4 rfl ?_
  refine tt_getR d_X_promise_5 rfl rfl (by decide) rfl rfl ?_
  refine tt_callV (x_before (d := d) hw) cw_State_copy rfl rfl (by decide) rfl (by omega) d_X_promise_8 rfl rfl (Nat.le_of_ble_eq_true rfl) (Nat.le_of_ble_eq_true rfl) rfl rfl rfl (fun v σ2 q => ?_)
  obtain ⟨rfl, k1, k2, k3⟩ := q
  refine tt_aload_n d_X_promise_11 rfl ?_
  refine tt_aload_n d_X_promise_12 rfl ?_
  refine tt_aload_n d_X_promise_13 rfl ?_
  refine tt_getR d_X_promise_14 rfl rfl (by decide) rfl rfl ?_
  refine tt_iload_n d_X_promise_17 rfl ?_
  refine tt_iload_n d_X_promise_18 rfl ?_
  refine tt_iload_n d_X_promise_19 rfl ?_
  refine tt_callV (x_makeP (d := d) ho k1) cw_X_makePromise rfl rfl (by decide) rfl (by omega) d_X_promise_20 rfl rfl (Nat.le_of_ble_eq_true rfl) (Nat.le_of_ble_eq_true rfl) rfl rfl rfl (fun v σ2 q => ?_)
  obtain ⟨rfl, k4, k5, k6⟩ := q
  refine tt_callV (x_noted (d := d) (w := stV w (c_prom w i f n).2) hl k4 (k6 _ k3)) cw_X_noted rfl rfl (by decide) rfl (by omega) d_X_promise_23 rfl rfl (Nat.le_of_ble_eq_true rfl) (Nat.le_of_ble_eq_true rfl) rfl rfl rfl (fun v σ2 q => ?_)
  obtain ⟨rfl, k7, k8⟩ := q
  refine tt_iret rfl d_X_promise_26 ?_
  exact ⟨rfl, k7, k2.tr (k5.tr k8)⟩

set_option maxHeartbeats 4000000 in
theorem yc_promise {l : xLa} {d c : Nat} {σ : xs} {w : wv} (ho : okQ w) (hw : YW σ c w) (hl : (wU w).length ≤ 15) {i f n : Int32} : TC l M_Y_promise (d + 150) [.ref 154, .int i, .int f, .int n] σ (fun r τ => r = some (.int (a_act w (c_prom w i f n)).1) ∧ YW τ c (a_act w (c_prom w i f n)).2 ∧ YF σ τ) := by
  show T l M_Y_promise (d + 150) 0 _ [] σ _
  refine T_lv (lv2 := [_, _, _, _]) rfl ?_
  have h := YQ.rf hw.v
  have hd0 := hw.2.2.2.1
  have hb0 := ho.fb
  have hb8 := ho.n8
  refine tt_aload_n d_Y_promise_0 rfl ?_
  refine tt_iconst (v := nI 0) d_Y_promise_1 (by decide) ?_
  refine tt_putI d_Y_promise_2 rfl rfl (by decide) rfl (xpok_int rfl) rfl ?_
  replace h := h.thr (x := nI 0)
  replace hd0 := hd0.thr (x := nI 0)
  refine tt_aload_n d_Y_promise_5 rfl ?_
  refine tt_callV (y_putsBy (d := d) hb8 hl (h.ww hd0)) cw_Y_putsBy rfl rfl (by decide) rfl (by omega) d_Y_promise_6 rfl rfl (Nat.le_of_ble_eq_true rfl) (Nat.le_of_ble_eq_true rfl) rfl rfl rfl (fun v σ2 q => ?_)
  obtain ⟨rfl, k1, k2, k3⟩ := q
  refine tt_aload_n d_Y_promise_9 rfl ?_
  refine tt_aload_n d_Y_promise_10 rfl ?_
  refine tt_aload_n d_Y_promise_11 rfl ?_
  refine tt_getR d_Y_promise_12 rfl rfl (by decide) rfl rfl ?_
  refine tt_iload_n d_Y_promise_15 rfl ?_
  refine tt_iload_n d_Y_promise_16 rfl ?_
  refine tt_iload_n d_Y_promise_17 rfl ?_
  refine tt_callV (y_promises (d := d) ho k1) cw_Y_promises rfl rfl (by decide) rfl (by omega) d_Y_promise_18 rfl rfl (Nat.le_of_ble_eq_true rfl) (Nat.le_of_ble_eq_true rfl) rfl rfl rfl (fun v σ2 q => ?_)
  obtain ⟨rfl, k4, k5, k6⟩ := q
  refine tt_callV (y_counted (d := d) (w := stV w (c_prom w i f n).2) hb8 hl k4 (by rw [k6]; exact k3)) cw_Y_counted rfl rfl (by decide) rfl (by omega) d_Y_promise_21 rfl rfl (Nat.le_of_ble_eq_true rfl) (Nat.le_of_ble_eq_true rfl) rfl rfl rfl (fun v σ2 q => ?_)
  obtain ⟨rfl, k7, k8⟩ := q
  refine tt_iret rfl d_Y_promise_24 ?_
  exact ⟨rfl, k7, h.2.tr (k2.tr (k5.tr k8))⟩

