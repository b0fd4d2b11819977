/-! Acts: hours. Printed by wip/whole. -/
def hvV (w : wv) (n : Nat) : sv := hrsV (wE w) (z5V (wV w)) n
def a_hours (w : wv) (n : Int32) : Int32 × wv := match rgN n 0 60 with
  | none => (-1, w)
  | some m => (nI (hvV w m 0 0), stD (stU (stV w (hvV w m)) (wV w)) (some [(nI (hvV w m 5 0)).toInt64, (nI (hvV w m 5 1)).toInt64, (nI (hvV w m 5 2)).toInt64]))
theorem x_pass20 {l : xLa} {d : Nat} {σ : xs} {w : wv} {n : Nat} (ho : okQ w) (hw : XW σ w) (hn : n ≤ 60) : TC l M_Trip_pass (d + 7) [.ref 19, .ref 20, .ref (sp σ), .int (nI n)] σ (fun r τ => r = none ∧ XW τ (stV w (hvV w n)) ∧ XF σ τ ∧ K25 σ τ ∧ TR τ (hvV w n)) := by
  have hh := ho.2.2
  refine T.mono (x_pass (d := d) (σ := σ) isS_20 hw.1.2.1 ho.1 ho.2.1 hw.2.1 hw.1.1 hw.1.2.2.2.2 (by omega) (by omega)) ?_
  rintro r υ ⟨rfl, h1, h2, h3, h4⟩
  have hR := hw.v.R
  have f1 : Fq (PP 20 (sp σ)) (fun c k => PP 20 (sp σ) c) (fun _ => False) σ υ := h4.fq (fun c hc => hc) (fun c k hc => hc)
  have z := hw.putV (f1.mono (fun c hc => by unfold PP PT PM Pu at hc; unfold vA XqA; omega) (fun c k hc => by unfold PP PT PM Pu at hc; unfold vF XqF XqA; omega) (fun _ q => q.elim)) h3 h1 (hw.2.2.2.1.fq f1 id (by unfold PP PT PM Pu; omega)) (hw.2.2.2.2.1.fq f1 (fun c a b => by unfold PP PT PM Pu; omega) (fun c k a b => by unfold PP PT PM Pu; omega))
  exact ⟨rfl, z.1, z.2, fun u hu => hu.fq f1 (fun k hk => by unfold PP PT PM Pu; omega) (fun k hk => by unfold PP PT PM Pu; omega), h2⟩
theorem nI_m1 {b : Nat} (h : b < 2 ^ 29) : ¬ nI b = -1 ∧ ¬ nI b < 0 := by
  have h1 := gI_c (g := b + 1) (by omega)
  have h2 := gI_lt (g := b + 1) (by omega)
  exact ⟨fun q => absurd (h1.1.mp q) (by omega), fun q => absurd (h2.mp q) (by omega)⟩
def rO1 (σ : xs) (a n : Nat) (v : sv) : Prop := rO (fun k => si σ 171 (a + k)) n v
theorem Gt.ro {σ τ : xs} {a n : Nat} {v : sv} (hf : Gt σ τ) (h : rO1 σ a n v) : rO1 τ a n v := by
  unfold rO1
  rw [hf.1 171 id]; exact h
theorem y_goesOn160 {l : xLa} {d c : Nat} {σ : xs} {w : wv} {n : Nat} (ho : okQ w) (hw : YW σ c w) (hn : n ≤ 60) : TC l M_Y_goesOn (d + 11) [.ref 154, .ref 160, .int (nI n)] σ (fun r τ => r = none ∧ YW τ c (stV w (hvV w n)) ∧ YF σ τ ∧ si τ 171 = si σ 171 ∧ TY τ (hvV w n)) := by
  have hh := ho.2.2
  refine T.mono (y_goesOn (d := d) (σ := σ) isY_160 ho.1 ho.2.1 hw.1.1 hw.1.2 (by omega) (by omega) hw.2.1) ?_
  rintro r υ ⟨rfl, h1, h2, h3⟩
  have z := hw.putV (h3.mono (fun c hc => by unfold HA at hc; unfold yA YqA; omega) (fun c k hc => by unfold HF at hc; unfold yF YqF; omega) (fun _ q => q.elim)) h1 (hw.2.2.2.1.fq h3 (fun q => q) (by unfold HF; omega)) (hw.2.2.2.2.1.fq h3 (by unfold HA; omega) (by unfold HF; omega))
  exact ⟨rfl, z.1, z.2, h3.1 171 (by unfold HA; omega), h2⟩
theorem push_19 {σ : xs} {k s j : Nat} (hk : k < 15) : sf (X_push σ 25 k s) 19 j = sf σ 19 j := (sf_copy σ (37 + 5 * k) 25 19 j).trans (if_neg (by omega))
set_option maxHeartbeats 4000000 in
theorem x_noted2 {l : xLa} {d : Nat} {σ : xs} {w : wv} {a : Int32} {u : sv} (hl : (wU w).length ≤ 15) (hw : XW σ w) (hb : ST σ 25 u) : TC l M_X_noted (d + 5) [.ref 0, .int a] σ (fun r τ => r = some (.int a) ∧ XW τ (if a < 0 then w else stU w u) ∧ XF σ τ ∧ ∀ j, sf τ 19 j = sf σ 19 j) := by
  show T l M_X_noted (d + 5) 0 _ [] σ _
  obtain ⟨k, hk, e1, e2, e3⟩ := hw.2.2.2.2.1
  refine tt_iload_n d_X_noted_0 rfl ?_
  refine tt_if_lt (t := 15) d_X_noted_1 (by decide) (fun c_1 => ?_) (fun c_1 => ?_)
  · rw [if_pos c_1]
    refine tt_iload_n d_X_noted_15 rfl ?_
    refine tt_iret rfl d_X_noted_16 ?_
    exact ⟨rfl, hw, XF.rf, fun _ => rfl⟩
  · rw [if_neg c_1]
    refine tt_aload_n d_X_noted_4 rfl ?_
    refine tt_getR d_X_noted_5 rfl rfl (by decide) rfl rfl ?_
    refine tt_aload_n d_X_noted_8 rfl ?_
    refine tt_getR d_X_noted_9 rfl rfl (by decide) rfl rfl ?_
    refine tt_callV (x_Past_push (d := d) isS_25 e1 hk e2 hl) cw_Past_push rfl rfl (by decide) rfl (by omega) d_X_noted_12 rfl rfl (Nat.le_of_ble_eq_true rfl) (Nat.le_of_ble_eq_true rfl) rfl rfl rfl (fun v σ2 q => ?_)
    obtain ⟨rfl, rfl⟩ := q
    have y := X_push_w hw hl hb hk e3
    refine tt_iload_n d_X_noted_15 rfl ?_
    refine tt_iret rfl d_X_noted_16 ?_
    exact ⟨rfl, y.1, y.2, fun j => push_19 hk⟩

set_option maxHeartbeats 4000000 in
theorem x_passHours {l : xLa} {d m : Nat} {σ : xs} {w : wv} (ho : okQ w) (hw : XW σ w) (hm : m ≤ 60) : TC l M_X_passHours (d + 20) [.ref 0, .int (nI m)] σ (fun r τ => r = some (.int (nI (hvV w m 0 0))) ∧ XW τ (stV w (hvV w m)) ∧ XF σ τ ∧ K25 σ τ ∧ TR τ (hvV w m)) := by
  show T l M_X_passHours (d + 20) 0 _ [] σ _
  have h := XQ.rf hw.v
  refine tt_iload_n d_X_passHours_0 rfl ?_
  refine tn_if_lt (t := 10) (by omega) d_X_passHours_1 (by decide) ?_
  refine tt_iload_n d_X_passHours_4 rfl ?_
  refine tt_bipush (v := nI 60) d_X_passHours_5 (by decide) ?_
  refine tn_ic_le (t := 12) (by omega) (by omega) d_X_passHours_7 (by decide) (fun c_7 => ?_) (fun c_7 => ?_)
  · refine tt_aload_n d_X_passHours_12 rfl ?_
    refine tt_getR d_X_passHours_13 rfl rfl (by decide) rfl rfl ?_
    refine tt_aload_n d_X_passHours_16 rfl ?_
    refine tt_getR d_X_passHours_17 rfl rfl (by decide) rfl rfl ?_
    refine tt_aload_n d_X_passHours_20 rfl ?_
    refine tt_getP d_X_passHours_21 rfl ?_
    refine tt_iload_n d_X_passHours_24 rfl ?_
    refine tt_callV (x_pass20 (d := d) ho hw hm) cw_Trip_pass rfl rfl (by decide) rfl (by omega) d_X_passHours_25 rfl rfl (Nat.le_of_ble_eq_true rfl) (Nat.le_of_ble_eq_true rfl) rfl rfl rfl (fun v σ2 q => ?_)
    obtain ⟨rfl, k1, k2, k3, k4⟩ := q
    refine tt_aload_n d_X_passHours_28 rfl ?_
    refine tt_getR d_X_passHours_29 rfl rfl (by decide) rfl rfl ?_
    refine tn_get d_X_passHours_32 rfl rfl (by decide) rfl (k1.2.1.1 0 (by decide)) ?_
    refine tt_iret rfl d_X_passHours_35 ?_
    exact ⟨rfl, k1, k2, k3, k4⟩
  · omega

set_option maxHeartbeats 4000000 in
theorem x_passHours0 {l : xLa} {d : Nat} {σ : xs} {n : Int32} (hb : n.toInt < (0 : Nat) ∨ ((60 : Nat) : Int) < n.toInt) : TE l M_X_passHours (d + 20) [.ref 0, .int n] σ (some (.int (-1))) σ := by
  show T l M_X_passHours (d + 20) 0 _ [] σ _
  refine tt_iload_n d_X_passHours_0 rfl ?_
  refine tt_if_lt (t := 10) d_X_passHours_1 (by decide) (fun c_1 => ?_) (fun c_1 => ?_)
  · refine tt_iconst (v := (-1)) d_X_passHours_10 (by decide) ?_
    refine tt_iret rfl d_X_passHours_11 ?_
    exact ⟨rfl, rfl⟩
  · refine tt_iload_n d_X_passHours_4 rfl ?_
    refine tt_bipush (v := nI 60) d_X_passHours_5 (by decide) ?_
    refine tt_ic_le (t := 12) d_X_passHours_7 (by decide) (fun c_7 => ?_) (fun c_7 => ?_)
    · exact (rg_f (a := 0) (b := 60) (by decide) (by decide) hb (by rw [nI_0]; exact c_1) c_7).elim
    · refine tt_iconst (v := (-1)) d_X_passHours_10 (by decide) ?_
      refine tt_iret rfl d_X_passHours_11 ?_
      exact ⟨rfl, rfl⟩

theorem ok_hv {w : wv} {m : Nat} (ho : okQ w) (hm : m ≤ 60) : okV (wE w) (hvV w m) := by
  have := ho.2.2
  exact (ok_hrs (v := z5V (wV w)) ho.1 (ok_5 (ok_5 (ok_5 (ok_5 (ok_5 ho.2.1))))) m (by show wV w 0 4 + m < 2 ^ 30; omega)).1
set_option maxHeartbeats 4000000 in
theorem xc_hours {l : xLa} {d : Nat} {σ : xs} {w : wv} (ho : okQ w) (hw : XW σ w) (hl : (wU w).length ≤ 15) {n : Int32} : TC l M_X_hours (d + 30) [.ref 0, .int n] σ (fun r τ => r = some (.int (a_hours w n).1) ∧ XW τ (a_hours w n).2 ∧ XF σ τ) := by
  show T l M_X_hours (d + 30) 0 _ [] σ _
  refine T_lv (lv2 := [_, _, _]) rfl ?_
  have h := XQ.rf hw.v
  have hd0 := hw.2.2.2.1
  have hb0 := ho.fb
  have hb8 := ho.n8
  rcases rgN_c n 0 60 with ⟨m, hm1, hm2, hm3, rfl, hq⟩ | ⟨hq, hb⟩
  · have hqv : a_hours w (nI m) = (nI (hvV w m 0 0), stD (stU (stV w (hvV w m)) (wV w)) (some [(nI (hvV w m 5 0)).toInt64, (nI (hvV w m 5 1)).toInt64, (nI (hvV w m 5 2)).toInt64])) := by unfold a_hours; rw [hq]
    rw [hqv]
    have hvb : okV (wE w) (hvV w m) := ok_hv ho hm2
    have hbn := nI_m1 (b := hvV w m 0 0) (by have := hvb.1; omega)
    refine tt_aload_n d_X_hours_0 rfl ?_
    refine tt_getR d_X_hours_1 rfl rfl (by decide) rfl rfl ?_
    refine tt_aload_n d_X_hours_4 rfl ?_
    refine tt_getR d_X_hours_5 rfl rfl (by decide) rfl rfl ?_
    refine tt_callV (x_before (d := d) hw) cw_State_copy rfl rfl (by decide) rfl (by omega) d_X_hours_8 rfl rfl (Nat.le_of_ble_eq_true rfl) (Nat.le_of_ble_eq_true rfl) rfl rfl rfl (fun v σ2 q => ?_)
    obtain ⟨rfl, k1, k2, k3⟩ := q
    refine tt_aload_n d_X_hours_11 rfl ?_
    refine tt_aload_n d_X_hours_12 rfl ?_
    refine tt_iload_n d_X_hours_13 rfl ?_
    refine tt_callV (x_passHours (d := d) ho k1 hm2) cw_X_passHours rfl rfl (by decide) rfl (by omega) d_X_hours_14 rfl rfl (Nat.le_of_ble_eq_true rfl) (Nat.le_of_ble_eq_true rfl) rfl rfl rfl (fun v σ2 q => ?_)
    obtain ⟨rfl, k4, k5, k6, hT⟩ := q
    refine tt_callV (x_noted2 (d := d) (w := stV w (hvV w m)) hl k4 (k6 _ k3)) cw_X_noted rfl rfl (by decide) rfl (by omega) d_X_hours_17 rfl rfl (Nat.le_of_ble_eq_true rfl) (Nat.le_of_ble_eq_true rfl) rfl rfl rfl (fun v σ2 q => ?_)
    obtain ⟨rfl, k7, k8, k9⟩ := q
    rw [if_neg hbn.2] at k7
    replace hT : TR _ (hvV w m) := fun k hk => (k9 _).trans (hT k hk)
    have h := XQ.rf k7.v
    refine tt_istore_n (lv2 := [_, _, _]) d_X_hours_20 (by decide) rfl ?_
    refine tt_iload_n d_X_hours_21 rfl ?_
    refine tt_iconst (v := (-1)) d_X_hours_22 (by decide) ?_
    refine tt_ic_eq (t := 78) d_X_hours_23 (by decide) (fun c_23 => ?_) (fun c_23 => ?_)
    · exact absurd c_23 hbn.1
    · refine tt_aload_n d_X_hours_26 rfl ?_
      refine tt_getR d_X_hours_27 rfl rfl (by decide) rfl rfl ?_
      refine tt_callV (xq_start (d := d) h) cw_Told_start rfl rfl (by decide) rfl (by omega) d_X_hours_30 rfl rfl (Nat.le_of_ble_eq_true rfl) (Nat.le_of_ble_eq_true rfl) rfl rfl rfl (fun v σ2 q => ?_)
      obtain ⟨rfl, h, hd, hf⟩ := q
      replace hT := hf.tr hT
      refine tt_aload_n d_X_hours_33 rfl ?_
      refine tt_getR d_X_hours_34 rfl rfl (by decide) rfl rfl ?_
      refine tt_aload_n d_X_hours_37 rfl ?_
      refine tt_getR d_X_hours_38 rfl rfl (by decide) rfl rfl ?_
      refine tn_get d_X_hours_41 rfl rfl (by decide) rfl (hT 0 (by decide)) ?_
      refine tt_i2l d_X_hours_44 ?_
      refine tt_callV (xq_add (d := d) h hd (Nat.le_of_ble_eq_true rfl)) cw_Told_add rfl rfl (by decide) rfl (by omega) d_X_hours_45 rfl rfl (Nat.le_of_ble_eq_true rfl) (Nat.le_of_ble_eq_true rfl) rfl rfl rfl (fun v σ2 q => ?_)
      obtain ⟨rfl, h, hd, hf⟩ := q
      replace hT := hf.tr hT
      refine tt_aload_n d_X_hours_48 rfl ?_
      refine tt_getR d_X_hours_49 rfl rfl (by decide) rfl rfl ?_
      refine tt_aload_n d_X_hours_52 rfl ?_
      refine tt_getR d_X_hours_53 rfl rfl (by decide) rfl rfl ?_
      refine tn_get d_X_hours_56 rfl rfl (by decide) rfl (hT 1 (by decide)) ?_
      refine tt_i2l d_X_hours_59 ?_
      refine tt_callV (xq_add (d := d) h hd (Nat.le_of_ble_eq_true rfl)) cw_Told_add rfl rfl (by decide) rfl (by omega) d_X_hours_60 rfl rfl (Nat.le_of_ble_eq_true rfl) (Nat.le_of_ble_eq_true rfl) rfl rfl rfl (fun v σ2 q => ?_)
      obtain ⟨rfl, h, hd, hf⟩ := q
      replace hT := hf.tr hT
      refine tt_aload_n d_X_hours_63 rfl ?_
      refine tt_getR d_X_hours_64 rfl rfl (by decide) rfl rfl ?_
      refine tt_aload_n d_X_hours_67 rfl ?_
      refine tt_getR d_X_hours_68 rfl rfl (by decide) rfl rfl ?_
      refine tn_get d_X_hours_71 rfl rfl (by decide) rfl (hT 2 (by decide)) ?_
      refine tt_i2l d_X_hours_74 ?_
      refine tt_callV (xq_add (d := d) h hd (Nat.le_of_ble_eq_true rfl)) cw_Told_add rfl rfl (by decide) rfl (by omega) d_X_hours_75 rfl rfl (Nat.le_of_ble_eq_true rfl) (Nat.le_of_ble_eq_true rfl) rfl rfl rfl (fun v σ2 q => ?_)
      obtain ⟨rfl, h, hd, hf⟩ := q
      replace hT := hf.tr hT
      refine tt_iload_n d_X_hours_78 rfl ?_
      refine tt_iret rfl d_X_hours_79 ?_
      exact ⟨rfl, h.done hd, k2.tr (k5.tr (k8.tr h.2.1))⟩
  · have hqv : a_hours w n = (-1, w) := by unfold a_hours; rw [hq]
    rw [hqv]
    refine tt_aload_n d_X_hours_0 rfl ?_
    refine tt_getR d_X_hours_1 rfl rfl (by decide) rfl rfl ?_
    refine tt_aload_n d_X_hours_4 rfl ?_
    refine tt_getR d_X_hours_5 rfl rfl (by decide) rfl rfl ?_
    refine tt_callV (x_before (d := d) hw) cw_State_copy rfl rfl (by decide) rfl (by omega) d_X_hours_8 rfl rfl (Nat.le_of_ble_eq_true rfl) (Nat.le_of_ble_eq_true rfl) rfl rfl rfl (fun v σ2 q => ?_)
    obtain ⟨rfl, k1, k2, k3⟩ := q
    refine tt_aload_n d_X_hours_11 rfl ?_
    refine tt_aload_n d_X_hours_12 rfl ?_
    refine tt_iload_n d_X_hours_13 rfl ?_
    refine tt_callV (x_passHours0 (d := d) hb) cw_X_passHours rfl rfl (by decide) rfl (by omega) d_X_hours_14 rfl rfl (Nat.le_of_ble_eq_true rfl) (Nat.le_of_ble_eq_true rfl) rfl rfl rfl (fun v σ2 q => ?_)
    obtain ⟨rfl, rfl⟩ := q
    refine tt_callV (x_noted2 (d := d) (w := w) hl k1 k3) cw_X_noted rfl rfl (by decide) rfl (by omega) d_X_hours_17 rfl rfl (Nat.le_of_ble_eq_true rfl) (Nat.le_of_ble_eq_true rfl) rfl rfl rfl (fun v σ2 q => ?_)
    obtain ⟨rfl, k7, k8, k9⟩ := q
    rw [if_pos (by decide)] at k7
    refine tt_istore_n (lv2 := [_, _, _]) d_X_hours_20 (by decide) rfl ?_
    refine tt_iload_n d_X_hours_21 rfl ?_
    refine tt_iconst (v := (-1)) d_X_hours_22 (by decide) ?_
    refine tt_ic_eq (t := 78) d_X_hours_23 (by decide) (fun c_23 => ?_) (fun c_23 => ?_)
    · refine tt_iload_n d_X_hours_78 rfl ?_
      refine tt_iret rfl d_X_hours_79 ?_
      exact ⟨rfl, k7, k2.tr k8⟩
    · exact absurd rfl c_23

set_option maxHeartbeats 4000000 in
theorem yc_hours {l : xLa} {d c : Nat} {σ : xs} {w : wv} (ho : okQ w) (hw : YW σ c w) (hl : (wU w).length ≤ 15) {n : Int32} : TC l M_Y_hours (d + 150) [.ref 154, .int n] σ (fun r τ => r = some (.int (a_hours w n).1) ∧ YW τ c (a_hours w n).2 ∧ YF σ τ) := by
  show T l M_Y_hours (d + 150) 0 _ [] σ _
  refine T_lv (lv2 := [_, _]) rfl ?_
  have h := YQ.rf hw.v
  have hd0 := hw.2.2.2.1
  have hb0 := ho.fb
  have hb8 := ho.n8
  rcases rgN_c n 0 60 with ⟨m, hm1, hm2, hm3, rfl, hq⟩ | ⟨hq, hb⟩
  · have hqv : a_hours w (nI m) = (nI (hvV w m 0 0), stD (stU (stV w (hvV w m)) (wV w)) (some [(nI (hvV w m 5 0)).toInt64, (nI (hvV w m 5 1)).toInt64, (nI (hvV w m 5 2)).toInt64])) := by unfold a_hours; rw [hq]
    rw [hqv]
    have hvb : okV (wE w) (hvV w m) := ok_hv ho hm2
    have hbn := nI_m1 (b := hvV w m 0 0) (by have := hvb.1; omega)
    refine tt_aload_n d_Y_hours_0 rfl ?_
    refine tt_iconst (v := nI 0) d_Y_hours_1 (by decide) ?_
    refine tt_putI d_Y_hours_2 rfl rfl (by decide) rfl (xpok_int rfl) rfl ?_
    replace h := h.thr (x := nI 0)
    replace hd0 := hd0.thr (x := nI 0)
    refine tt_iload_n d_Y_hours_5 rfl ?_
    refine tt_i2l d_Y_hours_6 ?_
    refine tt_lconst (v := 0) d_Y_hours_7 (by decide) ?_
    refine tt_ldc2_w d_Y_hours_8 rfl ?_
    refine tt_callS (y_in (d := d)) cw_Y_in rfl (by omega) d_Y_hours_11 rfl rfl (Nat.le_of_ble_eq_true rfl) (Nat.le_of_ble_eq_true rfl) rfl rfl rfl (fun v σ2 q => ?_)
    obtain ⟨rfl, e9⟩ := q
    rw [e9, show Yin (nI m).toInt64 0 60 = nI 1 from Yin_t (a := 0) (b := 60) rfl rfl (by omega) (by omega) (by decide)]
    clear e9
    refine tn_if_ne (t := 19) (by omega) d_Y_hours_14 (by decide) (fun c_14 => ?_) (fun c_14 => ?_)
    · refine tt_aload_n d_Y_hours_19 rfl ?_
      refine tt_callV (y_putsBy (d := d) hb8 hl (h.ww hd0)) cw_Y_putsBy rfl rfl (by decide) rfl (by omega) d_Y_hours_20 rfl rfl (Nat.le_of_ble_eq_true rfl) (Nat.le_of_ble_eq_true rfl) rfl rfl rfl (fun v σ2 q => ?_)
      obtain ⟨rfl, k1, k2, k3⟩ := q
      refine tt_aload_n d_Y_hours_23 rfl ?_
      refine tt_aload_n d_Y_hours_24 rfl ?_
      refine tt_getR d_Y_hours_25 rfl rfl (by decide) rfl rfl ?_
      refine tt_iload_n d_Y_hours_28 rfl ?_
      refine tt_callV (y_goesOn160 (d := d) ho k1 hm2) cw_Y_goesOn rfl rfl (by decide) rfl (by omega) d_Y_hours_29 rfl rfl (Nat.le_of_ble_eq_true rfl) (Nat.le_of_ble_eq_true rfl) rfl rfl rfl (fun v σ2 q => ?_)
      obtain ⟨rfl, k4, k5, k6, hT⟩ := q
      have kk := h.2.tr (k2.tr k5)
      replace h := YQ.rf k4.v
      have hP : rO1 σ2 (38 * (wU w).length) (eN (wE w)) (wV w) := by unfold rO1; rw [k6]; exact k3
      refine tt_aload_n d_Y_hours_32 rfl ?_
      refine tt_iconst (v := nI 0) d_Y_hours_33 (by decide) ?_
      refine tt_putI d_Y_hours_34 rfl rfl (by decide) rfl (xpok_int rfl) rfl ?_
      replace h := h.td0
      have hd := YD_0t h
      replace hT := TY_0t h hT
      refine tt_aload_n d_Y_hours_37 rfl ?_
      refine tt_aload_n d_Y_hours_38 rfl ?_
      refine tn_get d_Y_hours_39 rfl rfl (by decide) rfl hT.1 ?_
      refine tt_i2l d_Y_hours_42 ?_
      refine tt_callV (yq_add (d := d) h hd (Nat.le_of_ble_eq_true rfl)) cw_Y_enters rfl rfl (by decide) rfl (by omega) d_Y_hours_43 rfl rfl (Nat.le_of_ble_eq_true rfl) (Nat.le_of_ble_eq_true rfl) rfl rfl rfl (fun v σ2 q => ?_)
      obtain ⟨rfl, h, hd, hf⟩ := q
      replace hT := hf.ty hT
      replace hP := hf.ro hP
      refine tt_aload_n d_Y_hours_46 rfl ?_
      refine tt_aload_n d_Y_hours_47 rfl ?_
      refine tn_get d_Y_hours_48 rfl rfl (by decide) rfl hT.2.1 ?_
      refine tt_i2l d_Y_hours_51 ?_
      refine tt_callV (yq_add (d := d) h hd (Nat.le_of_ble_eq_true rfl)) cw_Y_enters rfl rfl (by decide) rfl (by omega) d_Y_hours_52 rfl rfl (Nat.le_of_ble_eq_true rfl) (Nat.le_of_ble_eq_true rfl) rfl rfl rfl (fun v σ2 q => ?_)
      obtain ⟨rfl, h, hd, hf⟩ := q
      replace hT := hf.ty hT
      replace hP := hf.ro hP
      refine tt_aload_n d_Y_hours_55 rfl ?_
      refine tt_aload_n d_Y_hours_56 rfl ?_
      refine tn_get d_Y_hours_57 rfl rfl (by decide) rfl hT.2.2 ?_
      refine tt_i2l d_Y_hours_60 ?_
      refine tt_callV (yq_add (d := d) h hd (Nat.le_of_ble_eq_true rfl)) cw_Y_enters rfl rfl (by decide) rfl (by omega) d_Y_hours_61 rfl rfl (Nat.le_of_ble_eq_true rfl) (Nat.le_of_ble_eq_true rfl) rfl rfl rfl (fun v σ2 q => ?_)
      obtain ⟨rfl, h, hd, hf⟩ := q
      replace hT := hf.ty hT
      replace hP := hf.ro hP
      refine tt_aload_n d_Y_hours_64 rfl ?_
      refine tt_aload_n d_Y_hours_65 rfl ?_
      refine tt_getR d_Y_hours_66 rfl rfl (by decide) rfl rfl ?_
      refine tt_iconst (v := nI 0) d_Y_hours_69 (by decide) ?_
      refine tn_iald d_Y_hours_70 rfl (by decide) (by omega) (h.1.2.1.1.1) ?_
      refine tt_callV (y_adds (d := d) (w := stD (stV w (hvV w m)) (some _)) hb8 hl (h.done hd) hP) cw_Y_adds rfl rfl (by decide) rfl (by omega) d_Y_hours_71 rfl rfl (Nat.le_of_ble_eq_true rfl) (Nat.le_of_ble_eq_true rfl) rfl rfl rfl (fun v σ2 q => ?_)
      obtain ⟨rfl, k7, k8⟩ := q
      refine tt_iret rfl d_Y_hours_74 ?_
      exact ⟨rfl, k7, kk.tr (h.2.tr k8)⟩
    · exact absurd c_14 (by decide)
  · have hqv : a_hours w n = (-1, w) := by unfold a_hours; rw [hq]
    rw [hqv]
    refine tt_aload_n d_Y_hours_0 rfl ?_
    refine tt_iconst (v := nI 0) d_Y_hours_1 (by decide) ?_
    refine tt_putI d_Y_hours_2 rfl rfl (by decide) rfl (xpok_int rfl) rfl ?_
    replace h := h.thr (x := nI 0)
    replace hd0 := hd0.thr (x := nI 0)
    refine tt_iload_n d_Y_hours_5 rfl ?_
    refine tt_i2l d_Y_hours_6 ?_
    refine tt_lconst (v := 0) d_Y_hours_7 (by decide) ?_
    refine tt_ldc2_w d_Y_hours_8 rfl ?_
    refine tt_callS (y_in (d := d)) cw_Y_in rfl (by omega) d_Y_hours_11 rfl rfl (Nat.le_of_ble_eq_true rfl) (Nat.le_of_ble_eq_true rfl) rfl rfl rfl (fun v σ2 q => ?_)
    obtain ⟨rfl, e9⟩ := q
    rw [e9, show Yin n.toInt64 0 60 = nI 0 from Yin_f (a := 0) (b := 60) rfl rfl (by decide) (by decide) hb]
    clear e9
    refine tn_if_ne (t := 19) (by omega) d_Y_hours_14 (by decide) (fun c_14 => ?_) (fun c_14 => ?_)
    · exact absurd rfl c_14
    · refine tt_iconst (v := (-1)) d_Y_hours_17 (by decide) ?_
      refine tt_iret rfl d_Y_hours_18 ?_
      exact ⟨rfl, h.ww hd0, h.2⟩

