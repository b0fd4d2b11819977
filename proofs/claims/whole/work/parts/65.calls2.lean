/-! Questions, one by one: sticks, track, comes. Printed by wip/whole. -/
def pStk (w : wv) (h : Nat) : Bool := decide (goV (wE w) (hrsV (wE w) (wV w) h) (nI 255) = 0)
def aStk (w : wv) : Option Nat → Int32 × Option (List Int64)
  | none => (-2, none)
  | some h => (nI h, some [(nI ((hrsV (wE w) (wV w) h) 0 0)).toInt64])
def q_sticks (w : wv) : Int32 × Option (List Int64) := aStk w (fstN (pStk w) 100 0)
theorem pStk_t {w : wv} {h : Nat} : pStk w h = true ↔ goV (wE w) (hrsV (wE w) (wV w) h) (nI 255) = 0 := decide_eq_true_iff
theorem stk_b {e : xe} {u : sv} (h : goV e u (nI 255) = 0) : (hrV e u) 0 0 = u 0 0 := by rw [hr_00, if_pos h]
set_option maxHeartbeats 4000000 in
theorem x_sticks_l {l : xLa} {d : Nat} {σ : xs} {w : wv} (ho : okQ w) : ∀ (m : Nat) (i : Nat) (τ : xs), 100 - i = m → i ≤ 100 → XQ w σ τ → XD τ (wD w) → ST τ 30 (hrsV (wE w) (wV w) i) → T l M_X_sticks (d + 30) 13 [some (.ref 0), some (.int (nI i))] [] τ (fun r τ => r = some (.int (aStk w (fstN (pStk w) (100 - i) i)).1) ∧ XW τ (stD w (aStk w (fstN (pStk w) (100 - i) i)).2) ∧ XF σ τ) := by
  have hb0 := ho.fb
  have hb8 := ho.n8
  intro m
  induction m using Nat.strongRecOn with
  | ind m ih =>
    intro i τ hm hi h hd0 hS
    have hok := ok_h ho (n := i) (by omega)
    refine tt_iload_n d_X_sticks_13 rfl ?_
    refine tt_bipush (v := nI 99) d_X_sticks_14 (by decide) ?_
    refine tn_ic_gt (t := 75) (by omega) (by omega) d_X_sticks_16 (by decide) (fun c_16 => ?_) (fun c_16 => ?_)
    · obtain rfl : i = 100 := by omega
      rw [fst_end (Nat.le_refl _)]
      refine tt_bipush (v := (-2)) d_X_sticks_75 (by decide) ?_
      refine tt_iret rfl d_X_sticks_77 ?_
      exact ⟨rfl, h.none hd0, h.2.1⟩
    · refine tt_aload_n d_X_sticks_19 rfl ?_
      refine tt_getR d_X_sticks_20 rfl rfl (by decide) rfl rfl ?_
      refine tt_aload_n d_X_sticks_23 rfl ?_
      refine tt_getR d_X_sticks_24 rfl rfl (by decide) rfl rfl ?_
      refine tt_aload_n d_X_sticks_27 rfl ?_
      refine tt_getP d_X_sticks_28 rfl ?_
      refine tt_iconst (v := nI 1) d_X_sticks_31 (by decide) ?_
      refine tt_callV (xq_hrs (d := d) (n := 1) h ho hok.1 hS (by omega)) cw_Trip_pass rfl rfl (by decide) rfl (by omega) d_X_sticks_32 rfl rfl (Nat.le_of_ble_eq_true rfl) (Nat.le_of_ble_eq_true rfl) rfl rfl rfl (fun v σ2 q => ?_)
      obtain ⟨rfl, h, hS, hT, hu⟩ := q
      replace hd0 := hd0.tn hu
      have hs := stk1 (wE w) (hrsV (wE w) (wV w) i)
      refine tt_aload_n d_X_sticks_35 rfl ?_
      refine tt_getR d_X_sticks_36 rfl rfl (by decide) rfl rfl ?_
      refine tn_get d_X_sticks_39 rfl rfl (by decide) rfl (hT 2 (by decide)) ?_
      have hs1 := stk_le (wE w) (hrsV (wE w) (wV w) i) 1
      refine tn_if_le (t := 69) (by omega) d_X_sticks_42 (by decide) (fun c_42 => ?_) (fun c_42 => ?_)
      · rw [fst_miss (by omega) (fun q => by rw [if_pos (pStk_t.mp q)] at hs; omega)]
        refine tt_iinc (lv2 := [_, _]) d_X_sticks_69 rfl (nI_inc _ 1) (by decide) rfl ?_
        refine tt_goto (t := 13) d_X_sticks_72 (by decide) ?_
        exact ih (100 - (i + 1)) (by omega) (i + 1) _ rfl (by omega) h hd0 hS
      · have hg : goV (wE w) (hrsV (wE w) (wV w) i) (nI 255) = 0 := Decidable.byContradiction (fun q => by rw [if_neg q] at hs; omega)
        rw [fst_hit (by omega) (pStk_t.mpr hg)]
        refine tt_aload_n d_X_sticks_45 rfl ?_
        refine tt_getR d_X_sticks_46 rfl rfl (by decide) rfl rfl ?_
        refine tt_callV (xq_start (d := d) h) cw_Told_start rfl rfl (by decide) rfl (by omega) d_X_sticks_49 rfl rfl (Nat.le_of_ble_eq_true rfl) (Nat.le_of_ble_eq_true rfl) rfl rfl rfl (fun v σ2 q => ?_)
        obtain ⟨rfl, h, hd, hf⟩ := q
        replace hS := hf.st hS (by decide)
        refine tt_aload_n d_X_sticks_52 rfl ?_
        refine tt_getR d_X_sticks_53 rfl rfl (by decide) rfl rfl ?_
        refine tt_aload_n d_X_sticks_56 rfl ?_
        refine tt_getR d_X_sticks_57 rfl rfl (by decide) rfl rfl ?_
        refine tn_get d_X_sticks_60 rfl rfl (by decide) rfl (hS.1 0 (by decide)) ?_
        refine tt_i2l d_X_sticks_63 ?_
        refine tt_callV (xq_add (d := d) h hd (Nat.le_of_ble_eq_true rfl)) cw_Told_add rfl rfl (by decide) rfl (by omega) d_X_sticks_64 rfl rfl (Nat.le_of_ble_eq_true rfl) (Nat.le_of_ble_eq_true rfl) rfl rfl rfl (fun v σ2 q => ?_)
        obtain ⟨rfl, h, hd, hf⟩ := q
        replace hS := hf.st hS (by decide)
        refine tt_iload_n d_X_sticks_67 rfl ?_
        refine tt_iret rfl d_X_sticks_68 ?_
        have e : (hrsV (wE w) (hrsV (wE w) (wV w) i) 1) 0 0 = (hrsV (wE w) (wV w) i) 0 0 := stk_b hg
        rw [e] at hd
        exact ⟨rfl, h.done hd, h.2.1⟩

set_option maxHeartbeats 4000000 in
theorem xc_sticks {l : xLa} {d : Nat} {σ : xs} {w : wv} (ho : okQ w) (hw : XW σ w)  : TC l M_X_sticks (d + 30) [.ref 0] σ (fun r τ => r = some (.int ((q_sticks w).1)) ∧ XW τ (stD w ((q_sticks w).2)) ∧ XF σ τ) := by
  show T l M_X_sticks (d + 30) 0 _ [] σ _
  refine T_lv (lv2 := [_, _]) rfl ?_
  have h := XQ.rf hw.v
  have hd0 := hw.2.2.2.1
  have hb0 := ho.fb
  have hb8 := ho.n8
  refine tt_aload_n d_X_sticks_0 rfl ?_
  refine tt_getR d_X_sticks_1 rfl rfl (by decide) rfl rfl ?_
  refine tt_aload_n d_X_sticks_4 rfl ?_
  refine tt_getR d_X_sticks_5 rfl rfl (by decide) rfl rfl ?_
  refine tt_callV (xq_copy (d := d) h) cw_State_copy rfl rfl (by decide) rfl (by omega) d_X_sticks_8 rfl rfl (Nat.le_of_ble_eq_true rfl) (Nat.le_of_ble_eq_true rfl) rfl rfl rfl (fun v σ2 q => ?_)
  obtain ⟨rfl, h, hS, hu⟩ := q
  replace hd0 := hd0.tn hu
  refine tt_iconst (v := nI 0) d_X_sticks_11 (by decide) ?_
  refine tt_istore_n (lv2 := [_, _]) d_X_sticks_12 (by decide) rfl ?_
  exact x_sticks_l ho 100 0 _ rfl (by omega) h hd0 hS

set_option maxHeartbeats 4000000 in
theorem y_sticks_l {l : xLa} {d : Nat} {σ : xs} {c : Nat} {w : wv} (ho : okQ w) : ∀ (m : Nat) (i : Nat) (τ : xs), 100 - i = m → i ≤ 100 → YQ c w σ τ → YD τ (wD w) → SY τ 161 (eN (wE w)) (hrsV (wE w) (wV w) i) → T l M_Y_sticks (d + 150) 11 [some (.ref 154), some (.int (nI i))] [] τ (fun r τ => r = some (.int (aStk w (fstN (pStk w) (100 - i) i)).1) ∧ YW τ c (stD w (aStk w (fstN (pStk w) (100 - i) i)).2) ∧ YF σ τ) := by
  have hb0 := ho.fb
  have hb8 := ho.n8
  intro m
  induction m using Nat.strongRecOn with
  | ind m ih =>
    intro i τ hm hi h hd0 hS
    have hok := ok_h ho (n := i) (by omega)
    have hg4 := g4_c (goV_lt (e := wE w) (v := hrsV (wE w) (wV w) i) (z := nI 255))
    refine tt_iload_n d_Y_sticks_11 rfl ?_
    refine tt_bipush (v := nI 99) d_Y_sticks_12 (by decide) ?_
    refine tn_ic_gt (t := 61) (by omega) (by omega) d_Y_sticks_14 (by decide) (fun c_14 => ?_) (fun c_14 => ?_)
    · obtain rfl : i = 100 := by omega
      rw [fst_end (Nat.le_refl _)]
      refine tt_bipush (v := (-2)) d_Y_sticks_61 (by decide) ?_
      refine tt_iret rfl d_Y_sticks_63 ?_
      exact ⟨rfl, h.none hd0, h.2⟩
    · refine tt_aload_n d_Y_sticks_17 rfl ?_
      refine tt_aload_n d_Y_sticks_18 rfl ?_
      refine tt_getR d_Y_sticks_19 rfl rfl (by decide) rfl rfl ?_
      refine tt_callV (yq_goT (d := d) h ho hok.1 hS) cw_Y_goes rfl rfl (by decide) rfl (by omega) d_Y_sticks_22 rfl rfl (Nat.le_of_ble_eq_true rfl) (Nat.le_of_ble_eq_true rfl) rfl rfl rfl (fun v σ2 q => ?_)
      obtain ⟨rfl, h, hS, hu⟩ := q
      replace hd0 := hd0.un hu
      refine tt_iconst (v := nI 4) d_Y_sticks_25 (by decide) ?_
      refine tn_ic_ne (t := 47) (by omega) (by omega) d_Y_sticks_26 (by decide) (fun c_26 => ?_) (fun c_26 => ?_)
      · rw [fst_miss (by omega) (fun q => by have := pStk_t.mp q; omega)]
        refine tt_aload_n d_Y_sticks_47 rfl ?_
        refine tt_aload_n d_Y_sticks_48 rfl ?_
        refine tt_getR d_Y_sticks_49 rfl rfl (by decide) rfl rfl ?_
        refine tt_callV (yq_hr0 (d := d) h ho hok.1 hS (by omega)) cw_Y_hourGoes rfl rfl (by decide) rfl (by omega) d_Y_sticks_52 rfl rfl (Nat.le_of_ble_eq_true rfl) (Nat.le_of_ble_eq_true rfl) rfl rfl rfl (fun v σ2 q => ?_)
        obtain ⟨rfl, h, hS, hu⟩ := q
        replace hd0 := hd0.un hu
        refine tt_iinc (lv2 := [_, _]) d_Y_sticks_55 rfl (nI_inc _ 1) (by decide) rfl ?_
        refine tt_goto (t := 11) d_Y_sticks_58 (by decide) ?_
        exact ih (100 - (i + 1)) (by omega) (i + 1) _ rfl (by omega) h hd0 hS
      · have hg : goV (wE w) (hrsV (wE w) (wV w) i) (nI 255) = 0 := by omega
        rw [fst_hit (by omega) (pStk_t.mpr hg)]
        refine tt_aload_n d_Y_sticks_29 rfl ?_
        refine tt_iconst (v := nI 0) d_Y_sticks_30 (by decide) ?_
        refine tt_putI d_Y_sticks_31 rfl rfl (by decide) rfl (xpok_int rfl) rfl ?_
        replace h := h.td0
        have hd := YD_0t h
        replace hS := SY_0t h hS
        refine tt_aload_n d_Y_sticks_34 rfl ?_
        refine tt_aload_n d_Y_sticks_35 rfl ?_
        refine tt_getR d_Y_sticks_36 rfl rfl (by decide) rfl rfl ?_
        refine tt_iconst (v := nI 0) d_Y_sticks_39 (by decide) ?_
        refine tn_iald d_Y_sticks_40 rfl (by decide) (by omega) (hS.1.1) ?_
        refine tt_i2l d_Y_sticks_41 ?_
        refine tt_callV (yq_add (d := d) h hd (Nat.le_of_ble_eq_true rfl)) cw_Y_enters rfl rfl (by decide) rfl (by omega) d_Y_sticks_42 rfl rfl (Nat.le_of_ble_eq_true rfl) (Nat.le_of_ble_eq_true rfl) rfl rfl rfl (fun v σ2 q => ?_)
        obtain ⟨rfl, h, hd, hf⟩ := q
        replace hS := hf.sy hS
        refine tt_iload_n d_Y_sticks_45 rfl ?_
        refine tt_iret rfl d_Y_sticks_46 ?_
        exact ⟨rfl, h.done hd, h.2⟩

set_option maxHeartbeats 4000000 in
theorem yc_sticks {l : xLa} {d c : Nat} {σ : xs} {w : wv} (ho : okQ w) (hw : YW σ c w)  : TC l M_Y_sticks (d + 150) [.ref 154] σ (fun r τ => r = some (.int ((q_sticks w).1)) ∧ YW τ c (stD w ((q_sticks w).2)) ∧ YF σ τ) := by
  show T l M_Y_sticks (d + 150) 0 _ [] σ _
  refine T_lv (lv2 := [_, _]) rfl ?_
  have h := YQ.rf hw.v
  have hd0 := hw.2.2.2.1
  have hb0 := ho.fb
  have hb8 := ho.n8
  refine tt_aload_n d_Y_sticks_0 rfl ?_
  refine tt_iconst (v := nI 0) d_Y_sticks_1 (by decide) ?_
  refine tt_putI d_Y_sticks_2 rfl rfl (by decide) rfl (xpok_int rfl) rfl ?_
  replace h := h.thr (x := nI 0)
  replace hd0 := hd0.thr (x := nI 0)
  refine tt_aload_n d_Y_sticks_5 rfl ?_
  refine tt_callV (yq_copies (d := d) h ho.n8) cw_Y_copies rfl rfl (by decide) rfl (by omega) d_Y_sticks_6 rfl rfl (Nat.le_of_ble_eq_true rfl) (Nat.le_of_ble_eq_true rfl) rfl rfl rfl (fun v σ2 q => ?_)
  obtain ⟨rfl, h, hS, hu, -⟩ := q
  replace hd0 := hd0.un hu
  refine tt_iconst (v := nI 0) d_Y_sticks_9 (by decide) ?_
  refine tt_istore_n (lv2 := [_, _]) d_Y_sticks_10 (by decide) rfl ?_
  exact y_sticks_l ho 100 0 _ rfl (by omega) h hd0 hS

def bitL (b : Nat) : Int64 := 1 <<< ((nI b).toInt64 &&& 63)
def trkL (w : wv) : Nat → Int64
  | 0 => bitL (wV w 0 0)
  | n + 1 => trkL w n ||| bitL ((hrsV (wE w) (wV w) (n + 1)) 0 0)
def q_track (w : wv) (n : Int32) : Int64 × Option (List Int64) := match rgN n 1 99 with
  | none => (-1, none)
  | some m => (trkL w m, some [(xlpc (trkL w m)).toInt64, (nI ((hrsV (wE w) (z5V (wV w)) m) 5 2)).toInt64])
set_option maxHeartbeats 4000000 in
theorem x_track_l {l : xLa} {d : Nat} {σ : xs} {w : wv} {n : Nat} (hn : n ≤ 99) (ho : okQ w) : ∀ (m : Nat) (i : Nat) (τ : xs), n - i = m → i ≤ n → XQ w σ τ → ST τ 30 (hrsV (wE w) (wV w) i) → T l M_X_track (d + 30) 42 [some (.ref 0), some (.int (nI n)), some (.long (trkL w i)), none, some (.int (nI ((hrsV (wE w) (z5V (wV w)) i) 5 2))), some (.int (nI i))] [] τ (fun r τ => r = some (.long (trkL w n)) ∧ XW τ (stD w (some [(xlpc (trkL w n)).toInt64, (nI ((hrsV (wE w) (z5V (wV w)) n) 5 2)).toInt64])) ∧ XF σ τ) := by
  have hb0 := ho.fb
  have hb8 := ho.n8
  intro m
  induction m using Nat.strongRecOn with
  | ind m ih =>
    intro i τ hm hi h hS
    have hok := ok_h ho (n := i) (by omega)
    have hst := stkS (wE w) (wV w) i
    refine tt_iload d_X_track_42 rfl ?_
    refine tt_iload_n d_X_track_44 rfl ?_
    refine tn_ic_ge (t := 94) (by omega) (by omega) d_X_track_45 (by decide) (fun c_45 => ?_) (fun c_45 => ?_)
    · obtain rfl : i = n := by omega
      refine tt_aload_n d_X_track_94 rfl ?_
      refine tt_getR d_X_track_95 rfl rfl (by decide) rfl rfl ?_
      refine tt_callV (xq_start (d := d) h) cw_Told_start rfl rfl (by decide) rfl (by omega) d_X_track_98 rfl rfl (Nat.le_of_ble_eq_true rfl) (Nat.le_of_ble_eq_true rfl) rfl rfl rfl (fun v σ2 q => ?_)
      obtain ⟨rfl, h, hd, hf⟩ := q
      replace hS := hf.st hS (by decide)
      refine tt_aload_n d_X_track_101 rfl ?_
      refine tt_getR d_X_track_102 rfl rfl (by decide) rfl rfl ?_
      refine tt_lload_n d_X_track_105 rfl ?_
      refine tt_callS (x_lbitCount (d := d)) cw_Long_bitCount rfl (by omega) d_X_track_106 rfl rfl (Nat.le_of_ble_eq_true rfl) (Nat.le_of_ble_eq_true rfl) rfl rfl rfl (fun v σ2 q => ?_)
      obtain ⟨rfl, e9⟩ := q
      rw [e9]
      clear e9
      refine tt_i2l d_X_track_109 ?_
      refine tt_callV (xq_add (d := d) h hd (Nat.le_of_ble_eq_true rfl)) cw_Told_add rfl rfl (by decide) rfl (by omega) d_X_track_110 rfl rfl (Nat.le_of_ble_eq_true rfl) (Nat.le_of_ble_eq_true rfl) rfl rfl rfl (fun v σ2 q => ?_)
      obtain ⟨rfl, h, hd, hf⟩ := q
      replace hS := hf.st hS (by decide)
      refine tt_aload_n d_X_track_113 rfl ?_
      refine tt_getR d_X_track_114 rfl rfl (by decide) rfl rfl ?_
      refine tt_iload d_X_track_117 rfl ?_
      refine tt_i2l d_X_track_119 ?_
      refine tt_callV (xq_add (d := d) h hd (Nat.le_of_ble_eq_true rfl)) cw_Told_add rfl rfl (by decide) rfl (by omega) d_X_track_120 rfl rfl (Nat.le_of_ble_eq_true rfl) (Nat.le_of_ble_eq_true rfl) rfl rfl rfl (fun v σ2 q => ?_)
      obtain ⟨rfl, h, hd, hf⟩ := q
      replace hS := hf.st hS (by decide)
      refine tt_lload_n d_X_track_123 rfl ?_
      refine tt_lret rfl d_X_track_124 ?_
      exact ⟨rfl, h.done hd, h.2.1⟩
    · refine tt_aload_n d_X_track_48 rfl ?_
      refine tt_getR d_X_track_49 rfl rfl (by decide) rfl rfl ?_
      refine tt_aload_n d_X_track_52 rfl ?_
      refine tt_getR d_X_track_53 rfl rfl (by decide) rfl rfl ?_
      refine tt_aload_n d_X_track_56 rfl ?_
      refine tt_getP d_X_track_57 rfl ?_
      refine tt_iconst (v := nI 1) d_X_track_60 (by decide) ?_
      refine tt_callV (xq_hrs (d := d) (n := 1) h ho hok.1 hS (by omega)) cw_Trip_pass rfl rfl (by decide) rfl (by omega) d_X_track_61 rfl rfl (Nat.le_of_ble_eq_true rfl) (Nat.le_of_ble_eq_true rfl) rfl rfl rfl (fun v σ2 q => ?_)
      obtain ⟨rfl, h, hS, hT, hu⟩ := q
      refine tt_lload_n d_X_track_64 rfl ?_
      refine tt_lconst (v := 1) d_X_track_65 (by decide) ?_
      refine tt_aload_n d_X_track_66 rfl ?_
      refine tt_getR d_X_track_67 rfl rfl (by decide) rfl rfl ?_
      refine tn_get d_X_track_70 rfl rfl (by decide) rfl (hS.1 0 (by decide)) ?_
      refine tt_lshl d_X_track_73 ?_
      refine tt_lor d_X_track_74 ?_
      refine tt_lstore_n (lv2 := [_, _, _, _, _, _]) d_X_track_75 (by decide) rfl ?_
      refine tt_iload d_X_track_76 rfl ?_
      refine tt_aload_n d_X_track_78 rfl ?_
      refine tt_getR d_X_track_79 rfl rfl (by decide) rfl rfl ?_
      refine tn_get d_X_track_82 rfl rfl (by decide) rfl (hT 2 (by decide)) ?_
      refine tn_iadd d_X_track_85 ?_
      refine tt_istore (lv2 := [_, _, _, _, _, _]) d_X_track_86 (by decide) rfl ?_
      refine tt_iinc (lv2 := [_, _, _, _, _, _]) d_X_track_88 rfl (nI_inc _ 1) (by decide) rfl ?_
      refine tt_goto (t := 42) d_X_track_91 (by decide) ?_
      rw [← hst]
      exact ih (n - (i + 1)) (by omega) (i + 1) _ rfl (by omega) h hS

set_option maxHeartbeats 4000000 in
theorem xc_track {l : xLa} {d : Nat} {σ : xs} {w : wv} (ho : okQ w) (hw : XW σ w) {n : Int32} : TC l M_X_track (d + 30) [.ref 0, .int n] σ (fun r τ => r = some (.long ((q_track w n).1)) ∧ XW τ (stD w ((q_track w n).2)) ∧ XF σ τ) := by
  show T l M_X_track (d + 30) 0 _ [] σ _
  refine T_lv (lv2 := [_, _, _, _, _, _]) rfl ?_
  have h := XQ.rf hw.v
  have hd0 := hw.2.2.2.1
  have hb0 := ho.fb
  have hb8 := ho.n8
  rcases rgN_c n 1 99 with ⟨m, hm1, hm2, hm3, rfl, hq⟩ | ⟨hq, hb⟩
  · have hqv : q_track w (nI m) = (trkL w m, some [(xlpc (trkL w m)).toInt64, (nI ((hrsV (wE w) (z5V (wV w)) m) 5 2)).toInt64]) := by unfold q_track; rw [hq]
    rw [hqv]
    refine tt_iload_n d_X_track_0 rfl ?_
    refine tt_iconst (v := nI 1) d_X_track_1 (by decide) ?_
    refine tn_ic_lt (t := 11) (by omega) (by omega) d_X_track_2 (by decide) (fun c_2 => ?_) (fun c_2 => ?_)
    · omega
    · refine tt_iload_n d_X_track_5 rfl ?_
      refine tt_bipush (v := nI 99) d_X_track_6 (by decide) ?_
      refine tn_ic_le (t := 15) (by omega) (by omega) d_X_track_8 (by decide) (fun c_8 => ?_) (fun c_8 => ?_)
      · refine tt_aload_n d_X_track_15 rfl ?_
        refine tt_getR d_X_track_16 rfl rfl (by decide) rfl rfl ?_
        refine tt_aload_n d_X_track_19 rfl ?_
        refine tt_getR d_X_track_20 rfl rfl (by decide) rfl rfl ?_
        refine tt_callV (xq_copy (d := d) h) cw_State_copy rfl rfl (by decide) rfl (by omega) d_X_track_23 rfl rfl (Nat.le_of_ble_eq_true rfl) (Nat.le_of_ble_eq_true rfl) rfl rfl rfl (fun v σ2 q => ?_)
        obtain ⟨rfl, h, hS, hu⟩ := q
        replace hd0 := hd0.tn hu
        refine tt_lconst (v := 1) d_X_track_26 (by decide) ?_
        refine tt_aload_n d_X_track_27 rfl ?_
        refine tt_getR d_X_track_28 rfl rfl (by decide) rfl rfl ?_
        refine tn_get d_X_track_31 rfl rfl (by decide) rfl (hS.1 0 (by decide)) ?_
        refine tt_lshl d_X_track_34 ?_
        refine tt_lstore_n (lv2 := [_, _, _, _, _, _]) d_X_track_35 (by decide) rfl ?_
        refine tt_iconst (v := nI 0) d_X_track_36 (by decide) ?_
        refine tt_istore (lv2 := [_, _, _, _, _, _]) d_X_track_37 (by decide) rfl ?_
        refine tt_iconst (v := nI 0) d_X_track_39 (by decide) ?_
        refine tt_istore (lv2 := [_, _, _, _, _, _]) d_X_track_40 (by decide) rfl ?_
        exact x_track_l hm2 ho m 0 _ rfl (by omega) h hS
      · omega
  · have hqv : q_track w n = (-1, none) := by unfold q_track; rw [hq]
    rw [hqv]
    refine tt_iload_n d_X_track_0 rfl ?_
    refine tt_iconst (v := nI 1) d_X_track_1 (by decide) ?_
    refine tt_ic_lt (t := 11) d_X_track_2 (by decide) (fun c_2 => ?_) (fun c_2 => ?_)
    · refine tt_ldc2_w d_X_track_11 rfl ?_
      refine tt_lret rfl d_X_track_14 ?_
      exact ⟨rfl, h.none hd0, h.2.1⟩
    · refine tt_iload_n d_X_track_5 rfl ?_
      refine tt_bipush (v := nI 99) d_X_track_6 (by decide) ?_
      refine tt_ic_le (t := 15) d_X_track_8 (by decide) (fun c_8 => ?_) (fun c_8 => ?_)
      · exact (rg_f (a := 1) (b := 99) (by decide) (by decide) hb c_2 c_8).elim
      · refine tt_ldc2_w d_X_track_11 rfl ?_
        refine tt_lret rfl d_X_track_14 ?_
        exact ⟨rfl, h.none hd0, h.2.1⟩

set_option maxHeartbeats 4000000 in
theorem y_track_l {l : xLa} {d : Nat} {σ : xs} {c : Nat} {w : wv} {n : Nat} (hn : n ≤ 99) (ho : okQ w) : ∀ (m : Nat) (i : Nat) (τ : xs), n - i = m → i ≤ n → YQ c w σ τ → SY τ 161 (eN (wE w)) (hrsV (wE w) (z5V (wV w)) i) → TY τ (hrsV (wE w) (z5V (wV w)) i) → T l M_Y_track (d + 150) 46 [some (.ref 154), some (.int (nI n)), some (.long (trkL w i)), none, some (.int (nI i))] [] τ (fun r τ => r = some (.long (trkL w n)) ∧ YW τ c (stD w (some [(xlpc (trkL w n)).toInt64, (nI ((hrsV (wE w) (z5V (wV w)) n) 5 2)).toInt64])) ∧ YF σ τ) := by
  have hb0 := ho.fb
  have hb8 := ho.n8
  intro m
  induction m using Nat.strongRecOn with
  | ind m ih =>
    intro i τ hm hi h hS hT
    have hok := ok_h ho (n := i) (by omega)
    have h5 := hrs_z (wE w) (wV w) i
    have h6 := hrs_z (wE w) (wV w) (i + 1)
    refine tt_iload d_Y_track_46 rfl ?_
    refine tt_iload_n d_Y_track_48 rfl ?_
    refine tn_ic_ge (t := 77) (by omega) (by omega) d_Y_track_49 (by decide) (fun c_49 => ?_) (fun c_49 => ?_)
    · obtain rfl : i = n := by omega
      refine tt_aload_n d_Y_track_77 rfl ?_
      refine tt_iconst (v := nI 0) d_Y_track_78 (by decide) ?_
      refine tt_putI d_Y_track_79 rfl rfl (by decide) rfl (xpok_int rfl) rfl ?_
      replace h := h.td0
      have hd := YD_0t h
      replace hS := SY_0t h hS
      replace hT := TY_0t h hT
      refine tt_aload_n d_Y_track_82 rfl ?_
      refine tt_lload_n d_Y_track_83 rfl ?_
      refine tt_callS (x_lbitCount (d := d)) cw_Long_bitCount rfl (by omega) d_Y_track_84 rfl rfl (Nat.le_of_ble_eq_true rfl) (Nat.le_of_ble_eq_true rfl) rfl rfl rfl (fun v σ2 q => ?_)
      obtain ⟨rfl, e9⟩ := q
      rw [e9]
      clear e9
      refine tt_i2l d_Y_track_87 ?_
      refine tt_callV (yq_add (d := d) h hd (Nat.le_of_ble_eq_true rfl)) cw_Y_enters rfl rfl (by decide) rfl (by omega) d_Y_track_88 rfl rfl (Nat.le_of_ble_eq_true rfl) (Nat.le_of_ble_eq_true rfl) rfl rfl rfl (fun v σ2 q => ?_)
      obtain ⟨rfl, h, hd, hf⟩ := q
      replace hS := hf.sy hS
      replace hT := hf.ty hT
      refine tt_aload_n d_Y_track_91 rfl ?_
      refine tt_aload_n d_Y_track_92 rfl ?_
      refine tn_get d_Y_track_93 rfl rfl (by decide) rfl hT.2.2 ?_
      refine tt_i2l d_Y_track_96 ?_
      refine tt_callV (yq_add (d := d) h hd (Nat.le_of_ble_eq_true rfl)) cw_Y_enters rfl rfl (by decide) rfl (by omega) d_Y_track_97 rfl rfl (Nat.le_of_ble_eq_true rfl) (Nat.le_of_ble_eq_true rfl) rfl rfl rfl (fun v σ2 q => ?_)
      obtain ⟨rfl, h, hd, hf⟩ := q
      replace hS := hf.sy hS
      refine tt_lload_n d_Y_track_100 rfl ?_
      refine tt_lret rfl d_Y_track_101 ?_
      exact ⟨rfl, h.done hd, h.2⟩
    · refine tt_aload_n d_Y_track_52 rfl ?_
      refine tt_aload_n d_Y_track_53 rfl ?_
      refine tt_getR d_Y_track_54 rfl rfl (by decide) rfl rfl ?_
      refine tt_callV (yq_hour (d := d) h ho.1 (h5.sy.ok hok.1) hS hT (by rw [h5 0 4 (by decide)]; omega)) cw_Y_hourGoes rfl rfl (by decide) rfl (by omega) d_Y_track_57 rfl rfl (Nat.le_of_ble_eq_true rfl) (Nat.le_of_ble_eq_true rfl) rfl rfl rfl (fun v σ2 q => ?_)
      obtain ⟨rfl, h, hS, hT, hu⟩ := q
      refine tt_lload_n d_Y_track_60 rfl ?_
      refine tt_lconst (v := 1) d_Y_track_61 (by decide) ?_
      refine tt_aload_n d_Y_track_62 rfl ?_
      refine tt_getR d_Y_track_63 rfl rfl (by decide) rfl rfl ?_
      refine tt_iconst (v := nI 0) d_Y_track_66 (by decide) ?_
      refine tn_iald d_Y_track_67 rfl (by decide) (by omega) (show _ = nI ((hrsV (wE w) (wV w) (i + 1)) 0 0) from by rw [← h6 0 0 (by decide)]; exact hS.1.1) ?_
      refine tt_lshl d_Y_track_68 ?_
      refine tt_lor d_Y_track_69 ?_
      refine tt_lstore_n (lv2 := [_, _, _, _, _]) d_Y_track_70 (by decide) rfl ?_
      refine tt_iinc (lv2 := [_, _, _, _, _]) d_Y_track_71 rfl (nI_inc _ 1) (by decide) rfl ?_
      refine tt_goto (t := 46) d_Y_track_74 (by decide) ?_
      exact ih (n - (i + 1)) (by omega) (i + 1) _ rfl (by omega) h hS hT

set_option maxHeartbeats 4000000 in
theorem yc_track {l : xLa} {d c : Nat} {σ : xs} {w : wv} (ho : okQ w) (hw : YW σ c w) {n : Int32} : TC l M_Y_track (d + 150) [.ref 154, .int n] σ (fun r τ => r = some (.long ((q_track w n).1)) ∧ YW τ c (stD w ((q_track w n).2)) ∧ YF σ τ) := by
  show T l M_Y_track (d + 150) 0 _ [] σ _
  refine T_lv (lv2 := [_, _, _, _, _]) rfl ?_
  have h := YQ.rf hw.v
  have hd0 := hw.2.2.2.1
  have hb0 := ho.fb
  have hb8 := ho.n8
  rcases rgN_c n 1 99 with ⟨m, hm1, hm2, hm3, rfl, hq⟩ | ⟨hq, hb⟩
  · have hqv : q_track w (nI m) = (trkL w m, some [(xlpc (trkL w m)).toInt64, (nI ((hrsV (wE w) (z5V (wV w)) m) 5 2)).toInt64]) := by unfold q_track; rw [hq]
    rw [hqv]
    refine tt_aload_n d_Y_track_0 rfl ?_
    refine tt_iconst (v := nI 0) d_Y_track_1 (by decide) ?_
    refine tt_putI d_Y_track_2 rfl rfl (by decide) rfl (xpok_int rfl) rfl ?_
    replace h := h.thr (x := nI 0)
    replace hd0 := hd0.thr (x := nI 0)
    refine tt_iload_n d_Y_track_5 rfl ?_
    refine tt_i2l d_Y_track_6 ?_
    refine tt_lconst (v := 1) d_Y_track_7 (by decide) ?_
    refine tt_ldc2_w d_Y_track_8 rfl ?_
    refine tt_callS (y_in (d := d)) cw_Y_in rfl (by omega) d_Y_track_11 rfl rfl (Nat.le_of_ble_eq_true rfl) (Nat.le_of_ble_eq_true rfl) rfl rfl rfl (fun v σ2 q => ?_)
    obtain ⟨rfl, e9⟩ := q
    rw [e9, show Yin (nI m).toInt64 1 99 = nI 1 from Yin_t (a := 1) (b := 99) rfl rfl (by omega) (by omega) (by decide)]
    clear e9
    refine tn_if_ne (t := 21) (by omega) d_Y_track_14 (by decide) (fun c_14 => ?_) (fun c_14 => ?_)
    · refine tt_aload_n d_Y_track_21 rfl ?_
      refine tt_callV (yq_copies (d := d) h ho.n8) cw_Y_copies rfl rfl (by decide) rfl (by omega) d_Y_track_22 rfl rfl (Nat.le_of_ble_eq_true rfl) (Nat.le_of_ble_eq_true rfl) rfl rfl rfl (fun v σ2 q => ?_)
      obtain ⟨rfl, h, hS, hu, -⟩ := q
      replace hd0 := hd0.un hu
      refine tt_aload_n d_Y_track_25 rfl ?_
      refine tt_aload_n d_Y_track_26 rfl ?_
      refine tt_getR d_Y_track_27 rfl rfl (by decide) rfl rfl ?_
      refine tt_iconst (v := nI 0) d_Y_track_30 (by decide) ?_
      refine tt_callV (yq_hours (d := d) (n := 0) h ho.1 ho.2.1 hS (by have := ho.2.2; omega) (by decide)) cw_Y_goesOn rfl rfl (by decide) rfl (by omega) d_Y_track_31 rfl rfl (Nat.le_of_ble_eq_true rfl) (Nat.le_of_ble_eq_true rfl) rfl rfl rfl (fun v σ2 q => ?_)
      obtain ⟨rfl, h, hS, hT, hu⟩ := q
      refine tt_lconst (v := 1) d_Y_track_34 (by decide) ?_
      refine tt_aload_n d_Y_track_35 rfl ?_
      refine tt_getR d_Y_track_36 rfl rfl (by decide) rfl rfl ?_
      refine tt_iconst (v := nI 0) d_Y_track_39 (by decide) ?_
      refine tn_iald d_Y_track_40 rfl (by decide) (by omega) (hS.1.1) ?_
      refine tt_lshl d_Y_track_41 ?_
      refine tt_lstore_n (lv2 := [_, _, _, _, _]) d_Y_track_42 (by decide) rfl ?_
      refine tt_iconst (v := nI 0) d_Y_track_43 (by decide) ?_
      refine tt_istore (lv2 := [_, _, _, _, _]) d_Y_track_44 (by decide) rfl ?_
      exact y_track_l hm2 ho m 0 _ rfl (by omega) h hS hT
    · exact absurd c_14 (by decide)
  · have hqv : q_track w n = (-1, none) := by unfold q_track; rw [hq]
    rw [hqv]
    refine tt_aload_n d_Y_track_0 rfl ?_
    refine tt_iconst (v := nI 0) d_Y_track_1 (by decide) ?_
    refine tt_putI d_Y_track_2 rfl rfl (by decide) rfl (xpok_int rfl) rfl ?_
    replace h := h.thr (x := nI 0)
    replace hd0 := hd0.thr (x := nI 0)
    refine tt_iload_n d_Y_track_5 rfl ?_
    refine tt_i2l d_Y_track_6 ?_
    refine tt_lconst (v := 1) d_Y_track_7 (by decide) ?_
    refine tt_ldc2_w d_Y_track_8 rfl ?_
    refine tt_callS (y_in (d := d)) cw_Y_in rfl (by omega) d_Y_track_11 rfl rfl (Nat.le_of_ble_eq_true rfl) (Nat.le_of_ble_eq_true rfl) rfl rfl rfl (fun v σ2 q => ?_)
    obtain ⟨rfl, e9⟩ := q
    rw [e9, show Yin n.toInt64 1 99 = nI 0 from Yin_f (a := 1) (b := 99) rfl rfl (by decide) (by decide) hb]
    clear e9
    refine tn_if_ne (t := 21) (by omega) d_Y_track_14 (by decide) (fun c_14 => ?_) (fun c_14 => ?_)
    · exact absurd c_14 (by decide)
    · refine tt_ldc2_w d_Y_track_17 rfl ?_
      refine tt_lret rfl d_Y_track_20 ?_
      exact ⟨rfl, h.none hd0, h.2⟩

