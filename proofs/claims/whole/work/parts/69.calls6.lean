/-! Questions: strongest, sways, matters. Printed by wip/whole. -/
def stF (e : xe) (v : sv) : Nat → Nat × Nat
  | 0 => (0, 0)
  | i + 1 => if i = 0 ∨ plN e v (stF e v i).1 < plN e v i then (i, 1) else ((stF e v i).1, (stF e v i).2 + (if plN e v i = plN e v (stF e v i).1 then 1 else 0))
theorem stF_t {e : xe} {v : sv} {i b a : Nat} (h : (b, a) = stF e v i) (c : i = 0 ∨ plN e v b < plN e v i) : (i, 1) = stF e v (i + 1) := by
  show _ = if i = 0 ∨ plN e v (stF e v i).1 < plN e v i then (i, 1) else _
  rw [← h, if_pos c]
theorem stF_f {e : xe} {v : sv} {i b a : Nat} (h : (b, a) = stF e v i) (c : ¬ (i = 0 ∨ plN e v b < plN e v i)) : (b, a + (if plN e v i = plN e v b then 1 else 0)) = stF e v (i + 1) := by
  show _ = if i = 0 ∨ plN e v (stF e v i).1 < plN e v i then (i, 1) else ((stF e v i).1, (stF e v i).2 + (if plN e v i = plN e v (stF e v i).1 then 1 else 0))
  rw [← h, if_neg c]
theorem stF_lt {e : xe} {v : sv} : ∀ i, (stF e v i).1 ≤ i - 1 ∧ (stF e v i).2 ≤ i
  | 0 => ⟨Nat.le_refl _, Nat.le_refl _⟩
  | i + 1 => by
    have ih := stF_lt (e := e) (v := v) i
    show (if i = 0 ∨ plN e v (stF e v i).1 < plN e v i then (i, 1) else ((stF e v i).1, (stF e v i).2 + (if plN e v i = plN e v (stF e v i).1 then 1 else 0))).1 ≤ _ ∧ (if i = 0 ∨ plN e v (stF e v i).1 < plN e v i then (i, 1) else ((stF e v i).1, (stF e v i).2 + (if plN e v i = plN e v (stF e v i).1 then 1 else 0))).2 ≤ _
    split
    · exact ⟨by show i ≤ _; omega, by show 1 ≤ _; omega⟩
    · refine ⟨by show (stF e v i).1 ≤ _; omega, ?_⟩
      show (stF e v i).2 + _ ≤ _
      split <;> omega
def q_strongest (w : wv) : Int32 × Option (List Int64) := if eN (wE w) = 0 then (-2, none) else
  (nI (stF (wE w) (wV w) (eN (wE w))).1, some [(nI (plN (wE w) (wV w) (stF (wE w) (wV w) (eN (wE w))).1)).toInt64, (nI (stF (wE w) (wV w) (eN (wE w))).2).toInt64])
set_option maxHeartbeats 4000000 in
theorem x_strongest_l {l : xLa} {d : Nat} {σ : xs} {w : wv} (hn0 : 0 < eN (wE w)) (ho : okQ w) : ∀ (m : Nat) (i b a : Nat) (mo : Int32) (τ : xs), eN (wE w) - i = m → i ≤ eN (wE w) → XQ w σ τ → MS (wE w) (wV w) (eN (wE w)) τ → (b, a) = stF (wE w) (wV w) i → (i = 0 ∧ mo = -1) ∨ (0 < i ∧ mo = nI (plN (wE w) (wV w) b)) → T l M_X_strongest (d + 30) 37 [some (.ref 0), some (.int (nI b)), some (.int mo), some (.int (nI a)), some (.int (nI i))] [] τ (fun r τ => r = some (.int (q_strongest w).1) ∧ XW τ (stD w (q_strongest w).2) ∧ XF σ τ) := by
  have hb0 := ho.fb
  have hb8 := ho.n8
  intro m
  induction m using Nat.strongRecOn with
  | ind m ih =>
    intro i b a mo τ hm hi h hM hst hmo
    rcases hmo with ⟨rfl, rfl⟩ | ⟨hi0, rfl⟩
    · have hba : b = 0 ∧ a = 0 := by
        have := congrArg Prod.fst hst
        have := congrArg Prod.snd hst
        exact ⟨by assumption, by assumption⟩
      obtain ⟨rfl, rfl⟩ := hba
      have hsl := stF_lt (e := wE w) (v := wV w) 0
      rw [← hst] at hsl
      dsimp only at hsl
      have h9 := (plN_c (wE w) (wV w) 0).2
      have hb9 := (plN_c (wE w) (wV w) 0).2
      refine tt_iload d_X_strongest_37 rfl ?_
      refine tt_aload_n d_X_strongest_39 rfl ?_
      refine tt_getR d_X_strongest_40 rfl rfl (by decide) rfl rfl ?_
      refine tn_get d_X_strongest_43 rfl rfl (by decide) rfl h.n ?_
      refine tn_ic_ge (t := 102) (by omega) (by omega) d_X_strongest_46 (by decide) (fun c_46 => ?_) (fun c_46 => ?_)
      · omega
      · refine tt_aload_n d_X_strongest_49 rfl ?_
        refine tt_getR d_X_strongest_50 rfl rfl (by decide) rfl rfl ?_
        refine tt_getR d_X_strongest_53 rfl rfl (by decide) rfl rfl ?_
        refine tt_iload d_X_strongest_56 rfl ?_
        refine tn_iald d_X_strongest_58 rfl (by decide) (by omega) (show _ = nI (plN (wE w) (wV w) 0) from ((hM _ (by omega)).1).trans (plN_c _ _ _).1) ?_
        refine tt_iload_n d_X_strongest_59 rfl ?_
        refine tt_ic_le (t := 79) d_X_strongest_60 (by decide) (fun c_60 => ?_) (fun c_60 => ?_)
        · exact (fa_nlt2 (show (-1 : Int32) < nI (plN (wE w) (wV w) 0) from by rw [fa_lt', nI_toInt (by omega)]; show (-1 : Int) < _; omega) c_60).elim
        · have hz := stF_t hst (Or.inl rfl)
          refine tt_aload_n d_X_strongest_63 rfl ?_
          refine tt_getR d_X_strongest_64 rfl rfl (by decide) rfl rfl ?_
          refine tt_getR d_X_strongest_67 rfl rfl (by decide) rfl rfl ?_
          refine tt_iload d_X_strongest_70 rfl ?_
          refine tn_iald d_X_strongest_72 rfl (by decide) (by omega) (show _ = nI (plN (wE w) (wV w) 0) from ((hM _ (by omega)).1).trans (plN_c _ _ _).1) ?_
          refine tt_istore_n (lv2 := [_, _, _, _, _]) d_X_strongest_73 (by decide) rfl ?_
          refine tt_iload d_X_strongest_74 rfl ?_
          refine tt_istore_n (lv2 := [_, _, _, _, _]) d_X_strongest_76 (by decide) rfl ?_
          refine tt_iconst (v := nI 0) d_X_strongest_77 (by decide) ?_
          refine tt_istore_n (lv2 := [_, _, _, _, _]) d_X_strongest_78 (by decide) rfl ?_
          refine tt_aload_n d_X_strongest_79 rfl ?_
          refine tt_getR d_X_strongest_80 rfl rfl (by decide) rfl rfl ?_
          refine tt_getR d_X_strongest_83 rfl rfl (by decide) rfl rfl ?_
          refine tt_iload d_X_strongest_86 rfl ?_
          refine tn_iald d_X_strongest_88 rfl (by decide) (by omega) (show _ = nI (plN (wE w) (wV w) 0) from ((hM _ (by omega)).1).trans (plN_c _ _ _).1) ?_
          refine tt_iload_n d_X_strongest_89 rfl ?_
          refine tn_ic_ne (t := 96) (by omega) (by omega) d_X_strongest_90 (by decide) (fun c_90 => ?_) (fun c_90 => ?_)
          · exact absurd rfl c_90
          · refine tt_iinc (lv2 := [_, _, _, _, _]) d_X_strongest_93 rfl (nI_inc _ 1) (by decide) rfl ?_
            refine tt_iinc (lv2 := [_, _, _, _, _]) d_X_strongest_96 rfl (nI_inc _ 1) (by decide) rfl ?_
            refine tt_goto (t := 37) d_X_strongest_99 (by decide) ?_
            exact ih (eN (wE w) - (0 + 1)) (by omega) (0 + 1) _ _ _ _ rfl (by omega) h hM hz (Or.inr ⟨by omega, rfl⟩)
    · skip
      have hsl := stF_lt (e := wE w) (v := wV w) i
      rw [← hst] at hsl
      dsimp only at hsl
      have h9 := (plN_c (wE w) (wV w) i).2
      have hb9 := (plN_c (wE w) (wV w) b).2
      refine tt_iload d_X_strongest_37 rfl ?_
      refine tt_aload_n d_X_strongest_39 rfl ?_
      refine tt_getR d_X_strongest_40 rfl rfl (by decide) rfl rfl ?_
      refine tn_get d_X_strongest_43 rfl rfl (by decide) rfl h.n ?_
      refine tn_ic_ge (t := 102) (by omega) (by omega) d_X_strongest_46 (by decide) (fun c_46 => ?_) (fun c_46 => ?_)
      · obtain rfl : i = eN (wE w) := by omega
        have hqv : q_strongest w = (nI b, some [(nI (plN (wE w) (wV w) b)).toInt64, (nI a).toInt64]) := by
          unfold q_strongest
          rw [if_neg (by omega), ← hst]
        rw [hqv]
        refine tt_aload_n d_X_strongest_102 rfl ?_
        refine tt_getR d_X_strongest_103 rfl rfl (by decide) rfl rfl ?_
        refine tt_callV (xq_start (d := d) h) cw_Told_start rfl rfl (by decide) rfl (by omega) d_X_strongest_106 rfl rfl (Nat.le_of_ble_eq_true rfl) (Nat.le_of_ble_eq_true rfl) rfl rfl rfl (fun v σ2 q => ?_)
        obtain ⟨rfl, h, hd, hf⟩ := q
        refine tt_aload_n d_X_strongest_109 rfl ?_
        refine tt_getR d_X_strongest_110 rfl rfl (by decide) rfl rfl ?_
        refine tt_iload_n d_X_strongest_113 rfl ?_
        refine tt_i2l d_X_strongest_114 ?_
        refine tt_callV (xq_add (d := d) h hd (Nat.le_of_ble_eq_true rfl)) cw_Told_add rfl rfl (by decide) rfl (by omega) d_X_strongest_115 rfl rfl (Nat.le_of_ble_eq_true rfl) (Nat.le_of_ble_eq_true rfl) rfl rfl rfl (fun v σ2 q => ?_)
        obtain ⟨rfl, h, hd, hf⟩ := q
        refine tt_aload_n d_X_strongest_118 rfl ?_
        refine tt_getR d_X_strongest_119 rfl rfl (by decide) rfl rfl ?_
        refine tt_iload_n d_X_strongest_122 rfl ?_
        refine tt_i2l d_X_strongest_123 ?_
        refine tt_callV (xq_add (d := d) h hd (Nat.le_of_ble_eq_true rfl)) cw_Told_add rfl rfl (by decide) rfl (by omega) d_X_strongest_124 rfl rfl (Nat.le_of_ble_eq_true rfl) (Nat.le_of_ble_eq_true rfl) rfl rfl rfl (fun v σ2 q => ?_)
        obtain ⟨rfl, h, hd, hf⟩ := q
        refine tt_iload_n d_X_strongest_127 rfl ?_
        refine tt_iret rfl d_X_strongest_128 ?_
        exact ⟨rfl, h.done hd, h.2.1⟩
      · refine tt_aload_n d_X_strongest_49 rfl ?_
        refine tt_getR d_X_strongest_50 rfl rfl (by decide) rfl rfl ?_
        refine tt_getR d_X_strongest_53 rfl rfl (by decide) rfl rfl ?_
        refine tt_iload d_X_strongest_56 rfl ?_
        refine tn_iald d_X_strongest_58 rfl (by decide) (by omega) (show _ = nI (plN (wE w) (wV w) i) from ((hM _ (by omega)).1).trans (plN_c _ _ _).1) ?_
        refine tt_iload_n d_X_strongest_59 rfl ?_
        refine tn_ic_le (t := 79) (by omega) (by omega) d_X_strongest_60 (by decide) (fun c_60 => ?_) (fun c_60 => ?_)
        · have hz := stF_f hst (by omega)
          refine tt_aload_n d_X_strongest_79 rfl ?_
          refine tt_getR d_X_strongest_80 rfl rfl (by decide) rfl rfl ?_
          refine tt_getR d_X_strongest_83 rfl rfl (by decide) rfl rfl ?_
          refine tt_iload d_X_strongest_86 rfl ?_
          refine tn_iald d_X_strongest_88 rfl (by decide) (by omega) (show _ = nI (plN (wE w) (wV w) i) from ((hM _ (by omega)).1).trans (plN_c _ _ _).1) ?_
          refine tt_iload_n d_X_strongest_89 rfl ?_
          refine tn_ic_ne (t := 96) (by omega) (by omega) d_X_strongest_90 (by decide) (fun c_90 => ?_) (fun c_90 => ?_)
          · rw [if_neg c_90] at hz
            refine tt_iinc (lv2 := [_, _, _, _, _]) d_X_strongest_96 rfl (nI_inc _ 1) (by decide) rfl ?_
            refine tt_goto (t := 37) d_X_strongest_99 (by decide) ?_
            exact ih (eN (wE w) - (i + 1)) (by omega) (i + 1) _ _ _ _ rfl (by omega) h hM hz (Or.inr ⟨by omega, rfl⟩)
          · rw [if_pos c_90] at hz
            refine tt_iinc (lv2 := [_, _, _, _, _]) d_X_strongest_93 rfl (nI_inc _ 1) (by decide) rfl ?_
            refine tt_iinc (lv2 := [_, _, _, _, _]) d_X_strongest_96 rfl (nI_inc _ 1) (by decide) rfl ?_
            refine tt_goto (t := 37) d_X_strongest_99 (by decide) ?_
            exact ih (eN (wE w) - (i + 1)) (by omega) (i + 1) _ _ _ _ rfl (by omega) h hM hz (Or.inr ⟨by omega, rfl⟩)
        · have hz := stF_t hst (Or.inr (by omega))
          refine tt_aload_n d_X_strongest_63 rfl ?_
          refine tt_getR d_X_strongest_64 rfl rfl (by decide) rfl rfl ?_
          refine tt_getR d_X_strongest_67 rfl rfl (by decide) rfl rfl ?_
          refine tt_iload d_X_strongest_70 rfl ?_
          refine tn_iald d_X_strongest_72 rfl (by decide) (by omega) (show _ = nI (plN (wE w) (wV w) i) from ((hM _ (by omega)).1).trans (plN_c _ _ _).1) ?_
          refine tt_istore_n (lv2 := [_, _, _, _, _]) d_X_strongest_73 (by decide) rfl ?_
          refine tt_iload d_X_strongest_74 rfl ?_
          refine tt_istore_n (lv2 := [_, _, _, _, _]) d_X_strongest_76 (by decide) rfl ?_
          refine tt_iconst (v := nI 0) d_X_strongest_77 (by decide) ?_
          refine tt_istore_n (lv2 := [_, _, _, _, _]) d_X_strongest_78 (by decide) rfl ?_
          refine tt_aload_n d_X_strongest_79 rfl ?_
          refine tt_getR d_X_strongest_80 rfl rfl (by decide) rfl rfl ?_
          refine tt_getR d_X_strongest_83 rfl rfl (by decide) rfl rfl ?_
          refine tt_iload d_X_strongest_86 rfl ?_
          refine tn_iald d_X_strongest_88 rfl (by decide) (by omega) (show _ = nI (plN (wE w) (wV w) i) from ((hM _ (by omega)).1).trans (plN_c _ _ _).1) ?_
          refine tt_iload_n d_X_strongest_89 rfl ?_
          refine tn_ic_ne (t := 96) (by omega) (by omega) d_X_strongest_90 (by decide) (fun c_90 => ?_) (fun c_90 => ?_)
          · exact absurd rfl c_90
          · skip
            refine tt_iinc (lv2 := [_, _, _, _, _]) d_X_strongest_93 rfl (nI_inc _ 1) (by decide) rfl ?_
            refine tt_iinc (lv2 := [_, _, _, _, _]) d_X_strongest_96 rfl (nI_inc _ 1) (by decide) rfl ?_
            refine tt_goto (t := 37) d_X_strongest_99 (by decide) ?_
            exact ih (eN (wE w) - (i + 1)) (by omega) (i + 1) _ _ _ _ rfl (by omega) h hM hz (Or.inr ⟨by omega, rfl⟩)

set_option maxHeartbeats 4000000 in
theorem xc_strongest {l : xLa} {d : Nat} {σ : xs} {w : wv} (ho : okQ w) (hw : XW σ w)  : TC l M_X_strongest (d + 30) [.ref 0] σ (fun r τ => r = some (.int ((q_strongest w).1)) ∧ XW τ (stD w ((q_strongest w).2)) ∧ XF σ τ) := by
  show T l M_X_strongest (d + 30) 0 _ [] σ _
  refine T_lv (lv2 := [_, _, _, _, _]) rfl ?_
  have h := XQ.rf hw.v
  have hd0 := hw.2.2.2.1
  have hb0 := ho.fb
  have hb8 := ho.n8
  refine tt_aload_n d_X_strongest_0 rfl ?_
  refine tt_getR d_X_strongest_1 rfl rfl (by decide) rfl rfl ?_
  refine tn_get d_X_strongest_4 rfl rfl (by decide) rfl h.n ?_
  refine tn_if_ne (t := 13) (by omega) d_X_strongest_7 (by decide) (fun c_7 => ?_) (fun c_7 => ?_)
  · refine tt_aload_n d_X_strongest_13 rfl ?_
    refine tt_getR d_X_strongest_14 rfl rfl (by decide) rfl rfl ?_
    refine tt_aload_n d_X_strongest_17 rfl ?_
    refine tt_getR d_X_strongest_18 rfl rfl (by decide) rfl rfl ?_
    refine tt_aload_n d_X_strongest_21 rfl ?_
    refine tt_getP d_X_strongest_22 rfl ?_
    refine tt_callV (xq_measure (d := d) h ho.1 ho.2.1) cw_Tug_measure rfl rfl (by decide) rfl (by omega) d_X_strongest_25 rfl rfl (Nat.le_of_ble_eq_true rfl) (Nat.le_of_ble_eq_true rfl) rfl rfl rfl (fun v σ2 q => ?_)
    obtain ⟨rfl, h, hM, hu⟩ := q
    replace hd0 := hd0.tn hu
    refine tt_iconst (v := nI 0) d_X_strongest_28 (by decide) ?_
    refine tt_istore_n (lv2 := [_, _, _, _, _]) d_X_strongest_29 (by decide) rfl ?_
    refine tt_iconst (v := (-1)) d_X_strongest_30 (by decide) ?_
    refine tt_istore_n (lv2 := [_, _, _, _, _]) d_X_strongest_31 (by decide) rfl ?_
    refine tt_iconst (v := nI 0) d_X_strongest_32 (by decide) ?_
    refine tt_istore_n (lv2 := [_, _, _, _, _]) d_X_strongest_33 (by decide) rfl ?_
    refine tt_iconst (v := nI 0) d_X_strongest_34 (by decide) ?_
    refine tt_istore (lv2 := [_, _, _, _, _]) d_X_strongest_35 (by decide) rfl ?_
    exact x_strongest_l (by omega) ho (eN (wE w)) 0 0 0 (-1) _ rfl (by omega) h hM rfl (Or.inl ⟨rfl, rfl⟩)
  · have hqv : q_strongest w = (-2, none) := by unfold q_strongest; rw [if_pos c_7]
    rw [hqv]
    refine tt_bipush (v := (-2)) d_X_strongest_10 (by decide) ?_
    refine tt_iret rfl d_X_strongest_12 ?_
    exact ⟨rfl, h.none hd0, h.2.1⟩

set_option maxHeartbeats 4000000 in
theorem y_strongest_l {l : xLa} {d : Nat} {σ : xs} {c : Nat} {w : wv} (hn0 : 0 < eN (wE w)) (ho : okQ w) : ∀ (m : Nat) (i b a : Nat) (τ : xs), eN (wE w) - i = m → i ≤ eN (wE w) → YQ c w σ τ → (∀ j, j < eN (wE w) → si τ 169 j = plV (wE w) (wV w) j) → (b, a) = stF (wE w) (wV w) i → T l M_Y_strongest (d + 150) 29 [some (.ref 154), some (.int (nI b)), some (.int (nI a)), some (.int (nI i))] [] τ (fun r τ => r = some (.int (q_strongest w).1) ∧ YW τ c (stD w (q_strongest w).2) ∧ YF σ τ) := by
  have hb0 := ho.fb
  have hb8 := ho.n8
  intro m
  induction m using Nat.strongRecOn with
  | ind m ih =>
    intro i b a τ hm hi h hM hst
    have hsl := stF_lt (e := wE w) (v := wV w) i
    rw [← hst] at hsl
    dsimp only at hsl
    have h9 := (plN_c (wE w) (wV w) i).2
    have hb9 := (plN_c (wE w) (wV w) b).2
    refine tt_iload_n d_Y_strongest_29 rfl ?_
    refine tt_aload_n d_Y_strongest_30 rfl ?_
    refine tn_get d_Y_strongest_31 rfl rfl (by decide) rfl h.e.1.2.2.1 ?_
    refine tn_ic_ge (t := 113) (by omega) (by omega) d_Y_strongest_34 (by decide) (fun c_34 => ?_) (fun c_34 => ?_)
    · obtain rfl : i = eN (wE w) := by omega
      have hqv : q_strongest w = (nI b, some [(nI (plN (wE w) (wV w) b)).toInt64, (nI a).toInt64]) := by
        unfold q_strongest
        rw [if_neg (by omega), ← hst]
      rw [hqv]
      refine tt_aload_n d_Y_strongest_113 rfl ?_
      refine tt_iconst (v := nI 0) d_Y_strongest_114 (by decide) ?_
      refine tt_putI d_Y_strongest_115 rfl rfl (by decide) rfl (xpok_int rfl) rfl ?_
      replace h := h.td0
      have hd := YD_0t h
      replace hM : ∀ j, j < eN (wE w) → si (wF _ 154 1 (nI 0)) 169 j = plV (wE w) (wV w) j := hM
      refine tt_aload_n d_Y_strongest_118 rfl ?_
      refine tt_aload_n d_Y_strongest_119 rfl ?_
      refine tt_getR d_Y_strongest_120 rfl rfl (by decide) rfl rfl ?_
      refine tt_iload_n d_Y_strongest_123 rfl ?_
      refine tn_iald d_Y_strongest_124 rfl (by decide) (by omega) (show _ = nI (plN (wE w) (wV w) b) from (hM _ (by omega)).trans (plN_c _ _ _).1) ?_
      refine tt_i2l d_Y_strongest_125 ?_
      refine tt_callV (yq_add (d := d) h hd (Nat.le_of_ble_eq_true rfl)) cw_Y_enters rfl rfl (by decide) rfl (by omega) d_Y_strongest_126 rfl rfl (Nat.le_of_ble_eq_true rfl) (Nat.le_of_ble_eq_true rfl) rfl rfl rfl (fun v σ2 q => ?_)
      obtain ⟨rfl, h, hd, hf⟩ := q
      refine tt_aload_n d_Y_strongest_129 rfl ?_
      refine tt_iload_n d_Y_strongest_130 rfl ?_
      refine tt_i2l d_Y_strongest_131 ?_
      refine tt_callV (yq_add (d := d) h hd (Nat.le_of_ble_eq_true rfl)) cw_Y_enters rfl rfl (by decide) rfl (by omega) d_Y_strongest_132 rfl rfl (Nat.le_of_ble_eq_true rfl) (Nat.le_of_ble_eq_true rfl) rfl rfl rfl (fun v σ2 q => ?_)
      obtain ⟨rfl, h, hd, hf⟩ := q
      refine tt_iload_n d_Y_strongest_135 rfl ?_
      refine tt_iret rfl d_Y_strongest_136 ?_
      exact ⟨rfl, h.done hd, h.2⟩
    · refine tt_aload_n d_Y_strongest_37 rfl ?_
      refine tt_getR d_Y_strongest_38 rfl rfl (by decide) rfl rfl ?_
      refine tt_iload_n d_Y_strongest_41 rfl ?_
      refine tn_iald d_Y_strongest_42 rfl (by decide) (by omega) (show _ = nI (plN (wE w) (wV w) i) from (hM _ (by omega)).trans (plN_c _ _ _).1) ?_
      refine tt_aload_n d_Y_strongest_43 rfl ?_
      refine tt_getR d_Y_strongest_44 rfl rfl (by decide) rfl rfl ?_
      refine tt_iload_n d_Y_strongest_47 rfl ?_
      refine tn_iald d_Y_strongest_48 rfl (by decide) (by omega) (show _ = nI (plN (wE w) (wV w) b) from (hM _ (by omega)).trans (plN_c _ _ _).1) ?_
      refine tn_ic_gt (t := 56) (by omega) (by omega) d_Y_strongest_49 (by decide) (fun c_49 => ?_) (fun c_49 => ?_)
      · have hz := stF_t hst (Or.inr (by omega))
        refine tt_iconst (v := nI 1) d_Y_strongest_56 (by decide) ?_
        refine tt_goto (t := 85) d_Y_strongest_57 (by decide) ?_
        refine tt_istore_n (lv2 := [_, _, _, _]) d_Y_strongest_85 (by decide) rfl ?_
        refine tt_aload_n d_Y_strongest_86 rfl ?_
        refine tt_getR d_Y_strongest_87 rfl rfl (by decide) rfl rfl ?_
        refine tt_iload_n d_Y_strongest_90 rfl ?_
        refine tn_iald d_Y_strongest_91 rfl (by decide) (by omega) (show _ = nI (plN (wE w) (wV w) i) from (hM _ (by omega)).trans (plN_c _ _ _).1) ?_
        refine tt_aload_n d_Y_strongest_92 rfl ?_
        refine tt_getR d_Y_strongest_93 rfl rfl (by decide) rfl rfl ?_
        refine tt_iload_n d_Y_strongest_96 rfl ?_
        refine tn_iald d_Y_strongest_97 rfl (by decide) (by omega) (show _ = nI (plN (wE w) (wV w) b) from (hM _ (by omega)).trans (plN_c _ _ _).1) ?_
        refine tn_ic_le (t := 105) (by omega) (by omega) d_Y_strongest_98 (by decide) (fun c_98 => ?_) (fun c_98 => ?_)
        · omega
        · skip
          refine tt_iload_n d_Y_strongest_101 rfl ?_
          refine tt_goto (t := 106) d_Y_strongest_102 (by decide) ?_
          refine tt_istore_n (lv2 := [_, _, _, _]) d_Y_strongest_106 (by decide) rfl ?_
          refine tt_iinc (lv2 := [_, _, _, _]) d_Y_strongest_107 rfl (nI_inc _ 1) (by decide) rfl ?_
          refine tt_goto (t := 29) d_Y_strongest_110 (by decide) ?_
          exact ih (eN (wE w) - (i + 1)) (by omega) (i + 1) _ _ _ rfl (by omega) h hM hz
      · refine tt_iload_n d_Y_strongest_52 rfl ?_
        refine tn_if_ne (t := 60) (by omega) d_Y_strongest_53 (by decide) (fun c_53 => ?_) (fun c_53 => ?_)
        · have hz := stF_f hst (by omega)
          refine tt_iload_n d_Y_strongest_60 rfl ?_
          refine tt_aload_n d_Y_strongest_61 rfl ?_
          refine tt_getR d_Y_strongest_62 rfl rfl (by decide) rfl rfl ?_
          refine tt_iload_n d_Y_strongest_65 rfl ?_
          refine tn_iald d_Y_strongest_66 rfl (by decide) (by omega) (show _ = nI (plN (wE w) (wV w) i) from (hM _ (by omega)).trans (plN_c _ _ _).1) ?_
          refine tt_aload_n d_Y_strongest_67 rfl ?_
          refine tt_getR d_Y_strongest_68 rfl rfl (by decide) rfl rfl ?_
          refine tt_iload_n d_Y_strongest_71 rfl ?_
          refine tn_iald d_Y_strongest_72 rfl (by decide) (by omega) (show _ = nI (plN (wE w) (wV w) b) from (hM _ (by omega)).trans (plN_c _ _ _).1) ?_
          refine tn_ic_ne (t := 80) (by omega) (by omega) d_Y_strongest_73 (by decide) (fun c_73 => ?_) (fun c_73 => ?_)
          · rw [if_neg c_73] at hz
            refine tt_iconst (v := nI 0) d_Y_strongest_80 (by decide) ?_
            refine tt_callS (y_flagN (d := d) (by omega)) cw_Y_flag rfl (by omega) d_Y_strongest_81 rfl rfl (Nat.le_of_ble_eq_true rfl) (Nat.le_of_ble_eq_true rfl) rfl rfl rfl (fun v σ2 q => ?_)
            obtain ⟨rfl, e9⟩ := q
            rw [e9]
            clear e9
            refine tn_iadd d_Y_strongest_84 ?_
            refine tt_istore_n (lv2 := [_, _, _, _]) d_Y_strongest_85 (by decide) rfl ?_
            refine tt_aload_n d_Y_strongest_86 rfl ?_
            refine tt_getR d_Y_strongest_87 rfl rfl (by decide) rfl rfl ?_
            refine tt_iload_n d_Y_strongest_90 rfl ?_
            refine tn_iald d_Y_strongest_91 rfl (by decide) (by omega) (show _ = nI (plN (wE w) (wV w) i) from (hM _ (by omega)).trans (plN_c _ _ _).1) ?_
            refine tt_aload_n d_Y_strongest_92 rfl ?_
            refine tt_getR d_Y_strongest_93 rfl rfl (by decide) rfl rfl ?_
            refine tt_iload_n d_Y_strongest_96 rfl ?_
            refine tn_iald d_Y_strongest_97 rfl (by decide) (by omega) (show _ = nI (plN (wE w) (wV w) b) from (hM _ (by omega)).trans (plN_c _ _ _).1) ?_
            refine tn_ic_le (t := 105) (by omega) (by omega) d_Y_strongest_98 (by decide) (fun c_98 => ?_) (fun c_98 => ?_)
            · skip
              refine tt_iload_n d_Y_strongest_105 rfl ?_
              refine tt_istore_n (lv2 := [_, _, _, _]) d_Y_strongest_106 (by decide) rfl ?_
              refine tt_iinc (lv2 := [_, _, _, _]) d_Y_strongest_107 rfl (nI_inc _ 1) (by decide) rfl ?_
              refine tt_goto (t := 29) d_Y_strongest_110 (by decide) ?_
              exact ih (eN (wE w) - (i + 1)) (by omega) (i + 1) _ _ _ rfl (by omega) h hM hz
            · omega
          · rw [if_pos c_73] at hz
            refine tt_iconst (v := nI 1) d_Y_strongest_76 (by decide) ?_
            refine tt_goto (t := 81) d_Y_strongest_77 (by decide) ?_
            refine tt_callS (y_flagN (d := d) (by omega)) cw_Y_flag rfl (by omega) d_Y_strongest_81 rfl rfl (Nat.le_of_ble_eq_true rfl) (Nat.le_of_ble_eq_true rfl) rfl rfl rfl (fun v σ2 q => ?_)
            obtain ⟨rfl, e9⟩ := q
            rw [e9]
            clear e9
            refine tn_iadd d_Y_strongest_84 ?_
            refine tt_istore_n (lv2 := [_, _, _, _]) d_Y_strongest_85 (by decide) rfl ?_
            refine tt_aload_n d_Y_strongest_86 rfl ?_
            refine tt_getR d_Y_strongest_87 rfl rfl (by decide) rfl rfl ?_
            refine tt_iload_n d_Y_strongest_90 rfl ?_
            refine tn_iald d_Y_strongest_91 rfl (by decide) (by omega) (show _ = nI (plN (wE w) (wV w) i) from (hM _ (by omega)).trans (plN_c _ _ _).1) ?_
            refine tt_aload_n d_Y_strongest_92 rfl ?_
            refine tt_getR d_Y_strongest_93 rfl rfl (by decide) rfl rfl ?_
            refine tt_iload_n d_Y_strongest_96 rfl ?_
            refine tn_iald d_Y_strongest_97 rfl (by decide) (by omega) (show _ = nI (plN (wE w) (wV w) b) from (hM _ (by omega)).trans (plN_c _ _ _).1) ?_
            refine tn_ic_le (t := 105) (by omega) (by omega) d_Y_strongest_98 (by decide) (fun c_98 => ?_) (fun c_98 => ?_)
            · skip
              refine tt_iload_n d_Y_strongest_105 rfl ?_
              refine tt_istore_n (lv2 := [_, _, _, _]) d_Y_strongest_106 (by decide) rfl ?_
              refine tt_iinc (lv2 := [_, _, _, _]) d_Y_strongest_107 rfl (nI_inc _ 1) (by decide) rfl ?_
              refine tt_goto (t := 29) d_Y_strongest_110 (by decide) ?_
              exact ih (eN (wE w) - (i + 1)) (by omega) (i + 1) _ _ _ rfl (by omega) h hM hz
            · omega
        · have hz := stF_t hst (Or.inl (by omega))
          refine tt_iconst (v := nI 1) d_Y_strongest_56 (by decide) ?_
          refine tt_goto (t := 85) d_Y_strongest_57 (by decide) ?_
          refine tt_istore_n (lv2 := [_, _, _, _]) d_Y_strongest_85 (by decide) rfl ?_
          refine tt_aload_n d_Y_strongest_86 rfl ?_
          refine tt_getR d_Y_strongest_87 rfl rfl (by decide) rfl rfl ?_
          refine tt_iload_n d_Y_strongest_90 rfl ?_
          refine tn_iald d_Y_strongest_91 rfl (by decide) (by omega) (show _ = nI (plN (wE w) (wV w) i) from (hM _ (by omega)).trans (plN_c _ _ _).1) ?_
          refine tt_aload_n d_Y_strongest_92 rfl ?_
          refine tt_getR d_Y_strongest_93 rfl rfl (by decide) rfl rfl ?_
          refine tt_iload_n d_Y_strongest_96 rfl ?_
          refine tn_iald d_Y_strongest_97 rfl (by decide) (by omega) (show _ = nI (plN (wE w) (wV w) b) from (hM _ (by omega)).trans (plN_c _ _ _).1) ?_
          refine tn_ic_le (t := 105) (by omega) (by omega) d_Y_strongest_98 (by decide) (fun c_98 => ?_) (fun c_98 => ?_)
          · skip
            refine tt_iload_n d_Y_strongest_105 rfl ?_
            refine tt_istore_n (lv2 := [_, _, _, _]) d_Y_strongest_106 (by decide) rfl ?_
            refine tt_iinc (lv2 := [_, _, _, _]) d_Y_strongest_107 rfl (nI_inc _ 1) (by decide) rfl ?_
            refine tt_goto (t := 29) d_Y_strongest_110 (by decide) ?_
            obtain rfl : i = 0 := by omega
            obtain rfl : b = 0 := by omega
            exact ih (eN (wE w) - (0 + 1)) (by omega) (0 + 1) _ _ _ rfl (by omega) h hM hz
          · omega

set_option maxHeartbeats 4000000 in
theorem yc_strongest {l : xLa} {d c : Nat} {σ : xs} {w : wv} (ho : okQ w) (hw : YW σ c w)  : TC l M_Y_strongest (d + 150) [.ref 154] σ (fun r τ => r = some (.int ((q_strongest w).1)) ∧ YW τ c (stD w ((q_strongest w).2)) ∧ YF σ τ) := by
  show T l M_Y_strongest (d + 150) 0 _ [] σ _
  refine T_lv (lv2 := [_, _, _, _]) rfl ?_
  have h := YQ.rf hw.v
  have hd0 := hw.2.2.2.1
  have hb0 := ho.fb
  have hb8 := ho.n8
  refine tt_aload_n d_Y_strongest_0 rfl ?_
  refine tt_iconst (v := nI 0) d_Y_strongest_1 (by decide) ?_
  refine tt_putI d_Y_strongest_2 rfl rfl (by decide) rfl (xpok_int rfl) rfl ?_
  replace h := h.thr (x := nI 0)
  replace hd0 := hd0.thr (x := nI 0)
  refine tt_aload_n d_Y_strongest_5 rfl ?_
  refine tn_get d_Y_strongest_6 rfl rfl (by decide) rfl h.e.1.2.2.1 ?_
  refine tn_if_ne (t := 15) (by omega) d_Y_strongest_9 (by decide) (fun c_9 => ?_) (fun c_9 => ?_)
  · refine tt_aload_n d_Y_strongest_15 rfl ?_
    refine tt_aload_n d_Y_strongest_16 rfl ?_
    refine tt_getR d_Y_strongest_17 rfl rfl (by decide) rfl rfl ?_
    refine tt_callV (yq_pulls (d := d) h ho.1 ho.2.1) cw_Y_laysPulls rfl rfl (by decide) rfl (by omega) d_Y_strongest_20 rfl rfl (Nat.le_of_ble_eq_true rfl) (Nat.le_of_ble_eq_true rfl) rfl rfl rfl (fun v σ2 q => ?_)
    obtain ⟨rfl, h, hu, hM⟩ := q
    replace hd0 := hd0.un hu
    refine tt_iconst (v := nI 0) d_Y_strongest_23 (by decide) ?_
    refine tt_istore_n (lv2 := [_, _, _, _]) d_Y_strongest_24 (by decide) rfl ?_
    refine tt_iconst (v := nI 0) d_Y_strongest_25 (by decide) ?_
    refine tt_istore_n (lv2 := [_, _, _, _]) d_Y_strongest_26 (by decide) rfl ?_
    refine tt_iconst (v := nI 0) d_Y_strongest_27 (by decide) ?_
    refine tt_istore_n (lv2 := [_, _, _, _]) d_Y_strongest_28 (by decide) rfl ?_
    exact y_strongest_l (by omega) ho (eN (wE w)) 0 0 0 _ rfl (by omega) h hM rfl
  · have hqv : q_strongest w = (-2, none) := by unfold q_strongest; rw [if_pos c_9]
    rw [hqv]
    refine tt_bipush (v := (-2)) d_Y_strongest_12 (by decide) ?_
    refine tt_iret rfl d_Y_strongest_14 ?_
    exact ⟨rfl, h.none hd0, h.2⟩

