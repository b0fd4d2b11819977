/-! Questions: sends of the reference. Printed by wip/whole. -/
theorem prm_2 {v : sv} {s f c j : Nat} : ∀ n, (prm v s f c n) 2 j = v 2 j
  | 0 => rfl
  | n + 1 => by
    show (if s.testBit n = true then upv (upv (prm v s f c n) 3 n (f + 1)) 4 n c else prm v s f c n) 2 j = _
    split
    · exact prm_2 n
    · exact prm_2 n
theorem prm_y {w : wv} {s f c k : Nat} (h : dfN s (abW w) = 0) (hk : s.testBit k = true) : prV (wE w) (prm (wV w) s f c k) k f c = prm (wV w) s f c (k + 1) := by
  have h1 := ab_t h hk
  unfold prV
  rw [prm_2, if_neg h1]
  show _ = if s.testBit k = true then _ else _
  rw [if_pos hk]
  rfl
theorem prm_n {v : sv} {s f c k : Nat} (hk : ¬ s.testBit k = true) : prm v s f c k = prm v s f c (k + 1) := by
  show _ = if s.testBit k = true then _ else _
  rw [if_neg hk]
theorem Un_sf {σ τ υ : xs} (h : Un σ τ) (h1 : sf υ = sf τ) (h2 : sj υ = sj τ) : Un σ υ := ⟨by rw [h1]; exact h.1, by rw [h2]; exact h.2⟩
/-- whether a set is fewer -/
def fwI (s b : Nat) : Nat := if b = 0 ∨ pcN s < pcN (b - 1) then 1 else 0
set_option maxHeartbeats 4000000 in
theorem y_able_l {l : xLa} {d : Nat} {σ : xs} {c : Nat} {w : wv} (ho : okQ w) : ∀ (m : Nat) (i b : Nat) (τ : xs), eN (wE w) - i = m → i ≤ eN (wE w) → b = abN (wE w) (wV w) i → YQ c w σ τ → T l M_Y_able (d + 3) 4 [some (.ref 154), some (.int (nI b)), some (.int (nI i))] [] τ (fun r υ => r = some (.int (nI (abW w))) ∧ υ = τ) := by
  have hb0 := ho.fb
  have hb8 := ho.n8
  intro m
  induction m using Nat.strongRecOn with
  | ind m ih =>
    intro i b τ hm hi hb h
    have hbl := ab_lt ho hi
    rw [← hb] at hbl
    have hcl := cb_le (wE w) (wV w) i
    refine tt_iload_n d_Y_able_4 rfl ?_
    refine tt_aload_n d_Y_able_5 rfl ?_
    refine tn_get d_Y_able_6 rfl rfl (by decide) rfl h.e.1.2.2.1 ?_
    refine tn_ic_ge (t := 40) (by omega) (by omega) d_Y_able_9 (by decide) (fun c_9 => ?_) (fun c_9 => ?_)
    · obtain rfl : i = eN (wE w) := by omega
      replace hb : b = abW w := hb
      subst hb
      refine tt_iload_n d_Y_able_40 rfl ?_
      refine tt_iret rfl d_Y_able_41 ?_
      exact ⟨rfl, rfl⟩
    · refine tt_iload_n d_Y_able_12 rfl ?_
      refine tt_aload_n d_Y_able_13 rfl ?_
      refine tt_aload_n d_Y_able_14 rfl ?_
      refine tt_getR d_Y_able_15 rfl rfl (by decide) rfl rfl ?_
      refine tt_iload_n d_Y_able_18 rfl ?_
      refine tt_callV (y_canBe (d := d) h ho (by omega)) cw_Y_canBePromised rfl rfl (by decide) rfl (by omega) d_Y_able_19 rfl rfl (Nat.le_of_ble_eq_true rfl) (Nat.le_of_ble_eq_true rfl) rfl rfl rfl (fun v σ2 q => ?_)
      obtain ⟨rfl, e9⟩ := q
      rw [e9]
      clear e9
      refine tn_if_eq (t := 31) (by omega) d_Y_able_22 (by decide) (fun c_22 => ?_) (fun c_22 => ?_)
      · refine tt_iconst (v := nI 0) d_Y_able_31 (by decide) ?_
        refine tt_ior d_Y_able_32 ?_
        refine tt_top (or_N _ _) ?_
        refine tt_istore_n (lv2 := [_, _, _]) d_Y_able_33 (by decide) rfl ?_
        refine tt_iinc (lv2 := [_, _, _]) d_Y_able_34 rfl (nI_inc _ 1) (by decide) rfl ?_
        refine tt_goto (t := 4) d_Y_able_37 (by decide) ?_
        exact ih (eN (wE w) - (i + 1)) (by omega) (i + 1) _ _ rfl (by omega) (ab_n hb c_22) h
      · refine tt_iconst (v := nI 1) d_Y_able_25 (by decide) ?_
        refine tt_iload_n d_Y_able_26 rfl ?_
        refine tt_ishl d_Y_able_27 ?_
        refine tt_top (shl_9 _ (by omega)) ?_
        refine tt_goto (t := 32) d_Y_able_28 (by decide) ?_
        refine tt_ior d_Y_able_32 ?_
        refine tt_top (or_N _ _) ?_
        refine tt_istore_n (lv2 := [_, _, _]) d_Y_able_33 (by decide) rfl ?_
        refine tt_iinc (lv2 := [_, _, _]) d_Y_able_34 rfl (nI_inc _ 1) (by decide) rfl ?_
        refine tt_goto (t := 4) d_Y_able_37 (by decide) ?_
        exact ih (eN (wE w) - (i + 1)) (by omega) (i + 1) _ _ rfl (by omega) (ab_y hb c_22) h

theorem y_able {l : xLa} {d c : Nat} {σ τ : xs} {w : wv} (h : YQ c w σ τ) (ho : okQ w) : TE l M_Y_able (d + 3) [.ref 154] τ (some (.int (nI (abW w)))) τ := by
  show T l M_Y_able (d + 3) 0 _ [] τ _
  refine T_lv (lv2 := [_, _, _]) rfl ?_
  refine tt_iconst (v := nI 0) d_Y_able_0 (by decide) ?_
  refine tt_istore_n (lv2 := [_, _, _]) d_Y_able_1 (by decide) rfl ?_
  refine tt_iconst (v := nI 0) d_Y_able_2 (by decide) ?_
  refine tt_istore_n (lv2 := [_, _, _]) d_Y_able_3 (by decide) rfl ?_
  exact y_able_l ho (eN (wE w)) 0 0 _ rfl (by omega) rfl h

theorem y_fewer {l : xLa} {d : Nat} {τ : xs} {s b : Nat} (hs : s < 256) (hb : b ≤ 256) : TE l M_Y_isFewer (d + 2) [.int (nI s), .int (gI b)] τ (some (.int (nI (fwI s b)))) τ := by
  show T l M_Y_isFewer (d + 2) 0 _ [] τ _
  refine T_lv (lv2 := [_, _]) rfl ?_
  have hp1 := pcN_le s
  have hp2 := pcN_le (b - 1)
  unfold fwI
  refine tt_iload_n d_Y_isFewer_0 rfl ?_
  refine tt_if_lt (t := 15) d_Y_isFewer_1 (by decide) (fun c_1 => ?_) (fun c_1 => ?_)
  · have hb0 := (gI_lt (by omega)).mp c_1
    refine tt_iconst (v := nI 1) d_Y_isFewer_15 (by decide) ?_
    refine tt_goto (t := 20) d_Y_isFewer_16 (by decide) ?_
    refine tt_zret rfl rfl d_Y_isFewer_20 ?_
    first | (rw [if_pos (by omega)]; exact ⟨rfl, rfl⟩) | (rw [if_neg (by omega)]; exact ⟨rfl, rfl⟩)
  · have hb0 : ¬ b = 0 := fun q => c_1 ((gI_lt (by omega)).mpr q)
    have hb1 := (gI_c (show b < 2 ^ 31 by omega)).2 hb0
    refine tt_iload_n d_Y_isFewer_4 rfl ?_
    refine tt_callS (x_bitN (d := d) hs) cw_Integer_bitCount rfl (by omega) d_Y_isFewer_5 rfl rfl (Nat.le_of_ble_eq_true rfl) (Nat.le_of_ble_eq_true rfl) rfl rfl rfl (fun v σ2 q => ?_)
    obtain ⟨rfl, e9⟩ := q
    rw [e9]
    clear e9
    refine tt_iload_n (x := nI (b - 1)) d_Y_isFewer_8 (congrArg (fun z => some (some (Value.int z))) hb1) ?_
    refine tt_callS (x_bitN (d := d) (by omega)) cw_Integer_bitCount rfl (by omega) d_Y_isFewer_9 rfl rfl (Nat.le_of_ble_eq_true rfl) (Nat.le_of_ble_eq_true rfl) rfl rfl rfl (fun v σ2 q => ?_)
    obtain ⟨rfl, e9⟩ := q
    rw [e9]
    clear e9
    refine tn_ic_ge (t := 19) (by omega) (by omega) d_Y_isFewer_12 (by decide) (fun c_12 => ?_) (fun c_12 => ?_)
    · refine tt_iconst (v := nI 0) d_Y_isFewer_19 (by decide) ?_
      refine tt_zret rfl rfl d_Y_isFewer_20 ?_
      first | (rw [if_pos (by omega)]; exact ⟨rfl, rfl⟩) | (rw [if_neg (by omega)]; exact ⟨rfl, rfl⟩)
    · refine tt_iconst (v := nI 1) d_Y_isFewer_15 (by decide) ?_
      refine tt_goto (t := 20) d_Y_isFewer_16 (by decide) ?_
      refine tt_zret rfl rfl d_Y_isFewer_20 ?_
      first | (rw [if_pos (by omega)]; exact ⟨rfl, rfl⟩) | (rw [if_neg (by omega)]; exact ⟨rfl, rfl⟩)

set_option maxHeartbeats 4000000 in
theorem y_sent_l {l : xLa} {d : Nat} {σ : xs} {c : Nat} {w : wv} {s f cc n : Nat} {σ0 : xs} (hs : s < 256) (hsa : dfN s (abW w) = 0) (hf : f < eR (wE w) * eC (wE w)) (hc : cc ≤ 9) (hn : n ≤ 20) (ho : okQ w) : ∀ (m : Nat) (i : Nat) (τ : xs), eN (wE w) - i = m → i ≤ eN (wE w) → YQ c w σ τ → Un σ0 τ → SY τ 161 (eN (wE w)) (prm (wV w) s f cc i) → T l M_Y_sentIn (d + 30) 7 [some (.ref 154), some (.int (nI s)), some (.int (nI f)), some (.int (nI cc)), some (.int (nI n)), some (.int (nI i))] [] τ (fun r υ => r = some (.int (arI (aryN (wE w) (prm (wV w) s f cc (eN (wE w))) f n))) ∧ YQ c w σ υ ∧ Un σ0 υ) := by
  have hb0 := ho.fb
  have hb8 := ho.n8
  intro m
  induction m using Nat.strongRecOn with
  | ind m ih =>
    intro i τ hm hi h ht hS
    have hv := ok_prm (s := s) (c := cc) ho.2.1 hf hc i
    refine tt_iload d_Y_sentIn_7 rfl ?_
    refine tt_aload_n d_Y_sentIn_9 rfl ?_
    refine tn_get d_Y_sentIn_10 rfl rfl (by decide) rfl h.e.1.2.2.1 ?_
    refine tn_ic_ge (t := 45) (by omega) (by omega) d_Y_sentIn_13 (by decide) (fun c_13 => ?_) (fun c_13 => ?_)
    · obtain rfl : i = eN (wE w) := by omega
      refine tt_aload_n d_Y_sentIn_45 rfl ?_
      refine tt_iload_n d_Y_sentIn_46 rfl ?_
      refine tt_iload d_Y_sentIn_47 rfl ?_
      refine tt_callV (yq_comesIn (d := d) h hS hv (by rw [prm_0r]; exact ho.2.2) hf (by omega) ho) cw_Y_comesIn rfl rfl (by decide) rfl (by omega) d_Y_sentIn_49 rfl rfl (Nat.le_of_ble_eq_true rfl) (Nat.le_of_ble_eq_true rfl) rfl rfl rfl (fun v σ2 q => ?_)
      obtain ⟨rfl, h, hu, hA⟩ := q
      refine tt_iret rfl d_Y_sentIn_52 ?_
      exact ⟨rfl, h, ht.tr hu⟩
    · refine tt_iload_n d_Y_sentIn_16 rfl ?_
      refine tt_i2l d_Y_sentIn_17 ?_
      refine tt_iload d_Y_sentIn_18 rfl ?_
      refine tt_callS (y_has (d := d) hs (by omega)) cw_Y_has rfl (by omega) d_Y_sentIn_20 rfl rfl (Nat.le_of_ble_eq_true rfl) (Nat.le_of_ble_eq_true rfl) rfl rfl rfl (fun v σ2 q => ?_)
      obtain ⟨rfl, e9⟩ := q
      rw [e9]
      clear e9
      refine tt_if_eq (t := 39) d_Y_sentIn_23 (by decide) (fun c_23 => ?_) (fun c_23 => ?_)
      · have hz := prm_n (v := wV w) (f := f) (c := cc) (tbI_0.mp c_23)
        rw [hz] at hS
        refine tt_iinc (lv2 := [_, _, _, _, _, _]) d_Y_sentIn_39 rfl (nI_inc _ 1) (by decide) rfl ?_
        refine tt_goto (t := 7) d_Y_sentIn_42 (by decide) ?_
        exact ih (eN (wE w) - (i + 1)) (by omega) (i + 1) _ rfl (by omega) h ht hS
      · have hk : s.testBit i = true := Decidable.not_not.mp (fun q => c_23 (tbI_0.mpr q))
        refine tt_aload_n d_Y_sentIn_26 rfl ?_
        refine tt_aload_n d_Y_sentIn_27 rfl ?_
        refine tt_getR d_Y_sentIn_28 rfl rfl (by decide) rfl rfl ?_
        refine tt_iload d_Y_sentIn_31 rfl ?_
        refine tt_iload_n d_Y_sentIn_33 rfl ?_
        refine tt_iload_n d_Y_sentIn_34 rfl ?_
        refine tt_callV (yq_prT (d := d) h ho hv hS (by omega) hf hc) cw_Y_promises rfl rfl (by decide) rfl (by omega) d_Y_sentIn_35 rfl rfl (Nat.le_of_ble_eq_true rfl) (Nat.le_of_ble_eq_true rfl) rfl rfl rfl (fun v σ2 q => ?_)
        obtain ⟨x0, rfl, h, hS, hu1, hu2⟩ := q
        rw [prm_y hsa hk] at hS
        replace ht := Un_sf ht hu1 hu2
        refine tt_pop d_Y_sentIn_38 rfl ?_
        refine tt_iinc (lv2 := [_, _, _, _, _, _]) d_Y_sentIn_39 rfl (nI_inc _ 1) (by decide) rfl ?_
        refine tt_goto (t := 7) d_Y_sentIn_42 (by decide) ?_
        exact ih (eN (wE w) - (i + 1)) (by omega) (i + 1) _ rfl (by omega) h ht hS

theorem yq_sent {l : xLa} {d c : Nat} {σ τ : xs} {w : wv} {s f cc n : Nat} (h : YQ c w σ τ) (hs : s < 256) (hsa : dfN s (abW w) = 0) (hf : f < eR (wE w) * eC (wE w)) (hc : cc ≤ 9) (hn : n ≤ 20) (ho : okQ w) : TC l M_Y_sentIn (d + 30) [.ref 154, .int (nI s), .int (nI f), .int (nI cc), .int (nI n)] τ (fun r υ => r = some (.int (arI (aryN (wE w) (prm (wV w) s f cc (eN (wE w))) f n))) ∧ YQ c w σ υ ∧ Un τ υ) := by
  show T l M_Y_sentIn (d + 30) 0 _ [] τ _
  refine T_lv (lv2 := [_, _, _, _, _, _]) rfl ?_
  refine tt_aload_n d_Y_sentIn_0 rfl ?_
  refine tt_callV (yq_copies (d := d) h ho.n8) cw_Y_copies rfl rfl (by decide) rfl (by omega) d_Y_sentIn_1 rfl rfl (Nat.le_of_ble_eq_true rfl) (Nat.le_of_ble_eq_true rfl) rfl rfl rfl (fun v σ2 q => ?_)
  obtain ⟨rfl, h, hS, hu, -⟩ := q
  refine tt_iconst (v := nI 0) d_Y_sentIn_4 (by decide) ?_
  refine tt_istore (lv2 := [_, _, _, _, _, _]) d_Y_sentIn_5 (by decide) rfl ?_
  exact y_sent_l hs hsa hf hc hn ho (eN (wE w)) 0 _ rfl (by omega) h hu hS

set_option maxHeartbeats 4000000 in
theorem y_sends_l {l : xLa} {d : Nat} {σ : xs} {c : Nat} {w : wv} {g z k : Nat} (hg : g < eR (wE w) * eC (wE w)) (hz : z ≤ 9) (hk : k ≤ 20) (ho : okQ w) : ∀ (m : Nat) (i b : Nat) (τ : xs), abW w + 1 - i = m → i ≤ abW w + 1 → b = fwN (arB w g z k) (abW w) i → YQ c w σ τ → YD τ (wD w) → T l M_Y_sends (d + 150) 51 [some (.ref 154), some (.int (nI g)), some (.int (nI z)), some (.int (nI k)), some (.int (nI (abW w))), some (.int (gI b)), some (.int (nI i))] [] τ (fun r τ => r = some (.int (sdA w g z k (feN (arB w g z k) (abW w))).1) ∧ YW τ c (stD w (sdA w g z k (feN (arB w g z k) (abW w))).2) ∧ YF σ τ) := by
  have hb0 := ho.fb
  have hb8 := ho.n8
  intro m
  induction m using Nat.strongRecOn with
  | ind m ih =>
    intro i b τ hm hi hb h hd0
    have hab : abW w < 256 := ab_lt ho (Nat.le_refl _)
    have hbl : b ≤ 256 := by
      cases hq : b with
      | zero => omega
      | succ s => rw [hq] at hb; have := (fw_s _ s hb.symm).1; omega
    refine tt_iload d_Y_sends_51 rfl ?_
    refine tt_iload d_Y_sends_53 rfl ?_
    refine tn_ic_gt (t := 105) (by omega) (by omega) d_Y_sends_55 (by decide) (fun c_55 => ?_) (fun c_55 => ?_)
    · obtain rfl : i = abW w + 1 := by omega
      replace hb : b = feN (arB w g z k) (abW w) := hb
      rw [← hb]
      refine tt_iload d_Y_sends_105 rfl ?_
      refine tt_if_ge (t := 113) d_Y_sends_107 (by decide) (fun c_107 => ?_) (fun c_107 => ?_)
      · have hb0 : ¬ b = 0 := fun q => fa_nlt2 ((gI_lt (by omega)).mpr q) c_107
        obtain ⟨s, rfl⟩ : ∃ s, b = s + 1 := ⟨b - 1, by omega⟩
        obtain ⟨s1, s2, s3, s4⟩ := fe_s hb.symm
        unfold sdA
        refine T_lv (lv2 := [_, _, _, _, _, some (.int (nI s)), _]) rfl ?_
        refine tt_aload_n d_Y_sends_113 rfl ?_
        refine tt_iconst (v := nI 0) d_Y_sends_114 (by decide) ?_
        refine tt_putI d_Y_sends_115 rfl rfl (by decide) rfl (xpok_int rfl) rfl ?_
        replace h := h.td0
        have hd := YD_0t h
        refine tt_aload_n d_Y_sends_118 rfl ?_
        refine tt_iload d_Y_sends_119 rfl ?_
        refine tt_i2l d_Y_sends_121 ?_
        refine tt_callV (yq_add (d := d) h hd (Nat.le_of_ble_eq_true rfl)) cw_Y_enters rfl rfl (by decide) rfl (by omega) d_Y_sends_122 rfl rfl (Nat.le_of_ble_eq_true rfl) (Nat.le_of_ble_eq_true rfl) rfl rfl rfl (fun v σ2 q => ?_)
        obtain ⟨rfl, h, hd, hf⟩ := q
        refine tt_aload_n d_Y_sends_125 rfl ?_
        refine tt_aload_n d_Y_sends_126 rfl ?_
        refine tt_iload d_Y_sends_127 rfl ?_
        refine tt_iload_n d_Y_sends_129 rfl ?_
        refine tt_iload_n d_Y_sends_130 rfl ?_
        refine tt_iload_n d_Y_sends_131 rfl ?_
        refine tt_callV (yq_sent (d := d) h (by omega) s2 hg (by omega) (by omega) ho) cw_Y_sentIn rfl rfl (by decide) rfl (by omega) d_Y_sends_132 rfl rfl (Nat.le_of_ble_eq_true rfl) (Nat.le_of_ble_eq_true rfl) rfl rfl rfl (fun v σ2 q => ?_)
        obtain ⟨rfl, h, hu⟩ := q
        replace hd := hd.un hu
        refine tt_i2l d_Y_sends_135 ?_
        refine tt_callV (yq_add (d := d) h hd (Nat.le_of_ble_eq_true rfl)) cw_Y_enters rfl rfl (by decide) rfl (by omega) d_Y_sends_136 rfl rfl (Nat.le_of_ble_eq_true rfl) (Nat.le_of_ble_eq_true rfl) rfl rfl rfl (fun v σ2 q => ?_)
        obtain ⟨rfl, h, hd, hf⟩ := q
        refine tt_iload d_Y_sends_139 rfl ?_
        refine tt_callS (x_bitN (d := d) (by omega)) cw_Integer_bitCount rfl (by omega) d_Y_sends_141 rfl rfl (Nat.le_of_ble_eq_true rfl) (Nat.le_of_ble_eq_true rfl) rfl rfl rfl (fun v σ2 q => ?_)
        obtain ⟨rfl, e9⟩ := q
        rw [e9]
        clear e9
        refine tt_iret rfl d_Y_sends_144 ?_
        exact ⟨rfl, h.done hd, h.2⟩
      · have hb0 := (gI_lt (by omega)).mp (Int32.not_le.mp c_107)
        subst hb0
        unfold sdA
        refine tt_bipush (v := (-2)) d_Y_sends_110 (by decide) ?_
        refine tt_iret rfl d_Y_sends_112 ?_
        exact ⟨rfl, h.none hd0, h.2⟩
    · have hdl : dfN i (abW w) < 2 ^ 30 := dfN_lt (by omega)
      refine tt_iload d_Y_sends_58 rfl ?_
      refine tt_iload d_Y_sends_60 rfl ?_
      refine tt_iconst (v := (-1)) d_Y_sends_62 (by decide) ?_
      refine tt_ixor d_Y_sends_63 ?_
      refine tt_iand d_Y_sends_64 ?_
      refine tt_top (an_N _ _) ?_
      refine tn_if_ne (t := 95) (by omega) d_Y_sends_65 (by decide) (fun c_65 => ?_) (fun c_65 => ?_)
      · refine tt_iload d_Y_sends_95 rfl ?_
        refine tt_istore (lv2 := [_, _, _, _, _, _, _]) d_Y_sends_97 (by decide) rfl ?_
        refine tt_iinc (lv2 := [_, _, _, _, _, _, _]) d_Y_sends_99 rfl (nI_inc _ 1) (by decide) rfl ?_
        refine tt_goto (t := 51) d_Y_sends_102 (by decide) ?_
        exact ih (abW w + 1 - (i + 1)) (by omega) (i + 1) _ _ rfl (by omega) (hb.trans (fw_n (fun y => c_65 y.1.1))) h hd0
      · refine tt_iload d_Y_sends_68 rfl ?_
        refine tt_iload d_Y_sends_70 rfl ?_
        refine tt_callS (y_fewer (d := d) (by omega) hbl) cw_Y_isFewer rfl (by omega) d_Y_sends_72 rfl rfl (Nat.le_of_ble_eq_true rfl) (Nat.le_of_ble_eq_true rfl) rfl rfl rfl (fun v σ2 q => ?_)
        obtain ⟨rfl, e9⟩ := q
        rw [e9]
        clear e9
        have hfl : fwI i b ≤ 1 := by unfold fwI; split <;> omega
        refine tn_if_eq (t := 95) (by omega) d_Y_sends_75 (by decide) (fun c_75 => ?_) (fun c_75 => ?_)
        · have hfw : ¬ (fwN (arB w g z k) (abW w) i = 0 ∨ pcN i < pcN (fwN (arB w g z k) (abW w) i - 1)) := fun y => by rw [← hb] at y; unfold fwI at c_75; rw [if_pos y] at c_75; omega
          refine tt_iload d_Y_sends_95 rfl ?_
          refine tt_istore (lv2 := [_, _, _, _, _, _, _]) d_Y_sends_97 (by decide) rfl ?_
          refine tt_iinc (lv2 := [_, _, _, _, _, _, _]) d_Y_sends_99 rfl (nI_inc _ 1) (by decide) rfl ?_
          refine tt_goto (t := 51) d_Y_sends_102 (by decide) ?_
          exact ih (abW w + 1 - (i + 1)) (by omega) (i + 1) _ _ rfl (by omega) (hb.trans (fw_n (fun y => hfw y.1.2))) h hd0
        · have hfw : fwN (arB w g z k) (abW w) i = 0 ∨ pcN i < pcN (fwN (arB w g z k) (abW w) i - 1) := Decidable.byContradiction (fun y => by rw [← hb] at y; unfold fwI at c_75; rw [if_neg y] at c_75; exact c_75 rfl)
          refine tt_aload_n d_Y_sends_78 rfl ?_
          refine tt_iload d_Y_sends_79 rfl ?_
          refine tt_iload_n d_Y_sends_81 rfl ?_
          refine tt_iload_n d_Y_sends_82 rfl ?_
          refine tt_iload_n d_Y_sends_83 rfl ?_
          refine tt_callV (yq_sent (d := d) h (by omega) c_65 hg (by omega) (by omega) ho) cw_Y_sentIn rfl rfl (by decide) rfl (by omega) d_Y_sends_84 rfl rfl (Nat.le_of_ble_eq_true rfl) (Nat.le_of_ble_eq_true rfl) rfl rfl rfl (fun v σ2 q => ?_)
          obtain ⟨rfl, h, hu⟩ := q
          replace hd0 := hd0.un hu
          have ha := arI_c (e := wE w) (u := prm (wV w) i g z (eN (wE w))) (f := g) (n := k) (by omega)
          refine tt_if_lt (t := 95) d_Y_sends_87 (by decide) (fun c_87 => ?_) (fun c_87 => ?_)
          · refine tt_iload d_Y_sends_95 rfl ?_
            refine tt_istore (lv2 := [_, _, _, _, _, _, _]) d_Y_sends_97 (by decide) rfl ?_
            refine tt_iinc (lv2 := [_, _, _, _, _, _, _]) d_Y_sends_99 rfl (nI_inc _ 1) (by decide) rfl ?_
            refine tt_goto (t := 51) d_Y_sends_102 (by decide) ?_
            exact ih (abW w + 1 - (i + 1)) (by omega) (i + 1) _ _ rfl (by omega) (hb.trans (fw_n (fun y => arB_t.mp y.2 (ha.2.1.mp c_87)))) h hd0
          · refine tt_iload d_Y_sends_90 rfl ?_
            refine tt_goto (t := 97) d_Y_sends_92 (by decide) ?_
            refine tt_istore (lv2 := [_, _, _, _, _, _, _]) d_Y_sends_97 (by decide) rfl ?_
            refine tt_iinc (lv2 := [_, _, _, _, _, _, _]) d_Y_sends_99 rfl (nI_inc _ 1) (by decide) rfl ?_
            refine tt_goto (t := 51) d_Y_sends_102 (by decide) ?_
            exact ih (abW w + 1 - (i + 1)) (by omega) (i + 1) _ _ rfl (by omega) (fw_y c_65 hfw (arB_t.mpr (fun y => c_87 (ha.2.1.mpr y)))) h hd0

set_option maxHeartbeats 4000000 in
theorem yc_sends {l : xLa} {d c : Nat} {σ : xs} {w : wv} (ho : okQ w) (hw : YW σ c w) {f cc n : Int32} : TC l M_Y_sends (d + 150) [.ref 154, .int f, .int cc, .int n] σ (fun r τ => r = some (.int ((q_sends w f cc n).1)) ∧ YW τ c (stD w ((q_sends w f cc n).2)) ∧ YF σ τ) := by
  show T l M_Y_sends (d + 150) 0 _ [] σ _
  refine T_lv (lv2 := [_, _, _, _, _, _, _]) rfl ?_
  have h := YQ.rf hw.v
  have hd0 := hw.2.2.2.1
  have hb0 := ho.fb
  have hb8 := ho.n8
  rcases inN_c f (eR (wE w) * eC (wE w)) with ⟨g, hg, rfl, hq⟩ | ⟨hq, hb⟩
  · rcases rgN_c n 1 20 with ⟨k, k1, k2, k3, rfl, hq2⟩ | ⟨hq2, hb⟩
    · rcases rgN_c cc 0 9 with ⟨z, z1, z2, z3, rfl, hq3⟩ | ⟨hq3, hb⟩
      · have hqv : q_sends w (nI g) (nI z) (nI k) = sdA w g z k (feN (arB w g z k) (abW w)) := by unfold q_sends; rw [hq, hq2, hq3]
        rw [hqv]
        clear hqv
        have hab : abW w < 256 := ab_lt ho (Nat.le_refl _)
        refine tt_aload_n d_Y_sends_0 rfl ?_
        refine tt_iconst (v := nI 0) d_Y_sends_1 (by decide) ?_
        refine tt_putI d_Y_sends_2 rfl rfl (by decide) rfl (xpok_int rfl) rfl ?_
        replace h := h.thr (x := nI 0)
        replace hd0 := hd0.thr (x := nI 0)
        refine tt_aload_n d_Y_sends_5 rfl ?_
        refine tt_iload_n d_Y_sends_6 rfl ?_
        refine tt_callV (y_isField (d := d) h.e.1.1 h.e.1.2.1 ho.1.1.2.1 ho.1.1.2.2.2.1 ho.cp) cw_Y_isField rfl rfl (by decide) rfl (by omega) d_Y_sends_7 rfl rfl (Nat.le_of_ble_eq_true rfl) (Nat.le_of_ble_eq_true rfl) rfl rfl rfl (fun v σ2 q => ?_)
        obtain ⟨rfl, e9⟩ := q
        rw [e9, X_in_N hg (by omega)]
        clear e9
        refine tn_if_eq (t := 37) (by omega) d_Y_sends_10 (by decide) (fun c_10 => ?_) (fun c_10 => ?_)
        · exact absurd c_10 (by decide)
        · refine tt_iload_n d_Y_sends_13 rfl ?_
          refine tt_i2l d_Y_sends_14 ?_
          refine tt_lconst (v := 0) d_Y_sends_15 (by decide) ?_
          refine tt_ldc2_w d_Y_sends_16 rfl ?_
          refine tt_callS (y_in (d := d)) cw_Y_in rfl (by omega) d_Y_sends_19 rfl rfl (Nat.le_of_ble_eq_true rfl) (Nat.le_of_ble_eq_true rfl) rfl rfl rfl (fun v σ2 q => ?_)
          obtain ⟨rfl, e9⟩ := q
          rw [e9, show Yin (nI z).toInt64 0 9 = nI 1 from Yin_t (a := 0) (b := 9) rfl rfl (by omega) (by omega) (by decide)]
          clear e9
          refine tn_if_eq (t := 37) (by omega) d_Y_sends_22 (by decide) (fun c_22 => ?_) (fun c_22 => ?_)
          · exact absurd c_22 (by decide)
          · refine tt_iload_n d_Y_sends_25 rfl ?_
            refine tt_i2l d_Y_sends_26 ?_
            refine tt_lconst (v := 1) d_Y_sends_27 (by decide) ?_
            refine tt_ldc2_w d_Y_sends_28 rfl ?_
            refine tt_callS (y_in (d := d)) cw_Y_in rfl (by omega) d_Y_sends_31 rfl rfl (Nat.le_of_ble_eq_true rfl) (Nat.le_of_ble_eq_true rfl) rfl rfl rfl (fun v σ2 q => ?_)
            obtain ⟨rfl, e9⟩ := q
            rw [e9, show Yin (nI k).toInt64 1 20 = nI 1 from Yin_t (a := 1) (b := 20) rfl rfl (by omega) (by omega) (by decide)]
            clear e9
            refine tn_if_ne (t := 39) (by omega) d_Y_sends_34 (by decide) (fun c_34 => ?_) (fun c_34 => ?_)
            · refine tt_aload_n d_Y_sends_39 rfl ?_
              refine tt_callV (y_able (d := d) h ho) cw_Y_able rfl rfl (by decide) rfl (by omega) d_Y_sends_40 rfl rfl (Nat.le_of_ble_eq_true rfl) (Nat.le_of_ble_eq_true rfl) rfl rfl rfl (fun v σ2 q => ?_)
              obtain ⟨rfl, e9⟩ := q
              rw [e9]
              clear e9
              refine tt_istore (lv2 := [_, _, _, _, _, _, _]) d_Y_sends_43 (by decide) rfl ?_
              refine tt_iconst (v := (-1)) d_Y_sends_45 (by decide) ?_
              refine tt_istore (lv2 := [_, _, _, _, _, _, _]) d_Y_sends_46 (by decide) rfl ?_
              refine tt_iconst (v := nI 0) d_Y_sends_48 (by decide) ?_
              refine tt_istore (lv2 := [_, _, _, _, _, _, _]) d_Y_sends_49 (by decide) rfl ?_
              exact y_sends_l hg z2 k2 ho (abW w + 1) 0 0 _ rfl (by omega) rfl h hd0
            · exact absurd c_34 (by decide)
      · have hqv : q_sends w (nI g) cc (nI k) = (-1, none) := by unfold q_sends; rw [hq, hq2, hq3]
        rw [hqv]
        refine tt_aload_n d_Y_sends_0 rfl ?_
        refine tt_iconst (v := nI 0) d_Y_sends_1 (by decide) ?_
        refine tt_putI d_Y_sends_2 rfl rfl (by decide) rfl (xpok_int rfl) rfl ?_
        replace h := h.thr (x := nI 0)
        replace hd0 := hd0.thr (x := nI 0)
        refine tt_aload_n d_Y_sends_5 rfl ?_
        refine tt_iload_n d_Y_sends_6 rfl ?_
        refine tt_callV (y_isField (d := d) h.e.1.1 h.e.1.2.1 ho.1.1.2.1 ho.1.1.2.2.2.1 ho.cp) cw_Y_isField rfl rfl (by decide) rfl (by omega) d_Y_sends_7 rfl rfl (Nat.le_of_ble_eq_true rfl) (Nat.le_of_ble_eq_true rfl) rfl rfl rfl (fun v σ2 q => ?_)
        obtain ⟨rfl, e9⟩ := q
        rw [e9, X_in_N hg (by omega)]
        clear e9
        refine tn_if_eq (t := 37) (by omega) d_Y_sends_10 (by decide) (fun c_10 => ?_) (fun c_10 => ?_)
        · exact absurd c_10 (by decide)
        · refine tt_iload_n d_Y_sends_13 rfl ?_
          refine tt_i2l d_Y_sends_14 ?_
          refine tt_lconst (v := 0) d_Y_sends_15 (by decide) ?_
          refine tt_ldc2_w d_Y_sends_16 rfl ?_
          refine tt_callS (y_in (d := d)) cw_Y_in rfl (by omega) d_Y_sends_19 rfl rfl (Nat.le_of_ble_eq_true rfl) (Nat.le_of_ble_eq_true rfl) rfl rfl rfl (fun v σ2 q => ?_)
          obtain ⟨rfl, e9⟩ := q
          rw [e9, show Yin cc.toInt64 0 9 = nI 0 from Yin_f (a := 0) (b := 9) rfl rfl (by decide) (by decide) hb]
          clear e9
          refine tn_if_eq (t := 37) (by omega) d_Y_sends_22 (by decide) (fun c_22 => ?_) (fun c_22 => ?_)
          · refine tt_iconst (v := (-1)) d_Y_sends_37 (by decide) ?_
            refine tt_iret rfl d_Y_sends_38 ?_
            exact ⟨rfl, h.none hd0, h.2⟩
          · exact absurd rfl c_22
    · have hqv : q_sends w (nI g) cc n = (-1, none) := by unfold q_sends; rw [hq, hq2]
      rw [hqv]
      refine tt_aload_n d_Y_sends_0 rfl ?_
      refine tt_iconst (v := nI 0) d_Y_sends_1 (by decide) ?_
      refine tt_putI d_Y_sends_2 rfl rfl (by decide) rfl (xpok_int rfl) rfl ?_
      replace h := h.thr (x := nI 0)
      replace hd0 := hd0.thr (x := nI 0)
      refine tt_aload_n d_Y_sends_5 rfl ?_
      refine tt_iload_n d_Y_sends_6 rfl ?_
      refine tt_callV (y_isField (d := d) h.e.1.1 h.e.1.2.1 ho.1.1.2.1 ho.1.1.2.2.2.1 ho.cp) cw_Y_isField rfl rfl (by decide) rfl (by omega) d_Y_sends_7 rfl rfl (Nat.le_of_ble_eq_true rfl) (Nat.le_of_ble_eq_true rfl) rfl rfl rfl (fun v σ2 q => ?_)
      obtain ⟨rfl, e9⟩ := q
      rw [e9, X_in_N hg (by omega)]
      clear e9
      refine tn_if_eq (t := 37) (by omega) d_Y_sends_10 (by decide) (fun c_10 => ?_) (fun c_10 => ?_)
      · exact absurd c_10 (by decide)
      · refine tt_iload_n d_Y_sends_13 rfl ?_
        refine tt_i2l d_Y_sends_14 ?_
        refine tt_lconst (v := 0) d_Y_sends_15 (by decide) ?_
        refine tt_ldc2_w d_Y_sends_16 rfl ?_
        refine tt_callS (y_in (d := d)) cw_Y_in rfl (by omega) d_Y_sends_19 rfl rfl (Nat.le_of_ble_eq_true rfl) (Nat.le_of_ble_eq_true rfl) rfl rfl rfl (fun v σ2 q => ?_)
        obtain ⟨rfl, e9⟩ := q
        rw [e9]
        clear e9
        refine tt_if_eq (t := 37) d_Y_sends_22 (by decide) (fun c_22 => ?_) (fun c_22 => ?_)
        · refine tt_iconst (v := (-1)) d_Y_sends_37 (by decide) ?_
          refine tt_iret rfl d_Y_sends_38 ?_
          exact ⟨rfl, h.none hd0, h.2⟩
        · refine tt_iload_n d_Y_sends_25 rfl ?_
          refine tt_i2l d_Y_sends_26 ?_
          refine tt_lconst (v := 1) d_Y_sends_27 (by decide) ?_
          refine tt_ldc2_w d_Y_sends_28 rfl ?_
          refine tt_callS (y_in (d := d)) cw_Y_in rfl (by omega) d_Y_sends_31 rfl rfl (Nat.le_of_ble_eq_true rfl) (Nat.le_of_ble_eq_true rfl) rfl rfl rfl (fun v σ2 q => ?_)
          obtain ⟨rfl, e9⟩ := q
          rw [e9, show Yin n.toInt64 1 20 = nI 0 from Yin_f (a := 1) (b := 20) rfl rfl (by decide) (by decide) hb]
          clear e9
          refine tn_if_ne (t := 39) (by omega) d_Y_sends_34 (by decide) (fun c_34 => ?_) (fun c_34 => ?_)
          · exact absurd rfl c_34 
          · refine tt_iconst (v := (-1)) d_Y_sends_37 (by decide) ?_
            refine tt_iret rfl d_Y_sends_38 ?_
            exact ⟨rfl, h.none hd0, h.2⟩
  · have hqv : q_sends w f cc n = (-1, none) := by unfold q_sends; rw [hq]
    rw [hqv]
    refine tt_aload_n d_Y_sends_0 rfl ?_
    refine tt_iconst (v := nI 0) d_Y_sends_1 (by decide) ?_
    refine tt_putI d_Y_sends_2 rfl rfl (by decide) rfl (xpok_int rfl) rfl ?_
    replace h := h.thr (x := nI 0)
    replace hd0 := hd0.thr (x := nI 0)
    refine tt_aload_n d_Y_sends_5 rfl ?_
    refine tt_iload_n d_Y_sends_6 rfl ?_
    refine tt_callV (y_isField (d := d) h.e.1.1 h.e.1.2.1 ho.1.1.2.1 ho.1.1.2.2.2.1 ho.cp) cw_Y_isField rfl rfl (by decide) rfl (by omega) d_Y_sends_7 rfl rfl (Nat.le_of_ble_eq_true rfl) (Nat.le_of_ble_eq_true rfl) rfl rfl rfl (fun v σ2 q => ?_)
    obtain ⟨rfl, e9⟩ := q
    rw [e9, X_in_none hb]
    clear e9
    refine tn_if_eq (t := 37) (by omega) d_Y_sends_10 (by decide) (fun c_10 => ?_) (fun c_10 => ?_)
    · refine tt_iconst (v := (-1)) d_Y_sends_37 (by decide) ?_
      refine tt_iret rfl d_Y_sends_38 ?_
      exact ⟨rfl, h.none hd0, h.2⟩
    · exact absurd rfl c_10

