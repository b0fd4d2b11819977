/-! fish: the reference. Printed by wip/whole. -/
theorem to_2 {x : Nat × (Nat → Nat)} (hX : ∀ i, i < x.1 → x.2 i < 256) {a : Nat} : arI (toN 2 x.2 x.1 a) = gI (kdN x a) ∧ opN (toN 2 x.2 x.1 a) = (if kdN x a = 0 then 0 else 1) := by
  unfold toN kdN atN knN
  by_cases c : a < x.1
  · have hx := hX a c
    rw [if_pos c, if_pos c]
    have e : ofN 2 (x.2 a) = (if decide ((116 : Int32) = nI (x.2 a)) = true then some 0 else if decide ((112 : Int32) = nI (x.2 a)) = true then some 1 else if decide ((101 : Int32) = nI (x.2 a)) = true then some 2 else if decide ((115 : Int32) = nI (x.2 a)) = true then some 3 else none) := rfl
    rw [e]
    have q : ∀ k, k < 256 → (decide (nI k = nI (x.2 a)) = true ↔ x.2 a + 1 = k + 1) := fun k hk => decide_eq_true_iff.trans ((nI_ne (by omega) (by omega)).trans (by omega))
    have q1 : decide ((116 : Int32) = nI (x.2 a)) = true ↔ x.2 a + 1 = 117 := q 116 (by decide)
    have q2 : decide ((112 : Int32) = nI (x.2 a)) = true ↔ x.2 a + 1 = 113 := q 112 (by decide)
    have q3 : decide ((101 : Int32) = nI (x.2 a)) = true ↔ x.2 a + 1 = 102 := q 101 (by decide)
    have q4 : decide ((115 : Int32) = nI (x.2 a)) = true ↔ x.2 a + 1 = 116 := q 115 (by decide)
    by_cases c1 : x.2 a + 1 = 117
    · rw [if_pos (q1.mpr c1), if_pos c1]; exact ⟨rfl, rfl⟩
    · rw [if_neg (fun z => c1 (q1.mp z)), if_neg c1]
      by_cases c2 : x.2 a + 1 = 113
      · rw [if_pos (q2.mpr c2), if_pos c2]; exact ⟨rfl, rfl⟩
      · rw [if_neg (fun z => c2 (q2.mp z)), if_neg c2]
        by_cases c3 : x.2 a + 1 = 102
        · rw [if_pos (q3.mpr c3), if_pos c3]; exact ⟨rfl, rfl⟩
        · rw [if_neg (fun z => c3 (q3.mp z)), if_neg c3]
          by_cases c4 : x.2 a + 1 = 116
          · rw [if_pos (q4.mpr c4), if_pos c4]; exact ⟨rfl, rfl⟩
          · rw [if_neg (fun z => c4 (q4.mp z)), if_neg c4]; exact ⟨rfl, rfl⟩
  · rw [if_neg c, if_neg c]; exact ⟨rfl, rfl⟩
/-- the text, of which no more than m signs are read -/
def cpX (x : Nat × (Nat → Nat)) (m : Nat) : Nat × (Nat → Nat) := (min x.1 m, x.2)
theorem cp_at {x : Nat × (Nat → Nat)} {m j : Nat} (h : j < m) : atN (cpX x m) j = atN x j ∧ dgN (cpX x m) j = dgN x j ∧ kdN (cpX x m) j = kdN x j := by
  have e : atN (cpX x m) j = atN x j := by
    unfold atN cpX
    by_cases c : j < x.1
    · rw [if_pos c, if_pos (by show j < min x.1 m; omega)]
    · rw [if_neg c, if_neg (by show ¬ j < min x.1 m; omega)]
  refine ⟨e, ?_, by unfold kdN; rw [e]⟩
  unfold dgN cpX
  by_cases c : j < x.1 ∧ 48 ≤ x.2 j ∧ x.2 j ≤ 57
  · rw [if_pos c, if_pos (by show j < min x.1 m ∧ 48 ≤ x.2 j ∧ x.2 j ≤ 57; omega)]
  · rw [if_neg c, if_neg (by show ¬ (j < min x.1 m ∧ 48 ≤ x.2 j ∧ x.2 j ≤ 57); omega)]
theorem yq_21 {c : Nat} {w : wv} {σ τ : xs} {x : Int32} (h : YQ c w σ τ) : YQ c w σ (wF τ 154 21 x) := h.fq (Fq.wF (by unfold YqF; omega))
theorem RT_21 {τ : xs} {t : Nat → Nat} {to a : Nat} {x : Int32} (h : RT τ t to a) : RT (wF τ 154 21 x) t to a := ⟨h.1, h.2.1, h.2.2.1, h.2.2.2⟩
/-- what reading a line of fish answers, and where it ends -/
def rfB (x : Nat × (Nat → Nat)) (n a : Nat) : Nat := if n = 8 then 0 else if kdN x a = 0 then 0 else if dgN x (a + 1) < 2 then 0 else 1
def rfA (x : Nat × (Nat → Nat)) (n a : Nat) : Nat := if n = 8 then a else if kdN x a = 0 then a else if dgN x (a + 1) < 2 then a + 1 else a + 2
set_option maxHeartbeats 4000000 in
theorem y_readsFish {l : xLa} {d c : Nat} {σ τ : xs} {w : wv} {i a : Nat} (ho : okQ w) (hX : okX (wX w)) (h : YQ c (txC w) σ τ) (hd : YD τ (wD w)) (hR : RT τ (cpX (wX w) 23).2 (cpX (wX w) 23).1 a) (hm : sf τ 154 21 = nI i) (hi : eN (wE w) + i ≤ 8) : TC l M_Y_readsFish (d + 20) [.ref 154] τ (fun r υ => r = some (.int (nI (rfB (cpX (wX w) 23) (eN (wE w) + i) a))) ∧ YQ c (txC w) σ υ ∧ YD υ (wD w) ∧ RT υ (cpX (wX w) 23).2 (cpX (wX w) 23).1 (rfA (cpX (wX w) 23) (eN (wE w) + i) a) ∧ (∀ k, k < 2 * i → si υ 164 k = si τ 164 k) ∧ (rfB (cpX (wX w) 23) (eN (wE w) + i) a = 1 → sf υ 154 21 = nI (i + 1) ∧ si υ 164 (2 * i) = gI (kdN (cpX (wX w) 23) a) ∧ si υ 164 (2 * i + 1) = gI (dgN (cpX (wX w) 23) (a + 1)))) := by
  have hx1 := hX.1
  have hb8 := ho.n8
  have h256 : ∀ j, j < (cpX (wX w) 23).1 → (cpX (wX w) 23).2 j < 256 := fun j hj => hX.2 j (Nat.lt_of_lt_of_le hj (Nat.min_le_left _ _))
  have ht2 := to_2 (x := cpX (wX w) 23) (a := a) h256
  have hdd := di_dg (x := cpX (wX w) 23) (a := a + 1) (L := 1) (H := 10) (by decide)
  have hdl := (dg_le (x := cpX (wX w) 23) (j := a + 1)).1
  have hkl := kd_le (cpX (wX w) 23) a
  have hfn : sf τ 154 5 = nI (eN (wE w)) := h.e.1.2.2.1
  show T l M_Y_readsFish (d + 20) 0 _ [] τ _
  refine T_lv (lv2 := [_, _]) rfl ?_
  refine tt_aload_n d_Y_readsFish_0 rfl ?_
  refine tn_get d_Y_readsFish_1 rfl rfl (by decide) rfl hfn ?_
  refine tt_aload_n d_Y_readsFish_4 rfl ?_
  refine tn_get d_Y_readsFish_5 rfl rfl (by decide) rfl hm ?_
  refine tn_iadd d_Y_readsFish_8 ?_
  refine tt_bipush (v := nI 8) d_Y_readsFish_9 (by decide) ?_
  refine tn_ic_ne (t := 16) (by omega) (by omega) d_Y_readsFish_11 (by decide) (fun c_11 => ?_) (fun c_11 => ?_)
  · refine tt_iconst (v := nI 2) d_Y_readsFish_16 (by decide) ?_
    refine tt_aload_n d_Y_readsFish_17 rfl ?_
    refine tn_get d_Y_readsFish_18 rfl rfl (by decide) rfl hm ?_
    refine tn_imul d_Y_readsFish_21 ?_
    refine tt_istore_n (lv2 := [_, _]) d_Y_readsFish_22 (by decide) rfl ?_
    refine tt_aload_n d_Y_readsFish_23 rfl ?_
    refine tt_getR d_Y_readsFish_24 rfl rfl (by decide) rfl rfl ?_
    refine tt_iload_n d_Y_readsFish_27 rfl ?_
    refine tt_aload_n d_Y_readsFish_28 rfl ?_
    refine E.ldcS (j := 2) rfl rfl rfl d_Y_readsFish_29 ?_
    refine tt_callV (y_takesOf (d := d) (j := 2) hR (by decide)) cw_Y_takesOf rfl rfl (by decide) rfl (by omega) d_Y_readsFish_31 rfl rfl (Nat.le_of_ble_eq_true rfl) (Nat.le_of_ble_eq_true rfl) rfl rfl rfl (fun v σ2 q => ?_)
    obtain ⟨rfl, hR2, hF⟩ := q
    rw [ht2.1]
    rw [ht2.2] at hR2
    replace h := h.fa hF
    replace hd := hd.fa hF
    replace hm := (hF.sf 21 (by decide)).trans hm
    have hs1 := hF.si 164
    refine tn_iast d_Y_readsFish_34 rfl (by decide) (by omega) ?_
    refine tt_aload_n d_Y_readsFish_35 rfl ?_
    refine tt_getR d_Y_readsFish_36 rfl rfl (by decide) rfl rfl ?_
    refine tt_iload_n d_Y_readsFish_39 rfl ?_
    refine tt_iconst (v := nI 1) d_Y_readsFish_40 (by decide) ?_
    refine tn_iadd d_Y_readsFish_41 ?_
    refine tt_aload_n d_Y_readsFish_42 rfl ?_
    refine tt_getR d_Y_readsFish_43 rfl rfl (by decide) rfl rfl ?_
    refine tt_iload_n d_Y_readsFish_46 rfl ?_
    refine tn_iald d_Y_readsFish_47 rfl (by decide) (by omega) (show _ = gI (kdN (cpX (wX w) 23) a) from by rw [si_wI, if_pos ⟨rfl, rfl⟩]) ?_
    refine tt_if_ge (t := 55) d_Y_readsFish_48 (by decide) (fun c_48 => ?_) (fun c_48 => ?_)
    · have hk0 : ¬ kdN (cpX (wX w) 23) a = 0 := fun q => by rw [q] at c_48; exact absurd c_48 (by decide)
      rw [if_neg hk0] at hR2
      refine tt_aload_n d_Y_readsFish_55 rfl ?_
      refine tt_iconst (v := nI 1) d_Y_readsFish_56 (by decide) ?_
      refine tt_bipush (v := nI 9) d_Y_readsFish_57 (by decide) ?_
      refine tt_callV (y_digitIn (d := d) (L := 1) (H := 10) (RT_164 (i := 2 * i) (x := gI (kdN (cpX (wX w) 23) a)) hR2) (by decide) (by decide)) cw_Y_digitIn rfl rfl (by decide) rfl (by omega) d_Y_readsFish_59 rfl rfl (Nat.le_of_ble_eq_true rfl) (Nat.le_of_ble_eq_true rfl) rfl rfl rfl (fun v σ2 q => ?_)
      obtain ⟨rfl, hR3, hF2⟩ := q
      have hs2 := hF2.si 164
      replace hm := (hF2.sf 21 (by decide)).trans hm
      replace h := (yq_164 (i := 2 * i) (x := gI (kdN (cpX (wX w) 23) a)) h).fa hF2
      replace hd := (hd.un (τ := wI _ 164 (2 * i) (gI (kdN (cpX (wX w) 23) a))) ⟨rfl, rfl⟩).fa hF2
      refine tn_iast d_Y_readsFish_62 rfl (by decide) (by omega) ?_
      refine tt_aload_n d_Y_readsFish_63 rfl ?_
      refine tt_dup d_Y_readsFish_64 rfl ?_
      refine tn_get d_Y_readsFish_65 rfl rfl (by decide) rfl hm ?_
      refine tt_iconst (v := nI 1) d_Y_readsFish_68 (by decide) ?_
      refine tn_iadd d_Y_readsFish_69 ?_
      refine tt_putI d_Y_readsFish_70 rfl rfl (by decide) rfl (xpok_int rfl) rfl ?_
      refine tt_aload_n d_Y_readsFish_73 rfl ?_
      refine tt_getR d_Y_readsFish_74 rfl rfl (by decide) rfl rfl ?_
      refine tt_iload_n d_Y_readsFish_77 rfl ?_
      refine tt_iconst (v := nI 1) d_Y_readsFish_78 (by decide) ?_
      refine tn_iadd d_Y_readsFish_79 ?_
      refine tn_iald d_Y_readsFish_80 rfl (by decide) (by omega) (show _ = gI (diN (cpX (wX w) 23).2 (cpX (wX w) 23).1 (a + 1) 1 10) from by rw [si_wF, si_wI, if_pos ⟨rfl, rfl⟩]) ?_
      refine tt_if_le (t := 88) d_Y_readsFish_81 (by decide) (fun c_81 => ?_) (fun c_81 => ?_)
      · have he1 : diN (cpX (wX w) 23).2 (cpX (wX w) 23).1 (a + 1) 1 10 = 0 := Decidable.byContradiction (fun q => by
          have k9 := mt hdd.1.mpr q
          rw [(hdd.2 q).1] at c_81
          have := (gI_leN (a := dgN (cpX (wX w) 23) (a + 1)) (b := 1) (by omega) (by omega)).mp c_81
          omega)
        have hd2 : dgN (cpX (wX w) 23) (a + 1) < 2 := by have := hdd.1.mp he1; omega
        rw [if_pos he1] at hR3
        have eB : rfB (cpX (wX w) 23) (eN (wE w) + i) a = 0 := (if_neg (by omega)).trans ((if_neg hk0).trans (if_pos hd2))
        have eA : rfA (cpX (wX w) 23) (eN (wE w) + i) a = a + 1 := (if_neg (by omega)).trans ((if_neg hk0).trans (if_pos hd2))
        refine tt_iconst (v := nI 0) d_Y_readsFish_88 (by decide) ?_
        refine tt_zret rfl rfl d_Y_readsFish_89 ?_
        refine ⟨by rw [eB], yq_21 (yq_164 h), ⟨hd.1, hd.2⟩, by rw [eA]; exact RT_21 (RT_164 hR3), fun k hk => ?_, fun q => by omega⟩
        rw [si_wF, si_wI, if_neg (fun q => by omega), hs2, si_wI, if_neg (fun q => by omega), hs1]
      · have he1 : ¬ diN (cpX (wX w) 23).2 (cpX (wX w) 23).1 (a + 1) 1 10 = 0 := fun q => by rw [q] at c_81; exact c_81 (by decide)
        have hd2 : ¬ dgN (cpX (wX w) 23) (a + 1) < 2 := by have := mt hdd.1.mpr he1; omega
        have hed := (hdd.2 he1).1
        rw [if_neg he1] at hR3
        have eB : rfB (cpX (wX w) 23) (eN (wE w) + i) a = 1 := (if_neg (by omega)).trans ((if_neg hk0).trans (if_neg hd2))
        have eA : rfA (cpX (wX w) 23) (eN (wE w) + i) a = a + 2 := (if_neg (by omega)).trans ((if_neg hk0).trans (if_neg hd2))
        refine tt_iconst (v := nI 1) d_Y_readsFish_84 (by decide) ?_
        refine tt_goto (t := 89) d_Y_readsFish_85 (by decide) ?_
        refine tt_zret rfl rfl d_Y_readsFish_89 ?_
        refine ⟨by rw [eB], yq_21 (yq_164 h), ⟨hd.1, hd.2⟩, by rw [eA]; exact RT_21 (RT_164 hR3), fun k hk => ?_, fun q => ⟨rfl, by rw [si_wF, si_wI, if_neg (fun q => by omega), hs2, si_wI, if_pos ⟨rfl, rfl⟩], by rw [si_wF, si_wI, if_pos ⟨rfl, rfl⟩, hed]⟩⟩
        rw [si_wF, si_wI, if_neg (fun q => by omega), hs2, si_wI, if_neg (fun q => by omega), hs1]
    · have hk0 : kdN (cpX (wX w) 23) a = 0 := Decidable.byContradiction (fun q => c_48 (by rw [(gI_c (by omega)).2 q]; exact nI_nn (by omega)))
      rw [if_pos hk0] at hR2
      have eB : rfB (cpX (wX w) 23) (eN (wE w) + i) a = 0 := (if_neg (by omega)).trans (if_pos hk0)
      have eA : rfA (cpX (wX w) 23) (eN (wE w) + i) a = a := (if_neg (by omega)).trans (if_pos hk0)
      refine tt_iconst (v := (-1)) d_Y_readsFish_51 (by decide) ?_
      refine tt_goto (t := 62) d_Y_readsFish_52 (by decide) ?_
      refine tn_iast d_Y_readsFish_62 rfl (by decide) (by omega) ?_
      refine tt_aload_n d_Y_readsFish_63 rfl ?_
      refine tt_dup d_Y_readsFish_64 rfl ?_
      refine tn_get d_Y_readsFish_65 rfl rfl (by decide) rfl hm ?_
      refine tt_iconst (v := nI 1) d_Y_readsFish_68 (by decide) ?_
      refine tn_iadd d_Y_readsFish_69 ?_
      refine tt_putI d_Y_readsFish_70 rfl rfl (by decide) rfl (xpok_int rfl) rfl ?_
      refine tt_aload_n d_Y_readsFish_73 rfl ?_
      refine tt_getR d_Y_readsFish_74 rfl rfl (by decide) rfl rfl ?_
      refine tt_iload_n d_Y_readsFish_77 rfl ?_
      refine tt_iconst (v := nI 1) d_Y_readsFish_78 (by decide) ?_
      refine tn_iadd d_Y_readsFish_79 ?_
      refine tn_iald d_Y_readsFish_80 rfl (by decide) (by omega) (show _ = -1 from by rw [si_wF, si_wI, if_pos ⟨rfl, rfl⟩]) ?_
      refine tt_if_le (t := 88) d_Y_readsFish_81 (by decide) (fun c_81 => ?_) (fun c_81 => ?_)
      · refine tt_iconst (v := nI 0) d_Y_readsFish_88 (by decide) ?_
        refine tt_zret rfl rfl d_Y_readsFish_89 ?_
        refine ⟨by rw [eB], yq_21 (yq_164 (yq_164 h)), ⟨hd.1, hd.2⟩, by rw [eA]; exact RT_21 (RT_164 (RT_164 hR2)), fun k hk => ?_, fun q => by omega⟩
        rw [si_wF, si_wI, if_neg (fun q => by omega), si_wI, if_neg (fun q => by omega), hs1]
      · exact absurd (by decide) c_81
  · have eB : rfB (cpX (wX w) 23) (eN (wE w) + i) a = 0 := if_pos (by omega)
    have eA : rfA (cpX (wX w) 23) (eN (wE w) + i) a = a := if_pos (by omega)
    refine tt_iconst (v := nI 0) d_Y_readsFish_14 (by decide) ?_
    refine tt_zret rfl rfl d_Y_readsFish_15 ?_
    refine ⟨by rw [eB], h, hd, by rw [eA]; exact hR, fun k hk => rfl, fun q => by omega⟩

theorem flt_neg {k : Nat} (h : k < 1000) : (-1) - nI k < 0 := by
  rw [fa_lt', Int32.toInt_sub, nI_toInt (by omega)]
  show ((-1 : Int) - k).bmod _ < 0
  rw [Int.bmod_eq_of_le (by omega) (by omega)]
  omega
/-- the fault of a text of fish, as the reference tells it -/
def ftI (f : Nat) : Int32 := if f = 0 then nI 0 else (-1) - nI (f - 1)
theorem ft_c {f : Nat} (h : f < 1000) : 0 ≤ ftI f ↔ f = 0 := by
  unfold ftI
  by_cases c : f = 0
  · rw [if_pos c]; exact ⟨fun _ => c, fun _ => by decide⟩
  · rw [if_neg c]; exact ⟨fun q => absurd q (fun z => fa_nlt2 (flt_neg (by omega)) z), fun q => absurd q c⟩
section
variable {σ τ υ : xs} {w : wv} {c : Nat}
theorem SY_wel {n : Nat} {v : sv} (h : SY τ 160 n v) (hn : n < 8) : SY (wI (wI (wI (wI (wI τ 160 (1 + n) (nI 0)) 160 (9 + n) (nI 5)) 160 (17 + n) (-1)) 160 (25 + n) (-1)) 160 33 (nI (v 0 5 ||| 2 ^ n))) 160 (n + 1) (wlV v n) := by
  have g : ∀ k, si (wI (wI (wI (wI (wI τ 160 (1 + n) (nI 0)) 160 (9 + n) (nI 5)) 160 (17 + n) (-1)) 160 (25 + n) (-1)) 160 33 (nI (v 0 5 ||| 2 ^ n))) 160 k = if k = 33 then nI (v 0 5 ||| 2 ^ n) else if k = 25 + n then -1 else if k = 17 + n then -1 else if k = 9 + n then nI 5 else if k = 1 + n then nI 0 else si τ 160 k := by
    intro k
    simp only [si_wI, true_and]
  obtain ⟨⟨h0, h5, h1, h2, h3, h4⟩, h7⟩ := h
  refine ⟨⟨?_, ?_, ?_, ?_, ?_, ?_⟩, fun i hi => ?_⟩
  · rw [g, if_neg (by omega), if_neg (by omega), if_neg (by omega), if_neg (by omega), if_neg (by omega)]; exact h0
  · rw [g, if_pos rfl]; rfl
  · rw [g, if_neg (by omega), if_neg (by omega), if_neg (by omega), if_neg (by omega), if_neg (by omega)]; exact h1
  · rw [g, if_neg (by omega), if_neg (by omega), if_neg (by omega), if_neg (by omega), if_neg (by omega)]; exact h2
  · rw [g, if_neg (by omega), if_neg (by omega), if_neg (by omega), if_neg (by omega), if_neg (by omega)]; exact h3
  · rw [g, if_neg (by omega), if_neg (by omega), if_neg (by omega), if_neg (by omega), if_neg (by omega)]; exact h4
  · by_cases ci : i = n
    · subst ci
      have w1 : (wlV v i) 1 i = 0 := by simp [wlV, upv]
      have w2 : (wlV v i) 2 i = 5 := by simp [wlV, upv]
      have w3 : (wlV v i) 3 i = 0 := by simp [wlV, upv]
      rw [g, g, g, g, w1, w2, w3]
      refine ⟨?_, ?_, ?_, ?_⟩
      · rw [if_neg (by omega), if_neg (by omega), if_neg (by omega), if_neg (by omega), if_pos rfl]
      · rw [if_neg (by omega), if_neg (by omega), if_neg (by omega), if_pos rfl]
      · rw [if_neg (by omega), if_neg (by omega), if_pos rfl]; rfl
      · rw [if_neg (by omega), if_pos rfl, if_pos rfl]
    · have w1 : (wlV v n) 1 i = v 1 i := by simp [wlV, upv, ci]
      have w2 : (wlV v n) 2 i = v 2 i := by simp [wlV, upv, ci]
      have w3 : (wlV v n) 3 i = v 3 i := by simp [wlV, upv, ci]
      have w4 : (wlV v n) 4 i = v 4 i := by simp [wlV, upv, ci]
      obtain ⟨q1, q2, q3, q4⟩ := h7 i (by omega)
      rw [g, g, g, g, w1, w2, w3, w4]
      refine ⟨?_, ?_, ?_, ?_⟩
      · rw [if_neg (by omega), if_neg (by omega), if_neg (by omega), if_neg (by omega), if_neg (by omega)]; exact q1
      · rw [if_neg (by omega), if_neg (by omega), if_neg (by omega), if_neg (by omega), if_neg (by omega)]; exact q2
      · rw [if_neg (by omega), if_neg (by omega), if_neg (by omega), if_neg (by omega), if_neg (by omega)]; exact q3
      · rw [if_neg (by omega), if_neg (by omega), if_neg (by omega), if_neg (by omega), if_neg (by omega)]; exact q4
/-- all fish have come -/
theorem YW.fish (h : YQ c (txC w) σ τ) (hd : YD τ (wD w)) (hf : Fq (fun c => c = 158 ∨ c = 159 ∨ c = 160) (fun c k => c = 154 ∧ (k = 5 ∨ k = 6 ∨ k = 30)) (fun _ => False) τ υ) (h5 : sf υ 154 5 = nI (eN (wE w) + fiL (wX w))) (h6 : sf υ 154 6 = nI (c + 1)) (h30 : sf υ 154 30 = nI 0) (hk : ∀ i, i < eN (wE w) + fiL (wX w) → si υ 158 i = nI (eK (fiE (wE w) (wX w) (fiL (wX w))) i) ∧ si υ 159 i = nI (eS (fiE (wE w) (wX w) (fiL (wX w))) i)) (hv : SY υ 160 (eN (wE w) + fiL (wX w)) (wlN (wV w) (eN (wE w)) (fiL (wX w)))) : YW υ (c + 1) (fiW w) ∧ YF σ υ := by
  obtain ⟨⟨⟨⟨⟨a1, a2, a3, a4⟩, a5, a6, a7⟩, b⟩, v, x, u, k, s⟩, y⟩ := h
  have gi : ∀ c, ¬ (c = 158 ∨ c = 159 ∨ c = 160) → si υ c = si τ c := fun c h1 => hf.1 c h1
  refine ⟨⟨⟨⟨⟨by rw [hf.2.1 154 3 (by omega)]; exact a1, by rw [hf.2.1 154 4 (by omega)]; exact a2, h5, by rw [hf.2.1 154 7 (by omega)]; exact a4⟩, hk, fun i hi => by rw [gi 157 (by decide)]; exact a6 i hi, fun f hf2 => by rw [gi 156 (by decide)]; exact a7 f hf2⟩, b.fq hf (by omega) (by omega)⟩, hv, x.fq hf (by omega) (by omega), hd.fq hf id (by omega), ⟨h30, fun j hj => absurd hj (Nat.not_lt_zero j)⟩, ⟨h6, fun i hi => ?_⟩, s.fq hf (fun c h1 h2 => by omega) (by omega)⟩, y.tr (hf.YF (fun c hc => by omega) (fun c k hc => by omega) (fun c hc => id))⟩
  obtain ⟨b1, k1, q1, q2, q3, q4, q5, q6⟩ := k.2 i hi
  rw [gi 186 (by decide), gi 187 (by decide)]
  exact ⟨b1, k1, q1, by omega, q3, q4, ⟨fun z => (by cases z), fun z => (by omega)⟩, fun v hv => (by cases hv)⟩
end
set_option maxHeartbeats 4000000 in
theorem y_fish2 {l : xLa} {d : Nat} {σ : xs} {c : Nat} {w : wv} {τ0 : xs} {x2 x3 x4 : Int32} (ho : okQ w) (hX : okX (wX w)) (hn0 : ¬ (wX w).1 = 0) (hA : fiA w = 0) (h : YQ c (txC w) σ τ0) (hd : YD τ0 (wD w)) (h21 : sf τ0 154 21 = nI (fiL (wX w))) (k1 : 1 ≤ fiL (wX w)) (k2 : fiL (wX w) + eN (wE w) ≤ 8) (k4 : ∀ j, j < fiL (wX w) → ¬ kdN (wX w) (3 * j) = 0 ∧ 2 ≤ dgN (wX w) (3 * j + 1)) (hrd : ∀ j, j < fiL (wX w) → si τ0 164 (2 * j) = gI (kdN (wX w) (3 * j)) ∧ si τ0 164 (2 * j + 1) = gI (dgN (wX w) (3 * j + 1))) : ∀ (m : Nat) (k : Nat) (τ : xs), fiL (wX w) - k = m → k ≤ fiL (wX w) → Fq (fun c => c = 158 ∨ c = 159 ∨ c = 160) (fun c k => c = 154 ∧ k = 5) (fun _ => False) τ0 τ → sf τ 154 5 = nI (eN (wE w) + k) → (∀ i, i < eN (wE w) + k → si τ 158 i = nI (eK (fiE (wE w) (wX w) k) i) ∧ si τ 159 i = nI (eS (fiE (wE w) (wX w) k) i)) → SY τ 160 (eN (wE w) + k) (wlN (wV w) (eN (wE w)) k) → T l M_Y_fish (d + 150) 81 [some (.ref 154), some (.int (nI (wX w).1)), some (.int x2), some (.int x3), some (.int x4), some (.int (nI k))] [] τ (fun r τ => r = some (.int (a_fish w).1) ∧ YW τ (nc_fish w c) (a_fish w).2 ∧ YF σ τ) := by
  have hb0 := ho.fb
  have hb8 := ho.n8
  intro m
  induction m using Nat.strongRecOn with
  | ind m ih =>
    intro k τ hm hi hf h5 hk hv
    have hch := h.1.2.2.2.2.1.1
    have hrm : sf τ 154 21 = nI (fiL (wX w)) := (hf.2.1 154 21 (by omega)).trans h21
    have hrs : si τ 164 = si τ0 164 := hf.1 164 (by omega)
    refine tt_iload d_Y_fish_81 rfl ?_
    refine tt_aload_n d_Y_fish_83 rfl ?_
    refine tn_get d_Y_fish_84 rfl rfl (by decide) rfl hrm ?_
    refine tn_ic_ge (t := 211) (by omega) (by omega) d_Y_fish_87 (by decide) (fun c_87 => ?_) (fun c_87 => ?_)
    · obtain rfl : k = fiL (wX w) := by omega
      refine tt_aload_n d_Y_fish_211 rfl ?_
      refine tn_get d_Y_fish_212 rfl rfl (by decide) rfl hrm ?_
      refine tn_if_le (t := 233) (by omega) d_Y_fish_215 (by decide) (fun c_215 => ?_) (fun c_215 => ?_)
      · omega
      · refine tt_aload_n d_Y_fish_218 rfl ?_
        refine tt_iconst (v := nI 0) d_Y_fish_219 (by decide) ?_
        refine tt_putI d_Y_fish_220 rfl rfl (by decide) rfl (xpok_int rfl) rfl ?_
        refine tt_aload_n d_Y_fish_223 rfl ?_
        refine tt_dup d_Y_fish_224 rfl ?_
        refine tn_get d_Y_fish_225 rfl rfl (by decide) rfl (show _ = nI c from (hf.2.1 154 6 (by omega)).trans hch) ?_
        refine tt_iconst (v := nI 1) d_Y_fish_228 (by decide) ?_
        refine tn_iadd d_Y_fish_229 ?_
        refine tt_putI d_Y_fish_230 rfl rfl (by decide) rfl (xpok_int rfl) rfl ?_
        refine tt_aload_n d_Y_fish_233 rfl ?_
        refine tn_get d_Y_fish_234 rfl rfl (by decide) rfl hrm ?_
        refine tt_iret rfl d_Y_fish_237 ?_
        unfold a_fish nc_fish
        rw [if_neg hn0, if_neg hn0, if_pos hA, if_pos hA]
        refine ⟨rfl, YW.fish h hd (Fq.tr (Fq.tr (hf.mono (fun c q => q) (fun c k q => by omega) (fun _ q => q)) (Fq.wF (by omega))) (Fq.wF (by omega))) h5 rfl rfl hk hv⟩
    · obtain ⟨q1, q2⟩ := k4 k (by omega)
      have hkl := kd_le (wX w) (3 * k)
      have hdl := (dg_le (x := wX w) (j := 3 * k + 1)).1
      refine tt_aload_n d_Y_fish_90 rfl ?_
      refine tt_getR d_Y_fish_91 rfl rfl (by decide) rfl rfl ?_
      refine tt_aload_n d_Y_fish_94 rfl ?_
      refine tn_get d_Y_fish_95 rfl rfl (by decide) rfl h5 ?_
      refine tt_aload_n d_Y_fish_98 rfl ?_
      refine tt_getR d_Y_fish_99 rfl rfl (by decide) rfl rfl ?_
      refine tt_iconst (v := nI 2) d_Y_fish_102 (by decide) ?_
      refine tt_iload d_Y_fish_103 rfl ?_
      refine tn_imul d_Y_fish_105 ?_
      refine tn_iald d_Y_fish_106 rfl (by decide) (by omega) (show _ = gI (kdN (wX w) (3 * k)) from (congrFun hrs _).trans (hrd k (by omega)).1) ?_
      refine tn_iast d_Y_fish_107 rfl (by decide) (by omega) ?_
      refine tt_aload_n d_Y_fish_108 rfl ?_
      refine tt_getR d_Y_fish_109 rfl rfl (by decide) rfl rfl ?_
      refine tt_aload_n d_Y_fish_112 rfl ?_
      refine tn_get d_Y_fish_113 rfl rfl (by decide) rfl h5 ?_
      refine tt_aload_n d_Y_fish_116 rfl ?_
      refine tt_getR d_Y_fish_117 rfl rfl (by decide) rfl rfl ?_
      refine tt_iconst (v := nI 2) d_Y_fish_120 (by decide) ?_
      refine tt_iload d_Y_fish_121 rfl ?_
      refine tn_imul d_Y_fish_123 ?_
      refine tt_iconst (v := nI 1) d_Y_fish_124 (by decide) ?_
      refine tn_iadd d_Y_fish_125 ?_
      refine tn_iald d_Y_fish_126 rfl (by decide) (by omega) (show _ = gI (dgN (wX w) (3 * k + 1)) from (congrFun hrs _).trans (hrd k (by omega)).2) ?_
      refine tn_iast d_Y_fish_127 rfl (by decide) (by omega) ?_
      refine tt_aload_n d_Y_fish_128 rfl ?_
      refine tt_getR d_Y_fish_129 rfl rfl (by decide) rfl rfl ?_
      refine tt_iconst (v := nI 1) d_Y_fish_132 (by decide) ?_
      refine tt_aload_n d_Y_fish_133 rfl ?_
      refine tn_get d_Y_fish_134 rfl rfl (by decide) rfl h5 ?_
      refine tn_iadd d_Y_fish_137 ?_
      refine tt_iconst (v := nI 0) d_Y_fish_138 (by decide) ?_
      refine tn_iast d_Y_fish_139 rfl (by decide) (by omega) ?_
      refine tt_aload_n d_Y_fish_140 rfl ?_
      refine tt_getR d_Y_fish_141 rfl rfl (by decide) rfl rfl ?_
      refine tt_bipush (v := nI 9) d_Y_fish_144 (by decide) ?_
      refine tt_aload_n d_Y_fish_146 rfl ?_
      refine tn_get d_Y_fish_147 rfl rfl (by decide) rfl h5 ?_
      refine tn_iadd d_Y_fish_150 ?_
      refine tt_iconst (v := nI 5) d_Y_fish_151 (by decide) ?_
      refine tn_iast d_Y_fish_152 rfl (by decide) (by omega) ?_
      refine tt_aload_n d_Y_fish_153 rfl ?_
      refine tt_getR d_Y_fish_154 rfl rfl (by decide) rfl rfl ?_
      refine tt_bipush (v := nI 17) d_Y_fish_157 (by decide) ?_
      refine tt_aload_n d_Y_fish_159 rfl ?_
      refine tn_get d_Y_fish_160 rfl rfl (by decide) rfl h5 ?_
      refine tn_iadd d_Y_fish_163 ?_
      refine tt_iconst (v := (-1)) d_Y_fish_164 (by decide) ?_
      refine tn_iast d_Y_fish_165 rfl (by decide) (by omega) ?_
      refine tt_aload_n d_Y_fish_166 rfl ?_
      refine tt_getR d_Y_fish_167 rfl rfl (by decide) rfl rfl ?_
      refine tt_bipush (v := nI 25) d_Y_fish_170 (by decide) ?_
      refine tt_aload_n d_Y_fish_172 rfl ?_
      refine tn_get d_Y_fish_173 rfl rfl (by decide) rfl h5 ?_
      refine tn_iadd d_Y_fish_176 ?_
      refine tt_iconst (v := (-1)) d_Y_fish_177 (by decide) ?_
      refine tn_iast d_Y_fish_178 rfl (by decide) (by omega) ?_
      refine tt_aload_n d_Y_fish_179 rfl ?_
      refine tt_getR d_Y_fish_180 rfl rfl (by decide) rfl rfl ?_
      refine tt_bipush (v := nI 33) d_Y_fish_183 (by decide) ?_
      refine tt_dup2 d_Y_fish_185 rfl rfl ?_
      refine tn_iald d_Y_fish_186 rfl (by decide) (by omega) (show _ = nI ((wlN (wV w) (eN (wE w)) k) 0 5) from by simp only [si_wI]; rw [if_neg (by omega), if_neg (by omega), if_neg (by omega), if_neg (by omega), if_neg (by omega), if_neg (by omega)]; exact hv.1.2.1) ?_
      refine tt_iconst (v := nI 1) d_Y_fish_187 (by decide) ?_
      refine tt_aload_n d_Y_fish_188 rfl ?_
      refine tn_get d_Y_fish_189 rfl rfl (by decide) rfl h5 ?_
      refine tt_ishl d_Y_fish_192 ?_
      refine tt_top (shl_9 _ (by omega)) ?_
      refine tt_ior d_Y_fish_193 ?_
      refine tt_top (or_N _ _) ?_
      refine tn_iast d_Y_fish_194 rfl (by decide) (by omega) ?_
      refine tt_aload_n d_Y_fish_195 rfl ?_
      refine tt_dup d_Y_fish_196 rfl ?_
      refine tn_get d_Y_fish_197 rfl rfl (by decide) rfl h5 ?_
      refine tt_iconst (v := nI 1) d_Y_fish_200 (by decide) ?_
      refine tn_iadd d_Y_fish_201 ?_
      refine tt_putI d_Y_fish_202 rfl rfl (by decide) rfl (xpok_int rfl) rfl ?_
      refine tt_iinc (lv2 := [_, _, _, _, _, _]) d_Y_fish_205 rfl (nI_inc _ 1) (by decide) rfl ?_
      refine tt_goto (t := 81) d_Y_fish_208 (by decide) ?_
      have hkk : ∀ i, i < eN (wE w) + (k + 1) → si (wI (wI τ 158 (eN (wE w) + k) (gI (kdN (wX w) (3 * k)))) 159 (eN (wE w) + k) (gI (dgN (wX w) (3 * k + 1)))) 158 i = nI (eK (fiE (wE w) (wX w) (k + 1)) i) ∧ si (wI (wI τ 158 (eN (wE w) + k) (gI (kdN (wX w) (3 * k)))) 159 (eN (wE w) + k) (gI (dgN (wX w) (3 * k + 1)))) 159 i = nI (eS (fiE (wE w) (wX w) (k + 1)) i) := by
        intro i hi2
        rw [si_wI, si_wI, si_wI, si_wI]
        show _ = nI (if eN (wE w) ≤ i ∧ i < eN (wE w) + (k + 1) then kdN (wX w) (3 * (i - eN (wE w))) - 1 else eK (wE w) i) ∧ _ = nI (if eN (wE w) ≤ i ∧ i < eN (wE w) + (k + 1) then dgN (wX w) (3 * (i - eN (wE w)) + 1) - 1 else eS (wE w) i)
        rw [if_neg (fun q => absurd q.1 (by decide)), if_neg (c := 159 = 158 ∧ i = eN (wE w) + k) (fun q => absurd q.1 (by decide))]
        by_cases ci : i = eN (wE w) + k
        · have p1 : eN (wE w) ≤ i ∧ i < eN (wE w) + (k + 1) := by omega
          have e0 : i - eN (wE w) = k := by omega
          rw [if_pos (⟨rfl, ci⟩ : 158 = 158 ∧ i = eN (wE w) + k), if_pos (⟨rfl, ci⟩ : 159 = 159 ∧ i = eN (wE w) + k), if_pos p1, if_pos p1, e0]
          exact ⟨(gI_c (by omega)).2 q1, (gI_c (by omega)).2 (by omega)⟩
        · rw [if_neg (fun q => ci q.2 : ¬ (158 = 158 ∧ i = eN (wE w) + k)), if_neg (fun q => ci q.2 : ¬ (159 = 159 ∧ i = eN (wE w) + k)), (hk i (by omega)).1, (hk i (by omega)).2]
          show nI (if eN (wE w) ≤ i ∧ i < eN (wE w) + k then kdN (wX w) (3 * (i - eN (wE w))) - 1 else eK (wE w) i) = _ ∧ nI (if eN (wE w) ≤ i ∧ i < eN (wE w) + k then dgN (wX w) (3 * (i - eN (wE w)) + 1) - 1 else eS (wE w) i) = _
          by_cases z : eN (wE w) ≤ i ∧ i < eN (wE w) + k
          · have p1 : eN (wE w) ≤ i ∧ i < eN (wE w) + (k + 1) := by omega
            rw [if_pos z, if_pos z, if_pos p1, if_pos p1]; exact ⟨rfl, rfl⟩
          · have p1 : ¬ (eN (wE w) ≤ i ∧ i < eN (wE w) + (k + 1)) := by omega
            rw [if_neg z, if_neg z, if_neg p1, if_neg p1]; exact ⟨rfl, rfl⟩
      refine ih (fiL (wX w) - (k + 1)) (by omega) (k + 1) _ rfl (by omega) (Fq.tr (Fq.tr (Fq.tr (Fq.tr (Fq.tr (Fq.tr (Fq.tr (Fq.tr hf (Fq.wI (by omega))) (Fq.wI (by omega))) (Fq.wI (by omega))) (Fq.wI (by omega))) (Fq.wI (by omega))) (Fq.wI (by omega))) (Fq.wI (by omega))) (Fq.wF (by omega))) rfl hkk (SY_o (SY_wel (τ := wI (wI τ 158 (eN (wE w) + k) (gI (kdN (wX w) (3 * k)))) 159 (eN (wE w) + k) (gI (dgN (wX w) (3 * k + 1)))) (SY_o hv rfl) (show eN (wE w) + k < 8 by omega)) rfl)

section
variable {x : Nat × (Nat → Nat)} {n a : Nat}
theorem rf_le : rfB x n a ≤ 1 := by unfold rfB; split <;> (try omega); split <;> (try omega); split <;> omega
theorem fe_a (hn : n ≤ 8) (ha : a ≤ 21) (h : rfB (cpX x 23) n a = 0) {to N : Nat} : foI N 23 0 to (rfA (cpX x 23) n a) = ftI (fiF x (8 - n) a) := by
  obtain ⟨e1, e2, e3⟩ := cp_at (x := x) (m := 23) (j := a) (by omega)
  obtain ⟨f1, f2, f3⟩ := cp_at (x := x) (m := 23) (j := a + 1) (by omega)
  have key : ∀ b F, b ≤ 22 → F = b + 1 → foI N 23 0 to b = ftI F := by
    intro b F hb hF
    unfold foI ftI
    rw [if_neg (by omega), if_neg (by omega), if_neg (by omega), hF, Nat.add_sub_cancel]
  unfold rfB at h
  unfold rfA
  rw [e3, f2] at h ⊢
  by_cases c1 : n = 8
  · rw [if_pos c1]
    refine key _ _ (by omega) ?_
    rw [show 8 - n = 0 by omega]; rfl
  · rw [if_neg c1] at h ⊢
    rw [show 8 - n = 7 - n + 1 by omega]
    by_cases c2 : kdN x a = 0
    · rw [if_pos c2]
      exact key _ _ (by omega) (fi_1 c2)
    · rw [if_neg c2] at h ⊢
      by_cases c3 : dgN x (a + 1) < 2
      · rw [if_pos c3]
        exact key _ _ (by omega) (fi_2 c2 c3)
      · rw [if_neg c3] at h; omega
theorem rf_1 (ha : a ≤ 21) (h : rfB (cpX x 23) n a = 1) : ¬ n = 8 ∧ ¬ kdN x a = 0 ∧ ¬ dgN x (a + 1) < 2 ∧ rfA (cpX x 23) n a = a + 2 := by
  obtain ⟨e1, e2, e3⟩ := cp_at (x := x) (m := 23) (j := a) (by omega)
  obtain ⟨f1, f2, f3⟩ := cp_at (x := x) (m := 23) (j := a + 1) (by omega)
  unfold rfB at h
  unfold rfA
  rw [e3, f2] at h ⊢
  by_cases c1 : n = 8
  · rw [if_pos c1] at h; omega
  · rw [if_neg c1] at h ⊢
    by_cases c2 : kdN x a = 0
    · rw [if_pos c2] at h; omega
    · rw [if_neg c2] at h ⊢
      by_cases c3 : dgN x (a + 1) < 2
      · rw [if_pos c3] at h; omega
      · rw [if_neg c3]; exact ⟨c1, c2, c3, rfl⟩
theorem at_60 {j : Nat} : atN x j = 60 ↔ j < x.1 ∧ x.2 j = 59 := by
  unfold atN
  by_cases c : j < x.1
  · rw [if_pos c]; exact ⟨fun q => ⟨c, by omega⟩, fun q => by omega⟩
  · rw [if_neg c]; exact ⟨fun q => by omega, fun q => absurd q.1 c⟩
theorem fe_b (hn : n ≤ 8) (ha : a ≤ 21) (h : rfB (cpX x 23) n a = 1) (ht : ¬ (a + 2 < (cpX x 23).1 ∧ (cpX x 23).2 (a + 2) = 59)) (hto : a + 2 ≤ (cpX x 23).1) : foI x.1 23 1 (cpX x 23).1 (a + 2) = ftI (fiF x (8 - n) a) := by
  obtain ⟨c1, c2, c3, c4⟩ := rf_1 ha h
  rw [show 8 - n = 7 - n + 1 by omega]
  replace ht : ¬ (a + 2 < min x.1 23 ∧ x.2 (a + 2) = 59) := ht
  replace hto : a + 2 ≤ min x.1 23 := hto
  show foI x.1 23 1 (min x.1 23) (a + 2) = _
  have h60 := at_60 (x := x) (j := a + 2)
  unfold foI ftI
  by_cases d1 : a + 2 = x.1
  · rw [fi_3 c2 c3 d1, if_neg (by omega), if_pos (by omega), if_pos rfl]
  · have d4 : 23 ≤ a + 2 ∨ ¬ atN x (a + 2) = 60 := by
      by_cases z : 23 ≤ a + 2
      · exact Or.inl z
      · refine Or.inr (fun q => ht ?_)
        have := h60.mp q
        exact ⟨by omega, this.2⟩
    rw [fi_4 c2 c3 d1 d4, if_neg (c := a + 3 = 0) (by omega), show a + 3 - 1 = a + 2 by omega]
    by_cases z : 23 < x.1 ∧ ((1 = 1 ∧ a + 2 = min x.1 23) ∨ 23 ≤ a + 2)
    · rw [if_pos z, show a + 2 = 23 by omega]
    · rw [if_neg z, if_neg (by omega)]
theorem fe_c (hn : n ≤ 8) (ha : a ≤ 21) (h : rfB (cpX x 23) n a = 1) (ht : a + 2 < (cpX x 23).1 ∧ (cpX x 23).2 (a + 2) = 59) : fiF x (8 - n) a = fiF x (8 - (n + 1)) (a + 3) ∧ n < 8 ∧ a + 3 ≤ 23 := by
  obtain ⟨c1, c2, c3, c4⟩ := rf_1 ha h
  replace ht : a + 2 < min x.1 23 ∧ x.2 (a + 2) = 59 := ht
  have h60 := at_60 (x := x) (j := a + 2)
  rw [show 8 - n = 8 - (n + 1) + 1 by omega]
  refine ⟨fi_5 c2 c3 (by omega) (fun q => ?_), by omega, by omega⟩
  rcases q with q | q
  · omega
  · exact q (h60.mpr ⟨by omega, ht.2⟩)
end
