/-! day: how the reference reads an act. Printed by wip/whole. -/
theorem to_7 {x : Nat × (Nat → Nat)} (hX : ∀ i, i < x.1 → x.2 i < 256) {a : Nat} : arI (toN 7 x.2 x.1 a) = gI (akN x a) ∧ opN (toN 7 x.2 x.1 a) = (if akN x a = 0 then 0 else 1) := by
  unfold toN akN atN acN
  by_cases c : a < x.1
  · have hx := hX a c
    rw [if_pos c, if_pos c]
    have e : ofN 7 (x.2 a) = (if decide ((110 : Int32) = nI (x.2 a)) = true then some 0 else if decide ((116 : Int32) = nI (x.2 a)) = true then some 1 else if decide ((108 : Int32) = nI (x.2 a)) = true then some 2 else if decide ((98 : Int32) = nI (x.2 a)) = true then some 3 else if decide ((112 : Int32) = nI (x.2 a)) = true then some 4 else none) := rfl
    rw [e]
    have q : ∀ k, k < 256 → (decide (nI k = nI (x.2 a)) = true ↔ x.2 a + 1 = k + 1) := fun k hk => decide_eq_true_iff.trans ((nI_ne (by omega) (by omega)).trans (by omega))
    have q1 : decide ((110 : Int32) = nI (x.2 a)) = true ↔ x.2 a + 1 = 111 := q 110 (by decide)
    have q2 : decide ((116 : Int32) = nI (x.2 a)) = true ↔ x.2 a + 1 = 117 := q 116 (by decide)
    have q3 : decide ((108 : Int32) = nI (x.2 a)) = true ↔ x.2 a + 1 = 109 := q 108 (by decide)
    have q4 : decide ((98 : Int32) = nI (x.2 a)) = true ↔ x.2 a + 1 = 99 := q 98 (by decide)
    have q5 : decide ((112 : Int32) = nI (x.2 a)) = true ↔ x.2 a + 1 = 113 := q 112 (by decide)
    by_cases c1 : x.2 a + 1 = 111
    · rw [if_pos (q1.mpr c1), if_pos c1]; exact ⟨rfl, rfl⟩
    · rw [if_neg (fun z => c1 (q1.mp z)), if_neg c1]
      by_cases c2 : x.2 a + 1 = 117
      · rw [if_pos (q2.mpr c2), if_pos c2]; exact ⟨rfl, rfl⟩
      · rw [if_neg (fun z => c2 (q2.mp z)), if_neg c2]
        by_cases c3 : x.2 a + 1 = 109
        · rw [if_pos (q3.mpr c3), if_pos c3]; exact ⟨rfl, rfl⟩
        · rw [if_neg (fun z => c3 (q3.mp z)), if_neg c3]
          by_cases c4 : x.2 a + 1 = 99
          · rw [if_pos (q4.mpr c4), if_pos c4]; exact ⟨rfl, rfl⟩
          · rw [if_neg (fun z => c4 (q4.mp z)), if_neg c4]
            by_cases c5 : x.2 a + 1 = 113
            · rw [if_pos (q5.mpr c5), if_pos c5]; exact ⟨rfl, rfl⟩
            · rw [if_neg (fun z => c5 (q5.mp z)), if_neg c5]; exact ⟨rfl, rfl⟩
  · rw [if_neg c, if_neg c]; exact ⟨rfl, rfl⟩
def raB (x : Nat × (Nat → Nat)) (a : Nat) : Nat := if akN x a = 0 then 0 else if dgN x (a + 1) < (if akN x a = 4 then 2 else 1) then 0 else if ¬ akN x a = 5 then 1 else if dgN x (a + 2) = 0 then 0 else if dgN x (a + 3) = 0 then 0 else if dgN x (a + 4) = 0 then 0 else 1
def raA (x : Nat × (Nat → Nat)) (a : Nat) : Nat := if akN x a = 0 then a else if dgN x (a + 1) < (if akN x a = 4 then 2 else 1) then a + 1 else if ¬ akN x a = 5 then a + 2 else if dgN x (a + 2) = 0 then a + 2 else if dgN x (a + 3) = 0 then a + 3 else if dgN x (a + 4) = 0 then a + 4 else a + 5
/-- acts before j are as they were -/
def H17 (τ υ : xs) (j : Nat) : Prop := ∀ c k, 172 ≤ c → c ≤ 176 → k < j → si υ c k = si τ c k
section
variable {τ υ ρ : xs} {j a i : Nat} {x v : Int32} {c : Nat} {w : wv} {σ : xs} {t : Nat → Nat} {to b : Nat}
theorem H17.wr (h : H17 τ υ j) : H17 τ (wI υ a j x) j := fun c k h1 h2 h3 => by
  rw [si_wI, if_neg (by omega)]; exact h c k h1 h2 h3
theorem H17.fl {e : Nat} (h : H17 τ υ j) : H17 τ (wF υ 154 e x) j := h
theorem H17.fa (h : H17 τ υ j) (hF : Fa υ ρ) : H17 τ ρ j := fun c k h1 h2 h3 => by rw [hF.si c]; exact h c k h1 h2 h3
theorem yq_17 (h : YQ c w σ τ) (ha : 172 ≤ a ∧ a ≤ 176) : YQ c w σ (wI τ a i x) := h.fq (Fq.wI (by unfold YqA; omega))
theorem yq_40 (h : YQ c w σ τ) : YQ c w σ (wF τ 154 40 x) := h.fq (Fq.wF (by unfold YqF; omega))
theorem RT_17 (h : RT τ t to b) (ha : 172 ≤ a ∧ a ≤ 176) : RT (wI τ a i x) t to b := ⟨h.1, h.2.1, fun k hk => by rw [si_wI, if_neg (by omega)]; exact h.2.2.1 k hk, h.2.2.2⟩
theorem RT_40 (h : RT τ t to b) : RT (wF τ 154 40 x) t to b := ⟨h.1, h.2.1, h.2.2.1, h.2.2.2⟩
theorem hd17 {d : Nat × (Nat → Int64)} (h : YD τ d) : YD (wI τ a i x) d := ⟨h.1, h.2⟩
theorem hd40 {d : Nat × (Nat → Int64)} (h : YD τ d) : YD (wF τ 154 40 x) d := ⟨h.1, h.2⟩
theorem sx_eq : si (wI τ a i x) a i = x := by rw [si_wI, if_pos ⟨rfl, rfl⟩]
theorem sx_ne (h : si τ b i = v) (hb : ¬ b = a) : si (wI τ a i x) b i = v := by rw [si_wI, if_neg (fun q => hb q.1)]; exact h
theorem sx_f {e : Nat} (h : si τ b i = v) : si (wF τ 154 e x) b i = v := h
theorem sf40_w (h : sf τ 154 40 = v) : sf (wI τ a i x) 154 40 = v := h
end
theorem sx_at {c : Nat} {w : wv} {σ τ : xs} {a i : Nat} {x : Int32} (_ : YQ c w σ (wI τ a i x)) : si (wI τ a i x) a i = x := sx_eq
theorem sf_at {c : Nat} {w : wv} {σ τ : xs} {x : Int32} (_ : YQ c w σ (wF τ 154 40 x)) : sf (wF τ 154 40 x) 154 40 = x := rfl
set_option maxHeartbeats 8000000 in
theorem y_readsAct {l : xLa} {d c : Nat} {σ τ : xs} {w : wv} {j a : Nat} (ho : okQ w) (hX : okX (wX w)) (h : YQ c (txC w) σ τ) (hd : YD τ (wD w)) (hR : RT τ (cpX (wX w) 60).2 (cpX (wX w) 60).1 a) (hm : sf τ 154 40 = nI j) (hj : j < 60) : TC l M_Y_readsAct (d + 20) [.ref 154] τ (fun r υ => r = some (.int (nI (raB (cpX (wX w) 60) a))) ∧ YQ c (txC w) σ υ ∧ YD υ (wD w) ∧ RT υ (cpX (wX w) 60).2 (cpX (wX w) 60).1 (raA (cpX (wX w) 60) a) ∧ H17 τ υ j ∧ (raB (cpX (wX w) 60) a = 1 → sf υ 154 40 = nI (j + 1) ∧ AJ υ (cpX (wX w) 60) j a)) := by
  have hx1 := hX.1
  have h256 : ∀ i, i < (cpX (wX w) 60).1 → (cpX (wX w) 60).2 i < 256 := fun i hi => hX.2 i (Nat.lt_of_lt_of_le hi (Nat.min_le_left _ _))
  have ht7 := to_7 (x := cpX (wX w) 60) (a := a) h256
  have hl1 := (dg_le (x := cpX (wX w) 60) (j := a + 1)).1
  have hkl := ac_le (atN (cpX (wX w) 60) a)
  rw [show acN (atN (cpX (wX w) 60) a) = akN (cpX (wX w) 60) a from rfl] at hkl
  have hs : H17 τ τ j := fun _ _ _ _ _ => rfl
  show T l M_Y_readsAct (d + 20) 0 _ [] τ _
  refine T_lv (lv2 := [_, _]) rfl ?_
  refine tt_aload_n d_Y_readsAct_0 rfl ?_
  refine tn_get d_Y_readsAct_1 rfl rfl (by decide) rfl hm ?_
  refine tt_istore_n (lv2 := [_, _]) d_Y_readsAct_4 (by decide) rfl ?_
  refine tt_aload_n d_Y_readsAct_5 rfl ?_
  refine tt_getR d_Y_readsAct_6 rfl rfl (by decide) rfl rfl ?_
  refine tt_iload_n d_Y_readsAct_9 rfl ?_
  refine tt_aload_n d_Y_readsAct_10 rfl ?_
  refine E.ldcSw (j := 7) rfl rfl rfl d_Y_readsAct_11 ?_
  refine tt_callV (y_takesOf (d := d) (j := 7) hR (by decide)) cw_Y_takesOf rfl rfl (by decide) rfl (by omega) d_Y_readsAct_14 rfl rfl (Nat.le_of_ble_eq_true rfl) (Nat.le_of_ble_eq_true rfl) rfl rfl rfl (fun v σ2 q => ?_)
  obtain ⟨rfl, hR, hF⟩ := q
  rw [ht7.1]
  rw [ht7.2] at hR
  replace h := h.fa hF
  replace hd := hd.fa hF
  replace hm := (hF.sf 40 (by decide)).trans hm
  replace hs := hs.fa hF
  refine tn_iast d_Y_readsAct_17 rfl (by decide) (by omega) ?_
  replace h := yq_17 (a := 172) (i := j) (x := gI (akN (cpX (wX w) 60) a)) h (by omega)
  replace hd := hd17 (a := 172) (i := j) (x := gI (akN (cpX (wX w) 60) a)) hd
  replace hR := RT_17 (a := 172) (i := j) (x := gI (akN (cpX (wX w) 60) a)) hR (by omega)
  replace hs := hs.wr (a := 172) (x := gI (akN (cpX (wX w) 60) a))
  have s2 := sx_at h
  refine tt_aload_n d_Y_readsAct_18 rfl ?_
  refine tt_dup d_Y_readsAct_19 rfl ?_
  refine tn_get d_Y_readsAct_20 rfl rfl (by decide) rfl hm ?_
  refine tt_iconst (v := nI 1) d_Y_readsAct_23 (by decide) ?_
  refine tn_iadd d_Y_readsAct_24 ?_
  refine tt_putI d_Y_readsAct_25 rfl rfl (by decide) rfl (xpok_int rfl) rfl ?_
  replace h := yq_40 (x := nI (j + 1)) h
  replace hd := hd40 (x := nI (j + 1)) hd
  replace hR := RT_40 (x := nI (j + 1)) hR
  replace hs := hs.fl (e := 40) (x := nI (j + 1))
  replace s2 := sx_f (e := 40) (x := nI (j + 1)) s2
  have h40 := sf_at h
  refine tt_aload_n d_Y_readsAct_28 rfl ?_
  refine tt_getR d_Y_readsAct_29 rfl rfl (by decide) rfl rfl ?_
  refine tt_iload_n d_Y_readsAct_32 rfl ?_
  refine tn_iald d_Y_readsAct_33 rfl (by decide) (by omega) s2 ?_
  refine tt_if_ge (t := 39) d_Y_readsAct_34 (by decide) (fun c_34 => ?_) (fun c_34 => ?_)
  · have k0 : ¬ akN (cpX (wX w) 60) a = 0 := fun q => by rw [q] at c_34; exact absurd c_34 (by decide)
    rw [if_neg k0] at hR
    refine tt_aload_n d_Y_readsAct_39 rfl ?_
    refine tt_getR d_Y_readsAct_40 rfl rfl (by decide) rfl rfl ?_
    refine tt_iload_n d_Y_readsAct_43 rfl ?_
    refine tt_aload_n d_Y_readsAct_44 rfl ?_
    refine tt_aload_n d_Y_readsAct_45 rfl ?_
    refine tt_getR d_Y_readsAct_46 rfl rfl (by decide) rfl rfl ?_
    refine tt_iload_n d_Y_readsAct_49 rfl ?_
    refine tn_iald d_Y_readsAct_50 rfl (by decide) (by omega) s2 ?_
    refine tt_iconst (v := nI 3) d_Y_readsAct_51 (by decide) ?_
    refine tt_ic_ne (t := 59) d_Y_readsAct_52 (by decide) (fun c_52 => ?_) (fun c_52 => ?_)
    · have k4 : ¬ akN (cpX (wX w) 60) a = 4 := fun q => c_52 (by rw [q]; rfl)
      refine tt_iconst (v := nI 0) d_Y_readsAct_59 (by decide) ?_
      refine tt_callS (y_flag (d := d)) cw_Y_flag rfl (by omega) d_Y_readsAct_60 rfl rfl (Nat.le_of_ble_eq_true rfl) (Nat.le_of_ble_eq_true rfl) rfl rfl rfl (fun v σ2 q => ?_)
      obtain ⟨rfl, e9⟩ := q
      rw [e9]
      clear e9
      first | rw [show flI (nI 1) = nI 1 from rfl] | rw [show flI (nI 0) = nI 0 from rfl]
      refine tt_bipush (v := nI 9) d_Y_readsAct_63 (by decide) ?_
      have hdd := di_dg (x := cpX (wX w) 60) (a := a + 1) (L := 0) (H := 10) (by decide)
      refine tt_callV (y_digitIn (d := d) (L := 0) (H := 10) hR (by decide) (by decide)) cw_Y_digitIn rfl rfl (by decide) rfl (by omega) d_Y_readsAct_65 rfl rfl (Nat.le_of_ble_eq_true rfl) (Nat.le_of_ble_eq_true rfl) rfl rfl rfl (fun v σ2 q => ?_)
      obtain ⟨rfl, hR, hF⟩ := q
      replace h := h.fa hF
      replace hd := hd.fa hF
      replace hs := hs.fa hF
      replace s2 := (congrFun (hF.si 172) j).trans s2
      replace h40 := (hF.sf 40 (by decide)).trans h40
      refine tn_iast d_Y_readsAct_68 rfl (by decide) (by omega) ?_
      replace h := yq_17 (a := 173) (i := j) (x := gI (diN (cpX (wX w) 60).2 (cpX (wX w) 60).1 (a + 1) 0 10)) h (by omega)
      replace hd := hd17 (a := 173) (i := j) (x := gI (diN (cpX (wX w) 60).2 (cpX (wX w) 60).1 (a + 1) 0 10)) hd
      replace hR := RT_17 (a := 173) (i := j) (x := gI (diN (cpX (wX w) 60).2 (cpX (wX w) 60).1 (a + 1) 0 10)) hR (by omega)
      replace hs := hs.wr (a := 173) (x := gI (diN (cpX (wX w) 60).2 (cpX (wX w) 60).1 (a + 1) 0 10))
      replace s2 := sx_ne (a := 173) (x := gI (diN (cpX (wX w) 60).2 (cpX (wX w) 60).1 (a + 1) 0 10)) s2 (by decide)
      replace h40 := sf40_w (a := 173) (i := j) (x := gI (diN (cpX (wX w) 60).2 (cpX (wX w) 60).1 (a + 1) 0 10)) h40
      have s3 := sx_at h
      refine tt_aload_n d_Y_readsAct_69 rfl ?_
      refine tt_getR d_Y_readsAct_70 rfl rfl (by decide) rfl rfl ?_
      refine tt_iload_n d_Y_readsAct_73 rfl ?_
      refine tn_iald d_Y_readsAct_74 rfl (by decide) (by omega) s3 ?_
      refine tt_if_lt (t := 88) d_Y_readsAct_75 (by decide) (fun c_75 => ?_) (fun c_75 => ?_)
      · have e1 := (gI_lt (by rcases Nat.eq_zero_or_pos (diN (cpX (wX w) 60).2 (cpX (wX w) 60).1 (a + 1) 0 10) with q | q; (· omega); (· rw [(hdd.2 (by omega)).1]; omega))).mp c_75
        rw [if_pos e1] at hR
        have k1 : dgN (cpX (wX w) 60) (a + 1) < (if akN (cpX (wX w) 60) a = 4 then 2 else 1) := by rw [if_neg k4]; have := hdd.1.mp e1; omega
        have eB : raB (cpX (wX w) 60) a = 0 := (if_neg k0).trans (if_pos k1)
        have eA : raA (cpX (wX w) 60) a = a + 1 := (if_neg k0).trans (if_pos k1)
        refine tt_aload_n d_Y_readsAct_88 rfl ?_
        refine tt_getR d_Y_readsAct_89 rfl rfl (by decide) rfl rfl ?_
        refine tt_iload_n d_Y_readsAct_92 rfl ?_
        refine tn_iald d_Y_readsAct_93 rfl (by decide) (by omega) s3 ?_
        refine tt_if_lt (t := 101) d_Y_readsAct_94 (by decide) (fun c_94 => ?_) (fun c_94 => ?_)
        · refine tt_iconst (v := nI 0) d_Y_readsAct_101 (by decide) ?_
          refine tt_zret rfl rfl d_Y_readsAct_102 ?_
          refine ⟨by rw [eB], h, hd, by rw [eA]; exact hR, hs, fun q => by omega⟩
        · exact (c_94 (by rw [e1]; decide)).elim
      · have e1 : ¬ diN (cpX (wX w) 60).2 (cpX (wX w) 60).1 (a + 1) 0 10 = 0 := fun q => c_75 (by rw [q]; decide)
        rw [if_neg e1] at hR
        obtain ⟨ed, hlt⟩ := hdd.2 e1
        have k1 : ¬ dgN (cpX (wX w) 60) (a + 1) < (if akN (cpX (wX w) 60) a = 4 then 2 else 1) := by rw [if_neg k4]; have := mt hdd.1.mpr e1; omega
        have k1p : ¬ dgN (cpX (wX w) 60) (a + 1) = 0 := by have := mt hdd.1.mpr e1; omega
        replace s3 := s3.trans (show gI (diN (cpX (wX w) 60).2 (cpX (wX w) 60).1 (a + 1) 0 10) = nI (dgN (cpX (wX w) 60) (a + 1) - 1) from by rw [ed, (gI_c (show dgN (cpX (wX w) 60) (a + 1) < 2 ^ 31 by omega)).2 k1p])
        refine tt_aload_n d_Y_readsAct_78 rfl ?_
        refine tt_getR d_Y_readsAct_79 rfl rfl (by decide) rfl rfl ?_
        refine tt_iload_n d_Y_readsAct_82 rfl ?_
        refine tn_iald d_Y_readsAct_83 rfl (by decide) (by omega) s2 ?_
        refine tt_iconst (v := nI 4) d_Y_readsAct_84 (by decide) ?_
        refine tt_ic_ge (t := 103) d_Y_readsAct_85 (by decide) (fun c_85 => ?_) (fun c_85 => ?_)
        · have k5 : akN (cpX (wX w) 60) a = 5 := by have := (gI_leN (a := 5) (b := akN (cpX (wX w) 60) a) (by omega) (by omega)).mp c_85; omega
          have hid2 := dg_isD (x := cpX (wX w) 60) (i := a + 1 + 1)
          have hid3 := dg_isD (x := cpX (wX w) 60) (i := a + 1 + 1 + 1)
          have hid4 := dg_isD (x := cpX (wX w) 60) (i := a + 1 + 1 + 1 + 1)
          refine tt_aload_n d_Y_readsAct_103 rfl ?_
          refine tt_getR d_Y_readsAct_104 rfl rfl (by decide) rfl rfl ?_
          refine tt_iload_n d_Y_readsAct_107 rfl ?_
          refine tt_aload_n d_Y_readsAct_108 rfl ?_
          refine tt_iconst (v := nI 1) d_Y_readsAct_109 (by decide) ?_
          refine tt_callV (y_number (d := d) (D := 1) hR (by decide)) cw_Y_number rfl rfl (by decide) rfl (by omega) d_Y_readsAct_110 rfl rfl (Nat.le_of_ble_eq_true rfl) (Nat.le_of_ble_eq_true rfl) rfl rfl rfl (fun v σ2 q => ?_)
          obtain ⟨rfl, hR, hF⟩ := q
          replace h := h.fa hF
          replace hd := hd.fa hF
          replace hs := hs.fa hF
          replace s2 := (congrFun (hF.si 172) j).trans s2
          replace s3 := (congrFun (hF.si 173) j).trans s3
          replace h40 := (hF.sf 40 (by decide)).trans h40
          refine tn_iast d_Y_readsAct_113 rfl (by decide) (by omega) ?_
          replace h := yq_17 (a := 174) (i := j) (x := nmI (cpX (wX w) 60).2 (cpX (wX w) 60).1 1 (a + 1 + 1)) h (by omega)
          replace hd := hd17 (a := 174) (i := j) (x := nmI (cpX (wX w) 60).2 (cpX (wX w) 60).1 1 (a + 1 + 1)) hd
          replace hR := RT_17 (a := 174) (i := j) (x := nmI (cpX (wX w) 60).2 (cpX (wX w) 60).1 1 (a + 1 + 1)) hR (by omega)
          replace hs := hs.wr (a := 174) (x := nmI (cpX (wX w) 60).2 (cpX (wX w) 60).1 1 (a + 1 + 1))
          replace s2 := sx_ne (a := 174) (x := nmI (cpX (wX w) 60).2 (cpX (wX w) 60).1 1 (a + 1 + 1)) s2 (by decide)
          replace s3 := sx_ne (a := 174) (x := nmI (cpX (wX w) 60).2 (cpX (wX w) 60).1 1 (a + 1 + 1)) s3 (by decide)
          replace h40 := sf40_w (a := 174) (i := j) (x := nmI (cpX (wX w) 60).2 (cpX (wX w) 60).1 1 (a + 1 + 1)) h40
          have s4 := sx_at h
          refine tt_aload_n d_Y_readsAct_114 rfl ?_
          refine tt_getR d_Y_readsAct_115 rfl rfl (by decide) rfl rfl ?_
          refine tt_iload_n d_Y_readsAct_118 rfl ?_
          refine tt_aload_n d_Y_readsAct_119 rfl ?_
          refine tt_getR d_Y_readsAct_120 rfl rfl (by decide) rfl rfl ?_
          refine tt_iload_n d_Y_readsAct_123 rfl ?_
          refine tn_iald d_Y_readsAct_124 rfl (by decide) (by omega) s4 ?_
          refine tt_if_ge (t := 132) d_Y_readsAct_125 (by decide) (fun c_125 => ?_) (fun c_125 => ?_)
          · have d2 : ¬ dgN (cpX (wX w) 60) (a + 2) = 0 := fun q => by rw [(nm_0 (d := 1) (fun z => hid2.mp z q)).1] at c_125; exact absurd c_125 (by decide)
            obtain ⟨n2, m2⟩ := nm_1 (hid2.mpr d2)
            rw [m2] at hR
            replace s4 := s4.trans n2
            have v2 := ((dg_le (x := cpX (wX w) 60) (j := a + 2)).2.1 d2).2.2.2
            refine tt_aload_n d_Y_readsAct_132 rfl ?_
            refine tt_iconst (v := nI 1) d_Y_readsAct_133 (by decide) ?_
            refine tt_callV (y_number (d := d) (D := 1) hR (by decide)) cw_Y_number rfl rfl (by decide) rfl (by omega) d_Y_readsAct_134 rfl rfl (Nat.le_of_ble_eq_true rfl) (Nat.le_of_ble_eq_true rfl) rfl rfl rfl (fun v σ2 q => ?_)
            obtain ⟨rfl, hR, hF⟩ := q
            replace h := h.fa hF
            replace hd := hd.fa hF
            replace hs := hs.fa hF
            replace s2 := (congrFun (hF.si 172) j).trans s2
            replace s3 := (congrFun (hF.si 173) j).trans s3
            replace s4 := (congrFun (hF.si 174) j).trans s4
            replace h40 := (hF.sf 40 (by decide)).trans h40
            refine tn_iast d_Y_readsAct_137 rfl (by decide) (by omega) ?_
            replace h := yq_17 (a := 175) (i := j) (x := nmI (cpX (wX w) 60).2 (cpX (wX w) 60).1 1 (a + 1 + 1 + 1)) h (by omega)
            replace hd := hd17 (a := 175) (i := j) (x := nmI (cpX (wX w) 60).2 (cpX (wX w) 60).1 1 (a + 1 + 1 + 1)) hd
            replace hR := RT_17 (a := 175) (i := j) (x := nmI (cpX (wX w) 60).2 (cpX (wX w) 60).1 1 (a + 1 + 1 + 1)) hR (by omega)
            replace hs := hs.wr (a := 175) (x := nmI (cpX (wX w) 60).2 (cpX (wX w) 60).1 1 (a + 1 + 1 + 1))
            replace s2 := sx_ne (a := 175) (x := nmI (cpX (wX w) 60).2 (cpX (wX w) 60).1 1 (a + 1 + 1 + 1)) s2 (by decide)
            replace s3 := sx_ne (a := 175) (x := nmI (cpX (wX w) 60).2 (cpX (wX w) 60).1 1 (a + 1 + 1 + 1)) s3 (by decide)
            replace s4 := sx_ne (a := 175) (x := nmI (cpX (wX w) 60).2 (cpX (wX w) 60).1 1 (a + 1 + 1 + 1)) s4 (by decide)
            replace h40 := sf40_w (a := 175) (i := j) (x := nmI (cpX (wX w) 60).2 (cpX (wX w) 60).1 1 (a + 1 + 1 + 1)) h40
            have s5 := sx_at h
            refine tt_aload_n d_Y_readsAct_138 rfl ?_
            refine tt_getR d_Y_readsAct_139 rfl rfl (by decide) rfl rfl ?_
            refine tt_iload_n d_Y_readsAct_142 rfl ?_
            refine tt_aload_n d_Y_readsAct_143 rfl ?_
            refine tt_getR d_Y_readsAct_144 rfl rfl (by decide) rfl rfl ?_
            refine tt_iload_n d_Y_readsAct_147 rfl ?_
            refine tn_iald d_Y_readsAct_148 rfl (by decide) (by omega) s5 ?_
            refine tt_if_ge (t := 156) d_Y_readsAct_149 (by decide) (fun c_149 => ?_) (fun c_149 => ?_)
            · have d3 : ¬ dgN (cpX (wX w) 60) (a + 3) = 0 := fun q => by rw [(nm_0 (d := 1) (fun z => hid3.mp z q)).1] at c_149; exact absurd c_149 (by decide)
              obtain ⟨n3, m3⟩ := nm_1 (hid3.mpr d3)
              rw [m3] at hR
              replace s5 := s5.trans n3
              have v3 := ((dg_le (x := cpX (wX w) 60) (j := a + 3)).2.1 d3).2.2.2
              refine tt_aload_n d_Y_readsAct_156 rfl ?_
              refine tt_iconst (v := nI 1) d_Y_readsAct_157 (by decide) ?_
              refine tt_callV (y_number (d := d) (D := 1) hR (by decide)) cw_Y_number rfl rfl (by decide) rfl (by omega) d_Y_readsAct_158 rfl rfl (Nat.le_of_ble_eq_true rfl) (Nat.le_of_ble_eq_true rfl) rfl rfl rfl (fun v σ2 q => ?_)
              obtain ⟨rfl, hR, hF⟩ := q
              replace h := h.fa hF
              replace hd := hd.fa hF
              replace hs := hs.fa hF
              replace s2 := (congrFun (hF.si 172) j).trans s2
              replace s3 := (congrFun (hF.si 173) j).trans s3
              replace s4 := (congrFun (hF.si 174) j).trans s4
              replace s5 := (congrFun (hF.si 175) j).trans s5
              replace h40 := (hF.sf 40 (by decide)).trans h40
              refine tn_iast d_Y_readsAct_161 rfl (by decide) (by omega) ?_
              replace h := yq_17 (a := 176) (i := j) (x := nmI (cpX (wX w) 60).2 (cpX (wX w) 60).1 1 (a + 1 + 1 + 1 + 1)) h (by omega)
              replace hd := hd17 (a := 176) (i := j) (x := nmI (cpX (wX w) 60).2 (cpX (wX w) 60).1 1 (a + 1 + 1 + 1 + 1)) hd
              replace hR := RT_17 (a := 176) (i := j) (x := nmI (cpX (wX w) 60).2 (cpX (wX w) 60).1 1 (a + 1 + 1 + 1 + 1)) hR (by omega)
              replace hs := hs.wr (a := 176) (x := nmI (cpX (wX w) 60).2 (cpX (wX w) 60).1 1 (a + 1 + 1 + 1 + 1))
              replace s2 := sx_ne (a := 176) (x := nmI (cpX (wX w) 60).2 (cpX (wX w) 60).1 1 (a + 1 + 1 + 1 + 1)) s2 (by decide)
              replace s3 := sx_ne (a := 176) (x := nmI (cpX (wX w) 60).2 (cpX (wX w) 60).1 1 (a + 1 + 1 + 1 + 1)) s3 (by decide)
              replace s4 := sx_ne (a := 176) (x := nmI (cpX (wX w) 60).2 (cpX (wX w) 60).1 1 (a + 1 + 1 + 1 + 1)) s4 (by decide)
              replace s5 := sx_ne (a := 176) (x := nmI (cpX (wX w) 60).2 (cpX (wX w) 60).1 1 (a + 1 + 1 + 1 + 1)) s5 (by decide)
              replace h40 := sf40_w (a := 176) (i := j) (x := nmI (cpX (wX w) 60).2 (cpX (wX w) 60).1 1 (a + 1 + 1 + 1 + 1)) h40
              have s6 := sx_at h
              refine tt_aload_n d_Y_readsAct_162 rfl ?_
              refine tt_getR d_Y_readsAct_163 rfl rfl (by decide) rfl rfl ?_
              refine tt_iload_n d_Y_readsAct_166 rfl ?_
              refine tn_iald d_Y_readsAct_167 rfl (by decide) (by omega) s6 ?_
              refine tt_if_lt (t := 175) d_Y_readsAct_168 (by decide) (fun c_168 => ?_) (fun c_168 => ?_)
              · have d4 : dgN (cpX (wX w) 60) (a + 4) = 0 := Decidable.byContradiction (fun q => by rw [(nm_1 (hid4.mpr q)).1] at c_168; exact absurd c_168 (nI_pos (by have := h256 _ (hid4.mpr q).1; omega)))
                rw [(nm_0 (d := 1) (fun z => hid4.mp z d4)).2] at hR
                have eB : raB (cpX (wX w) 60) a = 0 := (if_neg k0).trans ((if_neg k1).trans ((if_neg (nnN k5)).trans ((if_neg d2).trans ((if_neg d3).trans (if_pos d4)))))
                have eA : raA (cpX (wX w) 60) a = a + 4 := (if_neg k0).trans ((if_neg k1).trans ((if_neg (nnN k5)).trans ((if_neg d2).trans ((if_neg d3).trans (if_pos d4)))))
                refine tt_iconst (v := nI 0) d_Y_readsAct_175 (by decide) ?_
                refine tt_zret rfl rfl d_Y_readsAct_176 ?_
                refine ⟨by rw [eB], h, hd, by rw [eA]; exact hR, hs, fun q => by omega⟩
              · have d4 : ¬ dgN (cpX (wX w) 60) (a + 4) = 0 := fun q => by rw [(nm_0 (d := 1) (fun z => hid4.mp z q)).1] at c_168; exact c_168 (by decide)
                obtain ⟨n4, m4⟩ := nm_1 (hid4.mpr d4)
                rw [m4] at hR
                replace s6 := s6.trans n4
                have v4 := ((dg_le (x := cpX (wX w) 60) (j := a + 4)).2.1 d4).2.2.2
                have eB : raB (cpX (wX w) 60) a = 1 := (if_neg k0).trans ((if_neg k1).trans ((if_neg (nnN k5)).trans ((if_neg d2).trans ((if_neg d3).trans (if_neg d4)))))
                have eA : raA (cpX (wX w) 60) a = a + 5 := (if_neg k0).trans ((if_neg k1).trans ((if_neg (nnN k5)).trans ((if_neg d2).trans ((if_neg d3).trans (if_neg d4)))))
                refine tt_iconst (v := nI 1) d_Y_readsAct_171 (by decide) ?_
                refine tt_goto (t := 176) d_Y_readsAct_172 (by decide) ?_
                refine tt_zret rfl rfl d_Y_readsAct_176 ?_
                refine ⟨by rw [eB], h, hd, by rw [eA]; exact hR, hs, fun q => ⟨h40, by rw [s2, (gI_c (by omega)).2 k0], s3, fun _ => ⟨by rw [s4, v2]; rfl, by rw [s5, v3]; rfl, by rw [s6, v4]; rfl⟩⟩⟩
            · have d3 : dgN (cpX (wX w) 60) (a + 3) = 0 := Decidable.byContradiction (fun q => c_149 (by rw [(nm_1 (hid3.mpr q)).1]; exact nI_nn (by have := h256 _ (hid3.mpr q).1; omega)))
              rw [(nm_0 (d := 1) (fun z => hid3.mp z d3)).2] at hR
              have eB : raB (cpX (wX w) 60) a = 0 := (if_neg k0).trans ((if_neg k1).trans ((if_neg (nnN k5)).trans ((if_neg d2).trans (if_pos d3))))
              have eA : raA (cpX (wX w) 60) a = a + 3 := (if_neg k0).trans ((if_neg k1).trans ((if_neg (nnN k5)).trans ((if_neg d2).trans (if_pos d3))))
              refine tt_iconst (v := (-1)) d_Y_readsAct_152 (by decide) ?_
              refine tt_goto (t := 161) d_Y_readsAct_153 (by decide) ?_
              refine tn_iast d_Y_readsAct_161 rfl (by decide) (by omega) ?_
              replace h := yq_17 (a := 176) (i := j) (x := -1) h (by omega)
              replace hd := hd17 (a := 176) (i := j) (x := -1) hd
              replace hR := RT_17 (a := 176) (i := j) (x := -1) hR (by omega)
              replace hs := hs.wr (a := 176) (x := -1)
              replace s2 := sx_ne (a := 176) (x := -1) s2 (by decide)
              replace s3 := sx_ne (a := 176) (x := -1) s3 (by decide)
              replace s4 := sx_ne (a := 176) (x := -1) s4 (by decide)
              replace s5 := sx_ne (a := 176) (x := -1) s5 (by decide)
              replace h40 := sf40_w (a := 176) (i := j) (x := -1) h40
              have s6 := sx_at h
              refine tt_aload_n d_Y_readsAct_162 rfl ?_
              refine tt_getR d_Y_readsAct_163 rfl rfl (by decide) rfl rfl ?_
              refine tt_iload_n d_Y_readsAct_166 rfl ?_
              refine tn_iald d_Y_readsAct_167 rfl (by decide) (by omega) s6 ?_
              refine tt_if_lt (t := 175) d_Y_readsAct_168 (by decide) (fun c_168 => ?_) (fun c_168 => ?_)
              · refine tt_iconst (v := nI 0) d_Y_readsAct_175 (by decide) ?_
                refine tt_zret rfl rfl d_Y_readsAct_176 ?_
                refine ⟨by rw [eB], h, hd, by rw [eA]; exact hR, hs, fun q => by omega⟩
              · exact (c_168 (by decide)).elim
          · have d2 : dgN (cpX (wX w) 60) (a + 2) = 0 := Decidable.byContradiction (fun q => c_125 (by rw [(nm_1 (hid2.mpr q)).1]; exact nI_nn (by have := h256 _ (hid2.mpr q).1; omega)))
            rw [(nm_0 (d := 1) (fun z => hid2.mp z d2)).2] at hR
            have eB : raB (cpX (wX w) 60) a = 0 := (if_neg k0).trans ((if_neg k1).trans ((if_neg (nnN k5)).trans (if_pos d2)))
            have eA : raA (cpX (wX w) 60) a = a + 2 := (if_neg k0).trans ((if_neg k1).trans ((if_neg (nnN k5)).trans (if_pos d2)))
            refine tt_iconst (v := (-1)) d_Y_readsAct_128 (by decide) ?_
            refine tt_goto (t := 137) d_Y_readsAct_129 (by decide) ?_
            refine tn_iast d_Y_readsAct_137 rfl (by decide) (by omega) ?_
            replace h := yq_17 (a := 175) (i := j) (x := -1) h (by omega)
            replace hd := hd17 (a := 175) (i := j) (x := -1) hd
            replace hR := RT_17 (a := 175) (i := j) (x := -1) hR (by omega)
            replace hs := hs.wr (a := 175) (x := -1)
            replace s2 := sx_ne (a := 175) (x := -1) s2 (by decide)
            replace s3 := sx_ne (a := 175) (x := -1) s3 (by decide)
            replace s4 := sx_ne (a := 175) (x := -1) s4 (by decide)
            replace h40 := sf40_w (a := 175) (i := j) (x := -1) h40
            have s5 := sx_at h
            refine tt_aload_n d_Y_readsAct_138 rfl ?_
            refine tt_getR d_Y_readsAct_139 rfl rfl (by decide) rfl rfl ?_
            refine tt_iload_n d_Y_readsAct_142 rfl ?_
            refine tt_aload_n d_Y_readsAct_143 rfl ?_
            refine tt_getR d_Y_readsAct_144 rfl rfl (by decide) rfl rfl ?_
            refine tt_iload_n d_Y_readsAct_147 rfl ?_
            refine tn_iald d_Y_readsAct_148 rfl (by decide) (by omega) s5 ?_
            refine tt_if_ge (t := 156) d_Y_readsAct_149 (by decide) (fun c_149 => ?_) (fun c_149 => ?_)
            · exact absurd c_149 (by decide)
            · refine tt_iconst (v := (-1)) d_Y_readsAct_152 (by decide) ?_
              refine tt_goto (t := 161) d_Y_readsAct_153 (by decide) ?_
              refine tn_iast d_Y_readsAct_161 rfl (by decide) (by omega) ?_
              replace h := yq_17 (a := 176) (i := j) (x := -1) h (by omega)
              replace hd := hd17 (a := 176) (i := j) (x := -1) hd
              replace hR := RT_17 (a := 176) (i := j) (x := -1) hR (by omega)
              replace hs := hs.wr (a := 176) (x := -1)
              replace s2 := sx_ne (a := 176) (x := -1) s2 (by decide)
              replace s3 := sx_ne (a := 176) (x := -1) s3 (by decide)
              replace s4 := sx_ne (a := 176) (x := -1) s4 (by decide)
              replace s5 := sx_ne (a := 176) (x := -1) s5 (by decide)
              replace h40 := sf40_w (a := 176) (i := j) (x := -1) h40
              have s6 := sx_at h
              refine tt_aload_n d_Y_readsAct_162 rfl ?_
              refine tt_getR d_Y_readsAct_163 rfl rfl (by decide) rfl rfl ?_
              refine tt_iload_n d_Y_readsAct_166 rfl ?_
              refine tn_iald d_Y_readsAct_167 rfl (by decide) (by omega) s6 ?_
              refine tt_if_lt (t := 175) d_Y_readsAct_168 (by decide) (fun c_168 => ?_) (fun c_168 => ?_)
              · refine tt_iconst (v := nI 0) d_Y_readsAct_175 (by decide) ?_
                refine tt_zret rfl rfl d_Y_readsAct_176 ?_
                refine ⟨by rw [eB], h, hd, by rw [eA]; exact hR, hs, fun q => by omega⟩
              · exact (c_168 (by decide)).elim
        · have k5 : ¬ akN (cpX (wX w) 60) a = 5 := fun q => c_85 (by rw [q]; decide)
          have eB : raB (cpX (wX w) 60) a = 1 := (if_neg k0).trans ((if_neg k1).trans (if_pos k5))
          have eA : raA (cpX (wX w) 60) a = a + 2 := (if_neg k0).trans ((if_neg k1).trans (if_pos k5))
          refine tt_aload_n d_Y_readsAct_88 rfl ?_
          refine tt_getR d_Y_readsAct_89 rfl rfl (by decide) rfl rfl ?_
          refine tt_iload_n d_Y_readsAct_92 rfl ?_
          refine tn_iald d_Y_readsAct_93 rfl (by decide) (by omega) s3 ?_
          refine tt_if_lt (t := 101) d_Y_readsAct_94 (by decide) (fun c_94 => ?_) (fun c_94 => ?_)
          · exact absurd c_94 (nI_pos (by omega))
          · refine tt_iconst (v := nI 1) d_Y_readsAct_97 (by decide) ?_
            refine tt_goto (t := 102) d_Y_readsAct_98 (by decide) ?_
            refine tt_zret rfl rfl d_Y_readsAct_102 ?_
            refine ⟨by rw [eB], h, hd, by rw [eA]; exact hR, hs, fun q => ⟨h40, by rw [s2, (gI_c (by omega)).2 k0], s3, fun z => absurd z k5⟩⟩
    · have k4 : akN (cpX (wX w) 60) a = 4 := (gI_eqN (by omega) (by omega)).mp (Decidable.not_not.mp c_52)
      refine tt_iconst (v := nI 1) d_Y_readsAct_55 (by decide) ?_
      refine tt_goto (t := 60) d_Y_readsAct_56 (by decide) ?_
      refine tt_callS (y_flag (d := d)) cw_Y_flag rfl (by omega) d_Y_readsAct_60 rfl rfl (Nat.le_of_ble_eq_true rfl) (Nat.le_of_ble_eq_true rfl) rfl rfl rfl (fun v σ2 q => ?_)
      obtain ⟨rfl, e9⟩ := q
      rw [e9]
      clear e9
      first | rw [show flI (nI 1) = nI 1 from rfl] | rw [show flI (nI 0) = nI 0 from rfl]
      refine tt_bipush (v := nI 9) d_Y_readsAct_63 (by decide) ?_
      have hdd := di_dg (x := cpX (wX w) 60) (a := a + 1) (L := 1) (H := 10) (by decide)
      refine tt_callV (y_digitIn (d := d) (L := 1) (H := 10) hR (by decide) (by decide)) cw_Y_digitIn rfl rfl (by decide) rfl (by omega) d_Y_readsAct_65 rfl rfl (Nat.le_of_ble_eq_true rfl) (Nat.le_of_ble_eq_true rfl) rfl rfl rfl (fun v σ2 q => ?_)
      obtain ⟨rfl, hR, hF⟩ := q
      replace h := h.fa hF
      replace hd := hd.fa hF
      replace hs := hs.fa hF
      replace s2 := (congrFun (hF.si 172) j).trans s2
      replace h40 := (hF.sf 40 (by decide)).trans h40
      refine tn_iast d_Y_readsAct_68 rfl (by decide) (by omega) ?_
      replace h := yq_17 (a := 173) (i := j) (x := gI (diN (cpX (wX w) 60).2 (cpX (wX w) 60).1 (a + 1) 1 10)) h (by omega)
      replace hd := hd17 (a := 173) (i := j) (x := gI (diN (cpX (wX w) 60).2 (cpX (wX w) 60).1 (a + 1) 1 10)) hd
      replace hR := RT_17 (a := 173) (i := j) (x := gI (diN (cpX (wX w) 60).2 (cpX (wX w) 60).1 (a + 1) 1 10)) hR (by omega)
      replace hs := hs.wr (a := 173) (x := gI (diN (cpX (wX w) 60).2 (cpX (wX w) 60).1 (a + 1) 1 10))
      replace s2 := sx_ne (a := 173) (x := gI (diN (cpX (wX w) 60).2 (cpX (wX w) 60).1 (a + 1) 1 10)) s2 (by decide)
      replace h40 := sf40_w (a := 173) (i := j) (x := gI (diN (cpX (wX w) 60).2 (cpX (wX w) 60).1 (a + 1) 1 10)) h40
      have s3 := sx_at h
      refine tt_aload_n d_Y_readsAct_69 rfl ?_
      refine tt_getR d_Y_readsAct_70 rfl rfl (by decide) rfl rfl ?_
      refine tt_iload_n d_Y_readsAct_73 rfl ?_
      refine tn_iald d_Y_readsAct_74 rfl (by decide) (by omega) s3 ?_
      refine tt_if_lt (t := 88) d_Y_readsAct_75 (by decide) (fun c_75 => ?_) (fun c_75 => ?_)
      · have e1 := (gI_lt (by rcases Nat.eq_zero_or_pos (diN (cpX (wX w) 60).2 (cpX (wX w) 60).1 (a + 1) 1 10) with q | q; (· omega); (· rw [(hdd.2 (by omega)).1]; omega))).mp c_75
        rw [if_pos e1] at hR
        have k1 : dgN (cpX (wX w) 60) (a + 1) < (if akN (cpX (wX w) 60) a = 4 then 2 else 1) := by rw [if_pos k4]; have := hdd.1.mp e1; omega
        have eB : raB (cpX (wX w) 60) a = 0 := (if_neg k0).trans (if_pos k1)
        have eA : raA (cpX (wX w) 60) a = a + 1 := (if_neg k0).trans (if_pos k1)
        refine tt_aload_n d_Y_readsAct_88 rfl ?_
        refine tt_getR d_Y_readsAct_89 rfl rfl (by decide) rfl rfl ?_
        refine tt_iload_n d_Y_readsAct_92 rfl ?_
        refine tn_iald d_Y_readsAct_93 rfl (by decide) (by omega) s3 ?_
        refine tt_if_lt (t := 101) d_Y_readsAct_94 (by decide) (fun c_94 => ?_) (fun c_94 => ?_)
        · refine tt_iconst (v := nI 0) d_Y_readsAct_101 (by decide) ?_
          refine tt_zret rfl rfl d_Y_readsAct_102 ?_
          refine ⟨by rw [eB], h, hd, by rw [eA]; exact hR, hs, fun q => by omega⟩
        · exact (c_94 (by rw [e1]; decide)).elim
      · have e1 : ¬ diN (cpX (wX w) 60).2 (cpX (wX w) 60).1 (a + 1) 1 10 = 0 := fun q => c_75 (by rw [q]; decide)
        rw [if_neg e1] at hR
        obtain ⟨ed, hlt⟩ := hdd.2 e1
        have k1 : ¬ dgN (cpX (wX w) 60) (a + 1) < (if akN (cpX (wX w) 60) a = 4 then 2 else 1) := by rw [if_pos k4]; have := mt hdd.1.mpr e1; omega
        have k1p : ¬ dgN (cpX (wX w) 60) (a + 1) = 0 := by have := mt hdd.1.mpr e1; omega
        replace s3 := s3.trans (show gI (diN (cpX (wX w) 60).2 (cpX (wX w) 60).1 (a + 1) 1 10) = nI (dgN (cpX (wX w) 60) (a + 1) - 1) from by rw [ed, (gI_c (show dgN (cpX (wX w) 60) (a + 1) < 2 ^ 31 by omega)).2 k1p])
        refine tt_aload_n d_Y_readsAct_78 rfl ?_
        refine tt_getR d_Y_readsAct_79 rfl rfl (by decide) rfl rfl ?_
        refine tt_iload_n d_Y_readsAct_82 rfl ?_
        refine tn_iald d_Y_readsAct_83 rfl (by decide) (by omega) s2 ?_
        refine tt_iconst (v := nI 4) d_Y_readsAct_84 (by decide) ?_
        refine tt_ic_ge (t := 103) d_Y_readsAct_85 (by decide) (fun c_85 => ?_) (fun c_85 => ?_)
        · exact absurd ((gI_leN (a := 5) (by omega) (by omega)).mp c_85) (by omega)
        · have k5 : ¬ akN (cpX (wX w) 60) a = 5 := fun q => c_85 (by rw [q]; decide)
          have eB : raB (cpX (wX w) 60) a = 1 := (if_neg k0).trans ((if_neg k1).trans (if_pos k5))
          have eA : raA (cpX (wX w) 60) a = a + 2 := (if_neg k0).trans ((if_neg k1).trans (if_pos k5))
          refine tt_aload_n d_Y_readsAct_88 rfl ?_
          refine tt_getR d_Y_readsAct_89 rfl rfl (by decide) rfl rfl ?_
          refine tt_iload_n d_Y_readsAct_92 rfl ?_
          refine tn_iald d_Y_readsAct_93 rfl (by decide) (by omega) s3 ?_
          refine tt_if_lt (t := 101) d_Y_readsAct_94 (by decide) (fun c_94 => ?_) (fun c_94 => ?_)
          · exact absurd c_94 (nI_pos (by omega))
          · refine tt_iconst (v := nI 1) d_Y_readsAct_97 (by decide) ?_
            refine tt_goto (t := 102) d_Y_readsAct_98 (by decide) ?_
            refine tt_zret rfl rfl d_Y_readsAct_102 ?_
            refine ⟨by rw [eB], h, hd, by rw [eA]; exact hR, hs, fun q => ⟨h40, by rw [s2, (gI_c (by omega)).2 k0], s3, fun z => absurd z k5⟩⟩
  · have k0 : akN (cpX (wX w) 60) a = 0 := Decidable.byContradiction (fun q => c_34 (by rw [(gI_c (by omega)).2 q]; exact nI_nn (by omega)))
    rw [if_pos k0] at hR
    have eB : raB (cpX (wX w) 60) a = 0 := if_pos k0
    have eA : raA (cpX (wX w) 60) a = a := if_pos k0
    refine tt_iconst (v := nI 0) d_Y_readsAct_37 (by decide) ?_
    refine tt_zret rfl rfl d_Y_readsAct_38 ?_
    refine ⟨by rw [eB], h, hd, by rw [eA]; exact hR, hs, fun q => by omega⟩

