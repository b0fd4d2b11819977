/-! oar: the reference. Printed by wip/whole. -/
def rpB (w : wv) (i a : Nat) : Nat := if i = 12 then 0 else if cbT w (dgN (wX w) a) = 0 then 0 else if ¬ (1 ≤ dgN (wX w) (a + 1) ∧ dgN (wX w) (a + 1) ≤ eR (wE w)) then 0 else if ¬ (1 ≤ dgN (wX w) (a + 2) ∧ dgN (wX w) (a + 2) ≤ eC (wE w)) then 0 else if dgN (wX w) (a + 3) = 0 then 0 else 1
def rpA (w : wv) (i a : Nat) : Nat := if i = 12 then a else if cbT w (dgN (wX w) a) = 0 then a else if ¬ (1 ≤ dgN (wX w) (a + 1) ∧ dgN (wX w) (a + 1) ≤ eR (wE w)) then a + 1 else if ¬ (1 ≤ dgN (wX w) (a + 2) ∧ dgN (wX w) (a + 2) ≤ eC (wE w)) then a + 2 else if dgN (wX w) (a + 3) = 0 then a + 3 else a + 4
theorem cbT_0 {w : wv} {f : Nat} (h : ¬ (1 ≤ f ∧ f ≤ eN (wE w))) : cbT w f = 0 := by
  unfold cbT
  by_cases c : f = 0
  · rw [if_pos c]
  · rw [if_neg c, if_neg (by omega)]
theorem cbT_N {w : wv} {f : Nat} (h : 1 ≤ f ∧ f ≤ eN (wE w)) : cbT w f = cbN (wE w) (wV w) (f - 1) := by
  unfold cbT
  rw [if_neg (by omega), if_pos (by omega)]
theorem hs16 {τ : xs} {g : Nat → Int32} {x : Int32} (h : ∀ k, si τ 164 k = g k) : ∀ k, si (wF τ 154 16 x) 164 k = g k := h
theorem hm16 {τ : xs} {x y : Int32} (h : sf τ 154 21 = y) : sf (wF τ 154 16 x) 154 21 = y := h
theorem hd16 {τ : xs} {t : Nat × (Nat → Int64)} {x : Int32} (h : YD τ t) : YD (wF τ 154 16 x) t := ⟨h.1, h.2⟩
set_option maxHeartbeats 8000000 in
theorem y_readsPr {l : xLa} {d c : Nat} {σ τ : xs} {w : wv} {i a : Nat} (ho : okQ w) (hX : okX (wX w)) (h : YQ c (txC w) σ τ) (hd : YD τ (wD w)) (hR : RT τ (wX w).2 (wX w).1 a) (hm : sf τ 154 21 = nI i) (hi : i ≤ 12) : TC l M_Y_readsPromise (d + 20) [.ref 154] τ (fun r υ => r = some (.int (nI (rpB w i a))) ∧ YQ c (txC w) σ υ ∧ YD υ (wD w) ∧ RT υ (wX w).2 (wX w).1 (rpA w i a) ∧ (∀ k, k < 3 * i → si υ 164 k = si τ 164 k) ∧ (rpB w i a = 1 → sf υ 154 21 = nI (i + 1) ∧ si υ 164 (3 * i) = nI (dgN (wX w) a - 1) ∧ si υ 164 (3 * i + 1) = nI ((dgN (wX w) (a + 1) - 1) * eC (wE w) + (dgN (wX w) (a + 2) - 1)) ∧ si υ 164 (3 * i + 2) = nI (dgN (wX w) (a + 3) - 1))) := by
  have hx1 := hX.1
  have hb8 := ho.n8
  have hR6 := ho.1.1.2.1
  have hC6 := ho.1.1.2.2.2.1
  have hdd0 := di_dg (x := wX w) (a := a) (L := 0) (H := eN (wE w)) (by omega)
  have hdd1 := di_dg (x := wX w) (a := a + 1) (L := 0) (H := eR (wE w)) (by omega)
  have hdd2 := di_dg (x := wX w) (a := a + 2) (L := 0) (H := eC (wE w)) (by omega)
  have hl0 := (dg_le (x := wX w) (j := a)).1
  have hl1 := (dg_le (x := wX w) (j := a + 1)).1
  have hl2 := (dg_le (x := wX w) (j := a + 2)).1
  have hl3 := (dg_le (x := wX w) (j := a + 3)).1
  have hdn0 : diN (wX w).2 (wX w).1 a 0 (eN (wE w)) ≤ 10 := by by_cases q : diN (wX w).2 (wX w).1 a 0 (eN (wE w)) = 0; (· omega); (· rw [(hdd0.2 q).1]; omega)
  have hs : ∀ k, si τ 164 k = si τ 164 k := fun _ => rfl
  show T l M_Y_readsPromise (d + 20) 0 _ [] τ _
  refine T_lv (lv2 := [_, _, _, _, _]) rfl ?_
  refine tt_aload_n d_Y_readsPromise_0 rfl ?_
  refine tn_get d_Y_readsPromise_1 rfl rfl (by decide) rfl hm ?_
  refine tt_bipush (v := nI 12) d_Y_readsPromise_4 (by decide) ?_
  refine tn_ic_ne (t := 11) (by omega) (by omega) d_Y_readsPromise_6 (by decide) (fun c_6 => ?_) (fun c_6 => ?_)
  · have hi2 : ¬ i = 12 := c_6
    refine tt_aload_n d_Y_readsPromise_11 rfl ?_
    refine tt_iconst (v := nI 0) d_Y_readsPromise_12 (by decide) ?_
    refine tt_aload_n d_Y_readsPromise_13 rfl ?_
    refine tn_get d_Y_readsPromise_14 rfl rfl (by decide) rfl h.e.1.2.2.1 ?_
    refine tt_iconst (v := nI 1) d_Y_readsPromise_17 (by decide) ?_
    refine tt_isub d_Y_readsPromise_18 ?_
    rw [nI_gsub]
    refine tt_callV (y_digitIn (d := d) (L := 0) (H := eN (wE w)) hR (by decide) (by omega)) cw_Y_digitIn rfl rfl (by decide) rfl (by omega) d_Y_readsPromise_19 rfl rfl (Nat.le_of_ble_eq_true rfl) (Nat.le_of_ble_eq_true rfl) rfl rfl rfl (fun v σ2 q => ?_)
    obtain ⟨rfl, hR, hF⟩ := q
    replace h := h.fa hF
    replace hd := hd.fa hF
    replace hm := (hF.sf 21 (by decide)).trans hm
    replace hs := fun k => (congrFun (hF.si 164) k).trans (hs k)
    refine tt_istore_n (lv2 := [_, _, _, _, _]) d_Y_readsPromise_22 (by decide) rfl ?_
    refine tt_iload_n d_Y_readsPromise_23 rfl ?_
    refine tt_if_lt (t := 51) d_Y_readsPromise_24 (by decide) (fun c_24 => ?_) (fun c_24 => ?_)
    · have he0 := (gI_lt (by omega)).mp c_24
      rw [if_pos he0] at hR
      have h1 : cbT w (dgN (wX w) a) = 0 := cbT_0 (fun z => hdd0.1.mp he0 (by omega))
      have eB : rpB w i a = 0 := (if_neg hi2).trans (if_pos h1)
      have eA : rpA w i a = a := (if_neg hi2).trans (if_pos h1)
      refine tt_iload_n d_Y_readsPromise_51 rfl ?_
      refine tt_if_ge (t := 59) d_Y_readsPromise_52 (by decide) (fun c_52 => ?_) (fun c_52 => ?_)
      · exact absurd c_52 (by rw [he0]; decide)
      · refine tt_iconst (v := (-1)) d_Y_readsPromise_55 (by decide) ?_
        refine tt_goto (t := 70) d_Y_readsPromise_56 (by decide) ?_
        refine tt_istore_n (lv2 := [_, _, _, _, _]) d_Y_readsPromise_70 (by decide) rfl ?_
        refine tt_iload_n d_Y_readsPromise_71 rfl ?_
        refine tt_if_ge (t := 79) d_Y_readsPromise_72 (by decide) (fun c_72 => ?_) (fun c_72 => ?_)
        · exact absurd c_72 (by decide)
        · refine tt_iconst (v := (-1)) d_Y_readsPromise_75 (by decide) ?_
          refine tt_goto (t := 90) d_Y_readsPromise_76 (by decide) ?_
          refine tt_istore_n (lv2 := [_, _, _, _, _]) d_Y_readsPromise_90 (by decide) rfl ?_
          refine tt_iload_n d_Y_readsPromise_91 rfl ?_
          refine tt_if_ge (t := 99) d_Y_readsPromise_92 (by decide) (fun c_92 => ?_) (fun c_92 => ?_)
          · exact absurd c_92 (by decide)
          · refine tt_iconst (v := (-1)) d_Y_readsPromise_95 (by decide) ?_
            refine tt_goto (t := 104) d_Y_readsPromise_96 (by decide) ?_
            refine tt_istore (lv2 := [_, _, _, _, _]) d_Y_readsPromise_104 (by decide) rfl ?_
            refine tt_aload_n d_Y_readsPromise_106 rfl ?_
            refine tt_getR d_Y_readsPromise_107 rfl rfl (by decide) rfl rfl ?_
            refine tt_iconst (v := nI 3) d_Y_readsPromise_110 (by decide) ?_
            refine tt_aload_n d_Y_readsPromise_111 rfl ?_
            refine tn_get d_Y_readsPromise_112 rfl rfl (by decide) rfl hm ?_
            refine tn_imul d_Y_readsPromise_115 ?_
            refine tt_iload_n d_Y_readsPromise_116 rfl ?_
            refine tn_iast d_Y_readsPromise_117 rfl (by decide) (by omega) ?_
            refine tt_aload_n d_Y_readsPromise_118 rfl ?_
            refine tt_getR d_Y_readsPromise_119 rfl rfl (by decide) rfl rfl ?_
            refine tt_iconst (v := nI 3) d_Y_readsPromise_122 (by decide) ?_
            refine tt_aload_n d_Y_readsPromise_123 rfl ?_
            refine tn_get d_Y_readsPromise_124 rfl rfl (by decide) rfl hm ?_
            refine tn_imul d_Y_readsPromise_127 ?_
            refine tt_iconst (v := nI 1) d_Y_readsPromise_128 (by decide) ?_
            refine tn_iadd d_Y_readsPromise_129 ?_
            refine tt_aload_n d_Y_readsPromise_130 rfl ?_
            refine tn_get d_Y_readsPromise_131 rfl rfl (by decide) rfl h.e.1.2.1 ?_
            refine tt_iload_n d_Y_readsPromise_134 rfl ?_
            refine tt_imul d_Y_readsPromise_135 ?_
            refine tt_iload_n d_Y_readsPromise_136 rfl ?_
            refine tt_iadd d_Y_readsPromise_137 ?_
            refine tn_iast d_Y_readsPromise_138 rfl (by decide) (by omega) ?_
            refine tt_aload_n d_Y_readsPromise_139 rfl ?_
            refine tt_getR d_Y_readsPromise_140 rfl rfl (by decide) rfl rfl ?_
            refine tt_iconst (v := nI 3) d_Y_readsPromise_143 (by decide) ?_
            refine tt_aload_n d_Y_readsPromise_144 rfl ?_
            refine tn_get d_Y_readsPromise_145 rfl rfl (by decide) rfl hm ?_
            refine tn_imul d_Y_readsPromise_148 ?_
            refine tt_iconst (v := nI 2) d_Y_readsPromise_149 (by decide) ?_
            refine tn_iadd d_Y_readsPromise_150 ?_
            refine tt_iload d_Y_readsPromise_151 rfl ?_
            refine tn_iast d_Y_readsPromise_153 rfl (by decide) (by omega) ?_
            refine tt_aload_n d_Y_readsPromise_154 rfl ?_
            refine tt_dup d_Y_readsPromise_155 rfl ?_
            refine tn_get d_Y_readsPromise_156 rfl rfl (by decide) rfl hm ?_
            refine tt_iconst (v := nI 1) d_Y_readsPromise_159 (by decide) ?_
            refine tn_iadd d_Y_readsPromise_160 ?_
            refine tt_putI d_Y_readsPromise_161 rfl rfl (by decide) rfl (xpok_int rfl) rfl ?_
            refine tt_iload d_Y_readsPromise_164 rfl ?_
            refine tt_if_lt (t := 173) d_Y_readsPromise_166 (by decide) (fun c_166 => ?_) (fun c_166 => ?_)
            · refine tt_iconst (v := nI 0) d_Y_readsPromise_173 (by decide) ?_
              refine tt_zret rfl rfl d_Y_readsPromise_174 ?_
              refine ⟨by rw [eB], yq_21 (yq_164 (yq_164 (yq_164 h))), ⟨hd.1, hd.2⟩, by rw [eA]; exact RT_21 (RT_164 (RT_164 (RT_164 hR))), fun k hk => ?_, fun q => by omega⟩
              rw [si_wF, si_wI, if_neg (fun q => by omega), si_wI, if_neg (fun q => by omega), si_wI, if_neg (fun q => by omega)]
              exact hs k
            · exact absurd (by decide) c_166
    · have he0 : ¬ diN (wX w).2 (wX w).1 a 0 (eN (wE w)) = 0 := fun q => c_24 ((gI_lt (by omega)).mpr q)
      rw [if_neg he0] at hR
      obtain ⟨hed, hlt⟩ := hdd0.2 he0
      have hrg : 1 ≤ dgN (wX w) a ∧ dgN (wX w) a ≤ eN (wE w) := Decidable.byContradiction (fun z => he0 (hdd0.1.mpr (by omega)))
      have hcb := cbT_N hrg
      rw [hed, (gI_c (show dgN (wX w) a < 2 ^ 31 by omega)).2 (by omega)]
      refine tt_aload_n d_Y_readsPromise_27 rfl ?_
      refine tt_aload_n d_Y_readsPromise_28 rfl ?_
      refine tt_getR d_Y_readsPromise_29 rfl rfl (by decide) rfl rfl ?_
      refine tt_iload_n d_Y_readsPromise_32 rfl ?_
      refine tt_callV (y_canBe (d := d) (m := dgN (wX w) a - 1) h ho (show dgN (wX w) a - 1 < eN (wE w) by omega)) cw_Y_canBePromised rfl rfl (by decide) rfl (by omega) d_Y_readsPromise_33 rfl rfl (Nat.le_of_ble_eq_true rfl) (Nat.le_of_ble_eq_true rfl) rfl rfl rfl (fun v σ2 q => ?_)
      obtain ⟨rfl, e9⟩ := q
      rw [e9, show cbN (wE (txC w)) (wV (txC w)) (dgN (wX w) a - 1) = cbT w (dgN (wX w) a) from hcb.symm]
      clear e9
      have hcl : cbT w (dgN (wX w) a) ≤ 1 := by rw [hcb]; exact cb_le _ _ _
      refine tn_if_ne (t := 51) (by omega) d_Y_readsPromise_36 (by decide) (fun c_36 => ?_) (fun c_36 => ?_)
      · have h1 : ¬ cbT w (dgN (wX w) a) = 0 := c_36
        refine tt_iload_n d_Y_readsPromise_51 rfl ?_
        refine tt_if_ge (t := 59) d_Y_readsPromise_52 (by decide) (fun c_52 => ?_) (fun c_52 => ?_)
        · refine tt_aload_n d_Y_readsPromise_59 rfl ?_
          refine tt_iconst (v := nI 0) d_Y_readsPromise_60 (by decide) ?_
          refine tt_aload_n d_Y_readsPromise_61 rfl ?_
          refine tn_get d_Y_readsPromise_62 rfl rfl (by decide) rfl h.e.1.1 ?_
          refine tt_iconst (v := nI 1) d_Y_readsPromise_65 (by decide) ?_
          refine tt_isub d_Y_readsPromise_66 ?_
          rw [nI_gsub]
          refine tt_callV (y_digitIn (d := d) (L := 0) (H := eR (wE w)) hR (by decide) (by omega)) cw_Y_digitIn rfl rfl (by decide) rfl (by omega) d_Y_readsPromise_67 rfl rfl (Nat.le_of_ble_eq_true rfl) (Nat.le_of_ble_eq_true rfl) rfl rfl rfl (fun v σ2 q => ?_)
          obtain ⟨rfl, hR, hF⟩ := q
          replace h := h.fa hF
          replace hd := hd.fa hF
          replace hm := (hF.sf 21 (by decide)).trans hm
          replace hs := fun k => (congrFun (hF.si 164) k).trans (hs k)
          refine tt_istore_n (lv2 := [_, _, _, _, _]) d_Y_readsPromise_70 (by decide) rfl ?_
          refine tt_iload_n d_Y_readsPromise_71 rfl ?_
          refine tt_if_ge (t := 79) d_Y_readsPromise_72 (by decide) (fun c_72 => ?_) (fun c_72 => ?_)
          · have he1 : ¬ diN (wX w).2 (wX w).1 (a + 1) 0 (eR (wE w)) = 0 := fun q => by rw [q] at c_72; exact absurd c_72 (by decide)
            rw [if_neg he1] at hR
            obtain ⟨hed1, hlt1⟩ := hdd1.2 he1
            have h2 : 1 ≤ dgN (wX w) (a + 1) ∧ dgN (wX w) (a + 1) ≤ eR (wE w) := Decidable.byContradiction (fun z => he1 (hdd1.1.mpr (by omega)))
            rw [hed1, (gI_c (show dgN (wX w) (a + 1) < 2 ^ 31 by omega)).2 (by omega)]
            refine tt_aload_n d_Y_readsPromise_79 rfl ?_
            refine tt_iconst (v := nI 0) d_Y_readsPromise_80 (by decide) ?_
            refine tt_aload_n d_Y_readsPromise_81 rfl ?_
            refine tn_get d_Y_readsPromise_82 rfl rfl (by decide) rfl h.e.1.2.1 ?_
            refine tt_iconst (v := nI 1) d_Y_readsPromise_85 (by decide) ?_
            refine tt_isub d_Y_readsPromise_86 ?_
            rw [nI_gsub]
            refine tt_callV (y_digitIn (d := d) (L := 0) (H := eC (wE w)) hR (by decide) (by omega)) cw_Y_digitIn rfl rfl (by decide) rfl (by omega) d_Y_readsPromise_87 rfl rfl (Nat.le_of_ble_eq_true rfl) (Nat.le_of_ble_eq_true rfl) rfl rfl rfl (fun v σ2 q => ?_)
            obtain ⟨rfl, hR, hF⟩ := q
            replace h := h.fa hF
            replace hd := hd.fa hF
            replace hm := (hF.sf 21 (by decide)).trans hm
            replace hs := fun k => (congrFun (hF.si 164) k).trans (hs k)
            refine tt_istore_n (lv2 := [_, _, _, _, _]) d_Y_readsPromise_90 (by decide) rfl ?_
            refine tt_iload_n d_Y_readsPromise_91 rfl ?_
            refine tt_if_ge (t := 99) d_Y_readsPromise_92 (by decide) (fun c_92 => ?_) (fun c_92 => ?_)
            · have he2 : ¬ diN (wX w).2 (wX w).1 (a + 1 + 1) 0 (eC (wE w)) = 0 := fun q => by rw [q] at c_92; exact absurd c_92 (by decide)
              rw [if_neg he2] at hR
              obtain ⟨hed2, hlt2⟩ := hdd2.2 he2
              have h3 : 1 ≤ dgN (wX w) (a + 2) ∧ dgN (wX w) (a + 2) ≤ eC (wE w) := Decidable.byContradiction (fun z => he2 (hdd2.1.mpr (by omega)))
              rw [hed2, (gI_c (show dgN (wX w) (a + 2) < 2 ^ 31 by omega)).2 (by omega)]
              have hid := dg_isD (x := wX w) (i := a + 1 + 1 + 1)
              refine tt_aload_n d_Y_readsPromise_99 rfl ?_
              refine tt_iconst (v := nI 1) d_Y_readsPromise_100 (by decide) ?_
              refine tt_callV (y_number (d := d) (D := 1) hR (by decide)) cw_Y_number rfl rfl (by decide) rfl (by omega) d_Y_readsPromise_101 rfl rfl (Nat.le_of_ble_eq_true rfl) (Nat.le_of_ble_eq_true rfl) rfl rfl rfl (fun v σ2 q => ?_)
              obtain ⟨rfl, hR, hF⟩ := q
              replace h := h.fa hF
              replace hd := hd.fa hF
              replace hm := (hF.sf 21 (by decide)).trans hm
              replace hs := fun k => (congrFun (hF.si 164) k).trans (hs k)
              refine tt_istore (lv2 := [_, _, _, _, _]) d_Y_readsPromise_104 (by decide) rfl ?_
              refine tt_aload_n d_Y_readsPromise_106 rfl ?_
              refine tt_getR d_Y_readsPromise_107 rfl rfl (by decide) rfl rfl ?_
              refine tt_iconst (v := nI 3) d_Y_readsPromise_110 (by decide) ?_
              refine tt_aload_n d_Y_readsPromise_111 rfl ?_
              refine tn_get d_Y_readsPromise_112 rfl rfl (by decide) rfl hm ?_
              refine tn_imul d_Y_readsPromise_115 ?_
              refine tt_iload_n d_Y_readsPromise_116 rfl ?_
              refine tn_iast d_Y_readsPromise_117 rfl (by decide) (by omega) ?_
              refine tt_aload_n d_Y_readsPromise_118 rfl ?_
              refine tt_getR d_Y_readsPromise_119 rfl rfl (by decide) rfl rfl ?_
              refine tt_iconst (v := nI 3) d_Y_readsPromise_122 (by decide) ?_
              refine tt_aload_n d_Y_readsPromise_123 rfl ?_
              refine tn_get d_Y_readsPromise_124 rfl rfl (by decide) rfl hm ?_
              refine tn_imul d_Y_readsPromise_127 ?_
              refine tt_iconst (v := nI 1) d_Y_readsPromise_128 (by decide) ?_
              refine tn_iadd d_Y_readsPromise_129 ?_
              refine tt_aload_n d_Y_readsPromise_130 rfl ?_
              refine tn_get d_Y_readsPromise_131 rfl rfl (by decide) rfl h.e.1.2.1 ?_
              refine tt_iload_n d_Y_readsPromise_134 rfl ?_
              refine tt_imul d_Y_readsPromise_135 ?_
              refine tt_iload_n d_Y_readsPromise_136 rfl ?_
              refine tt_iadd d_Y_readsPromise_137 ?_
              refine tn_iast d_Y_readsPromise_138 rfl (by decide) (by omega) ?_
              refine tt_aload_n d_Y_readsPromise_139 rfl ?_
              refine tt_getR d_Y_readsPromise_140 rfl rfl (by decide) rfl rfl ?_
              refine tt_iconst (v := nI 3) d_Y_readsPromise_143 (by decide) ?_
              refine tt_aload_n d_Y_readsPromise_144 rfl ?_
              refine tn_get d_Y_readsPromise_145 rfl rfl (by decide) rfl hm ?_
              refine tn_imul d_Y_readsPromise_148 ?_
              refine tt_iconst (v := nI 2) d_Y_readsPromise_149 (by decide) ?_
              refine tn_iadd d_Y_readsPromise_150 ?_
              refine tt_iload d_Y_readsPromise_151 rfl ?_
              refine tn_iast d_Y_readsPromise_153 rfl (by decide) (by omega) ?_
              refine tt_aload_n d_Y_readsPromise_154 rfl ?_
              refine tt_dup d_Y_readsPromise_155 rfl ?_
              refine tn_get d_Y_readsPromise_156 rfl rfl (by decide) rfl hm ?_
              refine tt_iconst (v := nI 1) d_Y_readsPromise_159 (by decide) ?_
              refine tn_iadd d_Y_readsPromise_160 ?_
              refine tt_putI d_Y_readsPromise_161 rfl rfl (by decide) rfl (xpok_int rfl) rfl ?_
              refine tt_iload d_Y_readsPromise_164 rfl ?_
              refine tt_if_lt (t := 173) d_Y_readsPromise_166 (by decide) (fun c_166 => ?_) (fun c_166 => ?_)
              · have h4 : dgN (wX w) (a + 3) = 0 := Decidable.byContradiction (fun q => by rw [(nm_1 (hid.mpr q)).1] at c_166; exact absurd c_166 (nI_pos (by have := (hX.2 _ (hid.mpr q).1); omega)))
                rw [(nm_0 (d := 1) (fun q => hid.mp q h4)).2] at hR
                have eB : rpB w i a = 0 := (if_neg hi2).trans ((if_neg h1).trans ((if_neg (nnN h2)).trans ((if_neg (nnN h3)).trans (if_pos h4))))
                have eA : rpA w i a = a + 3 := (if_neg hi2).trans ((if_neg h1).trans ((if_neg (nnN h2)).trans ((if_neg (nnN h3)).trans (if_pos h4))))
                refine tt_iconst (v := nI 0) d_Y_readsPromise_173 (by decide) ?_
                refine tt_zret rfl rfl d_Y_readsPromise_174 ?_
                refine ⟨by rw [eB], yq_21 (yq_164 (yq_164 (yq_164 h))), ⟨hd.1, hd.2⟩, by rw [eA]; exact RT_21 (RT_164 (RT_164 (RT_164 hR))), fun k hk => ?_, fun q => by omega⟩
                rw [si_wF, si_wI, if_neg (fun q => by omega), si_wI, if_neg (fun q => by omega), si_wI, if_neg (fun q => by omega)]
                exact hs k
              · have h4 : ¬ dgN (wX w) (a + 3) = 0 := fun q => by rw [(nm_0 (d := 1) (fun z => hid.mp z q)).1] at c_166; exact c_166 (by decide)
                obtain ⟨hn1, hn2⟩ := nm_1 (hid.mpr h4)
                rw [hn2] at hR
                have hdv := ((dg_le (x := wX w) (j := a + 3)).2.1 h4).2.2.2
                have eB : rpB w i a = 1 := (if_neg hi2).trans ((if_neg h1).trans ((if_neg (nnN h2)).trans ((if_neg (nnN h3)).trans (if_neg h4))))
                have eA : rpA w i a = a + 4 := (if_neg hi2).trans ((if_neg h1).trans ((if_neg (nnN h2)).trans ((if_neg (nnN h3)).trans (if_neg h4))))
                refine tt_iconst (v := nI 1) d_Y_readsPromise_169 (by decide) ?_
                refine tt_goto (t := 174) d_Y_readsPromise_170 (by decide) ?_
                refine tt_zret rfl rfl d_Y_readsPromise_174 ?_
                refine ⟨by rw [eB], yq_21 (yq_164 (yq_164 (yq_164 h))), ⟨hd.1, hd.2⟩, by rw [eA]; exact RT_21 (RT_164 (RT_164 (RT_164 hR))), fun k hk => ?_, fun q => ⟨rfl, by rw [si_wF, si_wI, if_neg (fun q => by omega), si_wI, if_neg (fun q => by omega), si_wI, if_pos ⟨rfl, rfl⟩], by rw [si_wF, si_wI, if_neg (fun q => by omega), si_wI, if_pos ⟨rfl, rfl⟩, pk_mul, nI_add, Nat.mul_comm]; rfl, by rw [si_wF, si_wI, if_pos ⟨rfl, rfl⟩, hn1, hdv]; rfl⟩⟩
                rw [si_wF, si_wI, if_neg (fun q => by omega), si_wI, if_neg (fun q => by omega), si_wI, if_neg (fun q => by omega)]
                exact hs k
            · have he2 : diN (wX w).2 (wX w).1 (a + 1 + 1) 0 (eC (wE w)) = 0 := Decidable.byContradiction (fun q => c_92 (by rw [(hdd2.2 q).1, (gI_c (by omega)).2 (by have h7 := hdd2.2 q; have q2 : ¬ diN (wX w).2 (wX w).1 (a + 2) 0 (eC (wE w)) = 0 := q; omega)]; exact nI_nn (by omega)))
              rw [if_pos he2] at hR
              have h3 : ¬ (1 ≤ dgN (wX w) (a + 2) ∧ dgN (wX w) (a + 2) ≤ eC (wE w)) := fun z => hdd2.1.mp he2 (by omega)
              have eB : rpB w i a = 0 := (if_neg hi2).trans ((if_neg h1).trans ((if_neg (nnN h2)).trans (if_pos h3)))
              have eA : rpA w i a = a + 2 := (if_neg hi2).trans ((if_neg h1).trans ((if_neg (nnN h2)).trans (if_pos h3)))
              refine tt_iconst (v := (-1)) d_Y_readsPromise_95 (by decide) ?_
              refine tt_goto (t := 104) d_Y_readsPromise_96 (by decide) ?_
              refine tt_istore (lv2 := [_, _, _, _, _]) d_Y_readsPromise_104 (by decide) rfl ?_
              refine tt_aload_n d_Y_readsPromise_106 rfl ?_
              refine tt_getR d_Y_readsPromise_107 rfl rfl (by decide) rfl rfl ?_
              refine tt_iconst (v := nI 3) d_Y_readsPromise_110 (by decide) ?_
              refine tt_aload_n d_Y_readsPromise_111 rfl ?_
              refine tn_get d_Y_readsPromise_112 rfl rfl (by decide) rfl hm ?_
              refine tn_imul d_Y_readsPromise_115 ?_
              refine tt_iload_n d_Y_readsPromise_116 rfl ?_
              refine tn_iast d_Y_readsPromise_117 rfl (by decide) (by omega) ?_
              refine tt_aload_n d_Y_readsPromise_118 rfl ?_
              refine tt_getR d_Y_readsPromise_119 rfl rfl (by decide) rfl rfl ?_
              refine tt_iconst (v := nI 3) d_Y_readsPromise_122 (by decide) ?_
              refine tt_aload_n d_Y_readsPromise_123 rfl ?_
              refine tn_get d_Y_readsPromise_124 rfl rfl (by decide) rfl hm ?_
              refine tn_imul d_Y_readsPromise_127 ?_
              refine tt_iconst (v := nI 1) d_Y_readsPromise_128 (by decide) ?_
              refine tn_iadd d_Y_readsPromise_129 ?_
              refine tt_aload_n d_Y_readsPromise_130 rfl ?_
              refine tn_get d_Y_readsPromise_131 rfl rfl (by decide) rfl h.e.1.2.1 ?_
              refine tt_iload_n d_Y_readsPromise_134 rfl ?_
              refine tt_imul d_Y_readsPromise_135 ?_
              refine tt_iload_n d_Y_readsPromise_136 rfl ?_
              refine tt_iadd d_Y_readsPromise_137 ?_
              refine tn_iast d_Y_readsPromise_138 rfl (by decide) (by omega) ?_
              refine tt_aload_n d_Y_readsPromise_139 rfl ?_
              refine tt_getR d_Y_readsPromise_140 rfl rfl (by decide) rfl rfl ?_
              refine tt_iconst (v := nI 3) d_Y_readsPromise_143 (by decide) ?_
              refine tt_aload_n d_Y_readsPromise_144 rfl ?_
              refine tn_get d_Y_readsPromise_145 rfl rfl (by decide) rfl hm ?_
              refine tn_imul d_Y_readsPromise_148 ?_
              refine tt_iconst (v := nI 2) d_Y_readsPromise_149 (by decide) ?_
              refine tn_iadd d_Y_readsPromise_150 ?_
              refine tt_iload d_Y_readsPromise_151 rfl ?_
              refine tn_iast d_Y_readsPromise_153 rfl (by decide) (by omega) ?_
              refine tt_aload_n d_Y_readsPromise_154 rfl ?_
              refine tt_dup d_Y_readsPromise_155 rfl ?_
              refine tn_get d_Y_readsPromise_156 rfl rfl (by decide) rfl hm ?_
              refine tt_iconst (v := nI 1) d_Y_readsPromise_159 (by decide) ?_
              refine tn_iadd d_Y_readsPromise_160 ?_
              refine tt_putI d_Y_readsPromise_161 rfl rfl (by decide) rfl (xpok_int rfl) rfl ?_
              refine tt_iload d_Y_readsPromise_164 rfl ?_
              refine tt_if_lt (t := 173) d_Y_readsPromise_166 (by decide) (fun c_166 => ?_) (fun c_166 => ?_)
              · refine tt_iconst (v := nI 0) d_Y_readsPromise_173 (by decide) ?_
                refine tt_zret rfl rfl d_Y_readsPromise_174 ?_
                refine ⟨by rw [eB], yq_21 (yq_164 (yq_164 (yq_164 h))), ⟨hd.1, hd.2⟩, by rw [eA]; exact RT_21 (RT_164 (RT_164 (RT_164 hR))), fun k hk => ?_, fun q => by omega⟩
                rw [si_wF, si_wI, if_neg (fun q => by omega), si_wI, if_neg (fun q => by omega), si_wI, if_neg (fun q => by omega)]
                exact hs k
              · exact absurd (by decide) c_166
          · have he1 : diN (wX w).2 (wX w).1 (a + 1) 0 (eR (wE w)) = 0 := Decidable.byContradiction (fun q => c_72 (by rw [(hdd1.2 q).1, (gI_c (by omega)).2 (by have := hdd1.2 q; omega)]; exact nI_nn (by omega)))
            rw [if_pos he1] at hR
            have h2 : ¬ (1 ≤ dgN (wX w) (a + 1) ∧ dgN (wX w) (a + 1) ≤ eR (wE w)) := fun z => hdd1.1.mp he1 (by omega)
            have eB : rpB w i a = 0 := (if_neg hi2).trans ((if_neg h1).trans (if_pos h2))
            have eA : rpA w i a = a + 1 := (if_neg hi2).trans ((if_neg h1).trans (if_pos h2))
            refine tt_iconst (v := (-1)) d_Y_readsPromise_75 (by decide) ?_
            refine tt_goto (t := 90) d_Y_readsPromise_76 (by decide) ?_
            refine tt_istore_n (lv2 := [_, _, _, _, _]) d_Y_readsPromise_90 (by decide) rfl ?_
            refine tt_iload_n d_Y_readsPromise_91 rfl ?_
            refine tt_if_ge (t := 99) d_Y_readsPromise_92 (by decide) (fun c_92 => ?_) (fun c_92 => ?_)
            · exact absurd c_92 (by decide)
            · refine tt_iconst (v := (-1)) d_Y_readsPromise_95 (by decide) ?_
              refine tt_goto (t := 104) d_Y_readsPromise_96 (by decide) ?_
              refine tt_istore (lv2 := [_, _, _, _, _]) d_Y_readsPromise_104 (by decide) rfl ?_
              refine tt_aload_n d_Y_readsPromise_106 rfl ?_
              refine tt_getR d_Y_readsPromise_107 rfl rfl (by decide) rfl rfl ?_
              refine tt_iconst (v := nI 3) d_Y_readsPromise_110 (by decide) ?_
              refine tt_aload_n d_Y_readsPromise_111 rfl ?_
              refine tn_get d_Y_readsPromise_112 rfl rfl (by decide) rfl hm ?_
              refine tn_imul d_Y_readsPromise_115 ?_
              refine tt_iload_n d_Y_readsPromise_116 rfl ?_
              refine tn_iast d_Y_readsPromise_117 rfl (by decide) (by omega) ?_
              refine tt_aload_n d_Y_readsPromise_118 rfl ?_
              refine tt_getR d_Y_readsPromise_119 rfl rfl (by decide) rfl rfl ?_
              refine tt_iconst (v := nI 3) d_Y_readsPromise_122 (by decide) ?_
              refine tt_aload_n d_Y_readsPromise_123 rfl ?_
              refine tn_get d_Y_readsPromise_124 rfl rfl (by decide) rfl hm ?_
              refine tn_imul d_Y_readsPromise_127 ?_
              refine tt_iconst (v := nI 1) d_Y_readsPromise_128 (by decide) ?_
              refine tn_iadd d_Y_readsPromise_129 ?_
              refine tt_aload_n d_Y_readsPromise_130 rfl ?_
              refine tn_get d_Y_readsPromise_131 rfl rfl (by decide) rfl h.e.1.2.1 ?_
              refine tt_iload_n d_Y_readsPromise_134 rfl ?_
              refine tt_imul d_Y_readsPromise_135 ?_
              refine tt_iload_n d_Y_readsPromise_136 rfl ?_
              refine tt_iadd d_Y_readsPromise_137 ?_
              refine tn_iast d_Y_readsPromise_138 rfl (by decide) (by omega) ?_
              refine tt_aload_n d_Y_readsPromise_139 rfl ?_
              refine tt_getR d_Y_readsPromise_140 rfl rfl (by decide) rfl rfl ?_
              refine tt_iconst (v := nI 3) d_Y_readsPromise_143 (by decide) ?_
              refine tt_aload_n d_Y_readsPromise_144 rfl ?_
              refine tn_get d_Y_readsPromise_145 rfl rfl (by decide) rfl hm ?_
              refine tn_imul d_Y_readsPromise_148 ?_
              refine tt_iconst (v := nI 2) d_Y_readsPromise_149 (by decide) ?_
              refine tn_iadd d_Y_readsPromise_150 ?_
              refine tt_iload d_Y_readsPromise_151 rfl ?_
              refine tn_iast d_Y_readsPromise_153 rfl (by decide) (by omega) ?_
              refine tt_aload_n d_Y_readsPromise_154 rfl ?_
              refine tt_dup d_Y_readsPromise_155 rfl ?_
              refine tn_get d_Y_readsPromise_156 rfl rfl (by decide) rfl hm ?_
              refine tt_iconst (v := nI 1) d_Y_readsPromise_159 (by decide) ?_
              refine tn_iadd d_Y_readsPromise_160 ?_
              refine tt_putI d_Y_readsPromise_161 rfl rfl (by decide) rfl (xpok_int rfl) rfl ?_
              refine tt_iload d_Y_readsPromise_164 rfl ?_
              refine tt_if_lt (t := 173) d_Y_readsPromise_166 (by decide) (fun c_166 => ?_) (fun c_166 => ?_)
              · refine tt_iconst (v := nI 0) d_Y_readsPromise_173 (by decide) ?_
                refine tt_zret rfl rfl d_Y_readsPromise_174 ?_
                refine ⟨by rw [eB], yq_21 (yq_164 (yq_164 (yq_164 h))), ⟨hd.1, hd.2⟩, by rw [eA]; exact RT_21 (RT_164 (RT_164 (RT_164 hR))), fun k hk => ?_, fun q => by omega⟩
                rw [si_wF, si_wI, if_neg (fun q => by omega), si_wI, if_neg (fun q => by omega), si_wI, if_neg (fun q => by omega)]
                exact hs k
              · exact absurd (by decide) c_166
        · exact absurd (nI_nn (by omega)) c_52
      · have h1 : cbT w (dgN (wX w) a) = 0 := by omega
        have eB : rpB w i a = 0 := (if_neg hi2).trans (if_pos h1)
        have eA : rpA w i a = a := (if_neg hi2).trans (if_pos h1)
        refine tt_aload_n d_Y_readsPromise_39 rfl ?_
        refine tt_dup d_Y_readsPromise_40 rfl ?_
        refine tn_get d_Y_readsPromise_41 rfl rfl (by decide) rfl hR.2.1 ?_
        refine tt_iconst (v := nI 1) d_Y_readsPromise_44 (by decide) ?_
        refine tn_isub (by omega) d_Y_readsPromise_45 ?_
        refine tt_putI d_Y_readsPromise_46 rfl rfl (by decide) rfl (xpok_int rfl) rfl ?_
        rw [show a + 1 - 1 = a by omega]
        replace hR := hR.at (b := a) (by omega)
        replace h := h.fa (Fa.w (x := nI a))
        replace hd := hd16 (x := nI a) hd
        replace hm := hm16 (x := nI a) hm
        replace hs := hs16 (x := nI a) hs
        refine tt_iconst (v := (-1)) d_Y_readsPromise_49 (by decide) ?_
        refine tt_istore_n (lv2 := [_, _, _, _, _]) d_Y_readsPromise_50 (by decide) rfl ?_
        refine tt_iload_n d_Y_readsPromise_51 rfl ?_
        refine tt_if_ge (t := 59) d_Y_readsPromise_52 (by decide) (fun c_52 => ?_) (fun c_52 => ?_)
        · exact absurd c_52 (by decide)
        · refine tt_iconst (v := (-1)) d_Y_readsPromise_55 (by decide) ?_
          refine tt_goto (t := 70) d_Y_readsPromise_56 (by decide) ?_
          refine tt_istore_n (lv2 := [_, _, _, _, _]) d_Y_readsPromise_70 (by decide) rfl ?_
          refine tt_iload_n d_Y_readsPromise_71 rfl ?_
          refine tt_if_ge (t := 79) d_Y_readsPromise_72 (by decide) (fun c_72 => ?_) (fun c_72 => ?_)
          · exact absurd c_72 (by decide)
          · refine tt_iconst (v := (-1)) d_Y_readsPromise_75 (by decide) ?_
            refine tt_goto (t := 90) d_Y_readsPromise_76 (by decide) ?_
            refine tt_istore_n (lv2 := [_, _, _, _, _]) d_Y_readsPromise_90 (by decide) rfl ?_
            refine tt_iload_n d_Y_readsPromise_91 rfl ?_
            refine tt_if_ge (t := 99) d_Y_readsPromise_92 (by decide) (fun c_92 => ?_) (fun c_92 => ?_)
            · exact absurd c_92 (by decide)
            · refine tt_iconst (v := (-1)) d_Y_readsPromise_95 (by decide) ?_
              refine tt_goto (t := 104) d_Y_readsPromise_96 (by decide) ?_
              refine tt_istore (lv2 := [_, _, _, _, _]) d_Y_readsPromise_104 (by decide) rfl ?_
              refine tt_aload_n d_Y_readsPromise_106 rfl ?_
              refine tt_getR d_Y_readsPromise_107 rfl rfl (by decide) rfl rfl ?_
              refine tt_iconst (v := nI 3) d_Y_readsPromise_110 (by decide) ?_
              refine tt_aload_n d_Y_readsPromise_111 rfl ?_
              refine tn_get d_Y_readsPromise_112 rfl rfl (by decide) rfl hm ?_
              refine tn_imul d_Y_readsPromise_115 ?_
              refine tt_iload_n d_Y_readsPromise_116 rfl ?_
              refine tn_iast d_Y_readsPromise_117 rfl (by decide) (by omega) ?_
              refine tt_aload_n d_Y_readsPromise_118 rfl ?_
              refine tt_getR d_Y_readsPromise_119 rfl rfl (by decide) rfl rfl ?_
              refine tt_iconst (v := nI 3) d_Y_readsPromise_122 (by decide) ?_
              refine tt_aload_n d_Y_readsPromise_123 rfl ?_
              refine tn_get d_Y_readsPromise_124 rfl rfl (by decide) rfl hm ?_
              refine tn_imul d_Y_readsPromise_127 ?_
              refine tt_iconst (v := nI 1) d_Y_readsPromise_128 (by decide) ?_
              refine tn_iadd d_Y_readsPromise_129 ?_
              refine tt_aload_n d_Y_readsPromise_130 rfl ?_
              refine tn_get d_Y_readsPromise_131 rfl rfl (by decide) rfl h.e.1.2.1 ?_
              refine tt_iload_n d_Y_readsPromise_134 rfl ?_
              refine tt_imul d_Y_readsPromise_135 ?_
              refine tt_iload_n d_Y_readsPromise_136 rfl ?_
              refine tt_iadd d_Y_readsPromise_137 ?_
              refine tn_iast d_Y_readsPromise_138 rfl (by decide) (by omega) ?_
              refine tt_aload_n d_Y_readsPromise_139 rfl ?_
              refine tt_getR d_Y_readsPromise_140 rfl rfl (by decide) rfl rfl ?_
              refine tt_iconst (v := nI 3) d_Y_readsPromise_143 (by decide) ?_
              refine tt_aload_n d_Y_readsPromise_144 rfl ?_
              refine tn_get d_Y_readsPromise_145 rfl rfl (by decide) rfl hm ?_
              refine tn_imul d_Y_readsPromise_148 ?_
              refine tt_iconst (v := nI 2) d_Y_readsPromise_149 (by decide) ?_
              refine tn_iadd d_Y_readsPromise_150 ?_
              refine tt_iload d_Y_readsPromise_151 rfl ?_
              refine tn_iast d_Y_readsPromise_153 rfl (by decide) (by omega) ?_
              refine tt_aload_n d_Y_readsPromise_154 rfl ?_
              refine tt_dup d_Y_readsPromise_155 rfl ?_
              refine tn_get d_Y_readsPromise_156 rfl rfl (by decide) rfl hm ?_
              refine tt_iconst (v := nI 1) d_Y_readsPromise_159 (by decide) ?_
              refine tn_iadd d_Y_readsPromise_160 ?_
              refine tt_putI d_Y_readsPromise_161 rfl rfl (by decide) rfl (xpok_int rfl) rfl ?_
              refine tt_iload d_Y_readsPromise_164 rfl ?_
              refine tt_if_lt (t := 173) d_Y_readsPromise_166 (by decide) (fun c_166 => ?_) (fun c_166 => ?_)
              · refine tt_iconst (v := nI 0) d_Y_readsPromise_173 (by decide) ?_
                refine tt_zret rfl rfl d_Y_readsPromise_174 ?_
                refine ⟨by rw [eB], yq_21 (yq_164 (yq_164 (yq_164 h))), ⟨hd.1, hd.2⟩, by rw [eA]; exact RT_21 (RT_164 (RT_164 (RT_164 hR))), fun k hk => ?_, fun q => by omega⟩
                rw [si_wF, si_wI, if_neg (fun q => by omega), si_wI, if_neg (fun q => by omega), si_wI, if_neg (fun q => by omega)]
                exact hs k
              · exact absurd (by decide) c_166
  · have hi2 : i = 12 := by omega
    have eB : rpB w i a = 0 := if_pos hi2
    have eA : rpA w i a = a := if_pos hi2
    refine tt_iconst (v := nI 0) d_Y_readsPromise_9 (by decide) ?_
    refine tt_zret rfl rfl d_Y_readsPromise_10 ?_
    exact ⟨by rw [eB], h, hd, by rw [eA]; exact hR, fun k _ => rfl, fun q => by omega⟩

