/-! fish: the reference, its loop. Printed by wip/whole. -/
section
variable {x : Nat × (Nat → Nat)} {n a : Nat}
theorem fe_z (hn : n ≤ 8) (ha : a ≤ 21) (h : rfB (cpX x 23) n a = 0) : ¬ fiF x (8 - n) a = 0 := by
  obtain ⟨e1, e2, e3⟩ := cp_at (x := x) (m := 23) (j := a) (by omega)
  obtain ⟨f1, f2, f3⟩ := cp_at (x := x) (m := 23) (j := a + 1) (by omega)
  unfold rfB at h
  rw [e3, f2] at h
  by_cases c1 : n = 8
  · rw [show 8 - n = 0 by omega]; exact Nat.succ_ne_zero a
  · rw [if_neg c1] at h
    rw [show 8 - n = 7 - n + 1 by omega]
    by_cases c2 : kdN x a = 0
    · rw [fi_1 c2]; omega
    · rw [if_neg c2] at h
      by_cases c3 : dgN x (a + 1) < 2
      · rw [fi_2 c2 c3]; omega
      · rw [if_neg c3] at h; omega
theorem fe_d (hn : n ≤ 8) (ha : a ≤ 21) (h : rfB (cpX x 23) n a = 1) (ht : ¬ (a + 2 < (cpX x 23).1 ∧ (cpX x 23).2 (a + 2) = 59)) (hf : fiF x (8 - n) a = 0) : a + 2 = x.1 := by
  obtain ⟨c1, c2, c3, c4⟩ := rf_1 ha h
  rw [show 8 - n = 7 - n + 1 by omega] at hf
  replace ht : ¬ (a + 2 < min x.1 23 ∧ x.2 (a + 2) = 59) := ht
  have h60 := at_60 (x := x) (j := a + 2)
  refine Decidable.byContradiction (fun d1 => ?_)
  have d4 : 23 ≤ a + 2 ∨ ¬ atN x (a + 2) = 60 := by
    by_cases z : 23 ≤ a + 2
    · exact Or.inl z
    · refine Or.inr (fun q => ht ?_)
      have := h60.mp q
      exact ⟨by omega, this.2⟩
  rw [fi_4 c2 c3 d1 d4] at hf
  omega
end
set_option maxHeartbeats 4000000 in
theorem y_fish1 {l : xLa} {d : Nat} {σ : xs} {c : Nat} {w : wv} (ho : okQ w) (hX : okX (wX w)) (hn0 : ¬ (wX w).1 = 0) : ∀ (m : Nat) (i : Nat) (τ : xs), 8 - i = m → eN (wE w) + i ≤ 8 → 3 * i ≤ 21 → fiA w = fiF (wX w) (8 - (eN (wE w) + i)) (3 * i) → YQ c (txC w) σ τ → YD τ (wD w) → RT τ (cpX (wX w) 23).2 (cpX (wX w) 23).1 (3 * i) → sf τ 154 21 = nI i → (∀ j, j < i → si τ 164 (2 * j) = gI (kdN (wX w) (3 * j)) ∧ si τ 164 (2 * j + 1) = gI (dgN (wX w) (3 * j + 1))) → T l M_Y_fish (d + 150) 33 [some (.ref 154), some (.int (nI (wX w).1)), some (.int (nI 1)), some (.int (nI 1)), none, none] [] τ (fun r τ => r = some (.int (a_fish w).1) ∧ YW τ (nc_fish w c) (a_fish w).2 ∧ YF σ τ) := by
  have hb0 := ho.fb
  have hb8 := ho.n8
  intro m
  induction m using Nat.strongRecOn with
  | ind m ih =>
    intro i τ hm hi h21 hfi h hd hR hmn hrd
    have hx1 := hX.1
    have hfl : fiA w < 1000 := by have := fi_le (x := wX w) (8 - eN (wE w)) 0; unfold fiA; omega
    have hrl := rf_le (x := cpX (wX w) 23) (n := eN (wE w) + i) (a := 3 * i)
    refine tt_aload_n d_Y_fish_33 rfl ?_
    refine tt_callV (y_readsFish (d := d) (i := i) (a := 3 * i) ho hX h hd hR hmn hi) cw_Y_readsFish rfl rfl (by decide) rfl (by omega) d_Y_fish_34 rfl rfl (Nat.le_of_ble_eq_true rfl) (Nat.le_of_ble_eq_true rfl) rfl rfl rfl (fun v σ2 q => ?_)
    obtain ⟨rfl, h, hd, hR, hrk, hr1⟩ := q
    replace hrd := fun j (q : j < i) => And.intro ((hrk (2 * j) (by omega)).trans (hrd j q).1) ((hrk (2 * j + 1) (by omega)).trans (hrd j q).2)
    refine tt_istore_n (lv2 := [_, _, _, _, _, _]) d_Y_fish_37 (by decide) rfl ?_
    refine tt_iload_n d_Y_fish_38 rfl ?_
    refine tn_if_eq (t := 55) (by omega) d_Y_fish_39 (by decide) (fun c_39 => ?_) (fun c_39 => ?_)
    · have hRf := hR
      have hFA : foI (wX w).1 23 (rfB (cpX (wX w) 23) (eN (wE w) + i) (3 * i)) (cpX (wX w) 23).1 (rfA (cpX (wX w) 23) (eN (wE w) + i) (3 * i)) = ftI (fiA w) := by rw [hfi, c_39]; exact fe_a hi h21 c_39
      refine tt_iconst (v := nI 0) d_Y_fish_55 (by decide) ?_
      refine tt_istore_n (lv2 := [_, _, _, _, _, _]) d_Y_fish_56 (by decide) rfl ?_
      refine tt_goto (t := 29) d_Y_fish_57 (by decide) ?_
      refine tt_iload_n d_Y_fish_29 rfl ?_
      refine tn_if_eq (t := 60) (by omega) d_Y_fish_30 (by decide) (fun c_30 => ?_) (fun c_30 => ?_)
      · refine tt_aload_n d_Y_fish_60 rfl ?_
        refine tt_iload_n d_Y_fish_61 rfl ?_
        refine tt_bipush (v := nI 23) d_Y_fish_62 (by decide) ?_
        refine tt_iload_n d_Y_fish_64 rfl ?_
        refine tt_callV (y_faultOf (d := d) (m := 23) hRf (by omega) (by decide) hrl) cw_Y_faultOf rfl rfl (by decide) rfl (by omega) d_Y_fish_65 rfl rfl (Nat.le_of_ble_eq_true rfl) (Nat.le_of_ble_eq_true rfl) rfl rfl rfl (fun v σ2 q => ?_)
        obtain ⟨rfl, e9⟩ := q
        rw [e9, hFA]
        clear e9
        refine tt_istore (lv2 := [_, _, _, _, _, _]) d_Y_fish_68 (by decide) rfl ?_
        refine tt_iload d_Y_fish_70 rfl ?_
        refine tt_if_ge (t := 78) d_Y_fish_72 (by decide) (fun c_72 => ?_) (fun c_72 => ?_)
        · exact absurd ((ft_c hfl).mp c_72) (by rw [hfi]; exact fe_z hi h21 c_39)
        · refine tt_iload d_Y_fish_75 rfl ?_
          refine tt_iret rfl d_Y_fish_77 ?_
          unfold a_fish nc_fish
          have hA : ¬ fiA w = 0 := fun q => c_72 ((ft_c hfl).mpr q)
          rw [if_neg hn0, if_neg hn0, if_neg hA, if_neg hA]
          refine ⟨?_, h.ww hd, h.2⟩
          unfold ftI
          rw [if_neg hA]
      · omega
    · have hr0 : rfB (cpX (wX w) 23) (eN (wE w) + i) (3 * i) = 1 := by omega
      obtain ⟨c1, c2, c3, c4⟩ := rf_1 h21 hr0
      rw [c4] at hR
      obtain ⟨r1, r2, r3⟩ := hr1 hr0
      obtain ⟨e1, e2, e3⟩ := cp_at (x := wX w) (m := 23) (j := 3 * i) (by omega)
      obtain ⟨f1, f2, f3⟩ := cp_at (x := wX w) (m := 23) (j := 3 * i + 1) (by omega)
      rw [e3] at r2
      rw [f2] at r3
      have htl := tk_le (cpX (wX w) 23).2 (cpX (wX w) 23).1 (3 * i + 2) 59
      refine tt_aload_n d_Y_fish_42 rfl ?_
      refine tt_bipush (v := nI 59) d_Y_fish_43 (by decide) ?_
      refine tt_callV (y_takes (d := d) (s := 59) hR (by decide)) cw_Y_takes rfl rfl (by decide) rfl (by omega) d_Y_fish_45 rfl rfl (Nat.le_of_ble_eq_true rfl) (Nat.le_of_ble_eq_true rfl) rfl rfl rfl (fun v σ2 q => ?_)
      obtain ⟨rfl, hR2, hF⟩ := q
      replace h := h.fa hF
      replace hd := hd.fa hF
      replace r1 := (hF.sf 21 (by decide)).trans r1
      have hs1 := hF.si 164
      replace hrd := fun j (q : j < i) => And.intro ((congrFun hs1 (2 * j)).trans (hrd j q).1) ((congrFun hs1 (2 * j + 1)).trans (hrd j q).2)
      replace r2 := (congrFun hs1 (2 * i)).trans r2
      replace r3 := (congrFun hs1 (2 * i + 1)).trans r3
      refine tn_if_eq (t := 55) (by omega) d_Y_fish_48 (by decide) (fun c_48 => ?_) (fun c_48 => ?_)
      · rw [c_48, Nat.add_zero] at hR2
        have hRf := hR2
        have hto : 3 * i + 2 ≤ (cpX (wX w) 23).1 := hR2.2.2.2.2
        have hFA : foI (wX w).1 23 (rfB (cpX (wX w) 23) (eN (wE w) + i) (3 * i)) (cpX (wX w) 23).1 (3 * i + 2) = ftI (fiA w) := by rw [hfi, hr0]; exact fe_b hi h21 hr0 (htl.2.2 c_48) hto
        refine tt_iconst (v := nI 0) d_Y_fish_55 (by decide) ?_
        refine tt_istore_n (lv2 := [_, _, _, _, _, _]) d_Y_fish_56 (by decide) rfl ?_
        refine tt_goto (t := 29) d_Y_fish_57 (by decide) ?_
        refine tt_iload_n d_Y_fish_29 rfl ?_
        refine tn_if_eq (t := 60) (by omega) d_Y_fish_30 (by decide) (fun c_30 => ?_) (fun c_30 => ?_)
        · refine tt_aload_n d_Y_fish_60 rfl ?_
          refine tt_iload_n d_Y_fish_61 rfl ?_
          refine tt_bipush (v := nI 23) d_Y_fish_62 (by decide) ?_
          refine tt_iload_n d_Y_fish_64 rfl ?_
          refine tt_callV (y_faultOf (d := d) (m := 23) hRf (by omega) (by decide) hrl) cw_Y_faultOf rfl rfl (by decide) rfl (by omega) d_Y_fish_65 rfl rfl (Nat.le_of_ble_eq_true rfl) (Nat.le_of_ble_eq_true rfl) rfl rfl rfl (fun v σ2 q => ?_)
          obtain ⟨rfl, e9⟩ := q
          rw [e9, hFA]
          clear e9
          refine tt_istore (lv2 := [_, _, _, _, _, _]) d_Y_fish_68 (by decide) rfl ?_
          refine tt_iload d_Y_fish_70 rfl ?_
          refine tt_if_ge (t := 78) d_Y_fish_72 (by decide) (fun c_72 => ?_) (fun c_72 => ?_)
          · have hA : fiA w = 0 := (ft_c hfl).mp c_72
            obtain ⟨k1, k2, k3, k4⟩ := fiL_c hb8 hA
            have hLi : fiL (wX w) = i + 1 := by have := fe_d hi h21 hr0 (htl.2.2 c_48) (by rw [← hfi]; exact hA); omega
            refine tt_iconst (v := nI 0) d_Y_fish_78 (by decide) ?_
            refine tt_istore (lv2 := [_, _, _, _, _, _]) d_Y_fish_79 (by decide) rfl ?_
            rw [← hLi] at r1
            refine y_fish2 ho hX hn0 hA h hd r1 k1 k2 k4 (fun j q => ?_) (fiL (wX w)) 0 _ rfl (by omega) ⟨fun _ _ => rfl, fun _ _ _ => rfl, fun _ _ => rfl, rfl, rfl⟩ h.e.1.2.2.1 (fun i q => ?_) h.1.2.1
            · by_cases cj : j = i
              · rw [cj]; exact ⟨r2, r3⟩
              · exact hrd j (by omega)
            · show _ = nI (if eN (wE w) ≤ i ∧ i < eN (wE w) + 0 then _ else eK (wE w) i) ∧ _ = nI (if eN (wE w) ≤ i ∧ i < eN (wE w) + 0 then _ else eS (wE w) i)
              rw [if_neg (by omega), if_neg (by omega)]
              exact h.e.2.1 i q
          · refine tt_iload d_Y_fish_75 rfl ?_
            refine tt_iret rfl d_Y_fish_77 ?_
            unfold a_fish nc_fish
            have hA : ¬ fiA w = 0 := fun q => c_72 ((ft_c hfl).mpr q)
            rw [if_neg hn0, if_neg hn0, if_neg hA, if_neg hA]
            refine ⟨?_, h.ww hd, h.2⟩
            unfold ftI
            rw [if_neg hA]
        · omega
      · have htk : tkN (cpX (wX w) 23).2 (cpX (wX w) 23).1 (3 * i + 2) 59 = 1 := by omega
        rw [htk] at hR2
        obtain ⟨g1, g2, g3⟩ := fe_c hi h21 hr0 (htl.2.1 htk)
        refine tt_iconst (v := nI 1) d_Y_fish_51 (by decide) ?_
        refine tt_goto (t := 56) d_Y_fish_52 (by decide) ?_
        refine tt_istore_n (lv2 := [_, _, _, _, _, _]) d_Y_fish_56 (by decide) rfl ?_
        refine tt_goto (t := 29) d_Y_fish_57 (by decide) ?_
        refine tt_iload_n d_Y_fish_29 rfl ?_
        refine tn_if_eq (t := 60) (by omega) d_Y_fish_30 (by decide) (fun c_30 => ?_) (fun c_30 => ?_)
        · omega
        · rw [hr0]
          refine ih (8 - (i + 1)) (by omega) (i + 1) _ rfl (by omega) (by omega) (hfi.trans g1) h hd hR2 r1 (fun j q => ?_)
          by_cases cj : j = i
          · rw [cj]; exact ⟨r2, r3⟩
          · exact hrd j (by omega)

theorem hd21 {τ : xs} {t : Nat × (Nat → Int64)} {x : Int32} (h : YD τ t) : YD (wF τ 154 21 x) t := ⟨h.1, h.2⟩
theorem s21 {c : Nat} {σ τ : xs} {w : wv} {x : Int32} (_ : YQ c w σ (wF τ 154 21 x)) : sf (wF τ 154 21 x) 154 21 = x := rfl
set_option maxHeartbeats 4000000 in
theorem yc_fish {l : xLa} {d c : Nat} {σ : xs} {w : wv} (ho : okQ w) (hw : YW σ c w)  (hX : okX (wX w)) : TC l M_Y_fish (d + 150) [.ref 154] σ (fun r τ => r = some (.int (a_fish w).1) ∧ YW τ (nc_fish w c) (a_fish w).2 ∧ YF σ τ) := by
  show T l M_Y_fish (d + 150) 0 _ [] σ _
  refine T_lv (lv2 := [_, _, _, _, _, _]) rfl ?_
  have h := YQ.rf hw.v
  have hd0 := hw.2.2.2.1
  have hb0 := ho.fb
  have hb8 := ho.n8
  have hx1 := hX.1
  refine tt_aload_n d_Y_fish_0 rfl ?_
  refine tt_iconst (v := nI 0) d_Y_fish_1 (by decide) ?_
  refine tt_putI d_Y_fish_2 rfl rfl (by decide) rfl (xpok_int rfl) rfl ?_
  replace h := h.thr (x := nI 0)
  replace hd0 := hd0.thr (x := nI 0)
  refine tt_aload_n d_Y_fish_5 rfl ?_
  refine tt_bipush (v := nI 23) d_Y_fish_6 (by decide) ?_
  refine tt_callV (y_begins (d := d) h hd0 hX (by decide)) cw_Y_begins rfl rfl (by decide) rfl (by omega) d_Y_fish_8 rfl rfl (Nat.le_of_ble_eq_true rfl) (Nat.le_of_ble_eq_true rfl) rfl rfl rfl (fun v σ2 q => ?_)
  obtain ⟨rfl, h, hd, hR, hn18⟩ := q
  refine tt_istore_n (lv2 := [_, _, _, _, _, _]) d_Y_fish_11 (by decide) rfl ?_
  refine tt_aload_n d_Y_fish_12 rfl ?_
  refine tt_iconst (v := nI 0) d_Y_fish_13 (by decide) ?_
  refine tt_putI d_Y_fish_14 rfl rfl (by decide) rfl (xpok_int rfl) rfl ?_
  replace h := yq_21 (x := nI 0) h
  replace hR := RT_21 (x := nI 0) hR
  replace hd := hd21 (x := nI 0) hd
  have h21 := s21 h
  refine tt_iconst (v := nI 1) d_Y_fish_17 (by decide) ?_
  refine tt_istore_n (lv2 := [_, _, _, _, _, _]) d_Y_fish_18 (by decide) rfl ?_
  refine tt_iload_n d_Y_fish_19 rfl ?_
  refine tn_if_le (t := 27) (by omega) d_Y_fish_20 (by decide) (fun c_20 => ?_) (fun c_20 => ?_)
  · have hn0 : (wX w).1 = 0 := by omega
    refine tt_iconst (v := nI 0) d_Y_fish_27 (by decide) ?_
    refine tt_istore_n (lv2 := [_, _, _, _, _, _]) d_Y_fish_28 (by decide) rfl ?_
    refine tt_iload_n d_Y_fish_29 rfl ?_
    refine tn_if_eq (t := 60) (by omega) d_Y_fish_30 (by decide) (fun c_30 => ?_) (fun c_30 => ?_)
    · refine tt_aload_n d_Y_fish_60 rfl ?_
      refine tt_iload_n d_Y_fish_61 rfl ?_
      refine tt_bipush (v := nI 23) d_Y_fish_62 (by decide) ?_
      refine tt_iload_n d_Y_fish_64 rfl ?_
      refine tt_callV (y_faultOf (d := d) (b := 1) (m := 23) hR (by omega) (by decide) (by decide)) cw_Y_faultOf rfl rfl (by decide) rfl (by omega) d_Y_fish_65 rfl rfl (Nat.le_of_ble_eq_true rfl) (Nat.le_of_ble_eq_true rfl) rfl rfl rfl (fun v σ2 q => ?_)
      obtain ⟨rfl, e9⟩ := q
      have hz : foI (wX w).1 23 1 (min (wX w).1 23) 0 = nI 0 := by unfold foI; rw [if_neg (by omega), if_pos (by omega)]
      rw [e9, hz]
      clear e9
      refine tt_istore (lv2 := [_, _, _, _, _, _]) d_Y_fish_68 (by decide) rfl ?_
      refine tt_iload d_Y_fish_70 rfl ?_
      refine tn_if_ge (t := 78) (by omega) d_Y_fish_72 (by decide) ?_
      refine tt_iconst (v := nI 0) d_Y_fish_78 (by decide) ?_
      refine tt_istore (lv2 := [_, _, _, _, _, _]) d_Y_fish_79 (by decide) rfl ?_
      refine tt_iload d_Y_fish_81 rfl ?_
      refine tt_aload_n d_Y_fish_83 rfl ?_
      refine tn_get d_Y_fish_84 rfl rfl (by decide) rfl h21 ?_
      refine tn_ic_ge (t := 211) (by omega) (by omega) d_Y_fish_87 (by decide) (fun c_87 => ?_) (fun c_87 => ?_)
      · refine tt_aload_n d_Y_fish_211 rfl ?_
        refine tn_get d_Y_fish_212 rfl rfl (by decide) rfl h21 ?_
        refine tn_if_le (t := 233) (by omega) d_Y_fish_215 (by decide) (fun c_215 => ?_) (fun c_215 => ?_)
        · refine tt_aload_n d_Y_fish_233 rfl ?_
          refine tn_get d_Y_fish_234 rfl rfl (by decide) rfl h21 ?_
          refine tt_iret rfl d_Y_fish_237 ?_
          unfold a_fish nc_fish
          rw [if_pos hn0, if_pos hn0]
          exact ⟨rfl, h.ww hd, h.2⟩
        · omega
      · omega
    · omega
  · refine tt_iconst (v := nI 1) d_Y_fish_23 (by decide) ?_
    refine tt_goto (t := 28) d_Y_fish_24 (by decide) ?_
    refine tt_istore_n (lv2 := [_, _, _, _, _, _]) d_Y_fish_28 (by decide) rfl ?_
    refine tt_iload_n d_Y_fish_29 rfl ?_
    refine tn_if_eq (t := 60) (by omega) d_Y_fish_30 (by decide) (fun c_30 => ?_) (fun c_30 => ?_)
    · omega
    · exact y_fish1 ho hX (by omega) 8 0 _ rfl hb8 (by omega) rfl h hd hR h21 (fun j q => absurd q (Nat.not_lt_zero j))

