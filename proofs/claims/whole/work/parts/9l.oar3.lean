/-! oar: the reference, its loops. Printed by wip/whole. -/
theorem y_putsBy2 {l : xLa} {d c : Nat} {σ : xs} {w : wv} (hb8 : eN (wE w) ≤ 8) (hl : (wU w).length ≤ 15) (hw : YW σ c w) : TC l M_Y_putsBy (d + 1) [.ref 154] σ (fun r τ => r = none ∧ YW τ c w ∧ YF σ τ ∧ rO (fun k => si τ 171 (38 * (wU w).length + k)) (eN (wE w)) (wV w) ∧ Fq (fun c => c = 171) (fun _ _ => False) (fun _ => False) σ τ) := by
  show T l M_Y_putsBy (d + 1) 0 _ [] σ _
  refine tt_iconst (v := nI 0) d_Y_putsBy_0 (by decide) ?_
  refine tt_istore_n (lv2 := [_, _]) d_Y_putsBy_1 (by decide) rfl ?_
  refine T.mono (y_putsBy_l (u := (wU w).length) hl hw.2.2.2.2.1.1 38 0 _ rfl (by omega) Fq.rf (fun j hj => absurd hj (Nat.not_lt_zero j)) (fun x hx => rfl)) ?_
  rintro r υ ⟨rfl, z1, z2, z3⟩
  have z := hw.putV (z1.mono (fun c hc => by unfold yA; omega) (fun _ _ q => q.elim) (fun _ q => q.elim)) (SY_o hw.2.1 (z1.1 160 (by omega))) (hw.2.2.2.1.fq z1 id id) ⟨(z1.2.1 154 30 id).trans hw.2.2.2.2.1.1, fun j hj => rO_c hb8 (hw.2.2.2.2.1.2 j hj) (fun k hk => z3 _ (by omega))⟩
  exact ⟨rfl, z.1, z.2, rO_c hb8 hw.2.1 (fun k hk => z2 k hk), z1⟩
theorem y_adds2 {l : xLa} {d c : Nat} {σ : xs} {w : wv} {a : Int32} {u : sv} (hb8 : eN (wE w) ≤ 8) (hl : (wU w).length ≤ 15) (hw : YW σ c w) (hu : rO (fun k => si σ 171 (38 * (wU w).length + k)) (eN (wE w)) u) : TC l M_Y_adds (d + 1) [.ref 154, .int a] σ (fun r τ => r = some (.int a) ∧ YW τ c (stU w u) ∧ YF σ τ ∧ sf τ 154 21 = sf σ 154 21) := by
  show T l M_Y_adds (d + 1) 0 _ [] σ _
  refine tt_aload_n d_Y_adds_0 rfl ?_
  refine tt_dup d_Y_adds_1 rfl ?_
  refine tn_get d_Y_adds_2 rfl rfl (by decide) rfl hw.2.2.2.2.1.1 ?_
  refine tt_iconst (v := nI 1) d_Y_adds_5 (by decide) ?_
  refine tn_iadd d_Y_adds_6 ?_
  refine tt_putI d_Y_adds_7 rfl rfl (by decide) rfl (xpok_int rfl) rfl ?_
  refine tt_aload_n d_Y_adds_10 rfl ?_
  refine tn_get d_Y_adds_11 rfl rfl (by decide) rfl (show _ = nI ((wU w).length + 1) from rfl) ?_
  refine tt_bipush (v := nI 15) d_Y_adds_14 (by decide) ?_
  refine tn_ic_le (t := 59) (by omega) (by omega) d_Y_adds_16 (by decide) (fun c_16 => ?_) (fun c_16 => ?_)
  · refine tt_iload_n d_Y_adds_59 rfl ?_
    refine tt_iret rfl d_Y_adds_60 ?_
    have z := Y_add_s (by omega) hw hu
    exact ⟨rfl, z.1, z.2, rfl⟩
  · refine tt_iconst (v := nI 0) d_Y_adds_19 (by decide) ?_
    refine tt_istore_n (lv2 := [_, _, _]) d_Y_adds_20 (by decide) rfl ?_
    have hl2 : (wU w).length = 15 := by omega
    rw [hl2]
    refine T.mono (y_adds_l rfl 570 0 _ rfl (by omega) Fq.rf (fun j hj => absurd hj (Nat.not_lt_zero j)) (fun x hx => rfl)) ?_
    rintro r υ ⟨rfl, ρ, rfl, z2, z3⟩
    have z := Y_add_f hb8 hl2 hw hu z2 z3
    exact ⟨rfl, z.1, z.2, (z2.2.1 154 21 id)⟩
section
variable {w : wv} {i a : Nat}
theorem rp_le : rpB w i a ≤ 1 := by unfold rpB; split <;> (try omega); split <;> (try omega); split <;> (try omega); split <;> (try omega); split <;> omega
theorem rp_a (hi : i ≤ 12) (h : rpB w i a = 0) : oaF w (12 - i) a = rpA w i a + 1 := by
  unfold rpB at h
  unfold rpA
  by_cases c1 : i = 12
  · rw [if_pos c1, show 12 - i = 0 by omega]; rfl
  · rw [if_neg c1] at h ⊢
    rw [show 12 - i = 11 - i + 1 by omega]
    by_cases c2 : cbT w (dgN (wX w) a) = 0
    · rw [if_pos c2]; exact oa_1 c2
    · rw [if_neg c2] at h ⊢
      by_cases c3 : ¬ (1 ≤ dgN (wX w) (a + 1) ∧ dgN (wX w) (a + 1) ≤ eR (wE w))
      · rw [if_pos c3]; exact oa_2 c2 c3
      · rw [if_neg c3] at h ⊢
        have c3' := Decidable.not_not.mp c3
        by_cases c4 : ¬ (1 ≤ dgN (wX w) (a + 2) ∧ dgN (wX w) (a + 2) ≤ eC (wE w))
        · rw [if_pos c4]; exact oa_3 c2 c3' c4
        · rw [if_neg c4] at h ⊢
          by_cases c5 : dgN (wX w) (a + 3) = 0
          · rw [if_pos c5]; exact oa_4 c2 c3' (Decidable.not_not.mp c4) c5
          · rw [if_neg c5] at h; omega
theorem rp_1 (h : rpB w i a = 1) : ¬ i = 12 ∧ oaG w a ∧ rpA w i a = a + 4 := by
  unfold rpB at h
  unfold rpA
  by_cases c1 : i = 12
  · rw [if_pos c1] at h; omega
  · rw [if_neg c1] at h ⊢
    by_cases c2 : cbT w (dgN (wX w) a) = 0
    · rw [if_pos c2] at h; omega
    · rw [if_neg c2] at h ⊢
      by_cases c3 : ¬ (1 ≤ dgN (wX w) (a + 1) ∧ dgN (wX w) (a + 1) ≤ eR (wE w))
      · rw [if_pos c3] at h; omega
      · rw [if_neg c3] at h ⊢
        by_cases c4 : ¬ (1 ≤ dgN (wX w) (a + 2) ∧ dgN (wX w) (a + 2) ≤ eC (wE w))
        · rw [if_pos c4] at h; omega
        · rw [if_neg c4] at h ⊢
          by_cases c5 : dgN (wX w) (a + 3) = 0
          · rw [if_pos c5] at h; omega
          · rw [if_neg c5]; exact ⟨c1, ⟨c2, Decidable.not_not.mp c3, Decidable.not_not.mp c4, c5⟩, rfl⟩
end
/-- one promise of the oar more -/
theorem YW.oar {σ : xs} {c j : Nat} {w : wv} (ho : okQ w) (h : YW σ c (stV (txC w) (oaV w j))) (hG : oaG w (5 * j)) : YW (wI (wI σ 160 (17 + (dgN (wX w) (5 * j) - 1)) (nI ((dgN (wX w) (5 * j + 1) - 1) * eC (wE w) + (dgN (wX w) (5 * j + 2) - 1)))) 160 (25 + (dgN (wX w) (5 * j) - 1)) (nI (dgN (wX w) (5 * j + 3) - 1))) c (stV (txC w) (oaV w (j + 1))) ∧ YF σ (wI (wI σ 160 (17 + (dgN (wX w) (5 * j) - 1)) (nI ((dgN (wX w) (5 * j + 1) - 1) * eC (wE w) + (dgN (wX w) (5 * j + 2) - 1)))) 160 (25 + (dgN (wX w) (5 * j) - 1)) (nI (dgN (wX w) (5 * j + 3) - 1))) := by
  obtain ⟨c1, c2, c3⟩ := cbT_1 hG.1
  have h8 := ho.n8
  have z := h.now (Fq.tr (Fq.wI rfl) (Fq.wI rfl)) (SY_34 (k := dgN (wX w) (5 * j) - 1) (g := (dgN (wX w) (5 * j + 1) - 1) * eC (wE w) + (dgN (wX w) (5 * j + 2) - 1)) (c := dgN (wX w) (5 * j + 3) - 1) h.2.1 (by omega) h8)
  exact ⟨z.1, z.2.1⟩
set_option maxHeartbeats 4000000 in
theorem y_oar2 {l : xLa} {d : Nat} {σ : xs} {c : Nat} {w : wv} {x2 x3 : Int32} (ho : okQ w) (hX : okX (wX w)) (hl : (wU w).length ≤ 15) (hn0 : ¬ (wX w).1 = 0) (hA : oaA w = 0) (k2 : oaL (wX w) ≤ 12) (k4 : ∀ j, j < oaL (wX w) → oaG w (5 * j)) : ∀ (m : Nat) (k : Nat) (τ : xs), oaL (wX w) - k = m → k ≤ oaL (wX w) → YW τ c (stV (txC w) (oaV w k)) → YF σ τ → (rO (fun k => si τ 171 (38 * (wU w).length + k)) (eN (wE w)) (wV w)) → sf τ 154 21 = nI (oaL (wX w)) → (∀ j, j < oaL (wX w) → si τ 164 (3 * j) = nI (dgN (wX w) (5 * j) - 1) ∧ si τ 164 (3 * j + 1) = nI ((dgN (wX w) (5 * j + 1) - 1) * eC (wE w) + (dgN (wX w) (5 * j + 2) - 1)) ∧ si τ 164 (3 * j + 2) = nI (dgN (wX w) (5 * j + 3) - 1)) → T l M_Y_oar (d + 150) 96 [some (.ref 154), some (.int (nI (wX w).1)), some (.int x2), some (.int x3), some (.int (nI k))] [] τ (fun r τ => r = some (.int (a_oar w).1) ∧ YW τ c (a_oar w).2 ∧ YF σ τ) := by
  have hb0 := ho.fb
  have hb8 := ho.n8
  intro m
  induction m using Nat.strongRecOn with
  | ind m ih =>
    intro k τ hm hk hw hF hu h21 hrd
    have hd0 := (dg_le (x := wX w) (j := 5 * k)).1
    refine tt_iload d_Y_oar_96 rfl ?_
    refine tt_aload_n d_Y_oar_98 rfl ?_
    refine tn_get d_Y_oar_99 rfl rfl (by decide) rfl h21 ?_
    refine tn_ic_ge (t := 167) (by omega) (by omega) d_Y_oar_102 (by decide) (fun c_102 => ?_) (fun c_102 => ?_)
    · obtain rfl : k = oaL (wX w) := by omega
      refine tt_aload_n d_Y_oar_167 rfl ?_
      refine tt_iconst (v := nI 0) d_Y_oar_168 (by decide) ?_
      refine tt_callV (y_adds2 (d := d) (w := stV (txC w) (oaV w (oaL (wX w)))) hb8 hl hw hu) cw_Y_adds rfl rfl (by decide) rfl (by omega) d_Y_oar_169 rfl rfl (Nat.le_of_ble_eq_true rfl) (Nat.le_of_ble_eq_true rfl) rfl rfl rfl (fun v σ2 q => ?_)
      obtain ⟨rfl, hw2, hF2, h212⟩ := q
      replace h21 := h212.trans h21
      refine tt_pop d_Y_oar_172 rfl ?_
      refine tt_aload_n d_Y_oar_173 rfl ?_
      refine tn_get d_Y_oar_174 rfl rfl (by decide) rfl h21 ?_
      refine tt_iret rfl d_Y_oar_177 ?_
      unfold a_oar
      rw [if_neg hn0, if_pos hA]
      exact ⟨rfl, hw2, hF.tr hF2⟩
    · have hG := k4 k (by omega)
      obtain ⟨c1, c2, c3⟩ := cbT_1 hG.1
      have hz := hw.oar ho hG
      refine tt_aload_n d_Y_oar_105 rfl ?_
      refine tt_getR d_Y_oar_106 rfl rfl (by decide) rfl rfl ?_
      refine tt_bipush (v := nI 17) d_Y_oar_109 (by decide) ?_
      refine tt_aload_n d_Y_oar_111 rfl ?_
      refine tt_getR d_Y_oar_112 rfl rfl (by decide) rfl rfl ?_
      refine tt_iconst (v := nI 3) d_Y_oar_115 (by decide) ?_
      refine tt_iload d_Y_oar_116 rfl ?_
      refine tn_imul d_Y_oar_118 ?_
      refine tn_iald d_Y_oar_119 rfl (by decide) (by omega) (hrd k (by omega)).1 ?_
      refine tn_iadd d_Y_oar_120 ?_
      refine tt_aload_n d_Y_oar_121 rfl ?_
      refine tt_getR d_Y_oar_122 rfl rfl (by decide) rfl rfl ?_
      refine tt_iconst (v := nI 3) d_Y_oar_125 (by decide) ?_
      refine tt_iload d_Y_oar_126 rfl ?_
      refine tn_imul d_Y_oar_128 ?_
      refine tt_iconst (v := nI 1) d_Y_oar_129 (by decide) ?_
      refine tn_iadd d_Y_oar_130 ?_
      refine tn_iald d_Y_oar_131 rfl (by decide) (by omega) (hrd k (by omega)).2.1 ?_
      refine tn_iast d_Y_oar_132 rfl (by decide) (by omega) ?_
      refine tt_aload_n d_Y_oar_133 rfl ?_
      refine tt_getR d_Y_oar_134 rfl rfl (by decide) rfl rfl ?_
      refine tt_bipush (v := nI 25) d_Y_oar_137 (by decide) ?_
      refine tt_aload_n d_Y_oar_139 rfl ?_
      refine tt_getR d_Y_oar_140 rfl rfl (by decide) rfl rfl ?_
      refine tt_iconst (v := nI 3) d_Y_oar_143 (by decide) ?_
      refine tt_iload d_Y_oar_144 rfl ?_
      refine tn_imul d_Y_oar_146 ?_
      refine tn_iald d_Y_oar_147 rfl (by decide) (by omega) (show _ = nI (dgN (wX w) (5 * k) - 1) from (hrd k (by omega)).1) ?_
      refine tn_iadd d_Y_oar_148 ?_
      refine tt_aload_n d_Y_oar_149 rfl ?_
      refine tt_getR d_Y_oar_150 rfl rfl (by decide) rfl rfl ?_
      refine tt_iconst (v := nI 3) d_Y_oar_153 (by decide) ?_
      refine tt_iload d_Y_oar_154 rfl ?_
      refine tn_imul d_Y_oar_156 ?_
      refine tt_iconst (v := nI 2) d_Y_oar_157 (by decide) ?_
      refine tn_iadd d_Y_oar_158 ?_
      refine tn_iald d_Y_oar_159 rfl (by decide) (by omega) (show _ = nI (dgN (wX w) (5 * k + 3) - 1) from (hrd k (by omega)).2.2) ?_
      refine tn_iast d_Y_oar_160 rfl (by decide) (by omega) ?_
      refine tt_iinc (lv2 := [_, _, _, _, _]) d_Y_oar_161 rfl (nI_inc _ 1) (by decide) rfl ?_
      refine tt_goto (t := 96) d_Y_oar_164 (by decide) ?_
      exact ih (oaL (wX w) - (k + 1)) (by omega) (k + 1) _ rfl (by omega) hz.1 (hF.tr hz.2) hu h21 hrd

set_option maxHeartbeats 4000000 in
theorem y_oar1 {l : xLa} {d : Nat} {σ : xs} {c : Nat} {w : wv} (ho : okQ w) (hX : okX (wX w)) (hl : (wU w).length ≤ 15) (hn0 : ¬ (wX w).1 = 0) : ∀ (m : Nat) (i : Nat) (τ : xs), 12 - i = m → i ≤ 12 → oaA w = oaF w (12 - i) (5 * i) → YQ c (txC w) σ τ → YD τ (wD w) → RT τ (wX w).2 (wX w).1 (5 * i) → sf τ 154 21 = nI i → (∀ j, j < i → si τ 164 (3 * j) = nI (dgN (wX w) (5 * j) - 1) ∧ si τ 164 (3 * j + 1) = nI ((dgN (wX w) (5 * j + 1) - 1) * eC (wE w) + (dgN (wX w) (5 * j + 2) - 1)) ∧ si τ 164 (3 * j + 2) = nI (dgN (wX w) (5 * j + 3) - 1)) → T l M_Y_oar (d + 150) 33 [some (.ref 154), some (.int (nI (wX w).1)), some (.int (nI 1)), some (.int (nI 1)), none] [] τ (fun r τ => r = some (.int (a_oar w).1) ∧ YW τ c (a_oar w).2 ∧ YF σ τ) := by
  have hb0 := ho.fb
  have hb8 := ho.n8
  intro m
  induction m using Nat.strongRecOn with
  | ind m ih =>
    intro i τ hm hi hfi h hd hR hmn hrd
    have hx1 := hX.1
    have hrl := rp_le (w := w) (i := i) (a := 5 * i)
    refine tt_aload_n d_Y_oar_33 rfl ?_
    refine tt_callV (y_readsPr (d := d) (i := i) (a := 5 * i) ho hX h hd hR hmn hi) cw_Y_readsPromise rfl rfl (by decide) rfl (by omega) d_Y_oar_34 rfl rfl (Nat.le_of_ble_eq_true rfl) (Nat.le_of_ble_eq_true rfl) rfl rfl rfl (fun v σ2 q => ?_)
    obtain ⟨rfl, h, hd, hR, hrk, hr1⟩ := q
    replace hrd := fun j (q : j < i) => And.intro ((hrk (3 * j) (by omega)).trans (hrd j q).1) (And.intro ((hrk (3 * j + 1) (by omega)).trans (hrd j q).2.1) ((hrk (3 * j + 2) (by omega)).trans (hrd j q).2.2))
    refine tt_istore_n (lv2 := [_, _, _, _, _]) d_Y_oar_37 (by decide) rfl ?_
    refine tt_iload_n d_Y_oar_38 rfl ?_
    refine tn_if_eq (t := 55) (by omega) d_Y_oar_39 (by decide) (fun c_39 => ?_) (fun c_39 => ?_)
    · have hRf := hR
      have hlk : oaA w = rpA w i (5 * i) + 1 := hfi.trans (rp_a hi c_39)
      refine tt_iconst (v := nI 0) d_Y_oar_55 (by decide) ?_
      refine tt_istore_n (lv2 := [_, _, _, _, _]) d_Y_oar_56 (by decide) rfl ?_
      refine tt_goto (t := 29) d_Y_oar_57 (by decide) ?_
      refine tt_iload_n d_Y_oar_29 rfl ?_
      refine tn_if_eq (t := 60) (by omega) d_Y_oar_30 (by decide) (fun c_30 => ?_) (fun c_30 => ?_)
      · refine tt_iload_n d_Y_oar_60 rfl ?_
        refine tn_if_eq (t := 75) (by omega) d_Y_oar_61 (by decide) (fun c_61 => ?_) (fun c_61 => ?_)
        · refine tt_iconst (v := (-1)) d_Y_oar_75 (by decide) ?_
          refine tt_aload_n d_Y_oar_76 rfl ?_
          refine tn_get d_Y_oar_77 rfl rfl (by decide) rfl hRf.2.1 ?_
          refine tt_isub d_Y_oar_80 ?_
          refine tt_iret rfl d_Y_oar_81 ?_
          unfold a_oar
          rw [if_neg hn0, if_neg (show ¬ oaA w = 0 by omega), hlk, Nat.add_sub_cancel]
          exact ⟨rfl, h.ww hd, h.2⟩
        · omega
      · omega
    · have hr0 : rpB w i (5 * i) = 1 := by omega
      obtain ⟨c1, hG, c4⟩ := rp_1 hr0
      rw [c4] at hR
      obtain ⟨r1, r2, r3, r4⟩ := hr1 hr0
      have htl := tk_le (wX w).2 (wX w).1 (5 * i + 4) 59
      have h60 := at_60 (x := wX w) (j := 5 * i + 4)
      refine tt_aload_n d_Y_oar_42 rfl ?_
      refine tt_bipush (v := nI 59) d_Y_oar_43 (by decide) ?_
      refine tt_callV (y_takes (d := d) (s := 59) hR (by decide)) cw_Y_takes rfl rfl (by decide) rfl (by omega) d_Y_oar_45 rfl rfl (Nat.le_of_ble_eq_true rfl) (Nat.le_of_ble_eq_true rfl) rfl rfl rfl (fun v σ2 q => ?_)
      obtain ⟨rfl, hR2, hF⟩ := q
      replace h := h.fa hF
      replace hd := hd.fa hF
      replace r1 := (hF.sf 21 (by decide)).trans r1
      have hs1 := hF.si 164
      replace hrd := fun j (q : j < i) => And.intro ((congrFun hs1 (3 * j)).trans (hrd j q).1) (And.intro ((congrFun hs1 (3 * j + 1)).trans (hrd j q).2.1) ((congrFun hs1 (3 * j + 2)).trans (hrd j q).2.2))
      replace r2 := (congrFun hs1 (3 * i)).trans r2
      replace r3 := (congrFun hs1 (3 * i + 1)).trans r3
      replace r4 := (congrFun hs1 (3 * i + 2)).trans r4
      refine tn_if_eq (t := 55) (by omega) d_Y_oar_48 (by decide) (fun c_48 => ?_) (fun c_48 => ?_)
      · rw [c_48, Nat.add_zero] at hR2
        have hRf := hR2
        have hto : 5 * i + 4 ≤ (wX w).1 := hR2.2.2.2.2
        have hn60 : ¬ atN (wX w) (5 * i + 4) = 60 := fun q => htl.2.2 c_48 (h60.mp q)
        rw [show 12 - i = 11 - i + 1 by omega] at hfi
        refine tt_iconst (v := nI 0) d_Y_oar_55 (by decide) ?_
        refine tt_istore_n (lv2 := [_, _, _, _, _]) d_Y_oar_56 (by decide) rfl ?_
        refine tt_goto (t := 29) d_Y_oar_57 (by decide) ?_
        refine tt_iload_n d_Y_oar_29 rfl ?_
        refine tn_if_eq (t := 60) (by omega) d_Y_oar_30 (by decide) (fun c_30 => ?_) (fun c_30 => ?_)
        · refine tt_iload_n d_Y_oar_60 rfl ?_
          refine tn_if_eq (t := 75) (by omega) d_Y_oar_61 (by decide) (fun c_61 => ?_) (fun c_61 => ?_)
          · omega
          · refine tt_aload_n d_Y_oar_64 rfl ?_
            refine tn_get d_Y_oar_65 rfl rfl (by decide) rfl hRf.2.1 ?_
            refine tt_aload_n d_Y_oar_68 rfl ?_
            refine tn_get d_Y_oar_69 rfl rfl (by decide) rfl hRf.1 ?_
            refine tn_ic_ge (t := 82) (by omega) (by omega) d_Y_oar_72 (by decide) (fun c_72 => ?_) (fun c_72 => ?_)
            · have hne : 5 * i + 4 = (wX w).1 := by omega
              have hA : oaA w = 0 := hfi.trans (oa_5 hG hne)
              obtain ⟨k1, k2, k3, k4⟩ := oaL_c hA
              have hLi : oaL (wX w) = i + 1 := by omega
              refine tt_aload_n d_Y_oar_82 rfl ?_
              refine tn_get d_Y_oar_83 rfl rfl (by decide) rfl r1 ?_
              refine tn_if_le (t := 173) (by omega) d_Y_oar_86 (by decide) (fun c_86 => ?_) (fun c_86 => ?_)
              · omega
              · refine tt_aload_n d_Y_oar_89 rfl ?_
                refine tt_callV (y_putsBy2 (d := d) (w := txC w) hb8 hl (h.ww hd)) cw_Y_putsBy rfl rfl (by decide) rfl (by omega) d_Y_oar_90 rfl rfl (Nat.le_of_ble_eq_true rfl) (Nat.le_of_ble_eq_true rfl) rfl rfl rfl (fun v σ2 q => ?_)
                obtain ⟨rfl, hw1, hF1, hu, hf1⟩ := q
                have hs2 := hf1.1 164 (by omega)
                replace r1 := (hf1.2.1 154 21 id).trans r1
                rw [← hLi] at r1
                refine tt_iconst (v := nI 0) d_Y_oar_93 (by decide) ?_
                refine tt_istore (lv2 := [_, _, _, _, _]) d_Y_oar_94 (by decide) rfl ?_
                refine y_oar2 ho hX hl hn0 hA k2 k4 (oaL (wX w)) 0 _ rfl (by omega) hw1 (h.2.tr hF1) hu r1 (fun j q => ?_)
                rw [hs2]
                by_cases cj : j = i
                · rw [cj]; exact ⟨r2, r3, r4⟩
                · exact hrd j (by omega)
            · have hlk : oaA w = 5 * i + 4 + 1 := hfi.trans (oa_6 hG (by omega) hn60)
              refine tt_iconst (v := (-1)) d_Y_oar_75 (by decide) ?_
              refine tt_aload_n d_Y_oar_76 rfl ?_
              refine tn_get d_Y_oar_77 rfl rfl (by decide) rfl hRf.2.1 ?_
              refine tt_isub d_Y_oar_80 ?_
              refine tt_iret rfl d_Y_oar_81 ?_
              unfold a_oar
              rw [if_neg hn0, if_neg (show ¬ oaA w = 0 by omega), hlk, Nat.add_sub_cancel]
              exact ⟨rfl, h.ww hd, h.2⟩
        · omega
      · have htk : tkN (wX w).2 (wX w).1 (5 * i + 4) 59 = 1 := by omega
        rw [htk] at hR2
        have h60y := h60.mpr (htl.2.1 htk)
        have hlt := (htl.2.1 htk).1
        rw [show 12 - i = 12 - (i + 1) + 1 by omega, oa_7 hG (by omega) h60y] at hfi
        refine tt_iconst (v := nI 1) d_Y_oar_51 (by decide) ?_
        refine tt_goto (t := 56) d_Y_oar_52 (by decide) ?_
        refine tt_istore_n (lv2 := [_, _, _, _, _]) d_Y_oar_56 (by decide) rfl ?_
        refine tt_goto (t := 29) d_Y_oar_57 (by decide) ?_
        refine tt_iload_n d_Y_oar_29 rfl ?_
        refine tn_if_eq (t := 60) (by omega) d_Y_oar_30 (by decide) (fun c_30 => ?_) (fun c_30 => ?_)
        · omega
        · rw [hr0]
          refine ih (12 - (i + 1)) (by omega) (i + 1) _ rfl (by omega) hfi h hd hR2 r1 (fun j q => ?_)
          by_cases cj : j = i
          · rw [cj]; exact ⟨r2, r3, r4⟩
          · exact hrd j (by omega)

set_option maxHeartbeats 4000000 in
theorem yc_oar {l : xLa} {d c : Nat} {σ : xs} {w : wv} (ho : okQ w) (hw : YW σ c w)  (hX : okX (wX w)) (hl : (wU w).length ≤ 15) : TC l M_Y_oar (d + 150) [.ref 154] σ (fun r τ => r = some (.int (a_oar w).1) ∧ YW τ c (a_oar w).2 ∧ YF σ τ) := by
  show T l M_Y_oar (d + 150) 0 _ [] σ _
  refine T_lv (lv2 := [_, _, _, _, _]) rfl ?_
  have h := YQ.rf hw.v
  have hd0 := hw.2.2.2.1
  have hb0 := ho.fb
  have hb8 := ho.n8
  have hx1 := hX.1
  refine tt_aload_n d_Y_oar_0 rfl ?_
  refine tt_iconst (v := nI 0) d_Y_oar_1 (by decide) ?_
  refine tt_putI d_Y_oar_2 rfl rfl (by decide) rfl (xpok_int rfl) rfl ?_
  replace h := h.thr (x := nI 0)
  replace hd0 := hd0.thr (x := nI 0)
  refine tt_aload_n d_Y_oar_5 rfl ?_
  refine tt_bipush (v := nI 80) d_Y_oar_6 (by decide) ?_
  refine tt_callV (y_begins (d := d) h hd0 hX (by decide)) cw_Y_begins rfl rfl (by decide) rfl (by omega) d_Y_oar_8 rfl rfl (Nat.le_of_ble_eq_true rfl) (Nat.le_of_ble_eq_true rfl) rfl rfl rfl (fun v σ2 q => ?_)
  obtain ⟨rfl, h, hd, hR, hn18⟩ := q
  rw [Nat.min_eq_left hX.1] at hR
  refine tt_istore_n (lv2 := [_, _, _, _, _]) d_Y_oar_11 (by decide) rfl ?_
  refine tt_aload_n d_Y_oar_12 rfl ?_
  refine tt_iconst (v := nI 0) d_Y_oar_13 (by decide) ?_
  refine tt_putI d_Y_oar_14 rfl rfl (by decide) rfl (xpok_int rfl) rfl ?_
  replace h := yq_21 (x := nI 0) h
  replace hR := RT_21 (x := nI 0) hR
  replace hd := hd21 (x := nI 0) hd
  have h21 := s21 h
  refine tt_iconst (v := nI 1) d_Y_oar_17 (by decide) ?_
  refine tt_istore_n (lv2 := [_, _, _, _, _]) d_Y_oar_18 (by decide) rfl ?_
  refine tt_iload_n d_Y_oar_19 rfl ?_
  refine tn_if_le (t := 27) (by omega) d_Y_oar_20 (by decide) (fun c_20 => ?_) (fun c_20 => ?_)
  · have hn0 : (wX w).1 = 0 := by omega
    refine tt_iconst (v := nI 0) d_Y_oar_27 (by decide) ?_
    refine tt_istore_n (lv2 := [_, _, _, _, _]) d_Y_oar_28 (by decide) rfl ?_
    refine tt_iload_n d_Y_oar_29 rfl ?_
    refine tn_if_eq (t := 60) (by omega) d_Y_oar_30 (by decide) (fun c_30 => ?_) (fun c_30 => ?_)
    · refine tt_iload_n d_Y_oar_60 rfl ?_
      refine tn_if_eq (t := 75) (by omega) d_Y_oar_61 (by decide) (fun c_61 => ?_) (fun c_61 => ?_)
      · omega
      · refine tt_aload_n d_Y_oar_64 rfl ?_
        refine tn_get d_Y_oar_65 rfl rfl (by decide) rfl hR.2.1 ?_
        refine tt_aload_n d_Y_oar_68 rfl ?_
        refine tn_get d_Y_oar_69 rfl rfl (by decide) rfl hR.1 ?_
        refine tn_ic_ge (t := 82) (by omega) (by omega) d_Y_oar_72 (by decide) (fun c_72 => ?_) (fun c_72 => ?_)
        · refine tt_aload_n d_Y_oar_82 rfl ?_
          refine tn_get d_Y_oar_83 rfl rfl (by decide) rfl h21 ?_
          refine tn_if_le (t := 173) (by omega) d_Y_oar_86 (by decide) (fun c_86 => ?_) (fun c_86 => ?_)
          · refine tt_aload_n d_Y_oar_173 rfl ?_
            refine tn_get d_Y_oar_174 rfl rfl (by decide) rfl h21 ?_
            refine tt_iret rfl d_Y_oar_177 ?_
            unfold a_oar
            rw [if_pos hn0]
            exact ⟨rfl, h.ww hd, h.2⟩
          · omega
        · omega
    · omega
  · refine tt_iconst (v := nI 1) d_Y_oar_23 (by decide) ?_
    refine tt_goto (t := 28) d_Y_oar_24 (by decide) ?_
    refine tt_istore_n (lv2 := [_, _, _, _, _]) d_Y_oar_28 (by decide) rfl ?_
    refine tt_iload_n d_Y_oar_29 rfl ?_
    refine tn_if_eq (t := 60) (by omega) d_Y_oar_30 (by decide) (fun c_30 => ?_) (fun c_30 => ?_)
    · omega
    · exact y_oar1 ho hX hl (by omega) 12 0 _ rfl (by omega) rfl h hd hR h21 (fun j q => absurd q (Nat.not_lt_zero j))

