/-! Trip.pass. Printed by wip/whole. -/
theorem x_move {l : xLa} {d : Nat} {σ : xs} {a : Nat} {e : xe} {v : sv} (ha : isS a) (he : okE e) (hv : okV e v) (hS : ST σ a v) (hT : TR σ v) (hr : sf σ 5 0 = nI (eR e)) (hc : sf σ 5 1 = nI (eC e)) : TC l M_Trip_move (d + 3) [.ref 19, .ref a, .int (b2I (goV e v (nI 255)))] σ (fun r τ => r = none ∧ ST τ a (mvV e v) ∧ TR τ (mvV e v) ∧ Fr (PT a) σ τ) := by
  have he0 := he
  obtain ⟨⟨e1, e2, e3, e4, e5, e6, e7⟩, e8, e9x, e10⟩ := he
  have hRC : eR e * eC e ≤ 36 := Nat.mul_le_mul e2 e4
  by_cases c : goV e v (nI 255) = 0
  · rw [show mvV e v = _ from if_pos c, c]
    exact x_move_s ha hS hT
  · rw [show mvV e v = _ from if_neg c, (b2I_c goV_lt).2 c]
    have hg := goV_lt (e := e) (v := v) (z := nI 255)
    exact x_move_g ha hS hT (by omega) hr hc e2 e4 (by omega) (by have := hv.1; omega) (goV_f he0 hv c).2
def PP (a u : Nat) : Nat → Prop := fun c => PT a c ∨ c = 18 ∨ PM u c
theorem PP_n {a u c : Nat} (ha : isS a) (hu : isR u) (h : c < 15 ∨ c = u ∨ c = u + 1) : ¬ PP a u c := by
  intro q
  have ho := isS_out ha
  unfold PP PT PM Pu at q
  rcases isR_c hu with rfl | rfl <;> omega
theorem EX.fr {σ τ : xs} {e : xe} {u : Nat} {P : Nat → Prop} (h : EX σ e u) (hf : Fr P σ τ) (hp : ∀ c, c < 15 ∨ c = u ∨ c = u + 1 → ¬ P c) : EX τ e u := by
  obtain ⟨⟨h1, h2, h3, h4⟩, h5, h6, h7, h8, h9, h10, h11⟩ := h
  have g := hf.1
  refine ⟨⟨by rw [(g 5 (hp 5 (by omega))).1]; exact h1, by rw [(g 5 (hp 5 (by omega))).1]; exact h2, by rw [(g 9 (hp 9 (by omega))).1]; exact h3, by rw [(g 12 (hp 12 (by omega))).1]; exact h4⟩, fun i hi => ?_, fun i hi => ?_, fun i hi => ?_, by rw [(g u (hp u (by omega))).1]; exact h8, h9, fun i hi => ?_, h11⟩
  · rw [(g 10 (hp 10 (by omega))).2, (g 11 (hp 11 (by omega))).2]; exact h5 i hi
  · rw [(g 13 (hp 13 (by omega))).2]; exact h6 i hi
  · rw [(g 6 (hp 6 (by omega))).2]; exact h7 i hi
  · rw [(g (u + 1) (hp (u + 1) (by omega))).2]; exact h10 i hi
theorem CI.fr {σ τ : xs} {u : Nat} {W : Int32 → Int32} {P : Nat → Prop} (h : CI σ u W) (hf : Fr P σ τ) (h4 : ¬ P (u + 4)) (h5 : ¬ P (u + 5)) : CI τ u W := fun s hs => by
  rw [(hf.1 _ h4).2, (hf.1 _ h5).2]; exact h s hs
theorem gI_b {g b : Nat} (hg : g < 2 ^ 30) (hb : b < 2 ^ 30) : gI g = nI b ↔ g = b + 1 := by
  cases g with
  | zero =>
    refine ⟨fun q => ?_, fun q => by omega⟩
    have := congrArg Int32.toInt (show (-1 : Int32) = nI b from q)
    rw [nI_toInt (by omega)] at this
    have e : (-1 : Int32).toInt = -1 := rfl
    rw [e] at this
    omega
  | succ g =>
    refine ⟨fun q => ?_, fun q => ?_⟩
    · have := (nI_eq (a := g) (b := b) (by omega) (by omega)).mp q
      omega
    · show nI g = nI b
      rw [show g = b by omega]
theorem x_pass_in {l : xLa} {d : Nat} {σ : xs} {Q : Option Value → xs → Prop} {a n i : Nat} {u : Nat} {e : xe} {v1 : sv} {pl : Nat → Int32} (ha : isS a) (he : okE e) (hv1 : okV e v1) (hk : ∀ τ z, ST τ a (fisV pl v1 (eN e)) → TR τ (fisV pl v1 (eN e)) → Fr (PT a) σ τ → T l M_Trip_pass (d + 7) 118 [some (.ref 19), some (.ref a), some (.ref u), some (.int (nI n)), some (.int (nI i)), some (.int (nI z))] [] τ Q) (hpl : ∀ j, j < eN e → si σ 15 j = pl j) (hn : sf σ 9 2 = nI (eN e)) : ∀ (m : Nat) (j : Nat) (τ : xs), eN e - j = m → j ≤ eN e → ST τ a (fisV pl v1 j) → TR τ (fisV pl v1 j) → Fr (PT a) σ τ → T l M_Trip_pass (d + 7) 72 [some (.ref 19), some (.ref a), some (.ref u), some (.int (nI n)), some (.int (nI i)), some (.int (nI j))] [] τ Q := by
  intro m
  induction m using Nat.strongRecOn with
  | ind m ih =>
    intro j τ hm hj hS hT hF
    have ho := isS_out ha
    have h9 : ¬ PT a 9 := by unfold PT; omega
    have h15 : ¬ PT a 15 := by unfold PT; omega
    have he8 : eN e ≤ 8 := he.1.2.2.2.2.1
    have hRC : eR e * eC e ≤ 36 := Nat.mul_le_mul he.1.2.1 he.1.2.2.2.1
    have hok := ok_fis (pl := pl) hv1 j (by omega)
    refine tt_iload d_Trip_pass_72 rfl ?_
    refine tt_aload_n d_Trip_pass_74 rfl ?_
    refine tt_getR d_Trip_pass_75 rfl rfl (by decide) rfl rfl ?_
    refine tn_get d_Trip_pass_78 rfl rfl (by decide) rfl ((congrFun (hF.1 9 h9).1 2).trans hn) ?_
    refine tn_ic_ge (t := 118) (by omega) (by omega) d_Trip_pass_81 (by decide) (fun c_81 => ?_) (fun c_81 => ?_)
    · exact hk τ j (by rw [show eN e = j by omega]; exact hS) (by rw [show eN e = j by omega]; exact hT) hF
    · refine tt_aload_n d_Trip_pass_84 rfl ?_
      refine tt_aload_n d_Trip_pass_85 rfl ?_
      refine tt_iload d_Trip_pass_86 rfl ?_
      refine tt_callV (x_tire (d := d + 5) (σ := τ) (v := (fisV pl v1 j)) (pl := pl j) ha (by omega) hS hT (hok.2.2.2.2.2.2 j (by omega)).1 ((congrFun (hF.1 15 h15).2 j).trans (hpl j (by omega)))) cw_Trip_tire rfl rfl (by decide) rfl (by omega) d_Trip_pass_88 rfl rfl (Nat.le_of_ble_eq_true rfl) (Nat.le_of_ble_eq_true rfl) rfl rfl rfl (fun v σ2 q => ?_)
      obtain ⟨rfl, hS2, hT2, hF2⟩ := q
      have hok2 := ok_tir (pl := pl j) hok (show j < eN e by omega)
      refine tt_aload_n d_Trip_pass_91 rfl ?_
      refine tt_getR d_Trip_pass_92 rfl (by first | exact xS_sh ha) (by decide) (by first | exact (xS_r ha).2.2.1) (by first | exact xS_0 ha _ (by decide)) ?_
      refine tt_iload d_Trip_pass_95 rfl ?_
      refine tn_iald d_Trip_pass_97 (xS_a ha).2.2.1 (by decide) (by omega) (hS2.2 j (by omega)).2.2.1 ?_
      refine tt_aload_n d_Trip_pass_98 rfl ?_
      refine tn_get d_Trip_pass_99 rfl (by first | exact xS_sh ha) (by decide) (by first | exact xS_i ha _ (by decide)) (hS2.1 0 (by decide)) ?_
      refine tt_ic_ne (t := 112) d_Trip_pass_102 (by decide) (fun c_102 => ?_) (fun c_102 => ?_)
      · skip
        have hne : ¬ (tirV (pl j) (fisV pl v1 j) j) 3 j = (tirV (pl j) (fisV pl v1 j) j) 0 0 + 1 := fun q => c_102 ((gI_b (by have := (hok2.2.2.2.2.2.2 j (by omega)).2.2.1; omega) (by have := hok2.1; omega)).mpr q)
        refine tt_iinc d_Trip_pass_112 rfl (nI_inc _ 1) (by decide) rfl ?_
        refine tt_goto (t := 72) d_Trip_pass_115 (by decide) ?_
        exact ih (eN e - (j + 1)) (by omega) (j + 1) _ rfl (by omega) (by rw [show fisV pl v1 (j + 1) = _ from if_neg hne]; exact hS2) (by rw [show fisV pl v1 (j + 1) = _ from if_neg hne]; exact hT2) (hF.tr hF2)
      · skip
        have heq : (tirV (pl j) (fisV pl v1 j) j) 3 j = (tirV (pl j) (fisV pl v1 j) j) 0 0 + 1 := (gI_b (by have := (hok2.2.2.2.2.2.2 j (by omega)).2.2.1; omega) (by have := hok2.1; omega)).mp (Classical.not_not.mp c_102)
        refine tt_aload_n d_Trip_pass_105 rfl ?_
        refine tt_aload_n d_Trip_pass_106 rfl ?_
        refine tt_iload d_Trip_pass_107 rfl ?_
        refine tt_callV (x_reward (d := d + 5) (v := (tirV (pl j) (fisV pl v1 j) j)) ha (by omega) hS2 hT2 ⟨hok2.2.1, hok2.2.2.1, hok2.2.2.2.1, (hok2.2.2.2.2.2.2 j (by omega)).2.1, (hok2.2.2.2.2.2.2 j (by omega)).2.2.2⟩) cw_Trip_reward rfl rfl (by decide) rfl (by omega) d_Trip_pass_109 rfl rfl (Nat.le_of_ble_eq_true rfl) (Nat.le_of_ble_eq_true rfl) rfl rfl rfl (fun v σ2 q => ?_)
        obtain ⟨rfl, hS3, hT3, hF3⟩ := q
        refine tt_iinc d_Trip_pass_112 rfl (nI_inc _ 1) (by decide) rfl ?_
        refine tt_goto (t := 72) d_Trip_pass_115 (by decide) ?_
        exact ih (eN e - (j + 1)) (by omega) (j + 1) _ rfl (by omega) (by rw [show fisV pl v1 (j + 1) = _ from if_pos heq]; exact hS3) (by rw [show fisV pl v1 (j + 1) = _ from if_pos heq]; exact hT3) ((hF.tr hF2).tr hF3)

theorem x_pass_l {l : xLa} {d : Nat} {σ : xs} {a u n : Nat} {e : xe} {v : sv} (ha : isS a) (hu : isR u) (he : okE e) (hv : okV e v) (hE : EX σ e u) (hh : v 0 4 + n < 2 ^ 30) (hn : n < 2 ^ 31) : ∀ (m : Nat) (i : Nat) (τ : xs) (z : Option Int32), n - i = m → i ≤ n → ST τ a (hrsV e v i) → TR τ (hrsV e v i) → CI τ u (V (eW e) (eM e)) → Fr (PP a u) σ τ → T l M_Trip_pass (d + 7) 28 [some (.ref 19), some (.ref a), some (.ref u), some (.int (nI n)), some (.int (nI i)), z.map Value.int] [] τ (fun r τ => r = none ∧ ST τ a (hrsV e v n) ∧ TR τ (hrsV e v n) ∧ CI τ u (V (eW e) (eM e)) ∧ Fr (PP a u) σ τ) := by
  intro m
  induction m using Nat.strongRecOn with
  | ind m ih =>
    intro i τ z hm hi hS hT hCI hF
    obtain ⟨hok, h04⟩ := ok_hrs he hv i (by omega)
    have he0 := he
    obtain ⟨⟨e1, e2, e3, e4, e5, e6, e7⟩, e8, e9x, e10⟩ := he
    have hRC : eR e * eC e ≤ 36 := Nat.mul_le_mul e2 e4
    have ho := isS_out ha
    have hE1 := hE.fr hF (fun c hc => PP_n ha hu hc)
    refine tt_iload d_Trip_pass_28 rfl ?_
    refine tt_iload_n d_Trip_pass_30 rfl ?_
    refine tn_ic_ge (t := 134) (by omega) (by omega) d_Trip_pass_31 (by decide) (fun c_31 => ?_) (fun c_31 => ?_)
    · obtain rfl : i = n := by omega
      refine tt_vret rfl d_Trip_pass_134 ?_
      exact ⟨rfl, hS, hT, hCI, hF⟩
    · refine tt_aload_n d_Trip_pass_34 rfl ?_
      refine tt_getR d_Trip_pass_35 rfl rfl (by decide) rfl rfl ?_
      refine tt_aload_n d_Trip_pass_38 rfl ?_
      refine tt_aload_n d_Trip_pass_39 rfl ?_
      refine tt_callV (x_measure (d := d) (σ := τ) (v := (hrsV e v i)) ha hu he0 hok hS hE1 hCI) cw_Tug_measure rfl rfl (by decide) rfl (by omega) d_Trip_pass_40 rfl rfl (Nat.le_of_ble_eq_true rfl) (Nat.le_of_ble_eq_true rfl) rfl rfl rfl (fun v σ2 q => ?_)
      obtain ⟨rfl, hSc, hCI3, hMS⟩ := q
      obtain ⟨σ3, e3x⟩ : ∃ z, z = σ2 := ⟨_, rfl⟩
      rw [← e3x] at hSc hCI3 hMS ⊢
      clear e3x
      have hE3 := hE1.sc hu hSc
      have hS3 := hS.sc hu ha hSc
      have hT3 : TR σ3 (hrsV e v i) := hT.sf (by rw [hSc.1])
      refine tt_aload_n d_Trip_pass_43 rfl ?_
      refine tt_getR d_Trip_pass_44 rfl rfl (by decide) rfl rfl ?_
      refine tt_sipush (v := nI 255) d_Trip_pass_47 (by decide) ?_
      refine tt_callV (x_weigh (d := d + 4) (σ := σ3) (e := e) (v := (hrsV e v i)) (z := nI 255) hE3.1.2.2.1 e5 hMS) cw_Tug_weigh rfl rfl (by decide) rfl (by omega) d_Trip_pass_50 rfl rfl (Nat.le_of_ble_eq_true rfl) (Nat.le_of_ble_eq_true rfl) rfl rfl rfl (fun v σ2 q => ?_)
      obtain ⟨rfl, e9⟩ := q
      rw [e9]
      clear e9
      refine tt_aload_n d_Trip_pass_53 rfl ?_
      refine tt_aload_n d_Trip_pass_54 rfl ?_
      refine tt_aload_n d_Trip_pass_55 rfl ?_
      refine tt_getR d_Trip_pass_56 rfl rfl (by decide) rfl rfl ?_
      refine tt_aload_n d_Trip_pass_59 rfl ?_
      refine tn_get d_Trip_pass_60 rfl (by first | exact xS_sh ha) (by decide) (by first | exact xS_i ha _ (by decide)) (show sf (wA σ3 18 _) a 0 = nI ((hrsV e v i) 0 0) from hS3.1 0 (by decide)) ?_
      refine tt_callV (x_goesFrom (d := d + 2) (σ := wA σ3 18 (ntF e (hrsV e v i) (nI 255) (zF σ3) (eN e))) (R := eR e) (C := eC e) (k := (hrsV e v i) 0 0) hE3.1.1 hE3.1.2.1 e2 e4 (by omega) (by have := hok.1; omega)) cw_Tug_goesFrom rfl rfl (by decide) rfl (by omega) d_Trip_pass_63 rfl rfl (Nat.le_of_ble_eq_true rfl) (Nat.le_of_ble_eq_true rfl) rfl rfl rfl (fun v σ2 q => ?_)
      obtain ⟨rfl, e9⟩ := q
      rw [e9, X_go_V (σ := wA σ3 18 (ntF e (hrsV e v i) (nI 255) (zF σ3) (eN e))) (z := nI 255) (f := si (wA σ3 18 (ntF e (hrsV e v i) (nI 255) (zF σ3) (eN e))) 18) he0 hok hE3.2.2.2.1 (fun j hj => (show ntF e (hrsV e v i) (nI 255) (zF σ3) (eN e) j = _ from ntF_c (fun k hk => if_pos hk) (eN e) j hj))]
      clear e9
      refine tt_callV (x_move (d := d + 3) (σ := wA σ3 18 (ntF e (hrsV e v i) (nI 255) (zF σ3) (eN e))) (e := e) (v := (hrsV e v i)) ha he0 hok (hS3.fr (P := fun c => c = 18) (Fr.wA rfl) (fun k hk => by omega)) (hT3.sf rfl) hE3.1.1 hE3.1.2.1) cw_Trip_move rfl rfl (by decide) rfl (by omega) d_Trip_pass_66 rfl rfl (Nat.le_of_ble_eq_true rfl) (Nat.le_of_ble_eq_true rfl) rfl rfl rfl (fun v σ2 q => ?_)
      obtain ⟨rfl, hS5, hT5, hF5⟩ := q
      obtain ⟨σ5, e5x⟩ : ∃ z, z = σ2 := ⟨_, rfl⟩
      rw [← e5x] at hS5 hT5 hF5 ⊢
      clear e5x
      refine tt_iconst (v := nI 0) d_Trip_pass_69 (by decide) ?_
      refine tt_istore d_Trip_pass_70 (by decide) rfl ?_
      have hM15 : ∀ j, j < eN e → si σ5 15 j = plV e (hrsV e v i) j := fun j hj => by
        rw [(hF5.1 15 (by unfold PT; omega)).2]
        exact (hMS j hj).1
      have h9n : sf σ5 9 2 = nI (eN e) := by
        rw [(hF5.1 9 (by unfold PT; omega)).1]
        exact hE3.1.2.2.1
      refine x_pass_in (σ := σ5) (v1 := mvV e (hrsV e v i)) (pl := plV e (hrsV e v i)) ha he0 (ok_mv he0 hok) ?_ hM15 h9n (eN e) 0 σ5 (by omega) (by omega) hS5 hT5 Fr.rf
      intro τ6 z6 hS6 hT6 hF6
      have hFn : Fr (PP a u) σ τ6 := (((hF.tr ((Fr.sc hSc).mono (fun c h => Or.inr (Or.inr h)))).tr (Fr.wA (Or.inr (Or.inl rfl)))).tr (hF5.mono (fun c h => Or.inl h))).tr (hF6.mono (fun c h => Or.inl h))
      have hCI6 : CI τ6 u (V (eW e) (eM e)) := by
        refine ((hCI3.fr (P := fun c => c = 18) (Fr.wA rfl) ?_ ?_).fr hF5 ?_ ?_).fr hF6 ?_ ?_
        all_goals (try unfold PT); rcases isR_c hu with rfl | rfl <;> omega
      refine tt_aload_n d_Trip_pass_118 rfl ?_
      refine tt_dup d_Trip_pass_119 rfl ?_
      refine tn_get d_Trip_pass_120 rfl (by first | exact xS_sh ha) (by decide) (by first | exact xS_i ha _ (by decide)) (hS6.1 4 (by decide)) ?_
      refine tt_iconst (v := nI 1) d_Trip_pass_123 (by decide) ?_
      refine tn_iadd d_Trip_pass_124 ?_
      refine tt_putI d_Trip_pass_125 rfl (by first | exact xS_sh ha) (by decide) (by first | exact xS_i ha _ (by decide)) (xpok_int rfl) rfl ?_
      refine tt_iinc d_Trip_pass_128 rfl (nI_inc _ 1) (by decide) rfl ?_
      refine tt_goto (t := 28) d_Trip_pass_131 (by decide) ?_
      exact ih (n - (i + 1)) (by omega) (i + 1) _ (some (nI z6)) rfl (by omega) (ST_wF (k := 4) hS6) (TR_o (by decide) (hT6.sf (sf_19 ha))) (hCI6.fr (P := PT a) (Fr.wF (Or.inl (by omega))) (by unfold PT; rcases isR_c hu with rfl | rfl <;> omega) (by unfold PT; rcases isR_c hu with rfl | rfl <;> omega)) (hFn.tr (Fr.wF (Or.inl (Or.inl (by omega)))))

/-- a view with its counters at 0 -/
def z5V (v : sv) : sv := upv (upv (upv (upv (upv v 5 0 0) 5 1 0) 5 2 0) 5 3 0) 5 4 0
def X_zt (σ : xs) : xs := wF (wF (wF (wF (wF σ 19 3 (nI 0)) 19 4 (nI 0)) 19 5 (nI 0)) 19 6 (nI 0)) 19 7 (nI 0)
theorem TR_z {σ : xs} {v : sv} : TR (X_zt σ) (z5V v) := by
  intro k hk
  rcases (show k = 0 ∨ k = 1 ∨ k = 2 ∨ k = 3 ∨ k = 4 by omega) with rfl | rfl | rfl | rfl | rfl <;> rfl
theorem Fr_z {σ : xs} {P : Nat → Prop} (h : P 19) : Fr P σ (X_zt σ) := ((((Fr.wF h).tr (Fr.wF h)).tr (Fr.wF h)).tr (Fr.wF h)).tr (Fr.wF h)
theorem z5_ok {e : xe} {v : sv} (h : okV e v) : okV e (z5V v) := h
theorem ST_z {σ : xs} {a : Nat} {v : sv} (ha : isS a) (h : ST σ a v) : ST (X_zt σ) a (z5V v) := ST_5 (ST_5 (ST_5 (ST_5 (ST_5 (h.fr (P := fun c => c = 19) (Fr_z rfl) (fun k hk => by have := isS_out ha; omega))))))
theorem x_pass {l : xLa} {d : Nat} {σ : xs} {a u n : Nat} {e : xe} {v : sv} (ha : isS a) (hu : isR u) (he : okE e) (hv : okV e v) (hS : ST σ a v) (hE : EX σ e u) (hCI : CI σ u (V (eW e) (eM e))) (hh : v 0 4 + n < 2 ^ 30) (hn : n < 2 ^ 31) : TC l M_Trip_pass (d + 7) [.ref 19, .ref a, .ref u, .int (nI n)] σ (fun r τ => r = none ∧ ST τ a (hrsV e (z5V v) n) ∧ TR τ (hrsV e (z5V v) n) ∧ CI τ u (V (eW e) (eM e)) ∧ Fr (PP a u) σ τ) := by
  have hz : Fr (PP a u) σ (X_zt σ) := Fr_z (Or.inl (Or.inr rfl))
  show T l M_Trip_pass (d + 7) 0 _ [] σ _
  refine tt_aload_n d_Trip_pass_0 rfl ?_
  refine tt_iconst (v := nI 0) d_Trip_pass_1 (by decide) ?_
  refine tt_putI d_Trip_pass_2 rfl rfl (by decide) rfl (xpok_int rfl) rfl ?_
  refine tt_aload_n d_Trip_pass_5 rfl ?_
  refine tt_iconst (v := nI 0) d_Trip_pass_6 (by decide) ?_
  refine tt_putI d_Trip_pass_7 rfl rfl (by decide) rfl (xpok_int rfl) rfl ?_
  refine tt_aload_n d_Trip_pass_10 rfl ?_
  refine tt_iconst (v := nI 0) d_Trip_pass_11 (by decide) ?_
  refine tt_putI d_Trip_pass_12 rfl rfl (by decide) rfl (xpok_int rfl) rfl ?_
  refine tt_aload_n d_Trip_pass_15 rfl ?_
  refine tt_iconst (v := nI 0) d_Trip_pass_16 (by decide) ?_
  refine tt_putI d_Trip_pass_17 rfl rfl (by decide) rfl (xpok_int rfl) rfl ?_
  refine tt_aload_n d_Trip_pass_20 rfl ?_
  refine tt_iconst (v := nI 0) d_Trip_pass_21 (by decide) ?_
  refine tt_putI d_Trip_pass_22 rfl rfl (by decide) rfl (xpok_int rfl) rfl ?_
  refine tt_iconst (v := nI 0) d_Trip_pass_25 (by decide) ?_
  refine tt_istore d_Trip_pass_26 (by decide) rfl ?_
  refine T_cong (τ := X_zt σ) rfl ?_
  refine T.mono (x_pass_l (σ := X_zt σ) (v := z5V v) ha hu he (z5_ok hv) (hE.fr hz (fun c hc => PP_n ha hu hc)) hh hn n 0 (X_zt σ) none (by omega) (by omega) (ST_z ha hS) TR_z (hCI.fr (P := fun c => c = 19) (Fr_z rfl) (by rcases isR_c hu with rfl | rfl <;> omega) (by rcases isR_c hu with rfl | rfl <;> omega)) Fr.rf) ?_
  intro r τ q
  exact ⟨q.1, q.2.1, q.2.2.1, q.2.2.2.1, hz.tr q.2.2.2.2⟩

