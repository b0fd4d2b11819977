/-! Trip.pass. Printed by wip/whole. -/
theorem x_move {l : Launch} {d : Nat} {σ : xs} {a : Nat} {e : xe} {v : sv} (ha : isS a) (he : okE e) (hv : okV e v) (hS : ST σ a v) (hT : TR σ v) (hr : sf σ 5 0 = nI (eR e)) (hc : sf σ 5 1 = nI (eC e)) : TC l M_Trip_move (d + 3) [.ref 19, .ref a, .int (b2I (goV e v (nI 255)))] σ (fun r τ => r = none ∧ ST τ a (mvV e v) ∧ TR τ (mvV e v) ∧ Fr (PT a) σ τ) := by
  have he0 := he
  obtain ⟨⟨e1, e2, e3, e4, e5, e6, e7⟩, e8, e9x, e10⟩ := he
  have hRC : eR e * eC e ≤ 36 := Nat.mul_le_mul e2 e4
  by_cases c : goV e v (nI 255) = 0
  · rw [show mvV e v = _ from if_pos c, c]
    exact x_move_s ha hS hT
  · rw [show mvV e v = _ from if_neg c, (b2I_c goV_lt).2 c]
    have hg := goV_lt (e := e) (v := v) (z := nI 255)
    exact x_move_g ha hS hT (by omega) hr hc e2 e4 (by omega) (by have := hv.1; omega) (goV_f he0 hv c).2
def PP (a u : Nat) : Nat → Prop := fun c => PT a c ∨ c = 18 ∨ PM u c
theorem PP_n {a u c : Nat} (ha : isS a) (hu : isR u) (h : c < 15 ∨ c = u ∨ c = u + 1) : ¬ PP a u c := by
  intro q
  have ho := isS_out ha
  unfold PP PT PM Pu at q
  rcases isR_c hu with rfl | rfl <;> omega
theorem EX.fr {σ τ : xs} {e : xe} {u : Nat} {P : Nat → Prop} (h : EX σ e u) (hf : Fr P σ τ) (hp : ∀ c, c < 15 ∨ c = u ∨ c = u + 1 → ¬ P c) : EX τ e u := by
  obtain ⟨⟨h1, h2, h3, h4⟩, h5, h6, h7, h8, h9, h10, h11⟩ := h
  have g := hf.1
  refine ⟨⟨by rw [(g 5 (hp 5 (by omega))).1]; exact h1, by rw [(g 5 (hp 5 (by omega))).1]; exact h2, by rw [(g 9 (hp 9 (by omega))).1]; exact h3, by rw [(g 12 (hp 12 (by omega))).1]; exact h4⟩, fun i hi => ?_, fun i hi => ?_, fun i hi => ?_, by rw [(g u (hp u (by omega))).1]; exact h8, h9, fun i hi => ?_, h11⟩
  · rw [(g 10 (hp 10 (by omega))).2, (g 11 (hp 11 (by omega))).2]; exact h5 i hi
  · rw [(g 13 (hp 13 (by omega))).2]; exact h6 i hi
  · rw [(g 6 (hp 6 (by omega))).2]; exact h7 i hi
  · rw [(g (u + 1) (hp (u + 1) (by omega))).2]; exact h10 i hi
theorem CI.fr {σ τ : xs} {u : Nat} {W : Int32 → Int32} {P : Nat → Prop} (h : CI σ u W) (hf : Fr P σ τ) (h4 : ¬ P (u + 4)) (h5 : ¬ P (u + 5)) : CI τ u W := fun s hs => by
  rw [(hf.1 _ h4).2, (hf.1 _ h5).2]; exact h s hs
theorem gI_b {g b : Nat} (hg : g < 2 ^ 30) (hb : b < 2 ^ 30) : gI g = nI b ↔ g = b + 1 := by
  cases g with
  | zero =>
    refine ⟨fun q => ?_, fun q => by omega⟩
    have := congrArg Int32.toInt (show (-1 : Int32) = nI b from q)
    rw [nI_toInt (by omega)] at this
    have e : (-1 : Int32).toInt = -1 := rfl
    rw [e] at this
    omega
  | succ g =>
    refine ⟨fun q => ?_, fun q => ?_⟩
    · have := (nI_eq (a := g) (b := b) (by omega) (by omega)).mp q
      omega
    · show nI g = nI b
      rw [show g = b by omega]
theorem x_pass_in {l : Launch} {d : Nat} {σ : xs} {Q : Option Value → xs → Prop} {a n i : Nat} {u : Nat} {e : xe} {v1 : sv} {pl : Nat → Int32} (ha : isS a) (he : okE e) (hv1 : okV e v1) (hk : ∀ τ z, ST τ a (fisV pl v1 (eN e)) → TR τ (fisV pl v1 (eN e)) → Fr (PT a) σ τ → T l M_Trip_pass (d + 7) 118 [some (.ref 19), some (.ref a), some (.ref u), some (.int (nI n)), some (.int (nI i)), some (.int (nI z))] [] τ Q) (hpl : ∀ j, j < eN e → si σ 15 j = pl j) (hn : sf σ 9 2 = nI (eN e)) : ∀ (m : Nat) (j : Nat) (τ : xs), eN e - j = m → j ≤ eN e → ST τ a (fisV pl v1 j) → TR τ (fisV pl v1 j) → Fr (PT a) σ τ → T l M_Trip_pass (d + 7) 72 [some (.ref 19), some (.ref a), some (.ref u), some (.int (nI n)), some (.int (nI i)), some (.int (nI j))] [] τ Q := by
  intro m
  induction m using Nat.strongRecOn with
  | ind m ih =>
    intro j τ hm hj hS hT hF
    have ho := isS_out ha
    have h9 : ¬ PT a 9 := by unfold PT; omega
    have h15 : ¬ PT a 15 := by unfold PT; omega
    have he8 : eN e ≤ 8 := he.1.2.2.2.2.1
    have hRC : eR e * eC e ≤ 36 := Nat.mul_le_mul he.1.2.1 he.1.2.2.2.1
    have hok := ok_fis (pl := pl) hv1 j (by omega)
    refine tt_iload d_Trip_pass_72 rfl ?_
    refine tt_aload_n d_Trip_pass_74 rfl ?_
    refine tt_getR d_Trip_pass_75 rfl rfl (by decide) rfl rfl ?_
    refine tn_get d_Trip_pass_78 rfl rfl (by decide) rfl ((congrFun (hF.1 9 h9).1 2).trans hn) ?_
    refine tn_ic_ge (t := 118) (by omega) (by omega) d_Trip_pass_81 (by decide) (fun c_81 => ?_) (fun c_81 => ?_)
    · exact hk τ j (by rw [show eN e = j by omega]; exact hS) (by rw [show eN e = j by omega]; exact hT) hF
    · refine tt_aload_n d_Trip_pass_84 rfl ?_
      refine tt_aload_n d_Trip_pass_85 rfl ?_
      refine tt_iload d_Trip_pass_86 rfl ?_
      refine tt_callV (x_tire (d := d + 5) (σ := τ) (v := (fisV pl v1 j)) (pl := pl j) ha (by omega) hS hT (hok.2.2.2.2.2.2 j (by omega)).1 ((congrFun (hF.1 15 h15).2 j).trans (hpl j (by omega)))) cw_Trip_tire rfl rfl (by decide) rfl (by omega) d_Trip_pass_88 rfl rfl (Nat.le_of_ble_eq_true rfl) (Nat.le_of_ble_eq_true rfl) rfl rfl rfl (fun v σ2 q => ?_)
      obtain ⟨rfl, hS2, hT2, hF2⟩ := q
      have hok2 := ok_tir (pl := pl j) hok (show j < 8 by omega)
      refine tt_aload_n d_Trip_pass_91 rfl ?_
      refine tt_getR d_Trip_pass_92 rfl (by first | exact xS_sh ha) (by decide) (by first | exact (xS_r ha).2.2.1) (by first | exact xS_0 ha _ (by decide)) ?_
      refine tt_iload d_Trip_pass_95 rfl ?_
      refine tn_iald d_Trip_pass_97 (xS_a ha).2.2.1 (by decide) (by omega) (hS2.2 j (by omega)).2.2.1 ?_
      refine tt_aload_n d_Trip_pass_98 rfl ?_
      refine tn_get d_Trip_pass_99 rfl (by first | exact xS_sh ha) (by decide) (by first | exact xS_i ha _ (by decide)) (hS2.1 0 (by decide)) ?_
      refine tt_ic_ne (t := 112) d_Trip_pass_102 (by decide) (fun c_102 => ?_) (fun c_102 => ?_)
      · skip
        have hne : ¬ (tirV (pl j) (fisV pl v1 j) j) 3 j = (tirV (pl j) (fisV pl v1 j) j) 0 0 + 1 := fun q => c_102 ((gI_b (by have := (hok2.2.2.2.2.2.2 j (by omega)).2.2.1; omega) (by have := hok2.1; omega)).mpr q)
        refine tt_iinc d_Trip_pass_112 rfl (nI_inc _ 1) (by decide) rfl ?_
        refine tt_goto (t := 72) d_Trip_pass_115 (by decide) ?_
        exact ih (eN e - (j + 1)) (by omega) (j + 1) _ rfl (by omega) (by rw [show fisV pl v1 (j + 1) = _ from if_neg hne]; exact hS2) (by rw [show fisV pl v1 (j + 1) = _ from if_neg hne]; exact hT2) (hF.tr hF2)
      · skip
        have heq : (tirV (pl j) (fisV pl v1 j) j) 3 j = (tirV (pl j) (fisV pl v1 j) j) 0 0 + 1 := (gI_b (by have := (hok2.2.2.2.2.2.2 j (by omega)).2.2.1; omega) (by have := hok2.1; omega)).mp (Classical.not_not.mp c_102)
        refine tt_aload_n d_Trip_pass_105 rfl ?_
        refine tt_aload_n d_Trip_pass_106 rfl ?_
        refine tt_iload d_Trip_pass_107 rfl ?_
        refine tt_callV (x_reward (d := d + 5) (v := (tirV (pl j) (fisV pl v1 j) j)) ha (by omega) hS2 hT2 ⟨hok2.2.1, hok2.2.2.1, hok2.2.2.2.1, (hok2.2.2.2.2.2.2 j (by omega)).2.1, (hok2.2.2.2.2.2.2 j (by omega)).2.2.2⟩) cw_Trip_reward rfl rfl (by decide) rfl (by omega) d_Trip_pass_109 rfl rfl (Nat.le_of_ble_eq_true rfl) (Nat.le_of_ble_eq_true rfl) rfl rfl rfl (fun v σ2 q => ?_)
        obtain ⟨rfl, hS3, hT3, hF3⟩ := q
        refine tt_iinc d_Trip_pass_112 rfl (nI_inc _ 1) (by decide) rfl ?_
        refine tt_goto (t := 72) d_Trip_pass_115 (by decide) ?_
        exact ih (eN e - (j + 1)) (by omega) (j + 1) _ rfl (by omega) (by rw [show fisV pl v1 (j + 1) = _ from if_pos heq]; exact hS3) (by rw [show fisV pl v1 (j + 1) = _ from if_pos heq]; exact hT3) ((hF.tr hF2).tr hF3)

