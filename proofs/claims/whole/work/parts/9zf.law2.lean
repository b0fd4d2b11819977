/-! law: the reference. Printed by wip/whole. -/
theorem YQ.rc {c : Nat} {w : wv} {σ τ υ : xs} (h : YQ c (rlO w) σ τ) (hf : Fq (fun c => c = 165) (fun c k => c = 154 ∧ k = 24) (fun _ => False) τ υ) (hr : RCd υ (eW (wE w)) (eM (wE w))) : YQ c (txC w) σ υ := by
  obtain ⟨⟨⟨⟨⟨a1, a2, a3, a4⟩, a5, a6, a7⟩, b⟩, v, x, u, k, s⟩, y⟩ := h
  have g : ∀ k, ¬ k = 24 → sf υ 154 k = sf τ 154 k := fun k hk => hf.2.1 154 k (fun q => hk q.2)
  have gi : ∀ c, ¬ c = 165 → si υ c = si τ c := fun c hc => hf.1 c hc
  exact ⟨⟨⟨⟨⟨by rw [g 3 (by decide)]; exact a1, by rw [g 4 (by decide)]; exact a2, by rw [g 5 (by decide)]; exact a3, by rw [g 7 (by decide)]; exact a4⟩, fun i hi => by rw [gi 158 (by decide), gi 159 (by decide)]; exact a5 i hi, fun i hi => by rw [gi 157 (by decide)]; exact a6 i hi, fun f hf => by rw [gi 156 (by decide)]; exact a7 f hf⟩, hr⟩, SY_o v (gi 160 (by decide)), x.fq hf (by omega) (by omega), u.fq hf (by omega) (by omega), k.fq hf (fun c h1 h2 => by omega) (by omega), s.fq hf (fun c h1 h2 => by omega) (by omega)⟩, y.tr (hf.YF (fun c hc => by omega) (fun c k hc => by omega) (fun c hc => id))⟩
section
variable {l : xLa} {d c : Nat} {σ τ : xs} {w : wv}
theorem ya_copies (h : YQ c w σ τ) (h8 : eN (wE w) ≤ 8) : TC l M_Y_copies (d + 1) [.ref 154] τ (fun r υ => r = none ∧ YQ c w σ υ ∧ SY υ 161 (eN (wE w)) (wV w) ∧ Fq (HA 161) HF HJ τ υ) := by
  refine T.mono (y_copies (d := d) (σ := τ)) ?_
  rintro r υ ⟨rfl, rfl⟩
  refine ⟨rfl, h.fq (Fq.wA (by unfold YqA; omega)), ?_, Fq.wA (Or.inl rfl)⟩
  have h0 : rO (si τ 160) (eN (wE w)) (wV w) := h.1.2.1
  exact rO_c (f := si τ 160) h8 h0 (fun k hk => by
    show (if k < 38 then si τ 160 k else _) = _
    rw [if_pos hk])
theorem ya_hours {v : sv} {n : Nat} (h : YQ c w σ τ) (he : okE (wE w)) (hv : okV (wE w) v) (hS : SY τ 161 (eN (wE w)) v) (hh : v 0 4 + n < 2 ^ 30) (hn : n < 2 ^ 31) : TC l M_Y_goesOn (d + 11) [.ref 154, .ref 161, .int (nI n)] τ (fun r υ => r = none ∧ YQ c w σ υ ∧ si υ 161 0 = nI ((hrsV (wE w) (z5V v) n) 0 0) ∧ Fq (HA 161) HF HJ τ υ) := by
  refine T.mono (y_goesOn (d := d) (σ := τ) isY_161 he hv h.e h.1.1.2 hh hn hS) ?_
  rintro r υ ⟨rfl, h1, h2, h3⟩
  exact ⟨rfl, h.fq (h3.mono (fun _ => HA_q) (fun _ _ => HF_q) (fun _ q => q.elim)), h1.1.1, h3⟩
theorem ha_i {υ : xs} (h : Fq (HA 161) HF HJ τ υ) (a : Nat) (ha : ¬ (a = 161 ∨ (167 ≤ a ∧ a ≤ 170))) : si υ a = si τ a := h.1 a ha
theorem ha_f {υ : xs} (h : Fq (HA 161) HF HJ τ υ) (k : Nat) (hk : ¬ (32 ≤ k ∧ k ≤ 34)) : sf υ 154 k = sf τ 154 k := h.2.1 154 k (fun q => hk q.2)
end
set_option maxHeartbeats 4000000 in
theorem y_law_w {l : xLa} {d n0 : Nat} {τ0 : xs} {y1 y2 : Int32} {Q : Option Value → xs → Prop} (h0 : n0 ≤ 80) (h24 : sf τ0 154 24 = nI n0) (hk : ∀ υ, Fq (fun c => c = 185) (fun _ _ => False) (fun _ => False) τ0 υ → (∀ j, j < n0 → si υ 185 j = si τ0 165 j) → T l M_Y_law (d + 150) 80 [some (.ref 154), some (.int y1), some (.int y2), some (.int (nI n0)), some (.int (nI n0))] [] υ Q) : ∀ (m i : Nat) (υ : xs), n0 - i = m → i ≤ n0 → Fq (fun c => c = 185) (fun _ _ => False) (fun _ => False) τ0 υ → (∀ j, j < i → si υ 185 j = si τ0 165 j) → T l M_Y_law (d + 150) 51 [some (.ref 154), some (.int y1), some (.int y2), some (.int (nI n0)), some (.int (nI i))] [] υ Q := by
  intro m
  induction m using Nat.strongRecOn with
  | ind m ih =>
    intro i υ hm hi hf hj
    refine tt_iload d_Y_law_51 rfl ?_
    refine tt_aload_n d_Y_law_53 rfl ?_
    refine tn_get d_Y_law_54 rfl rfl (by decide) rfl ((hf.2.1 154 24 id).trans h24) ?_
    refine tn_ic_ge (t := 80) (by omega) (by omega) d_Y_law_57 (by decide) (fun c_57 => ?_) (fun c_57 => ?_)
    · obtain rfl : i = n0 := by omega
      exact hk υ hf hj
    · refine tt_aload_n d_Y_law_60 rfl ?_
      refine tt_getR d_Y_law_61 rfl rfl (by decide) rfl rfl ?_
      refine tt_iload d_Y_law_64 rfl ?_
      refine tt_aload_n d_Y_law_66 rfl ?_
      refine tt_getR d_Y_law_67 rfl rfl (by decide) rfl rfl ?_
      refine tt_iload d_Y_law_70 rfl ?_
      refine tn_iald d_Y_law_72 rfl (by decide) (by omega) rfl ?_
      refine tn_iast d_Y_law_73 rfl (by decide) (by omega) ?_
      refine tt_iinc (lv2 := [_, _, _, _, _]) d_Y_law_74 rfl (nI_inc _ 1) (by decide) rfl ?_
      refine tt_goto (t := 51) d_Y_law_77 (by decide) ?_
      refine ih _ (by omega) (i + 1) _ rfl (by omega) (Fq.tr hf (Fq.wI rfl)) (fun j hj2 => ?_)
      by_cases z : j = i
      · subst z
        rw [si_wI, if_pos ⟨rfl, rfl⟩, hf.1 165 (by decide)]
      · rw [si_wI, if_neg (fun q => z q.2)]
        exact hj j (by omega)

set_option maxHeartbeats 4000000 in
theorem y_law_p {l : xLa} {d c n0 : Nat} {σ τ0 : xs} {w : wv} {y1 y2 : Int32} (ho : okQ w) (h0 : n0 ≤ 80) (hrc : ((n0 = 0 ∧ eM (wE w) = 7 ∧ ∀ i, i < 7 → eW (wE w) i = plc i) ∨ (0 < n0 ∧ eM (wE w) = n0 ∧ wfc (eW (wE w)) n0 ∧ ∀ i, i < n0 → si τ0 165 i = nI (trn (eW (wE w) i))))) : ∀ (m i : Nat) (τ : xs), eN (wE w) - i = m → i ≤ eN (wE w) → YQ c (rlO w) σ τ → YD τ (dL (lwL w i)) → si τ 161 0 = nI ((hrsV (rlE (wE w) (wX w)) (z5V (wV w)) 12) 0 0) → (∀ j, j < n0 → si τ 185 j = si τ0 165 j) → T l M_Y_law (d + 150) 120 [some (.ref 154), some (.int y1), some (.int y2), some (.int (nI n0)), some (.int (nI i))] [] τ (fun r τ => r = some (.int (nI ((hrsV (rlE (wE w) (wX w)) (z5V (wV w)) 12) 0 0))) ∧ YW τ c (stD (txC w) (some (lwL w (eN (wE w))))) ∧ YF σ τ) := by
  have hb8 := ho.n8
  intro m
  induction m using Nat.strongRecOn with
  | ind m ih =>
    intro i τ hm hi h hd h161 h185
    have hln := lwL_n w i
    refine tt_iload d_Y_law_120 rfl ?_
    refine tt_aload_n d_Y_law_122 rfl ?_
    refine tn_get d_Y_law_123 rfl rfl (by decide) rfl (show sf τ 154 5 = nI (eN (wE w)) from h.1.1.1.1.2.2.1) ?_
    refine tn_ic_ge (t := 150) (by omega) (by omega) d_Y_law_126 (by decide) (fun c_126 => ?_) (fun c_126 => ?_)
    · obtain rfl : i = eN (wE w) := by omega
      refine tt_aload_n d_Y_law_150 rfl ?_
      refine tt_aload_n d_Y_law_151 rfl ?_
      refine tt_getR d_Y_law_152 rfl rfl (by decide) rfl rfl ?_
      refine tt_iload_n d_Y_law_155 rfl ?_
      refine tt_callV (y_laysCode (d := d) (a := 185) rfl (by decide) h0) cw_Y_laysCode rfl rfl (by decide) rfl (by omega) d_Y_law_156 rfl rfl (Nat.le_of_ble_eq_true rfl) (Nat.le_of_ble_eq_true rfl) rfl rfl rfl (fun v σ2 q => ?_)
      obtain ⟨rfl, h24, hk, hf⟩ := q
      have hrc2 : RCd _ (eW (wE w)) (eM (wE w)) := ⟨n0, h0, h24, hrc.elim Or.inl (fun z => Or.inr ⟨z.1, z.2.1, z.2.2.1, fun i hi => (hk i hi).trans ((h185 i hi).trans (z.2.2.2 i hi))⟩)⟩
      replace h := h.rc hf hrc2
      replace hd := hd.fq hf id (by omega)
      replace h161 := (congrFun (hf.1 161 (by decide)) 0).trans h161
      refine tt_aload_n d_Y_law_159 rfl ?_
      refine tt_getR d_Y_law_160 rfl rfl (by decide) rfl rfl ?_
      refine tt_iconst (v := nI 0) d_Y_law_163 (by decide) ?_
      refine tn_iald d_Y_law_164 rfl (by decide) (by decide) h161 ?_
      refine tt_iret rfl d_Y_law_165 ?_
      exact ⟨rfl, h.done hd, h.2⟩
    · refine tt_aload_n d_Y_law_129 rfl ?_
      refine tt_aload_n d_Y_law_130 rfl ?_
      refine tt_aload_n d_Y_law_131 rfl ?_
      refine tt_getR d_Y_law_132 rfl rfl (by decide) rfl rfl ?_
      refine tt_iload d_Y_law_135 rfl ?_
      refine tt_callV (y_pull (d := d) (σ := τ) (e := rlE (wE w) (wX w)) (i := i) isY_160 (show i < eN (wE w) by omega) ho.1 ho.2.1 h.1.1.1 h.1.2.1 h.1.1.2) cw_Y_pull rfl rfl (by decide) rfl (by omega) d_Y_law_137 rfl rfl (Nat.le_of_ble_eq_true rfl) (Nat.le_of_ble_eq_true rfl) rfl rfl rfl (fun v σ2 q => ?_)
      obtain ⟨rfl, hsc⟩ := q
      replace h := h.fq (Fq.sc (hsc.mono (fun c hc => by unfold PYp at hc; unfold YqA; omega)))
      replace hd := hd.un (Un.sc hsc)
      replace h161 := (congrFun (hsc.2.2.2.2 161 (by unfold PYp; omega)) 0).trans h161
      replace h185 := fun j hj => (congrFun (hsc.2.2.2.2 185 (by unfold PYp; omega)) j).trans (h185 j hj)
      refine tt_i2l d_Y_law_140 ?_
      refine tt_callV (yq_add (d := d) h hd (by omega)) cw_Y_enters rfl rfl (by decide) rfl (by omega) d_Y_law_141 rfl rfl (Nat.le_of_ble_eq_true rfl) (Nat.le_of_ble_eq_true rfl) rfl rfl rfl (fun v σ2 q => ?_)
      obtain ⟨rfl, h, hd, hgt⟩ := q
      rw [lwL_s] at hd
      replace h161 := (congrFun (hgt.1 161 id) 0).trans h161
      replace h185 := fun j hj => (congrFun (hgt.1 185 id) j).trans (h185 j hj)
      refine tt_iinc (lv2 := [_, _, _, _, _]) d_Y_law_144 rfl (nI_inc _ 1) (by decide) rfl ?_
      refine tt_goto (t := 120) d_Y_law_147 (by decide) ?_
      exact ih _ (by omega) (i + 1) _ rfl (by omega) h hd h161 h185

theorem law_I : ∀ k, k ≤ 41 → ((-1 : Int32) - nI k) + nI 1 - nI 10000 = (-10000) - nI k ∧ ¬ (0 : Int32) ≤ (-1) - nI k := by decide +kernel

set_option maxHeartbeats 4000000 in
theorem yc_law {l : xLa} {d c : Nat} {σ : xs} {w : wv} (ho : okQ w) (hw : YW σ c w)  (hX : okX (wX w)) : TC l M_Y_law (d + 150) [.ref 154] σ (fun r τ => r = some (.int (a_law w).1) ∧ YW τ c (a_law w).2 ∧ YF σ τ) := by
  show T l M_Y_law (d + 150) 0 _ [] σ _
  refine T_lv (lv2 := [_, _, _, _, _]) rfl ?_
  have h := YQ.rf hw.v
  have hd0 := hw.2.2.2.1
  have hb0 := ho.fb
  have hb8 := ho.n8
  have hb := rlF_b (x := wX w)
  refine tt_aload_n d_Y_law_0 rfl ?_
  refine tt_iconst (v := nI 0) d_Y_law_1 (by decide) ?_
  refine tt_putI d_Y_law_2 rfl rfl (by decide) rfl (xpok_int rfl) rfl ?_
  replace h := h.thr (x := nI 0)
  replace hd0 := hd0.thr (x := nI 0)
  refine tt_aload_n d_Y_law_5 rfl ?_
  refine tt_callV (y_readsRule (d := d) h hd0 hX) cw_Y_readsRule rfl rfl (by decide) rfl (by omega) d_Y_law_6 rfl rfl (Nat.le_of_ble_eq_true rfl) (Nat.le_of_ble_eq_true rfl) rfl rfl rfl (fun v σ2 q => ?_)
  obtain ⟨rfl, h, hd, hz⟩ := q
  refine tt_istore_n (lv2 := [_, _, _, _, _]) d_Y_law_9 (by decide) rfl ?_
  refine tt_iload_n d_Y_law_10 rfl ?_
  refine tt_if_ge (t := 22) d_Y_law_11 (by decide) (fun c_11 => ?_) (fun c_11 => ?_)
  · have cf : rlF (wX w) = 0 := Decidable.byContradiction (fun z => by
      rw [show rlI (wX w) = (-1) - nI (rlF (wX w) - 1) from if_neg z] at c_11
      exact (law_I _ (by omega)).2 c_11)
    have ea : a_law w = (nI ((hrsV (rlE (wE w) (wX w)) (z5V (wV w)) 12) 0 0), stD (txC w) (some (lwL w (eN (wE w))))) := if_pos cf
    rw [ea]
    obtain ⟨L, h25, hcl, h40, hL0, hL1⟩ := hz cf
    refine tt_aload_n d_Y_law_22 rfl ?_
    refine tt_callV (ya_copies (d := d) h hb8) cw_Y_copies rfl rfl (by decide) rfl (by omega) d_Y_law_23 rfl rfl (Nat.le_of_ble_eq_true rfl) (Nat.le_of_ble_eq_true rfl) rfl rfl rfl (fun v σ2 q => ?_)
    obtain ⟨rfl, h, hS, hha⟩ := q
    replace hd := hd.un (Un.fq hha)
    replace h25 := (ha_f hha 25 (by decide)).trans h25
    replace hcl := CL_o (ha_i hha 166 (by decide)) hcl
    refine tt_aload_n d_Y_law_26 rfl ?_
    refine tt_aload_n d_Y_law_27 rfl ?_
    refine tt_getR d_Y_law_28 rfl rfl (by decide) rfl rfl ?_
    refine tt_bipush (v := nI 12) d_Y_law_31 (by decide) ?_
    refine tt_callV (ya_hours (d := d) (v := wV w) (n := 12) h ho.1 ho.2.1 hS (by have := ho.2.2; omega) (by decide)) cw_Y_goesOn rfl rfl (by decide) rfl (by omega) d_Y_law_33 rfl rfl (Nat.le_of_ble_eq_true rfl) (Nat.le_of_ble_eq_true rfl) rfl rfl rfl (fun v σ2 q => ?_)
    obtain ⟨rfl, h, h161, hha⟩ := q
    replace hd := hd.un (Un.fq hha)
    replace h25 := (ha_f hha 25 (by decide)).trans h25
    replace hcl := CL_o (ha_i hha 166 (by decide)) hcl
    obtain ⟨n0, h0, h24, hrc⟩ := h.1.1.2
    obtain ⟨τ0, e7⟩ : ∃ τ0, τ0 = σ2 := ⟨σ2, rfl⟩
    subst e7
    refine tt_aload_n d_Y_law_36 rfl ?_
    refine tt_getR d_Y_law_37 rfl rfl (by decide) rfl rfl ?_
    refine tt_iconst (v := nI 0) d_Y_law_40 (by decide) ?_
    refine tn_iald d_Y_law_41 rfl (by decide) (by decide) h161 ?_
    refine tt_istore_n (lv2 := [_, _, _, _, _]) d_Y_law_42 (by decide) rfl ?_
    refine tt_aload_n d_Y_law_43 rfl ?_
    refine tn_get d_Y_law_44 rfl rfl (by decide) rfl h24 ?_
    refine tt_istore_n (lv2 := [_, _, _, _, _]) d_Y_law_47 (by decide) rfl ?_
    refine tt_iconst (v := nI 0) d_Y_law_48 (by decide) ?_
    refine tt_istore (lv2 := [_, _, _, _, _]) d_Y_law_49 (by decide) rfl ?_
    refine y_law_w h0 h24 (fun υ hf h185 => ?_) _ 0 _ rfl (Nat.zero_le _) Fq.rf (fun j hj => absurd hj (Nat.not_lt_zero j))
    replace h := h.fq (hf.mono (fun c hc => by unfold YqA; omega) (fun _ _ q => q.elim) (fun _ q => q.elim))
    replace hd := hd.fq hf id id
    replace h25 := (hf.2.1 154 25 id).trans h25
    replace hcl := CL_o (hf.1 166 (by decide)) hcl
    refine tt_aload_n d_Y_law_80 rfl ?_
    refine tt_aload_n d_Y_law_81 rfl ?_
    refine tt_getR d_Y_law_82 rfl rfl (by decide) rfl rfl ?_
    refine tt_aload_n d_Y_law_85 rfl ?_
    refine tn_get d_Y_law_86 rfl rfl (by decide) rfl h25 ?_
    refine tt_callV (y_laysCode (d := d) (a := 166) rfl (by decide) (by omega)) cw_Y_laysCode rfl rfl (by decide) rfl (by omega) d_Y_law_89 rfl rfl (Nat.le_of_ble_eq_true rfl) (Nat.le_of_ble_eq_true rfl) rfl rfl rfl (fun v σ2 q => ?_)
    obtain ⟨rfl, k24, hk, hf2⟩ := q
    obtain ⟨g1, g2⟩ := YW.rul h hd hf2 (RC_rl k24 (fun k hk2 => by rw [hk k hk2]; exact CL_g hcl k hk2) h40 hL0 hL1)
    replace h := (⟨g1.v, g2⟩ : YQ c (rlO w) σ _)
    replace h185 := fun j hj => (congrFun (hf2.1 185 (by decide)) j).trans (h185 j hj)
    refine tt_aload_n d_Y_law_92 rfl ?_
    refine tt_callV (ya_copies (d := d) h hb8) cw_Y_copies rfl rfl (by decide) rfl (by omega) d_Y_law_93 rfl rfl (Nat.le_of_ble_eq_true rfl) (Nat.le_of_ble_eq_true rfl) rfl rfl rfl (fun v σ2 q => ?_)
    obtain ⟨rfl, h, hS, hha⟩ := q
    replace h185 := fun j hj => (congrFun (ha_i hha 185 (by decide)) j).trans (h185 j hj)
    refine tt_aload_n d_Y_law_96 rfl ?_
    refine tt_aload_n d_Y_law_97 rfl ?_
    refine tt_getR d_Y_law_98 rfl rfl (by decide) rfl rfl ?_
    refine tt_bipush (v := nI 12) d_Y_law_101 (by decide) ?_
    refine tt_callV (ya_hours (d := d) (w := rlO w) (v := wV w) (n := 12) h ho.1 ho.2.1 hS (by have := ho.2.2; omega) (by decide)) cw_Y_goesOn rfl rfl (by decide) rfl (by omega) d_Y_law_103 rfl rfl (Nat.le_of_ble_eq_true rfl) (Nat.le_of_ble_eq_true rfl) rfl rfl rfl (fun v σ2 q => ?_)
    obtain ⟨rfl, h, k161, hha⟩ := q
    replace h185 := fun j hj => (congrFun (ha_i hha 185 (by decide)) j).trans (h185 j hj)
    refine tt_aload_n d_Y_law_106 rfl ?_
    refine tt_iconst (v := nI 0) d_Y_law_107 (by decide) ?_
    refine tt_putI d_Y_law_108 rfl rfl (by decide) rfl (xpok_int rfl) rfl ?_
    replace h := h.td0
    have hd := YD_0t h
    refine tt_aload_n d_Y_law_111 rfl ?_
    refine tt_iload_n d_Y_law_112 rfl ?_
    refine tt_i2l d_Y_law_113 ?_
    refine tt_callV (yq_add (d := d) h hd (by decide)) cw_Y_enters rfl rfl (by decide) rfl (by omega) d_Y_law_114 rfl rfl (Nat.le_of_ble_eq_true rfl) (Nat.le_of_ble_eq_true rfl) rfl rfl rfl (fun v σ2 q => ?_)
    obtain ⟨rfl, h, hd, hgt⟩ := q
    replace k161 := (congrFun (hgt.1 161 id) 0).trans k161
    replace h185 := fun j hj => (congrFun (hgt.1 185 id) j).trans (h185 j hj)
    refine tt_iconst (v := nI 0) d_Y_law_117 (by decide) ?_
    refine tt_istore (lv2 := [_, _, _, _, _]) d_Y_law_118 (by decide) rfl ?_
    exact y_law_p ho h0 hrc _ 0 _ rfl (Nat.zero_le _) h hd k161 h185
  · have cf : ¬ rlF (wX w) = 0 := fun z => c_11 (by rw [rlI_0.mpr z]; decide)
    have ea : a_law w = ((-10000) - nI (rlF (wX w) - 1), txC w) := if_neg cf
    have ei : rlI (wX w) = (-1) - nI (rlF (wX w) - 1) := if_neg cf
    rw [ea, ei]
    refine tt_iload_n d_Y_law_14 rfl ?_
    refine tt_iconst (v := nI 1) d_Y_law_15 (by decide) ?_
    refine tt_iadd d_Y_law_16 ?_
    refine tt_sipush (v := nI 10000) d_Y_law_17 (by decide) ?_
    refine tt_isub d_Y_law_20 ?_
    refine tt_iret rfl d_Y_law_21 ?_
    exact ⟨congrArg (fun z => some (Value.int z)) (law_I _ (by omega)).1, h.ww hd, h.2⟩

