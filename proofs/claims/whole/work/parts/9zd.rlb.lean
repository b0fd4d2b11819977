/-! rule: laysCode, rule of the reference, what is sure behind it. Printed by wip/whole. -/
theorem CL_g {σ : xs} : ∀ {L : List Nat}, CL σ L → ∀ i, i < L.length → si σ 166 i = nI (trn (rv L i))
  | [], _, i, hi => absurd hi (Nat.not_lt_zero i)
  | c :: L, h, i, hi => by
    have hi' : i < L.length + 1 := hi
    by_cases z : i = L.length
    · subst z
      rw [rv_l]; exact h.1
    · rw [rv_o (by omega)]
      exact CL_g h.2 i (by omega)
theorem y_laysCode_l {l : xLa} {d a n : Nat} {τ : xs} (ha : xSh[a]? = some (1, 0, 80)) (hne : ¬ a = 165) (hn : n ≤ 80) : ∀ (m i : Nat) (υ : xs), n - i = m → i ≤ n → Fq (fun c => c = 165) (fun c k => c = 154 ∧ k = 24) (fun _ => False) τ υ → sf υ 154 24 = nI n → (∀ k, k < i → si υ 165 k = si τ a k) → T l M_Y_laysCode (d + 1) 7 [some (.ref 154), some (.ref a), some (.int (nI n)), some (.int (nI i))] [] υ (fun r υ => r = none ∧ sf υ 154 24 = nI n ∧ (∀ k, k < n → si υ 165 k = si τ a k) ∧ Fq (fun c => c = 165) (fun c k => c = 154 ∧ k = 24) (fun _ => False) τ υ) := by
  intro m
  induction m using Nat.strongRecOn with
  | ind m ih =>
    intro i υ hm hi hf h24 hk
    refine tt_iload_n d_Y_laysCode_7 rfl ?_
    refine tt_iload_n d_Y_laysCode_8 rfl ?_
    refine tn_ic_ge (t := 27) (by omega) (by omega) d_Y_laysCode_9 (by decide) (fun c_9 => ?_) (fun c_9 => ?_)
    · refine tt_vret rfl d_Y_laysCode_27 ?_
      obtain rfl : i = n := by omega
      exact ⟨rfl, h24, hk, hf⟩
    · refine tt_aload_n d_Y_laysCode_12 rfl ?_
      refine tt_getR d_Y_laysCode_13 rfl rfl (by decide) rfl rfl ?_
      refine tt_iload_n d_Y_laysCode_16 rfl ?_
      refine tt_aload_n d_Y_laysCode_17 rfl ?_
      refine tt_iload_n d_Y_laysCode_18 rfl ?_
      refine tn_iald d_Y_laysCode_19 ha (by decide) (by omega) rfl ?_
      refine tn_iast d_Y_laysCode_20 rfl (by decide) (by omega) ?_
      refine tt_iinc (lv2 := [_, _, _, _]) d_Y_laysCode_21 rfl (nI_inc _ 1) (by decide) rfl ?_
      refine tt_goto (t := 7) d_Y_laysCode_24 (by decide) ?_
      refine ih _ (by omega) (i + 1) _ rfl (by omega) (Fq.tr hf (Fq.wI rfl)) h24 (fun k hk2 => ?_)
      by_cases z : k = i
      · subst z
        rw [si_wI, if_pos ⟨rfl, rfl⟩, hf.1 a hne]
      · rw [si_wI, if_neg (fun q => z q.2)]
        exact hk k (by omega)

theorem y_laysCode {l : xLa} {d a n : Nat} {τ : xs} (ha : xSh[a]? = some (1, 0, 80)) (hne : ¬ a = 165) (hn : n ≤ 80) : TC l M_Y_laysCode (d + 1) [.ref 154, .ref a, .int (nI n)] τ (fun r υ => r = none ∧ sf υ 154 24 = nI n ∧ (∀ k, k < n → si υ 165 k = si τ a k) ∧ Fq (fun c => c = 165) (fun c k => c = 154 ∧ k = 24) (fun _ => False) τ υ) := by
  show T l M_Y_laysCode (d + 1) 0 _ [] τ _
  refine T_lv (lv2 := [_, _, _, _]) rfl ?_
  refine tt_aload_n d_Y_laysCode_0 rfl ?_
  refine tt_iload_n d_Y_laysCode_1 rfl ?_
  refine tt_putI d_Y_laysCode_2 rfl rfl (by decide) rfl (xpok_int rfl) rfl ?_
  refine tt_iconst (v := nI 0) d_Y_laysCode_5 (by decide) ?_
  refine tt_istore_n (lv2 := [_, _, _, _]) d_Y_laysCode_6 (by decide) rfl ?_
  exact y_laysCode_l ha hne hn _ 0 _ rfl (Nat.zero_le _) (Fq.wF ⟨rfl, rfl⟩) rfl (fun k hk => absurd hk (Nat.not_lt_zero k))

theorem YW.rul {c : Nat} {w : wv} {σ τ υ : xs} (h : YQ c (txC w) σ τ) (hd : YD τ (wD w)) (hf : Fq (fun c => c = 165) (fun c k => c = 154 ∧ k = 24) (fun _ => False) τ υ) (hr : RCd υ (rlW (wX w)) (rlM (wX w))) : YW υ c (rlO w) ∧ YF σ υ := by
  obtain ⟨⟨⟨⟨⟨a1, a2, a3, a4⟩, a5, a6, a7⟩, b⟩, v, x, u, k, s⟩, y⟩ := h
  have g : ∀ k, ¬ k = 24 → sf υ 154 k = sf τ 154 k := fun k hk => hf.2.1 154 k (fun q => hk q.2)
  have gi : ∀ c, ¬ c = 165 → si υ c = si τ c := fun c hc => hf.1 c hc
  exact ⟨⟨⟨⟨⟨by rw [g 3 (by decide)]; exact a1, by rw [g 4 (by decide)]; exact a2, by rw [g 5 (by decide)]; exact a3, by rw [g 7 (by decide)]; exact a4⟩, fun i hi => by rw [gi 158 (by decide), gi 159 (by decide)]; exact a5 i hi, fun i hi => by rw [gi 157 (by decide)]; exact a6 i hi, fun f hf => by rw [gi 156 (by decide)]; exact a7 f hf⟩, hr⟩, SY_o v (gi 160 (by decide)), x.fq hf (by omega) (by omega), hd.fq hf id (by omega), u.fq hf (by omega) (by omega), k.fq hf (fun c h1 h2 => by omega) (by omega), s.fq hf (fun c h1 h2 => by omega) (by omega)⟩, y.tr (hf.YF (fun c hc => by omega) (fun c k hc => by omega) (fun c hc => id))⟩
theorem m1_n0 : ∀ k, k ≤ 41 → ¬ (-1 : Int32) - nI k = 0 := by decide +kernel
theorem rlI_0 {x : Nat × (Nat → Nat)} : rlI x = 0 ↔ rlF x = 0 := by
  have hb := rlF_b (x := x)
  unfold rlI
  by_cases c : rlF x = 0
  · rw [if_pos c]; exact ⟨fun _ => c, fun _ => rfl⟩
  · rw [if_neg c]; exact ⟨fun z => absurd z (m1_n0 _ (by omega)), fun z => absurd z c⟩
theorem RC_rl {x : Nat × (Nat → Nat)} {υ : xs} {L : List Nat} (h24 : sf υ 154 24 = nI L.length) (hk : ∀ k, k < L.length → si υ 165 k = nI (trn (rv L k))) (h40 : L.length ≤ 40) (h0 : x.1 = 0 → L = []) (h1 : ¬ x.1 = 0 → L = rlL x ∧ wfl L ∧ 0 < L.length) : RCd υ (rlW x) (rlM x) := by
  refine ⟨L.length, by omega, h24, ?_⟩
  by_cases c : x.1 = 0
  · refine Or.inl ⟨by rw [h0 c]; rfl, if_pos c, fun i hi => ?_⟩
    rw [show rlW x = plc from if_pos c]
  · obtain ⟨e, hw, hl⟩ := h1 c
    have ew : rlW x = rv L := by rw [show rlW x = rv (rlL x) from if_neg c, e]
    refine Or.inr ⟨hl, by rw [show rlM x = (rlL x).length from if_neg c, e], by rw [ew]; exact (wfc_l L hw).1, fun i hi => ?_⟩
    rw [ew]; exact hk i hi

set_option maxHeartbeats 4000000 in
theorem yc_rule {l : xLa} {d c : Nat} {σ : xs} {w : wv} (ho : okQ w) (hw : YW σ c w)  (hX : okX (wX w)) : TC l M_Y_rule (d + 150) [.ref 154] σ (fun r τ => r = some (.int (a_rule w).1) ∧ YW τ c (a_rule w).2 ∧ YF σ τ) := by
  show T l M_Y_rule (d + 150) 0 _ [] σ _
  refine T_lv (lv2 := [_, _]) rfl ?_
  have h := YQ.rf hw.v
  have hd0 := hw.2.2.2.1
  have hb0 := ho.fb
  have hb8 := ho.n8
  refine tt_aload_n d_Y_rule_0 rfl ?_
  refine tt_iconst (v := nI 0) d_Y_rule_1 (by decide) ?_
  refine tt_putI d_Y_rule_2 rfl rfl (by decide) rfl (xpok_int rfl) rfl ?_
  replace h := h.thr (x := nI 0)
  replace hd0 := hd0.thr (x := nI 0)
  refine tt_aload_n d_Y_rule_5 rfl ?_
  refine tt_callV (y_readsRule (d := d) h hd0 hX) cw_Y_readsRule rfl rfl (by decide) rfl (by omega) d_Y_rule_6 rfl rfl (Nat.le_of_ble_eq_true rfl) (Nat.le_of_ble_eq_true rfl) rfl rfl rfl (fun v σ2 q => ?_)
  obtain ⟨rfl, h, hd, hz⟩ := q
  refine tt_istore_n (lv2 := [_, _]) d_Y_rule_9 (by decide) rfl ?_
  refine tt_iload_n d_Y_rule_10 rfl ?_
  refine tt_if_ne (t := 26) d_Y_rule_11 (by decide) (fun c_11 => ?_) (fun c_11 => ?_)
  · have cf : ¬ rlF (wX w) = 0 := fun z => c_11 (rlI_0.mpr z)
    have ea : a_rule w = ((-1) - nI (rlF (wX w) - 1), txC w) := if_neg cf
    have ei : rlI (wX w) = (-1) - nI (rlF (wX w) - 1) := if_neg cf
    rw [ea, ei]
    refine tt_iload_n d_Y_rule_26 rfl ?_
    refine tt_iret rfl d_Y_rule_27 ?_
    exact ⟨rfl, h.ww hd, h.2⟩
  · have cf : rlF (wX w) = 0 := rlI_0.mp (Classical.not_not.mp c_11)
    have ea : a_rule w = (nI 0, rlO w) := if_pos cf
    have ei : rlI (wX w) = nI 0 := if_pos cf
    rw [ea, ei]
    obtain ⟨L, h25, hcl, h40, hL0, hL1⟩ := hz cf
    refine tt_aload_n d_Y_rule_14 rfl ?_
    refine tt_aload_n d_Y_rule_15 rfl ?_
    refine tt_getR d_Y_rule_16 rfl rfl (by decide) rfl rfl ?_
    refine tt_aload_n d_Y_rule_19 rfl ?_
    refine tn_get d_Y_rule_20 rfl rfl (by decide) rfl h25 ?_
    refine tt_callV (y_laysCode (d := d) (a := 166) rfl (by decide) (by omega)) cw_Y_laysCode rfl rfl (by decide) rfl (by omega) d_Y_rule_23 rfl rfl (Nat.le_of_ble_eq_true rfl) (Nat.le_of_ble_eq_true rfl) rfl rfl rfl (fun v σ2 q => ?_)
    obtain ⟨rfl, h24, hk, hf⟩ := q
    refine tt_iload_n d_Y_rule_26 rfl ?_
    refine tt_iret rfl d_Y_rule_27 ?_
    exact ⟨rfl, YW.rul h hd hf (RC_rl h24 (fun k hk2 => by rw [hk k hk2]; exact CL_g hcl k hk2) h40 hL0 hL1)⟩

theorem rn_ok {x : Nat × (Nat → Nat)} : ∀ (k q : Nat) (S S' : rst), rn x k q S = .inr S' → RI S q → RI S' (q + k)
  | 0, q, S, S', h, hI => by cases h; exact hI
  | k + 1, q, S, S', h, hI => by
    cases e : tk S (x.2 q) with
    | none => rw [rn_n e] at h; cases h
    | some S1 =>
      rw [rn_s e] at h
      have := rn_ok k (q + 1) S1 S' h (tk_ok hI e)
      rw [show q + (k + 1) = q + 1 + k by omega]
      exact this
theorem rl_wf {x : Nat × (Nat → Nat)} (h : rlF x = 0) : wfc (rlW x) (rlM x) := by
  by_cases c : x.1 = 0
  · rw [show rlW x = plc from if_pos c, show rlM x = 7 from if_pos c]
    exact wfc_p
  · rw [show rlW x = rv (rlL x) from if_neg c, show rlM x = (rlL x).length from if_neg c]
    cases e : rn x (min 40 x.1) 0 rs0 with
    | inl q => rw [rlF_l c e] at h; omega
    | inr S =>
      have hI := rn_ok _ _ _ _ e RI_0
      rw [rlF_r c e] at h
      have hz : ¬ (40 < x.1 ∨ rN S = 1 ∨ 0 < rD S) := fun z => by rw [if_pos z] at h; omega
      have hn := hI.2.2.2.1.2.2.2
      obtain ⟨s1, s2, s3, s4, s5, s6⟩ := stl_ok (b := 0) (rW S) (rC S) hI.2.1 hI.2.2.2.2.1 (by have := hI.2.2.2.2.2.1; omega)
      rw [rlL_r e]
      exact (wfc_l _ s4).1
theorem okW.rule {k : Nat} {w : wv} (h : okW k w) : okW (k + 1) (a_rule w).2 := by
  have ht := h.tx
  unfold a_rule
  by_cases c : rlF (wX w) = 0
  · rw [if_pos c]
    obtain ⟨a, b, x, d, e, f, g, i⟩ := ht
    exact ⟨a, b, x, d, e, f, g, rl_wf c⟩
  · rw [if_neg c]; exact ht

