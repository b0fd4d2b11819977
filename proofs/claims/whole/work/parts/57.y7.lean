/-! FishFerryModel: goes, hourGoes, goesOn are hours on the view. Printed by wip/whole. -/
/-- all fish tire, then promises come true -/
def tiA (pl : Nat → Int32) (v : sv) : Nat → sv
  | 0 => v
  | j + 1 => tirV (pl j) (tiA pl v j) j
def cm1 (v : sv) (j : Nat) : sv := if v 3 j = v 0 0 + 1 then rewV v j else v
def cmA (v : sv) : Nat → sv
  | 0 => v
  | j + 1 => cm1 (cmA v j) j
theorem upv_c {v : sv} {r k x r' k' x' : Nat} (h : ¬ r = r') : upv (upv v r k x) r' k' x' = upv (upv v r' k' x') r k x := by
  funext a b
  unfold upv
  by_cases c : a = r ∧ b = k
  · by_cases d : a = r' ∧ b = k'
    · exact absurd (c.1.symm.trans d.1) h
    · rw [if_neg d, if_pos c, if_pos c]
  · by_cases d : a = r' ∧ b = k'
    · rw [if_pos d, if_neg c, if_pos d]
    · rw [if_neg d, if_neg c, if_neg c, if_neg d]
theorem rew_1 {v : sv} {j k x : Nat} : upv (rewV v j) 1 k x = rewV (upv v 1 k x) j := by
  show _ = (if v 4 j ≤ v 0 1 then upv (upv (upv (upv (upv (upv (upv v 1 k x) 0 1 (v 0 1 - v 4 j)) 0 2 (min 999 (v 0 2 + 1))) 2 j (min 9 (v 2 j + 1))) 5 0 (v 5 0 + 1)) 5 3 (v 5 3 ||| 2 ^ j)) 3 j 0
  else upv (upv (upv (upv (upv (upv v 1 k x) 0 3 (min 999 (v 0 3 + 1))) 2 j 0) 5 1 (v 5 1 + 1)) 5 4 (v 5 4 ||| 2 ^ j)) 3 j 0)
  unfold rewV
  by_cases c : v 4 j ≤ v 0 1
  · rw [if_pos c, if_pos c, upv_c (r := 3) (r' := 1) (by decide), upv_c (r := 5) (r' := 1) (by decide), upv_c (r := 5) (r' := 1) (by decide), upv_c (r := 2) (r' := 1) (by decide), upv_c (r := 0) (r' := 1) (by decide), upv_c (r := 0) (r' := 1) (by decide)]
  · rw [if_neg c, if_neg c, upv_c (r := 3) (r' := 1) (by decide), upv_c (r := 5) (r' := 1) (by decide), upv_c (r := 5) (r' := 1) (by decide), upv_c (r := 2) (r' := 1) (by decide), upv_c (r := 0) (r' := 1) (by decide)]
theorem cm_1 {v : sv} {j k x : Nat} : upv (cm1 v j) 1 k x = cm1 (upv v 1 k x) j := by
  unfold cm1
  show _ = if v 3 j = v 0 0 + 1 then rewV (upv v 1 k x) j else upv v 1 k x
  split
  · exact rew_1
  · rfl
theorem rew_r1 {v : sv} {j k : Nat} : (rewV v j) 1 k = v 1 k := by
  unfold rewV
  split <;> rfl
theorem cm_r1 {v : sv} {j k : Nat} : (cm1 v j) 1 k = v 1 k := by
  unfold cm1
  split
  · exact rew_r1
  · rfl
theorem cmA_r1 {v : sv} {k : Nat} : ∀ n, (cmA v n) 1 k = v 1 k
  | 0 => rfl
  | n + 1 => by
    show (cm1 (cmA v n) n) 1 k = _
    rw [cm_r1, cmA_r1 n]
theorem cmA_1 {v : sv} {k x : Nat} : ∀ n, upv (cmA v n) 1 k x = cmA (upv v 1 k x) n
  | 0 => rfl
  | n + 1 => by
    show upv (cm1 (cmA v n) n) 1 k x = cm1 (cmA (upv v 1 k x) n) n
    rw [cm_1, cmA_1 n]
theorem tir_cmA {v : sv} {pl : Int32} {k : Nat} (n : Nat) : tirV pl (cmA v n) k = cmA (tirV pl v k) n := by
  unfold tirV
  rw [cmA_r1, cmA_1]
theorem fis_cm (pl : Nat → Int32) (v : sv) : ∀ n, fisV pl v n = cmA (tiA pl v n) n
  | 0 => rfl
  | n + 1 => by
    show fshV pl (fisV pl v n) n = cm1 (cmA (tirV (pl n) (tiA pl v n) n) n) n
    rw [fis_cm pl v n, ← tir_cmA]
    rfl
theorem ok_tiA {e : xe} {v : sv} {pl : Nat → Int32} (h : okV e v) : ∀ n, n ≤ eN e → okV e (tiA pl v n)
  | 0, _ => h
  | n + 1, hn => ok_tir (ok_tiA h n (by omega)) (by omega)
theorem ok_cmA {e : xe} {v : sv} (h : okV e v) : ∀ n, okV e (cmA v n)
  | 0 => h
  | n + 1 => by
    show okV e (cm1 (cmA v n) n)
    unfold cm1
    split
    · exact ok_rew (ok_cmA h n)
    · exact ok_cmA h n
theorem y_goes {l : xLa} {d : Nat} {σ : xs} {b : Nat} {e : xe} {v : sv} (hb : isY b) (he : okE e) (hv : okV e v) (hE : EYb σ e) (hS : SY σ b (eN e) v) (hC : RCd σ (eW e) (eM e)) : TC l M_Y_goes (d + 8) [.ref 154, .ref b] σ (fun r τ => r = some (.int (nI (g4 (goV e v (nI 255))))) ∧ Sc PYg σ τ ∧ (∀ j, j < eN e → si τ 169 j = plV e v j) ∧ ∀ j, j < 4 → ntY (si τ 170) j = ntF e v (nI 255) (fun _ => nI 0) (eN e) j) := by
  have hbl := isY_l hb
  show T l M_Y_goes (d + 8) 0 _ [] σ _
  refine tt_aload_n d_Y_goes_0 rfl ?_
  refine tt_aload_n d_Y_goes_1 rfl ?_
  refine tt_callV (y_laysPulls (d := d) hb he hv hE hS hC) cw_Y_laysPulls rfl rfl (by decide) rfl (by omega) d_Y_goes_2 rfl rfl (Nat.le_of_ble_eq_true rfl) (Nat.le_of_ble_eq_true rfl) rfl rfl rfl (fun v σ2 q => ?_)
  obtain ⟨rfl, hSl, hM⟩ := q
  refine tt_aload_n d_Y_goes_5 rfl ?_
  refine tt_aload_n d_Y_goes_6 rfl ?_
  refine tt_sipush (v := nI 255) d_Y_goes_7 (by decide) ?_
  refine tt_callV (y_goesBy (d := d + 2) (ms := 255) hb (by decide) he hv (hE.sc hSl (fun c hc => PYl_n (by omega))) (hS.sc hSl (PYl_n (by omega))) hM) cw_Y_goesBy rfl rfl (by decide) rfl (by omega) d_Y_goes_10 rfl rfl (Nat.le_of_ble_eq_true rfl) (Nat.le_of_ble_eq_true rfl) rfl rfl rfl (fun v σ2 q => ?_)
  obtain ⟨rfl, hSg, hN⟩ := q
  refine tt_iret rfl d_Y_goes_13 ?_
  refine ⟨rfl, (hSl.mono (fun a h => by unfold PYg; unfold PYl at h; omega)).tr (hSg.mono (fun a h => by unfold PYg; omega)), fun j hj => ?_, hN⟩
  rw [hSg.2.2.2.2 169 (by decide)]
  exact hM j hj

theorem y_hr102 {l : xLa} {d : Nat} {σ : xs} {b g : Nat} {e : xe} {v v1 : sv} (hb : isY b) (he : okE e) (hv1 : okV e v1) (hE : EYb σ e) : ∀ (m : Nat) (j : Nat) (τ : xs), eN e - j = m → j ≤ eN e → SY τ b (eN e) (cmA v1 j) → TY τ (cmA v1 j) → Fq (HA b) HF HJ σ τ → T l M_Y_hourGoes (d + 10) 102 [some (.ref 154), some (.ref b), some (.int (nI g)), some (.int (nI j))] [] τ (fun r τ => r = none ∧ SY τ b (eN e) (upv (cmA v1 (eN e)) 0 4 ((cmA v1 (eN e)) 0 4 + 1)) ∧ TY τ (upv (cmA v1 (eN e)) 0 4 ((cmA v1 (eN e)) 0 4 + 1)) ∧ Fq (HA b) HF HJ σ τ) := by
  intro m
  induction m using Nat.strongRecOn with
  | ind m ih =>
    intro j τ hm hj hS hT hF
    have hok := ok_cmA hv1 j
    have hsh := xY_sh hb
    have h8 : eN e ≤ 8 := he.1.2.2.2.2.1
    have hRC : eR e * eC e ≤ 36 := Nat.mul_le_mul he.1.2.1 he.1.2.2.2.1
    have hfl := he.1
    have hE2 := hE.fq hF (fun c hc => HA_n hb (by omega)) (fun k hk => by unfold HF; omega)
    refine tt_iload_n d_Y_hourGoes_102 rfl ?_
    refine tt_aload_n d_Y_hourGoes_103 rfl ?_
    refine tn_get d_Y_hourGoes_104 rfl rfl (by decide) rfl hE2.1.2.2.1 ?_
    refine tn_ic_ge (t := 134) (by omega) (by omega) d_Y_hourGoes_107 (by decide) (fun c_107 => ?_) (fun c_107 => ?_)
    · obtain rfl : j = eN e := by omega
      refine tt_aload_n d_Y_hourGoes_134 rfl ?_
      refine tt_bipush (v := nI 37) d_Y_hourGoes_135 (by decide) ?_
      refine tt_dup2 d_Y_hourGoes_137 rfl rfl ?_
      refine tn_iald d_Y_hourGoes_138 hsh (by decide) (by omega) hS.1.2.2.2.2.2 ?_
      refine tt_iconst (v := nI 1) d_Y_hourGoes_139 (by decide) ?_
      refine tn_iadd d_Y_hourGoes_140 ?_
      refine tn_iast d_Y_hourGoes_141 hsh (by decide) (by omega) ?_
      refine tt_vret rfl d_Y_hourGoes_142 ?_
      exact ⟨rfl, SY_04 hS h8, hT, hF.tr (Fq.wI (Or.inl rfl))⟩
    · obtain ⟨w1, w2, w3, w4⟩ := hok.2.2.2.2.2.2 j c_107
      have hv0 := hok.1
      refine tt_aload_n d_Y_hourGoes_110 rfl ?_
      refine tt_bipush (v := nI 17) d_Y_hourGoes_111 (by decide) ?_
      refine tt_iload_n d_Y_hourGoes_113 rfl ?_
      refine tn_iadd d_Y_hourGoes_114 ?_
      refine tn_iald d_Y_hourGoes_115 hsh (by decide) (by omega) (hS.2 j (by omega)).2.2.1 ?_
      refine tt_aload_n d_Y_hourGoes_116 rfl ?_
      refine tt_iconst (v := nI 0) d_Y_hourGoes_117 (by decide) ?_
      refine tn_iald d_Y_hourGoes_118 hsh (by decide) (by omega) hS.1.1 ?_
      refine tt_ic_ne (t := 128) d_Y_hourGoes_119 (by decide) (fun c_119 => ?_) (fun c_119 => ?_)
      · skip
        have hne : ¬ (cmA v1 j) 3 j = (cmA v1 j) 0 0 + 1 := fun q => c_119 ((gI_b (by omega) (by omega)).mpr q)
        refine tt_iinc d_Y_hourGoes_128 rfl (nI_inc _ 1) (by decide) rfl ?_
        refine tt_goto (t := 102) d_Y_hourGoes_131 (by decide) ?_
        exact ih (eN e - (j + 1)) (by omega) (j + 1) _ rfl (by omega) (by rw [show cmA v1 (j + 1) = _ from if_neg hne]; exact hS) (by rw [show cmA v1 (j + 1) = _ from if_neg hne]; exact hT) hF
      · skip
        have heq : (cmA v1 j) 3 j = (cmA v1 j) 0 0 + 1 := (gI_b (by omega) (by omega)).mp (Classical.not_not.mp c_119)
        refine tt_aload_n d_Y_hourGoes_122 rfl ?_
        refine tt_aload_n d_Y_hourGoes_123 rfl ?_
        refine tt_iload_n d_Y_hourGoes_124 rfl ?_
        refine tt_callV (y_comesTrue (d := d + 8) (σ := τ) (k := j) hb c_107 he hok hS hT (by omega)) cw_Y_comesTrue rfl rfl (by decide) rfl (by omega) d_Y_hourGoes_125 rfl rfl (Nat.le_of_ble_eq_true rfl) (Nat.le_of_ble_eq_true rfl) rfl rfl rfl (fun v σ2 q => ?_)
        obtain ⟨rfl, hS3, hT3, hF3⟩ := q
        refine tt_iinc d_Y_hourGoes_128 rfl (nI_inc _ 1) (by decide) rfl ?_
        refine tt_goto (t := 102) d_Y_hourGoes_131 (by decide) ?_
        exact ih (eN e - (j + 1)) (by omega) (j + 1) _ rfl (by omega) (by rw [show cmA v1 (j + 1) = _ from if_pos heq]; exact hS3) (by rw [show cmA v1 (j + 1) = _ from if_pos heq]; exact hT3) (hF.tr hF3)

theorem tir_up : ∀ t, t ≤ 9 → (if nI 0 < (if nI t + nI 1 < nI 9 then nI t + nI 1 else nI 9) then (if nI t + nI 1 < nI 9 then nI t + nI 1 else nI 9) else nI 0) = nI (max 0 (min 9 (t + 1))) := by decide +kernel
theorem y_hr52 {l : xLa} {d : Nat} {σ : xs} {b g : Nat} {e : xe} {v v1 : sv} (hb : isY b) (he : okE e) (hv1 : okV e v1) (hE : EYb σ e) {pl : Nat → Int32} (hpl : ∀ j, j < eN e → si σ 169 j = pl j) : ∀ (m : Nat) (j : Nat) (τ : xs), eN e - j = m → j ≤ eN e → SY τ b (eN e) (tiA pl v1 j) → TY τ (tiA pl v1 j) → Fq (fun c => c = b) HF HJ σ τ → T l M_Y_hourGoes (d + 10) 52 [some (.ref 154), some (.ref b), some (.int (nI g)), some (.int (nI j))] [] τ (fun r τ => r = none ∧ SY τ b (eN e) (upv (cmA (tiA pl v1 (eN e)) (eN e)) 0 4 ((cmA (tiA pl v1 (eN e)) (eN e)) 0 4 + 1)) ∧ TY τ (upv (cmA (tiA pl v1 (eN e)) (eN e)) 0 4 ((cmA (tiA pl v1 (eN e)) (eN e)) 0 4 + 1)) ∧ Fq (HA b) HF HJ σ τ) := by
  intro m
  induction m using Nat.strongRecOn with
  | ind m ih =>
    intro j τ hm hj hS hT hF
    have hok := ok_tiA (pl := pl) hv1 j hj
    have hsh := xY_sh hb
    have h8 : eN e ≤ 8 := he.1.2.2.2.2.1
    have hRC : eR e * eC e ≤ 36 := Nat.mul_le_mul he.1.2.1 he.1.2.2.2.1
    have hfl := he.1
    have hE2 := hE.fq hF (fun c hc => by unfold isY at hb; omega) (fun k hk => by unfold HF; omega)
    refine tt_iload_n d_Y_hourGoes_52 rfl ?_
    refine tt_aload_n d_Y_hourGoes_53 rfl ?_
    refine tn_get d_Y_hourGoes_54 rfl rfl (by decide) rfl hE2.1.2.2.1 ?_
    refine tn_ic_ge (t := 100) (by omega) (by omega) d_Y_hourGoes_57 (by decide) (fun c_57 => ?_) (fun c_57 => ?_)
    · obtain rfl : j = eN e := by omega
      refine tt_iconst (v := nI 0) d_Y_hourGoes_100 (by decide) ?_
      refine tt_istore_n d_Y_hourGoes_101 (by decide) rfl ?_
      have hFh : Fq (HA b) HF HJ σ τ := hF.mono (fun c h => Or.inl h) (fun _ _ h => h) (fun _ h => h)
      refine T.mono (y_hr102 (σ := τ) (v := v) (v1 := tiA pl v1 (eN e)) hb he hok hE2 (eN e) 0 τ (by omega) (by omega) hS hT Fq.rf) ?_
      intro r τ2 q
      exact ⟨q.1, q.2.1, q.2.2.1, hFh.tr q.2.2.2⟩
    · obtain ⟨w1, w2, w3, w4⟩ := hok.2.2.2.2.2.2 j c_57
      refine tt_aload_n d_Y_hourGoes_60 rfl ?_
      refine tt_iconst (v := nI 1) d_Y_hourGoes_61 (by decide) ?_
      refine tt_iload_n d_Y_hourGoes_62 rfl ?_
      refine tn_iadd d_Y_hourGoes_63 ?_
      refine tt_iconst (v := nI 0) d_Y_hourGoes_64 (by decide) ?_
      refine tt_bipush (v := nI 9) d_Y_hourGoes_65 (by decide) ?_
      refine tt_aload_n d_Y_hourGoes_67 rfl ?_
      refine tt_iconst (v := nI 1) d_Y_hourGoes_68 (by decide) ?_
      refine tt_iload_n d_Y_hourGoes_69 rfl ?_
      refine tn_iadd d_Y_hourGoes_70 ?_
      refine tn_iald d_Y_hourGoes_71 hsh (by decide) (by omega) (hS.2 j (by omega)).1 ?_
      refine tt_aload_n d_Y_hourGoes_72 rfl ?_
      refine tt_getR d_Y_hourGoes_73 rfl rfl (by decide) rfl rfl ?_
      refine tt_iload_n d_Y_hourGoes_76 rfl ?_
      refine tn_iald d_Y_hourGoes_77 rfl (by decide) (by omega) ((congrFun (hF.1 169 (by unfold isY at hb; omega)) j).trans (hpl j c_57)) ?_
      refine tt_if_le (t := 85) d_Y_hourGoes_78 (by decide) (fun c_78 => ?_) (fun c_78 => ?_)
      · skip
        refine tt_iconst (v := (-1)) d_Y_hourGoes_85 (by decide) ?_
        refine tt_iadd d_Y_hourGoes_86 ?_
        refine tt_min d_Y_hourGoes_87 rfl (Nat.le_of_ble_eq_true rfl) ?_
        refine tt_max d_Y_hourGoes_90 rfl (Nat.le_of_ble_eq_true rfl) ?_
        refine tn_iast d_Y_hourGoes_93 hsh (by decide) (by omega) ?_
        refine tt_iinc d_Y_hourGoes_94 rfl (nI_inc _ 1) (by decide) rfl ?_
        refine tt_goto (t := 52) d_Y_hourGoes_97 (by decide) ?_
        refine T_cong (τ := wI τ b (1 + j) (nI (if 0 < pl j then max 0 (min 9 ((tiA pl v1 j) 1 j + 1)) else (tiA pl v1 j) 1 j - 1))) (by rw [if_neg (fa_ngt c_78)]; exact congrArg (wI τ b (1 + j)) (tir_dn _ w1)) ?_
        exact ih (eN e - (j + 1)) (by omega) (j + 1) _ rfl (by omega) (SY_1 hS (by omega) h8) hT (hF.tr (Fq.wI rfl))
      · skip
        refine tt_iconst (v := nI 1) d_Y_hourGoes_81 (by decide) ?_
        refine tt_goto (t := 86) d_Y_hourGoes_82 (by decide) ?_
        refine tt_iadd d_Y_hourGoes_86 ?_
        refine tt_min d_Y_hourGoes_87 rfl (Nat.le_of_ble_eq_true rfl) ?_
        refine tt_max d_Y_hourGoes_90 rfl (Nat.le_of_ble_eq_true rfl) ?_
        refine tn_iast d_Y_hourGoes_93 hsh (by decide) (by omega) ?_
        refine tt_iinc d_Y_hourGoes_94 rfl (nI_inc _ 1) (by decide) rfl ?_
        refine tt_goto (t := 52) d_Y_hourGoes_97 (by decide) ?_
        refine T_cong (τ := wI τ b (1 + j) (nI (if 0 < pl j then max 0 (min 9 ((tiA pl v1 j) 1 j + 1)) else (tiA pl v1 j) 1 j - 1))) (by rw [if_pos (fa_nle c_78)]; exact congrArg (wI τ b (1 + j)) (tir_up _ w1)) ?_
        exact ih (eN e - (j + 1)) (by omega) (j + 1) _ rfl (by omega) (SY_1 hS (by omega) h8) hT (hF.tr (Fq.wI rfl))

theorem upv_id {v : sv} {r k : Nat} : upv v r k (v r k) = v := by
  funext a b
  unfold upv
  by_cases c : a = r ∧ b = k
  · rw [if_pos c, c.1, c.2]
  · rw [if_neg c]
theorem y_hourGoes {l : xLa} {d : Nat} {σ : xs} {b : Nat} {e : xe} {v : sv} (hb : isY b) (he : okE e) (hv : okV e v) (hE : EYb σ e) (hS : SY σ b (eN e) v) (hC : RCd σ (eW e) (eM e)) (hT : TY σ v) (hh : v 0 4 + 1 < 2 ^ 30) : TC l M_Y_hourGoes (d + 10) [.ref 154, .ref b] σ (fun r τ => r = none ∧ SY τ b (eN e) (hrV e v) ∧ TY τ (hrV e v) ∧ Fq (HA b) HF HJ σ τ) := by
  have hsh := xY_sh hb
  have hbl := isY_l hb
  have h8 : eN e ≤ 8 := he.1.2.2.2.2.1
  have he0 := he
  obtain ⟨⟨e1, e2, e3, e4, e5, e6, e7⟩, e8, e9x, e10⟩ := he
  have hRC : eR e * eC e ≤ 36 := Nat.mul_le_mul e2 e4
  have hv0 := hv.1
  have hgo := goV_lt (e := e) (v := v) (z := nI 255)
  have hg4 : g4 (goV e v (nI 255)) ≤ 4 := by unfold g4; split <;> omega
  have hg4z : g4 (goV e v (nI 255)) = 4 ↔ goV e v (nI 255) = 0 := by
    unfold g4
    split
    · rename_i q; exact ⟨fun _ => q, fun _ => rfl⟩
    · rename_i q; exact ⟨fun z => by omega, fun z => absurd z q⟩
  show T l M_Y_hourGoes (d + 10) 0 _ [] σ _
  refine tt_aload_n d_Y_hourGoes_0 rfl ?_
  refine tt_aload_n d_Y_hourGoes_1 rfl ?_
  refine tt_callV (y_goes (d := d + 1) hb he0 hv hE hS hC) cw_Y_goes rfl rfl (by decide) rfl (by omega) d_Y_hourGoes_2 rfl rfl (Nat.le_of_ble_eq_true rfl) (Nat.le_of_ble_eq_true rfl) rfl rfl rfl (fun v σ2 q => ?_)
  obtain ⟨rfl, hSg, hM, hN⟩ := q
  obtain ⟨σ3, e3x⟩ : ∃ z, z = σ2 := ⟨_, rfl⟩
  rw [← e3x] at hSg hM hN ⊢
  clear e3x hN
  have hTg : ∀ k, sf σ3 154 k = sf σ 154 k := fun k => by rw [hSg.1]
  refine tt_istore_n d_Y_hourGoes_5 (by decide) rfl ?_
  refine tt_aload_n d_Y_hourGoes_6 rfl ?_
  refine tt_dup d_Y_hourGoes_7 rfl ?_
  refine tt_getI d_Y_hourGoes_8 rfl rfl (by decide) rfl ?_
  refine tt_iload_n d_Y_hourGoes_11 rfl ?_
  refine tt_iconst (v := nI 4) d_Y_hourGoes_12 (by decide) ?_
  refine tn_ic_ne (t := 20) (by omega) (by omega) d_Y_hourGoes_13 (by decide) (fun c_13 => ?_) (fun c_13 => ?_)
  · skip
    have hgz : ¬ goV e v (nI 255) = 0 := fun q => c_13 (hg4z.mpr q)
    have hg2 := goV_f he0 hv hgz
    have hge : g4 (goV e v (nI 255)) = goV e v (nI 255) - 1 := if_neg hgz
    refine tt_iconst (v := nI 0) d_Y_hourGoes_20 (by decide) ?_
    refine tt_callS (y_flag (d := d + 8)) cw_Y_flag rfl (by omega) d_Y_hourGoes_21 rfl rfl (Nat.le_of_ble_eq_true rfl) (Nat.le_of_ble_eq_true rfl) rfl rfl rfl (fun v σ2 q => ?_)
    obtain ⟨rfl, e9⟩ := q
    rw [e9]
    clear e9
    refine tt_iadd d_Y_hourGoes_24 ?_
    refine tt_putI d_Y_hourGoes_25 rfl rfl (by decide) rfl (xpok_int rfl) rfl ?_
    refine tt_aload_n d_Y_hourGoes_28 rfl ?_
    refine tt_iconst (v := nI 0) d_Y_hourGoes_29 (by decide) ?_
    refine tt_iload_n d_Y_hourGoes_30 rfl ?_
    refine tt_iconst (v := nI 4) d_Y_hourGoes_31 (by decide) ?_
    refine tn_ic_ne (t := 41) (by omega) (by omega) d_Y_hourGoes_32 (by decide) (fun c_32 => ?_) (fun c_32 => ?_)
    · refine tt_aload_n d_Y_hourGoes_41 rfl ?_
      refine tt_aload_n d_Y_hourGoes_42 rfl ?_
      refine tt_iconst (v := nI 0) d_Y_hourGoes_43 (by decide) ?_
      refine tn_iald d_Y_hourGoes_44 hsh (by decide) (by omega) (show si σ3 b 0 = nI (v 0 0) from (hS.sc hSg (PYg_n (by omega))).1.1) ?_
      refine tt_iload_n d_Y_hourGoes_45 rfl ?_
      refine tt_callV (y_beside (d := d + 7) (f := v 0 0) (w := g4 (goV e v (nI 255))) (R := eR e) (C := eC e) (by omega) (by omega) ((hE.sc hSg (fun c hc => PYg_n (by omega))).1.1) ((hE.sc hSg (fun c hc => PYg_n (by omega))).1.2.1) e2 e4 (by omega)) cw_Y_beside rfl rfl (by decide) rfl (by omega) d_Y_hourGoes_46 rfl rfl (Nat.le_of_ble_eq_true rfl) (Nat.le_of_ble_eq_true rfl) rfl rfl rfl (fun v σ2 q => ?_)
      obtain ⟨rfl, e9⟩ := q
      rw [e9, hge, hg2.2]
      clear e9
      refine tn_iast d_Y_hourGoes_49 hsh (by decide) (by omega) ?_
      refine tt_iconst (v := nI 0) d_Y_hourGoes_50 (by decide) ?_
      refine tt_istore_n d_Y_hourGoes_51 (by decide) rfl ?_
      refine T.mono (y_hr52 (g := goV e v (nI 255) - 1) (v := v) (v1 := mvV e v) (pl := plV e v) hb he0 (ok_mv he0 hv) (((hE.sc hSg (fun c hc => PYg_n (by omega))).fq (A := HA b) (F := HF) (J := HJ) ((Fq.wF (by unfold HF; omega)).tr (Fq.wI (Or.inl rfl))) (fun c hc => HA_n hb (by omega)) (fun k hk => by unfold HF; omega))) (fun j hj => ((show si (wI _ b 0 _) 169 j = si σ3 169 j by rw [si_wI, if_neg (by unfold isY at hb; omega)]; rfl)).trans (hM j hj)) (eN e) 0 _ (by omega) (by omega) (by rw [show mvV e v = _ from if_neg hgz]; exact SY_00 (SY_o (σ := σ3) (hS.sc hSg (PYg_n (by omega))) rfl) h8) (by rw [show mvV e v = _ from if_neg hgz]; exact ⟨(hTg 32).trans hT.1, (hTg 33).trans hT.2.1, (by show sf σ3 154 34 + flI (nI 0) = nI (v 5 2); rw [hTg 34, hT.2.2, show flI (nI 0) = nI 0 from rfl, nI_add, Nat.add_zero])⟩) Fq.rf) ?_
      intro r τ q
      refine ⟨q.1, ?_, ?_, (((Fq.sc (hSg.mono (fun a h => by unfold HA; unfold PYg at h; omega))).tr (Fq.wF (by unfold HF; omega))).tr (Fq.wI (Or.inl rfl))).tr q.2.2.2⟩
      · have := q.2.1
        rw [← fis_cm] at this
        exact this
      · have := q.2.2.1
        rw [← fis_cm] at this
        exact this
    · first | exact absurd c_13 c_32 | exact absurd c_32 c_13 | omega
  · skip
    refine tt_iconst (v := nI 1) d_Y_hourGoes_16 (by decide) ?_
    refine tt_goto (t := 21) d_Y_hourGoes_17 (by decide) ?_
    refine tt_callS (y_flag (d := d + 8)) cw_Y_flag rfl (by omega) d_Y_hourGoes_21 rfl rfl (Nat.le_of_ble_eq_true rfl) (Nat.le_of_ble_eq_true rfl) rfl rfl rfl (fun v σ2 q => ?_)
    obtain ⟨rfl, e9⟩ := q
    rw [e9]
    clear e9
    refine tt_iadd d_Y_hourGoes_24 ?_
    refine tt_putI d_Y_hourGoes_25 rfl rfl (by decide) rfl (xpok_int rfl) rfl ?_
    refine tt_aload_n d_Y_hourGoes_28 rfl ?_
    refine tt_iconst (v := nI 0) d_Y_hourGoes_29 (by decide) ?_
    refine tt_iload_n d_Y_hourGoes_30 rfl ?_
    refine tt_iconst (v := nI 4) d_Y_hourGoes_31 (by decide) ?_
    refine tn_ic_ne (t := 41) (by omega) (by omega) d_Y_hourGoes_32 (by decide) (fun c_32 => ?_) (fun c_32 => ?_)
    · first | exact absurd c_13 c_32 | exact absurd c_32 c_13 | omega
    · refine tt_aload_n d_Y_hourGoes_35 rfl ?_
      refine tt_iconst (v := nI 0) d_Y_hourGoes_36 (by decide) ?_
      refine tn_iald d_Y_hourGoes_37 hsh (by decide) (by omega) (show si σ3 b 0 = nI (v 0 0) from (hS.sc hSg (PYg_n (by omega))).1.1) ?_
      refine tt_goto (t := 49) d_Y_hourGoes_38 (by decide) ?_
      refine tn_iast d_Y_hourGoes_49 hsh (by decide) (by omega) ?_
      refine tt_iconst (v := nI 0) d_Y_hourGoes_50 (by decide) ?_
      refine tt_istore_n d_Y_hourGoes_51 (by decide) rfl ?_
      refine T.mono (y_hr52 (g := g4 (goV e v (nI 255))) (v := v) (v1 := mvV e v) (pl := plV e v) hb he0 (ok_mv he0 hv) (((hE.sc hSg (fun c hc => PYg_n (by omega))).fq (A := HA b) (F := HF) (J := HJ) ((Fq.wF (by unfold HF; omega)).tr (Fq.wI (Or.inl rfl))) (fun c hc => HA_n hb (by omega)) (fun k hk => by unfold HF; omega))) (fun j hj => ((show si (wI _ b 0 _) 169 j = si σ3 169 j by rw [si_wI, if_neg (by unfold isY at hb; omega)]; rfl)).trans (hM j hj)) (eN e) 0 _ (by omega) (by omega) (by rw [show mvV e v = _ from if_pos (hg4z.mp c_13)]; refine SY_5 ?_; have q9 := SY_00 (x := v 0 0) (SY_o (τ := wF σ3 154 34 (sf σ3 154 34 + flI (nI 1))) (σ := σ3) (hS.sc hSg (PYg_n (by omega))) rfl) h8; rw [upv_id] at q9; exact q9) (by rw [show mvV e v = _ from if_pos (hg4z.mp c_13)]; exact ⟨(hTg 32).trans hT.1, (hTg 33).trans hT.2.1, (by show sf σ3 154 34 + flI (nI 1) = nI (v 5 2 + 1); rw [hTg 34, hT.2.2, show flI (nI 1) = nI 1 from rfl, nI_add])⟩) Fq.rf) ?_
      intro r τ q
      refine ⟨q.1, ?_, ?_, (((Fq.sc (hSg.mono (fun a h => by unfold HA; unfold PYg at h; omega))).tr (Fq.wF (by unfold HF; omega))).tr (Fq.wI (Or.inl rfl))).tr q.2.2.2⟩
      · have := q.2.1
        rw [← fis_cm] at this
        exact this
      · have := q.2.2.1
        rw [← fis_cm] at this
        exact this

theorem y_goesOn_l {l : xLa} {d : Nat} {σ : xs} {b n : Nat} {e : xe} {v : sv} (hb : isY b) (he : okE e) (hv : okV e v) (hE : EYb σ e) (hC : RCd σ (eW e) (eM e)) (hh : v 0 4 + n < 2 ^ 30) (hn : n < 2 ^ 31) : ∀ (m : Nat) (i : Nat) (τ : xs), n - i = m → i ≤ n → SY τ b (eN e) (hrsV e v i) → TY τ (hrsV e v i) → Fq (HA b) HF HJ σ τ → T l M_Y_goesOn (d + 11) 17 [some (.ref 154), some (.ref b), some (.int (nI n)), some (.int (nI i))] [] τ (fun r τ => r = none ∧ SY τ b (eN e) (hrsV e v n) ∧ TY τ (hrsV e v n) ∧ Fq (HA b) HF HJ σ τ) := by
  intro m
  induction m using Nat.strongRecOn with
  | ind m ih =>
    intro i τ hm hi hS hT hF
    obtain ⟨hok, h04⟩ := ok_hrs he hv i (by omega)
    have hE2 := hE.fq hF (fun c hc => HA_n hb (by omega)) (fun k hk => by unfold HF; omega)
    have hC2 := hC.fq hF (HA_n hb (by omega)) (by unfold HF; omega)
    refine tt_iload_n d_Y_goesOn_17 rfl ?_
    refine tt_iload_n d_Y_goesOn_18 rfl ?_
    refine tn_ic_ge (t := 33) (by omega) (by omega) d_Y_goesOn_19 (by decide) (fun c_19 => ?_) (fun c_19 => ?_)
    · obtain rfl : i = n := by omega
      refine tt_vret rfl d_Y_goesOn_33 ?_
      exact ⟨rfl, hS, hT, hF⟩
    · refine tt_aload_n d_Y_goesOn_22 rfl ?_
      refine tt_aload_n d_Y_goesOn_23 rfl ?_
      refine tt_callV (y_hourGoes (d := d) (v := hrsV e v i) hb he hok hE2 hS hC2 hT (by omega)) cw_Y_hourGoes rfl rfl (by decide) rfl (by omega) d_Y_goesOn_24 rfl rfl (Nat.le_of_ble_eq_true rfl) (Nat.le_of_ble_eq_true rfl) rfl rfl rfl (fun v σ2 q => ?_)
      obtain ⟨rfl, hS3, hT3, hF3⟩ := q
      refine tt_iinc d_Y_goesOn_27 rfl (nI_inc _ 1) (by decide) rfl ?_
      refine tt_goto (t := 17) d_Y_goesOn_30 (by decide) ?_
      exact ih (n - (i + 1)) (by omega) (i + 1) _ rfl (by omega) hS3 hT3 (hF.tr hF3)

theorem Fq_z {σ : xs} {b : Nat} : Fq (HA b) HF HJ σ (wF (wF (wF σ 154 32 (nI 0)) 154 33 (nI 0)) 154 34 (nI 0)) := ((Fq.wF (by unfold HF; omega)).tr (Fq.wF (by unfold HF; omega))).tr (Fq.wF (by unfold HF; omega))
theorem SY_z {σ τ : xs} {b n : Nat} {v : sv} (h : SY σ b n v) (hs : si τ b = si σ b) : SY τ b n (z5V v) := SY_o (σ := σ) (SY_5 (SY_5 (SY_5 (SY_5 (SY_5 h))))) hs
theorem y_goesOn {l : xLa} {d : Nat} {σ : xs} {b n : Nat} {e : xe} {v : sv} (hb : isY b) (he : okE e) (hv : okV e v) (hE : EYb σ e) (hC : RCd σ (eW e) (eM e)) (hh : v 0 4 + n < 2 ^ 30) (hn : n < 2 ^ 31) (hS : SY σ b (eN e) v) : TC l M_Y_goesOn (d + 11) [.ref 154, .ref b, .int (nI n)] σ (fun r τ => r = none ∧ SY τ b (eN e) (hrsV e (z5V v) n) ∧ TY τ (hrsV e (z5V v) n) ∧ Fq (HA b) HF HJ σ τ) := by
  show T l M_Y_goesOn (d + 11) 0 _ [] σ _
  refine tt_aload_n d_Y_goesOn_0 rfl ?_
  refine tt_iconst (v := nI 0) d_Y_goesOn_1 (by decide) ?_
  refine tt_putI d_Y_goesOn_2 rfl rfl (by decide) rfl (xpok_int rfl) rfl ?_
  refine tt_aload_n d_Y_goesOn_5 rfl ?_
  refine tt_iconst (v := nI 0) d_Y_goesOn_6 (by decide) ?_
  refine tt_putI d_Y_goesOn_7 rfl rfl (by decide) rfl (xpok_int rfl) rfl ?_
  refine tt_aload_n d_Y_goesOn_10 rfl ?_
  refine tt_iconst (v := nI 0) d_Y_goesOn_11 (by decide) ?_
  refine tt_putI d_Y_goesOn_12 rfl rfl (by decide) rfl (xpok_int rfl) rfl ?_
  refine tt_iconst (v := nI 0) d_Y_goesOn_15 (by decide) ?_
  refine tt_istore_n d_Y_goesOn_16 (by decide) rfl ?_
  refine T.mono (y_goesOn_l (v := z5V v) hb he (z5_ok hv) (hE.fq (Fq_z (b := b)) (fun c hc => HA_n hb (by omega)) (fun k hk => by unfold HF; omega)) (hC.fq (Fq_z (b := b)) (HA_n hb (by omega)) (by unfold HF; omega)) hh hn n 0 _ (by omega) (by omega) (SY_z hS rfl) ⟨rfl, rfl, rfl⟩ Fq.rf) ?_
  intro r τ q
  exact ⟨q.1, q.2.1, q.2.2.1, Fq_z.tr q.2.2.2⟩

