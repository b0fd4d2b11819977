/-! law: the class. Printed by wip/whole. -/
/-- the rule that is tried stands in other -/
def XO (e : xe) (τ : xs) : Prop := isC τ (so τ) (eM e) (eW e) ∧ CI τ (so τ) (V (eW e) (eM e))
section
variable {l : xLa} {d : Nat} {σ τ υ : xs} {w : wv} {e : xe} {x : Nat × (Nat → Nat)} {A : Nat → Prop} {F : Nat → Nat → Prop} {J : Nat → Prop}
theorem XO.fq (h : XO e τ) (hf : Fq A F J τ υ) (h1 : ¬ A (so τ + 1)) (h4 : ¬ A (so τ + 4)) (h5 : ¬ A (so τ + 5)) (hF : ¬ F (so τ) 1) : XO e υ := by
  have eo : so υ = so τ := hf.2.2.2.2
  unfold XO
  rw [eo]
  exact ⟨h.1.fq hf h1 hF, h.2.fq hf h4 h5⟩
theorem xo_copy (h : XQ w σ τ) (ho : XO e τ) : TC l M_State_copy (d + 1) [.ref 30, .ref 20] τ (fun r υ => r = none ∧ XQ w σ υ ∧ XO e υ ∧ ST υ 30 (wV w) ∧ Tn τ υ) := by
  have hR := h.1.R
  refine T.mono (x_State_copy (d := d) (σ := τ) isS_30 isS_20) ?_
  rintro r υ ⟨rfl, rfl⟩
  have hf : Fq sA sF XqJ τ (X_copy τ 30 20) := Fq_copy isS_30 isS_20 (fun c hc => by unfold sA; omega) (fun k hk => by unfold sF; omega)
  exact ⟨rfl, h.f0 hf, ho.fq hf (by unfold sA; omega) (by unfold sA; omega) (by unfold sA; omega) (by unfold sF; omega), ST_copy isS_30 isS_20 h.1.2.1, by rw [sf_copy, if_neg (by omega)], rfl⟩
theorem xo_pass {v : sv} {n : Nat} (h : XQ w σ τ) (ho : XO e τ) (he : okE (wE w)) (hv : okV (wE w) v) (hS : ST τ 30 v) (hh : v 0 4 + n < 2 ^ 30) (hn : n < 2 ^ 31) : TC l M_Trip_pass (d + 7) [.ref 19, .ref 30, .ref (sp τ), .int (nI n)] τ (fun r υ => r = none ∧ XQ w σ υ ∧ XO e υ ∧ ST υ 30 (hrsV (wE w) (z5V v) n) ∧ Tn τ υ) := by
  refine T.mono (x_pass (d := d) (σ := τ) isS_30 h.1.sp he hv hS h.e h.1.1.2.2.2.2 hh hn) ?_
  rintro r υ ⟨rfl, h1, h2, h3, h4⟩
  have hR := h.1.R
  have hf : Fq (PP 30 (sp τ)) (fun c _ => PP 30 (sp τ) c) (fun _ => False) τ υ := h4.fq (fun c hc => hc) (fun c k hc => hc)
  exact ⟨rfl, h.fq (h4.fq (fun c hc => by unfold PP PT PM Pu at hc; unfold XqA; omega) (fun c k hc => by unfold PP PT PM Pu at hc; unfold XqF XqA; omega)) h3, ho.fq hf (by unfold PP PT PM Pu; omega) (by unfold PP PT PM Pu; omega) (by unfold PP PT PM Pu; omega) (by unfold PP PT PM Pu; omega), h1, by rw [(h4.1 3 (by unfold PP PT PM Pu; omega)).1], by rw [h4.2.1]⟩
theorem xo_ft (h : XO e τ) (hf : Ft τ υ) (hR : isR (so τ)) : XO e υ := by
  have := isR_c hR
  exact h.fq hf id id id (by omega)
theorem XO.ex (h : XQ w σ τ) (ho : XO (rlE (wE w) x) τ) : EX τ (rlE (wE w) x) (so τ) := ⟨h.e.1, h.e.2.1, h.e.2.2.1, h.e.2.2.2.1, ho.1⟩
theorem xo_measure (h : XQ w σ τ) (ho : XO (rlE (wE w) x) τ) (he : okE (wE w)) (hv : okV (wE w) (wV w)) : TC l M_Tug_measure (d + 6) [.ref 14, .ref 20, .ref (so τ)] τ (fun r υ => r = none ∧ XQ w σ υ ∧ XO (rlE (wE w) x) υ ∧ MS (rlE (wE w) x) (wV w) (eN (wE w)) υ ∧ Tn τ υ) := by
  refine T.mono (x_measure (d := d) (σ := τ) (e := rlE (wE w) x) isS_20 h.1.1.2.2.1 he hv h.1.2.1 (XO.ex h ho) ho.2) ?_
  rintro r υ ⟨rfl, h1, h2, h3⟩
  have hR := h.1.R
  have hf : Fq (PM (so τ)) (fun _ _ => False) (fun _ => False) τ υ := Fq.sc h1
  have eo : so υ = so τ := hf.2.2.2.2
  refine ⟨rfl, h.fq (hf.mono (fun c hc => by unfold PM Pu at hc; unfold XqA; omega) (fun _ _ q => q.elim) (fun _ q => q.elim)) (h.1.1.2.2.2.2.fq hf (by unfold PM Pu; omega) (by unfold PM Pu; omega)), ?_, h3, by rw [h1.1], by rw [h1.2.1]⟩
  unfold XO
  rw [eo]
  exact ⟨ho.1.fq hf (by unfold PM Pu; omega) id, h2⟩
theorem xo_pass2 {v : sv} {n : Nat} (h : XQ w σ τ) (ho : XO (rlE (wE w) x) τ) (he : okE (wE w)) (hv : okV (wE w) v) (hS : ST τ 30 v) (hh : v 0 4 + n < 2 ^ 30) (hn : n < 2 ^ 31) : TC l M_Trip_pass (d + 7) [.ref 19, .ref 30, .ref (so τ), .int (nI n)] τ (fun r υ => r = none ∧ XQ w σ υ ∧ ST υ 30 (hrsV (rlE (wE w) x) (z5V v) n) ∧ Tn τ υ) := by
  refine T.mono (x_pass (d := d) (σ := τ) (e := rlE (wE w) x) isS_30 h.1.1.2.2.1 he hv hS (XO.ex h ho) ho.2 hh hn) ?_
  rintro r υ ⟨rfl, h1, h2, h3, h4⟩
  have hR := h.1.R
  have hf : Fq (PP 30 (so τ)) (fun c _ => PP 30 (so τ) c) (fun _ => False) τ υ := h4.fq (fun c hc => hc) (fun c k hc => hc)
  exact ⟨rfl, h.fq (h4.fq (fun c hc => by unfold PP PT PM Pu at hc; unfold XqA; omega) (fun c k hc => by unfold PP PT PM Pu at hc; unfold XqF XqA; omega)) (h.1.1.2.2.2.2.fq hf (by unfold PP PT PM Pu; omega) (by unfold PP PT PM Pu; omega)), h1, by rw [(h4.1 3 (by unfold PP PT PM Pu; omega)).1], by rw [h4.2.1]⟩
end
/-- what law tells, with i fish -/
def lwL (w : wv) (i : Nat) : List Int64 := (nI ((hrsV (wE w) (z5V (wV w)) 12) 0 0)).toInt64 :: (List.range i).map (fun j => (plV (rlE (wE w) (wX w)) (wV w) j).toInt64)
theorem lwL_n (w : wv) (i : Nat) : (lwL w i).length = i + 1 := by unfold lwL; rw [List.length_cons, List.length_map, List.length_range]
theorem lwL_s (w : wv) (i : Nat) : lwL w i ++ [(plV (rlE (wE w) (wX w)) (wV w) i).toInt64] = lwL w (i + 1) := by
  unfold lwL
  rw [List.cons_append, ← rng_s (fun j => (plV (rlE (wE w) (wX w)) (wV w) j).toInt64) i]
def a_law (w : wv) : Int32 × wv := if rlF (wX w) = 0 then (nI ((hrsV (rlE (wE w) (wX w)) (z5V (wV w)) 12) 0 0), stD (txC w) (some (lwL w (eN (wE w))))) else ((-10000) - nI (rlF (wX w) - 1), txC w)

set_option maxHeartbeats 4000000 in
theorem x_law_l {l : xLa} {d : Nat} {σ : xs} {w : wv} (ho : okQ w) : ∀ (m i : Nat) (y1 : Int32) (τ : xs), eN (wE w) - i = m → i ≤ eN (wE w) → XQ (txC w) σ τ → XO (rlE (wE w) (wX w)) τ → MS (rlE (wE w) (wX w)) (wV w) (eN (wE w)) τ → XD τ (dL (lwL w i)) → T l M_X_law (d + 30) 97 [some (.ref 0), some (.int y1), some (.int (nI i))] [] τ (fun r τ => r = some (.int (nI ((hrsV (rlE (wE w) (wX w)) (z5V (wV w)) 12) 0 0))) ∧ XW τ (stD (txC w) (some (lwL w (eN (wE w))))) ∧ XF σ τ) := by
  have hb0 := ho.fb
  have hb8 := ho.n8
  intro m
  induction m using Nat.strongRecOn with
  | ind m ih =>
    intro i y1 τ hm hi h ho9 hM hd
    have hso : isR (so τ) := h.1.1.2.2.1
    have hln := lwL_n w i
    refine tt_iload_n d_X_law_97 rfl ?_
    refine tt_aload_n d_X_law_98 rfl ?_
    refine tt_getR d_X_law_99 rfl rfl (by decide) rfl rfl ?_
    refine tn_get d_X_law_102 rfl rfl (by decide) rfl (show sf τ 9 2 = nI (eN (wE w)) from h.n) ?_
    refine tn_ic_ge (t := 131) (by omega) (by omega) d_X_law_105 (by decide) (fun c_105 => ?_) (fun c_105 => ?_)
    · obtain rfl : i = eN (wE w) := by omega
      refine tt_aload_n d_X_law_131 rfl ?_
      refine tt_getR d_X_law_132 rfl rfl (by decide) rfl rfl ?_
      refine tt_aload_n d_X_law_135 rfl ?_
      refine tt_getR d_X_law_136 rfl rfl (by decide) rfl rfl ?_
      refine tt_callV (xo_copy (d := d) h ho9) cw_State_copy rfl rfl (by decide) rfl (by omega) d_X_law_139 rfl rfl (Nat.le_of_ble_eq_true rfl) (Nat.le_of_ble_eq_true rfl) rfl rfl rfl (fun v σ2 q => ?_)
      obtain ⟨rfl, h, ho9, hS, htn⟩ := q
      replace hd := hd.tn htn
      refine tt_aload_n d_X_law_142 rfl ?_
      refine tt_getR d_X_law_143 rfl rfl (by decide) rfl rfl ?_
      refine tt_aload_n d_X_law_146 rfl ?_
      refine tt_getR d_X_law_147 rfl rfl (by decide) rfl rfl ?_
      refine tt_aload_n d_X_law_150 rfl ?_
      refine tt_getO d_X_law_151 rfl ?_
      refine tt_bipush (v := nI 12) d_X_law_154 (by decide) ?_
      refine tt_callV (xo_pass2 (d := d) (v := wV w) (n := 12) h ho9 ho.1 ho.2.1 hS (by have := ho.2.2; omega) (by decide)) cw_Trip_pass rfl rfl (by decide) rfl (by omega) d_X_law_156 rfl rfl (Nat.le_of_ble_eq_true rfl) (Nat.le_of_ble_eq_true rfl) rfl rfl rfl (fun v σ2 q => ?_)
      obtain ⟨rfl, h, hS, htn⟩ := q
      replace hd := hd.tn htn
      refine tt_aload_n d_X_law_159 rfl ?_
      refine tt_getR d_X_law_160 rfl rfl (by decide) rfl rfl ?_
      refine tn_get d_X_law_163 rfl rfl (by decide) rfl (hS.1 0 (by decide)) ?_
      refine tt_iret rfl d_X_law_166 ?_
      exact ⟨rfl, h.done hd, h.2.1⟩
    · refine tt_aload_n d_X_law_108 rfl ?_
      refine tt_getR d_X_law_109 rfl rfl (by decide) rfl rfl ?_
      refine tt_aload_n d_X_law_112 rfl ?_
      refine tt_getR d_X_law_113 rfl rfl (by decide) rfl rfl ?_
      refine tt_getR d_X_law_116 rfl rfl (by decide) rfl rfl ?_
      refine tt_iload_n d_X_law_119 rfl ?_
      refine tn_iald d_X_law_120 rfl (by decide) (by omega) (hM i (by omega)).1 ?_
      refine tt_i2l d_X_law_121 ?_
      refine tt_callV (xq_add (d := d) h hd (by omega)) cw_Told_add rfl rfl (by decide) rfl (by omega) d_X_law_122 rfl rfl (Nat.le_of_ble_eq_true rfl) (Nat.le_of_ble_eq_true rfl) rfl rfl rfl (fun v σ2 q => ?_)
      obtain ⟨rfl, h, hd, hft⟩ := q
      rw [lwL_s] at hd
      replace hM := Ft.ms hft hM
      replace ho9 := xo_ft ho9 hft hso
      refine tt_iinc (lv2 := [_, _, _]) d_X_law_125 rfl (nI_inc _ 1) (by decide) rfl ?_
      refine tt_goto (t := 97) d_X_law_128 (by decide) ?_
      exact ih _ (by omega) (i + 1) y1 _ rfl (by omega) h ho9 hM hd

set_option maxHeartbeats 4000000 in
theorem xc_law {l : xLa} {d : Nat} {σ : xs} {w : wv} (ho : okQ w) (hw : XW σ w)  (hX : okX (wX w)) : TC l M_X_law (d + 30) [.ref 0] σ (fun r τ => r = some (.int (a_law w).1) ∧ XW τ (a_law w).2 ∧ XF σ τ) := by
  show T l M_X_law (d + 30) 0 _ [] σ _
  refine T_lv (lv2 := [_, _, _]) rfl ?_
  have h := XQ.rf hw.v
  have hd0 := hw.2.2.2.1
  have hb0 := ho.fb
  have hb8 := ho.n8
  have hb := rlF_b (x := wX w)
  refine tt_aload_n d_X_law_0 rfl ?_
  refine tt_getO d_X_law_1 rfl ?_
  refine tt_aload_n d_X_law_4 rfl ?_
  refine tt_getR d_X_law_5 rfl rfl (by decide) rfl rfl ?_
  refine tt_callV (x_read (d := d) hw.1.2.2.1 hw.2.2.1 hX) cw_Rule_read rfl (xR_sh hw.1.2.2.1) (by decide) rfl (by omega) d_X_law_8 rfl rfl (Nat.le_of_ble_eq_true rfl) (Nat.le_of_ble_eq_true rfl) rfl rfl rfl (fun v σ2 q => ?_)
  obtain ⟨τ9, e7⟩ : ∃ τ9, τ9 = σ2 := ⟨σ2, rfl⟩
  subst e7
  obtain ⟨rfl, hp, hc⟩ := q
  refine tt_istore_n (lv2 := [_, _, _]) d_X_law_11 (by decide) rfl ?_
  refine tt_aload_n d_X_law_12 rfl ?_
  refine tt_getR d_X_law_13 rfl rfl (by decide) rfl rfl ?_
  refine tt_callV (x_Text_clear (d := d)) cw_Text_clear rfl rfl (by decide) rfl (by omega) d_X_law_16 rfl rfl (Nat.le_of_ble_eq_true rfl) (Nat.le_of_ble_eq_true rfl) rfl rfl rfl (fun v σ2 q => ?_)
  obtain ⟨rfl, e9⟩ := q
  rw [e9]
  clear e9
  refine tt_iload_n d_X_law_19 rfl ?_
  refine tt_iconst (v := (-1)) d_X_law_20 (by decide) ?_
  refine tt_ic_eq (t := 30) d_X_law_21 (by decide) (fun c_21 => ?_) (fun c_21 => ?_)
  · have cf : rlF (wX w) = 0 := (gI_c (by omega)).1.mp c_21
    have ea : a_law w = (nI ((hrsV (rlE (wE w) (wX w)) (z5V (wV w)) 12) 0 0), stD (txC w) (some (lwL w (eN (wE w))))) := if_pos cf
    rw [ea]
    obtain ⟨h1, h2⟩ := hc cf
    obtain ⟨g1, g2⟩ := hw.rlf hp
    replace h := (⟨g1.v, g2, hp.2.2.2.1, hp.2.2.2.2⟩ : XQ (txC w) σ _)
    have hR9 := hw.v.R
    have hso0 : isR (so σ) := hw.1.2.2.1
    have ho8 : isC (wF τ9 1 1 (nI 0)) (so σ) (rlM (wX w)) (rlW (wX w)) := h1.fq (A := fun _ => False) (F := fun c k => c = 1 ∧ k = 1) (J := fun _ => False) (Fq.wF ⟨rfl, rfl⟩) id (by omega)
    have ho9 : XO (rlE (wE w) (wX w)) (wF τ9 1 1 (nI 0)) := by
      unfold XO
      rw [show so (wF τ9 1 1 (nI 0)) = so σ from hp.2.2.2.2]
      exact ⟨ho8, h2⟩
    refine tt_aload_n d_X_law_30 rfl ?_
    refine tt_getR d_X_law_31 rfl rfl (by decide) rfl rfl ?_
    refine tt_aload_n d_X_law_34 rfl ?_
    refine tt_getR d_X_law_35 rfl rfl (by decide) rfl rfl ?_
    refine tt_callV (xo_copy (d := d) h ho9) cw_State_copy rfl rfl (by decide) rfl (by omega) d_X_law_38 rfl rfl (Nat.le_of_ble_eq_true rfl) (Nat.le_of_ble_eq_true rfl) rfl rfl rfl (fun v σ2 q => ?_)
    obtain ⟨rfl, h, ho9, hS, htn⟩ := q
    refine tt_aload_n d_X_law_41 rfl ?_
    refine tt_getR d_X_law_42 rfl rfl (by decide) rfl rfl ?_
    refine tt_aload_n d_X_law_45 rfl ?_
    refine tt_getR d_X_law_46 rfl rfl (by decide) rfl rfl ?_
    refine tt_aload_n d_X_law_49 rfl ?_
    refine tt_getP d_X_law_50 rfl ?_
    refine tt_bipush (v := nI 12) d_X_law_53 (by decide) ?_
    refine tt_callV (xo_pass (d := d) (v := wV w) (n := 12) h ho9 ho.1 ho.2.1 hS (by have := ho.2.2; omega) (by decide)) cw_Trip_pass rfl rfl (by decide) rfl (by omega) d_X_law_55 rfl rfl (Nat.le_of_ble_eq_true rfl) (Nat.le_of_ble_eq_true rfl) rfl rfl rfl (fun v σ2 q => ?_)
    obtain ⟨rfl, h, ho9, hS, htn⟩ := q
    refine tt_aload_n d_X_law_58 rfl ?_
    refine tt_getR d_X_law_59 rfl rfl (by decide) rfl rfl ?_
    refine tt_callV (xq_start (d := d) h) cw_Told_start rfl rfl (by decide) rfl (by omega) d_X_law_62 rfl rfl (Nat.le_of_ble_eq_true rfl) (Nat.le_of_ble_eq_true rfl) rfl rfl rfl (fun v σ2 q => ?_)
    have hso := h.1.1.2.2.1
    obtain ⟨rfl, h, hd, hft⟩ := q
    replace ho9 := xo_ft ho9 hft hso
    replace hS := Ft.st hft hS (by decide)
    refine tt_aload_n d_X_law_65 rfl ?_
    refine tt_getR d_X_law_66 rfl rfl (by decide) rfl rfl ?_
    refine tt_aload_n d_X_law_69 rfl ?_
    refine tt_getR d_X_law_70 rfl rfl (by decide) rfl rfl ?_
    refine tn_get d_X_law_73 rfl rfl (by decide) rfl (hS.1 0 (by decide)) ?_
    refine tt_i2l d_X_law_76 ?_
    refine tt_callV (xq_add (d := d) h hd (by decide)) cw_Told_add rfl rfl (by decide) rfl (by omega) d_X_law_77 rfl rfl (Nat.le_of_ble_eq_true rfl) (Nat.le_of_ble_eq_true rfl) rfl rfl rfl (fun v σ2 q => ?_)
    have hso := h.1.1.2.2.1
    obtain ⟨rfl, h, hd, hft⟩ := q
    replace ho9 := xo_ft ho9 hft hso
    refine tt_aload_n d_X_law_80 rfl ?_
    refine tt_getR d_X_law_81 rfl rfl (by decide) rfl rfl ?_
    refine tt_aload_n d_X_law_84 rfl ?_
    refine tt_getR d_X_law_85 rfl rfl (by decide) rfl rfl ?_
    refine tt_aload_n d_X_law_88 rfl ?_
    refine tt_getO d_X_law_89 rfl ?_
    refine tt_callV (xo_measure (d := d) h ho9 ho.1 ho.2.1) cw_Tug_measure rfl rfl (by decide) rfl (by omega) d_X_law_92 rfl rfl (Nat.le_of_ble_eq_true rfl) (Nat.le_of_ble_eq_true rfl) rfl rfl rfl (fun v σ2 q => ?_)
    obtain ⟨rfl, h, ho9, hM, htn⟩ := q
    replace hd := hd.tn htn
    refine tt_iconst (v := nI 0) d_X_law_95 (by decide) ?_
    refine tt_istore_n (lv2 := [_, _, _]) d_X_law_96 (by decide) rfl ?_
    exact x_law_l ho _ 0 _ _ rfl (Nat.zero_le _) h ho9 hM hd
  · have cf : ¬ rlF (wX w) = 0 := fun z => c_21 (by rw [z]; rfl)
    have ea : a_law w = ((-10000) - nI (rlF (wX w) - 1), txC w) := if_neg cf
    rw [ea]
    refine tt_sipush (v := (-10000)) d_X_law_24 (by decide) ?_
    refine tt_iload_n d_X_law_27 rfl ?_
    refine tt_isub d_X_law_28 ?_
    refine tt_iret rfl d_X_law_29 ?_
    exact ⟨by rw [show gI (rlF (wX w)) = nI (rlF (wX w) - 1) from (gI_c (by omega)).2 cf], hw.rlf hp⟩

