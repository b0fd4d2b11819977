/-! day: the class. Printed by wip/whole. -/
set_option maxHeartbeats 4000000 in
theorem x_dayF_l {l : xLa} {d : Nat} {σ : xs} {x : Nat × (Nat → Nat)} (hx : XT σ x) (hX : okX x) : ∀ (k pp : Nat) (z1 z2 z3 z4 : Option Int32), x.1 + 1 ≤ pp + k → pp ≤ 90 → T l M_X_dayFault (d + 10) 2 [some (.ref 0), some (.int (nI pp)), z1.map Value.int, z2.map Value.int, z3.map Value.int, z4.map Value.int] [] σ (fun r υ => r = some (.int (gI (dyF x k pp))) ∧ υ = σ) := by
  have hx1 := hX.1
  intro k
  induction k with
  | zero =>
    intro pp z1 z2 z3 z4 hk hp
    refine tt_iload_n d_X_dayFault_2 rfl ?_
    refine tt_aload_n d_X_dayFault_3 rfl ?_
    refine tt_getR d_X_dayFault_4 rfl rfl (by decide) rfl rfl ?_
    refine tt_callV (x_Text_length (d := d)) cw_Text_length rfl rfl (by decide) rfl (by omega) d_X_dayFault_7 rfl rfl (Nat.le_of_ble_eq_true rfl) (Nat.le_of_ble_eq_true rfl) rfl rfl rfl (fun v σ2 q => ?_)
    obtain ⟨rfl, e9⟩ := q
    rw [e9, hx.1]
    clear e9
    refine tn_ic_ge (t := 97) (by omega) (by omega) d_X_dayFault_10 (by decide) (fun c_10 => ?_) (fun c_10 => ?_)
    · refine tt_iconst (v := (-1)) d_X_dayFault_97 (by decide) ?_
      refine tt_iret rfl d_X_dayFault_98 ?_
      exact ⟨rfl, rfl⟩
    · omega
  | succ k ih =>
    intro pp z1 z2 z3 z4 hk hp
    have hal := atx_lt (j := pp) hX
    have hkl := ac_le (atN x pp)
    rw [show acN (atN x pp) = akN x pp from rfl] at hkl
    refine tt_iload_n d_X_dayFault_2 rfl ?_
    refine tt_aload_n d_X_dayFault_3 rfl ?_
    refine tt_getR d_X_dayFault_4 rfl rfl (by decide) rfl rfl ?_
    refine tt_callV (x_Text_length (d := d)) cw_Text_length rfl rfl (by decide) rfl (by omega) d_X_dayFault_7 rfl rfl (Nat.le_of_ble_eq_true rfl) (Nat.le_of_ble_eq_true rfl) rfl rfl rfl (fun v σ2 q => ?_)
    obtain ⟨rfl, e9⟩ := q
    rw [e9, hx.1]
    clear e9
    refine tn_ic_ge (t := 97) (by omega) (by omega) d_X_dayFault_10 (by decide) (fun c_10 => ?_) (fun c_10 => ?_)
    · rw [dy_1 c_10]
      refine tt_iconst (v := (-1)) d_X_dayFault_97 (by decide) ?_
      refine tt_iret rfl d_X_dayFault_98 ?_
      exact ⟨rfl, rfl⟩
    · have hn : ¬ x.1 ≤ pp := by omega
      refine tt_aload_n d_X_dayFault_13 rfl ?_
      refine tt_getR d_X_dayFault_14 rfl rfl (by decide) rfl rfl ?_
      refine tt_iload_n d_X_dayFault_17 rfl ?_
      refine tt_callV (x_Text_at (d := d) (n := x.1) (j := pp) hx.1 hX.1 (by omega)) cw_Text_at rfl rfl (by decide) rfl (by omega) d_X_dayFault_18 rfl rfl (Nat.le_of_ble_eq_true rfl) (Nat.le_of_ble_eq_true rfl) rfl rfl rfl (fun v σ2 q => ?_)
      obtain ⟨rfl, e9⟩ := q
      rw [e9, X_at_N hx]
      clear e9
      refine tt_istore_n (lv2 := [_, _, _, _, _, _]) d_X_dayFault_21 (by decide) rfl ?_
      refine tt_iload_n d_X_dayFault_22 rfl ?_
      refine tt_callS (x_digitsB (d := d) hal) cw_X_digitsBehind rfl (by omega) d_X_dayFault_23 rfl rfl (Nat.le_of_ble_eq_true rfl) (Nat.le_of_ble_eq_true rfl) rfl rfl rfl (fun v σ2 q => ?_)
      obtain ⟨rfl, e9⟩ := q
      rw [e9, show acN (atN x pp) = akN x pp from rfl]
      clear e9
      have hdb : dbN (akN x pp) < 2 ^ 30 := by unfold dbN; split <;> (try omega); split <;> omega
      refine tt_istore_n (lv2 := [_, _, _, _, _, _]) d_X_dayFault_26 (by decide) rfl ?_
      refine tt_iload_n d_X_dayFault_27 rfl ?_
      refine tt_bipush (v := nI 60) d_X_dayFault_28 (by decide) ?_
      refine tn_ic_ge (t := 38) (by omega) (by omega) d_X_dayFault_30 (by decide) (fun c_30 => ?_) (fun c_30 => ?_)
      · rw [dy_2 hn (Or.inl c_30)]
        refine tt_iload_n d_X_dayFault_38 rfl ?_
        refine tt_iret rfl d_X_dayFault_39 ?_
        exact ⟨rfl, rfl⟩
      · refine tt_iload_n d_X_dayFault_33 rfl ?_
        refine tt_iconst (v := (-1)) d_X_dayFault_34 (by decide) ?_
        refine tt_ic_ne (t := 40) d_X_dayFault_35 (by decide) (fun c_35 => ?_) (fun c_35 => ?_)
        · have hk0 : ¬ akN x pp = 0 := fun z => c_35 (by rw [z]; rfl)
          have hq : ¬ (60 ≤ pp ∨ akN x pp = 0) := by omega
          refine tt_iload_n d_X_dayFault_40 rfl ?_
          refine tt_bipush (v := nI 98) d_X_dayFault_41 (by decide) ?_
          refine tt_ic_ne (t := 50) d_X_dayFault_43 (by decide) (fun c_43 => ?_) (fun c_43 => ?_)
          · have hac : ¬ akN x pp = 4 := fun z => c_43 (by rw [(ak_c (x := x) (q := pp)).2.2.2.1.mp z]; rfl)
            refine tt_iconst (v := nI 0) d_X_dayFault_50 (by decide) ?_
            refine tt_istore (lv2 := [_, _, _, _, _, _]) d_X_dayFault_51 (by decide) rfl ?_
            refine tt_iload_n d_X_dayFault_53 rfl ?_
            refine tt_istore (lv2 := [_, _, _, _, _, _]) d_X_dayFault_54 (by decide) rfl ?_
            by_cases h5 : akN x pp = 5
            · have e5 : dbN (akN x pp) = 5 := by rw [h5]; rfl
              rw [e5]
              refine x_dayF_in hx hX (L := 0) (by decide) 4 pp (by decide) (by omega) (fun hall => ?_) (fun i h1 h2 hall hbad => ?_)
              · have b1 := hall 1 (by omega) (by omega)
                have b2 := hall 2 (by omega) (by omega)
                have b3 := hall 3 (by omega) (by omega)
                have b4 := hall 4 (by omega) (by omega)
                rw [dy_8 hn hq (by rw [if_neg hac]; exact b1) h5 (by omega) (by omega) (by omega)]
                refine tt_iinc (lv2 := [_, _, _, _, _, _]) d_X_dayFault_91 rfl (nI_inc _ 1) (by decide) rfl ?_
                refine tt_goto (t := 2) d_X_dayFault_94 (by decide) ?_
                exact ih (pp + 5) (some _) (some _) (some _) (some _) (by omega) (by omega)
              · have b1 := fun (z : 1 < i) => hall 1 (by omega) z
                have b2 := fun (z : 2 < i) => hall 2 (by omega) z
                have b3 := fun (z : 3 < i) => hall 3 (by omega) z
                rcases (show i = 1 ∨ i = 2 ∨ i = 3 ∨ i = 4 by omega) with rfl | rfl | rfl | rfl
                · rw [dy_3 hn hq (by rw [if_neg hac]; exact hbad)]; exact ⟨rfl, rfl⟩
                · rw [dy_5 hn hq (by rw [if_neg hac]; exact b1 (by omega)) h5 (by omega)]; exact ⟨rfl, rfl⟩
                · have c2 := b2 (by omega)
                  rw [dy_6 hn hq (by rw [if_neg hac]; exact b1 (by omega)) h5 (by omega) (by omega)]; exact ⟨rfl, rfl⟩
                · have c2 := b2 (by omega)
                  have c3 := b3 (by omega)
                  rw [dy_7 hn hq (by rw [if_neg hac]; exact b1 (by omega)) h5 (by omega) (by omega) (by omega)]; exact ⟨rfl, rfl⟩
            · have e5 : dbN (akN x pp) = 2 := by rw [(db_c hk0).1, (db_c hk0).2.1 h5]
              rw [e5]
              refine x_dayF_in hx hX (L := 0) (by decide) 1 pp (by decide) (by omega) (fun hall => ?_) (fun i h1 h2 hall hbad => ?_)
              · have b1 := hall 1 (by omega) (by omega)
                rw [dy_4 hn hq (by rw [if_neg hac]; exact b1) h5]
                refine tt_iinc (lv2 := [_, _, _, _, _, _]) d_X_dayFault_91 rfl (nI_inc _ 1) (by decide) rfl ?_
                refine tt_goto (t := 2) d_X_dayFault_94 (by decide) ?_
                exact ih (pp + 2) (some _) (some _) (some _) (some _) (by omega) (by omega)
              · obtain rfl : i = 1 := by omega
                rw [dy_3 hn hq (by rw [if_neg hac]; exact hbad)]; exact ⟨rfl, rfl⟩
          · have hac : akN x pp = 4 := (ak_c (x := x) (q := pp)).2.2.2.1.mpr ((gI_eqN (by omega) (by omega)).mp (Decidable.not_not.mp c_43))
            refine tt_iconst (v := nI 1) d_X_dayFault_46 (by decide) ?_
            refine tt_goto (t := 51) d_X_dayFault_47 (by decide) ?_
            refine tt_istore (lv2 := [_, _, _, _, _, _]) d_X_dayFault_51 (by decide) rfl ?_
            refine tt_iload_n d_X_dayFault_53 rfl ?_
            refine tt_istore (lv2 := [_, _, _, _, _, _]) d_X_dayFault_54 (by decide) rfl ?_
            have h5 : ¬ akN x pp = 5 := by omega
            have e5 : dbN (akN x pp) = 2 := by rw [(db_c hk0).1, (db_c hk0).2.1 h5]
            rw [e5]
            refine x_dayF_in hx hX (L := 1) (by decide) 1 pp (by decide) (by omega) (fun hall => ?_) (fun i h1 h2 hall hbad => ?_)
            · have b1 := hall 1 (by omega) (by omega)
              rw [dy_4 hn hq (by rw [if_pos hac]; exact b1) h5]
              refine tt_iinc (lv2 := [_, _, _, _, _, _]) d_X_dayFault_91 rfl (nI_inc _ 1) (by decide) rfl ?_
              refine tt_goto (t := 2) d_X_dayFault_94 (by decide) ?_
              exact ih (pp + 2) (some _) (some _) (some _) (some _) (by omega) (by omega)
            · obtain rfl : i = 1 := by omega
              rw [dy_3 hn hq (by rw [if_pos hac]; exact hbad)]; exact ⟨rfl, rfl⟩
        · have hk0 : akN x pp = 0 := Decidable.byContradiction (fun z => by have h1 := (gI_1 hdb).mp (Decidable.not_not.mp c_35); rw [(db_c z).1] at h1; unfold alN at h1; split at h1 <;> omega)
          rw [dy_2 hn (Or.inr hk0)]
          refine tt_iload_n d_X_dayFault_38 rfl ?_
          refine tt_iret rfl d_X_dayFault_39 ?_
          exact ⟨rfl, rfl⟩

theorem x_dayF {l : xLa} {d : Nat} {σ : xs} {x : Nat × (Nat → Nat)} (hx : XT σ x) (hX : okX x) : TE l M_X_dayFault (d + 10) [.ref 0] σ (some (.int (gI (dyA x)))) σ := by
  have hx1 := hX.1
  show T l M_X_dayFault (d + 10) 0 _ [] σ _
  refine T_lv (lv2 := [_, _, _, _, _, _]) rfl ?_
  refine tt_iconst (v := nI 0) d_X_dayFault_0 (by decide) ?_
  refine tt_istore_n (lv2 := [_, _, _, _, _, _]) d_X_dayFault_1 (by decide) rfl ?_
  exact x_dayF_l hx hX 81 0 none none none none (by omega) (by omega)

theorem x_push25 {l : xLa} {d : Nat} {σ : xs} {w : wv} {u : sv} (hl : (wU w).length ≤ 15) (hw : XW σ w) (hb : ST σ 25 u) : TC l M_Past_push (d + 2) [.ref 35, .ref 25] σ (fun r τ => r = none ∧ XW τ (stU w u) ∧ XF σ τ) := by
  obtain ⟨k, hk, e1, e2, e3⟩ := hw.2.2.2.2.1
  refine T.mono (x_Past_push (d := d) isS_25 e1 hk e2 hl) ?_
  rintro r υ ⟨rfl, rfl⟩
  have y := X_push_w hw hl hb hk e3
  exact ⟨rfl, y.1, y.2⟩
/-- how far on the next act is, as the class reckons it -/
theorem mx_al {k : Nat} (h : ¬ k = 0) (h5 : k ≤ 5) : (if nI 0 < gI (dbN k) then gI (dbN k) else nI 0) = nI (alN k - 1) := by
  rcases (show k = 1 ∨ k = 2 ∨ k = 3 ∨ k = 4 ∨ k = 5 by omega) with rfl | rfl | rfl | rfl | rfl <;> decide
set_option maxHeartbeats 4000000 in
theorem x_day_e {l : xLa} {d : Nat} {σ τ : xs} {w : wv} {n b : Nat} {v : sv} {z1 z4 : Int32} (ho : okQ w) (hA : dyA (wX w) = 0) (hl : (wU w).length ≤ 15) (hb : b = if (dyV w (dyJ (wX w))).2 < dyJ (wX w) then 1 else 0) (hn : n = (dyV w (dyJ (wX w))).2) (hv : v = (dyV w (dyJ (wX w))).1) (hn40 : n ≤ 40) (hw : XW τ (stV w v)) (hF : XF σ τ) (h25 : ST τ 25 (wV w)) : T l M_X_day (d + 30) 108 [some (.ref 0), some (.int z1), some (.int (nI n)), some (.int (nI b)), some (.int z4)] [] τ (fun r τ => r = some (.int (a_day w).1) ∧ XW τ (a_day w).2 ∧ XF σ τ) := by
  have hb1 : b ≤ 1 := by rw [hb]; split <;> omega
  unfold a_day
  rw [if_pos hA, ← hn, ← hv]
  refine tt_iload_n d_X_day_108 rfl ?_
  refine tn_if_le (t := 123) (by omega) d_X_day_109 (by decide) (fun c_109 => ?_) (fun c_109 => ?_)
  · have hn0 : n = 0 := by omega
    have hw3 := hw.tx
    have hdw : dyW w v n = stV (txC w) v := if_pos hn0
    refine tt_aload_n d_X_day_123 rfl ?_
    refine tt_getR d_X_day_124 rfl rfl (by decide) rfl rfl ?_
    refine tt_callV (x_Text_clear (d := d)) cw_Text_clear rfl rfl (by decide) rfl (by omega) d_X_day_127 rfl rfl (Nat.le_of_ble_eq_true rfl) (Nat.le_of_ble_eq_true rfl) rfl rfl rfl (fun v σ2 q => ?_)
    obtain ⟨rfl, rfl⟩ := q
    have h := XQ.rf hw3.1.v
    replace hF := hF.tr hw3.2
    rw [hdw]
    refine tt_aload_n d_X_day_130 rfl ?_
    refine tt_getR d_X_day_131 rfl rfl (by decide) rfl rfl ?_
    refine tt_callV (xq_start (d := d) h) cw_Told_start rfl rfl (by decide) rfl (by omega) d_X_day_134 rfl rfl (Nat.le_of_ble_eq_true rfl) (Nat.le_of_ble_eq_true rfl) rfl rfl rfl (fun v σ2 q => ?_)
    obtain ⟨rfl, h, hd, hf⟩ := q
    refine tt_aload_n d_X_day_137 rfl ?_
    refine tt_getR d_X_day_138 rfl rfl (by decide) rfl rfl ?_
    refine tt_iload_n d_X_day_141 rfl ?_
    refine tn_if_eq (t := 149) (by omega) d_X_day_142 (by decide) (fun c_142 => ?_) (fun c_142 => ?_)
    · have hz : (if n < dyJ (wX w) then (1 : Int64) else 0) = 0 := by rw [hn]; exact if_neg (fun z => by rw [hb, if_pos z] at c_142; omega)
      rw [hz]
      refine tt_lconst (v := 0) d_X_day_149 (by decide) ?_
      refine tt_callV (xq_add (d := d) h hd (Nat.le_of_ble_eq_true rfl)) cw_Told_add rfl rfl (by decide) rfl (by omega) d_X_day_150 rfl rfl (Nat.le_of_ble_eq_true rfl) (Nat.le_of_ble_eq_true rfl) rfl rfl rfl (fun v σ2 q => ?_)
      obtain ⟨rfl, h, hd, hf⟩ := q
      refine tt_aload_n d_X_day_153 rfl ?_
      refine tt_getR d_X_day_154 rfl rfl (by decide) rfl rfl ?_
      refine tt_aload_n d_X_day_157 rfl ?_
      refine tt_getR d_X_day_158 rfl rfl (by decide) rfl rfl ?_
      refine tn_get d_X_day_161 rfl rfl (by decide) rfl (h.v 0 (by decide)) ?_
      refine tt_i2l d_X_day_164 ?_
      refine tt_callV (xq_add (d := d) h hd (Nat.le_of_ble_eq_true rfl)) cw_Told_add rfl rfl (by decide) rfl (by omega) d_X_day_165 rfl rfl (Nat.le_of_ble_eq_true rfl) (Nat.le_of_ble_eq_true rfl) rfl rfl rfl (fun v σ2 q => ?_)
      obtain ⟨rfl, h, hd, hf⟩ := q
      refine tt_iload_n d_X_day_168 rfl ?_
      refine tt_iret rfl d_X_day_169 ?_
      exact ⟨rfl, h.done hd, hF.tr h.2.1⟩
    · have hz : (if n < dyJ (wX w) then (1 : Int64) else 0) = 1 := by rw [hn]; exact if_pos (Decidable.byContradiction (fun z => by rw [hb, if_neg z] at c_142; exact c_142 rfl))
      rw [hz]
      refine tt_lconst (v := 1) d_X_day_145 (by decide) ?_
      refine tt_goto (t := 150) d_X_day_146 (by decide) ?_
      refine tt_callV (xq_add (d := d) h hd (Nat.le_of_ble_eq_true rfl)) cw_Told_add rfl rfl (by decide) rfl (by omega) d_X_day_150 rfl rfl (Nat.le_of_ble_eq_true rfl) (Nat.le_of_ble_eq_true rfl) rfl rfl rfl (fun v σ2 q => ?_)
      obtain ⟨rfl, h, hd, hf⟩ := q
      refine tt_aload_n d_X_day_153 rfl ?_
      refine tt_getR d_X_day_154 rfl rfl (by decide) rfl rfl ?_
      refine tt_aload_n d_X_day_157 rfl ?_
      refine tt_getR d_X_day_158 rfl rfl (by decide) rfl rfl ?_
      refine tn_get d_X_day_161 rfl rfl (by decide) rfl (h.v 0 (by decide)) ?_
      refine tt_i2l d_X_day_164 ?_
      refine tt_callV (xq_add (d := d) h hd (Nat.le_of_ble_eq_true rfl)) cw_Told_add rfl rfl (by decide) rfl (by omega) d_X_day_165 rfl rfl (Nat.le_of_ble_eq_true rfl) (Nat.le_of_ble_eq_true rfl) rfl rfl rfl (fun v σ2 q => ?_)
      obtain ⟨rfl, h, hd, hf⟩ := q
      refine tt_iload_n d_X_day_168 rfl ?_
      refine tt_iret rfl d_X_day_169 ?_
      exact ⟨rfl, h.done hd, hF.tr h.2.1⟩
  · have hdw : dyW w v n = stU (stV (txC w) v) (wV w) := if_neg (by omega)
    refine tt_aload_n d_X_day_112 rfl ?_
    refine tt_getR d_X_day_113 rfl rfl (by decide) rfl rfl ?_
    refine tt_aload_n d_X_day_116 rfl ?_
    refine tt_getR d_X_day_117 rfl rfl (by decide) rfl rfl ?_
    refine tt_callV (x_push25 (d := d) (w := stV w v) hl hw h25) cw_Past_push rfl rfl (by decide) rfl (by omega) d_X_day_120 rfl rfl (Nat.le_of_ble_eq_true rfl) (Nat.le_of_ble_eq_true rfl) rfl rfl rfl (fun v σ2 q => ?_)
    obtain ⟨rfl, hw2, hF2⟩ := q
    replace hF := hF.tr hF2
    have hw3 := hw2.tx
    refine tt_aload_n d_X_day_123 rfl ?_
    refine tt_getR d_X_day_124 rfl rfl (by decide) rfl rfl ?_
    refine tt_callV (x_Text_clear (d := d)) cw_Text_clear rfl rfl (by decide) rfl (by omega) d_X_day_127 rfl rfl (Nat.le_of_ble_eq_true rfl) (Nat.le_of_ble_eq_true rfl) rfl rfl rfl (fun v σ2 q => ?_)
    obtain ⟨rfl, rfl⟩ := q
    have h := XQ.rf hw3.1.v
    replace hF := hF.tr hw3.2
    rw [hdw]
    refine tt_aload_n d_X_day_130 rfl ?_
    refine tt_getR d_X_day_131 rfl rfl (by decide) rfl rfl ?_
    refine tt_callV (xq_start (d := d) h) cw_Told_start rfl rfl (by decide) rfl (by omega) d_X_day_134 rfl rfl (Nat.le_of_ble_eq_true rfl) (Nat.le_of_ble_eq_true rfl) rfl rfl rfl (fun v σ2 q => ?_)
    obtain ⟨rfl, h, hd, hf⟩ := q
    refine tt_aload_n d_X_day_137 rfl ?_
    refine tt_getR d_X_day_138 rfl rfl (by decide) rfl rfl ?_
    refine tt_iload_n d_X_day_141 rfl ?_
    refine tn_if_eq (t := 149) (by omega) d_X_day_142 (by decide) (fun c_142 => ?_) (fun c_142 => ?_)
    · have hz : (if n < dyJ (wX w) then (1 : Int64) else 0) = 0 := by rw [hn]; exact if_neg (fun z => by rw [hb, if_pos z] at c_142; omega)
      rw [hz]
      refine tt_lconst (v := 0) d_X_day_149 (by decide) ?_
      refine tt_callV (xq_add (d := d) h hd (Nat.le_of_ble_eq_true rfl)) cw_Told_add rfl rfl (by decide) rfl (by omega) d_X_day_150 rfl rfl (Nat.le_of_ble_eq_true rfl) (Nat.le_of_ble_eq_true rfl) rfl rfl rfl (fun v σ2 q => ?_)
      obtain ⟨rfl, h, hd, hf⟩ := q
      refine tt_aload_n d_X_day_153 rfl ?_
      refine tt_getR d_X_day_154 rfl rfl (by decide) rfl rfl ?_
      refine tt_aload_n d_X_day_157 rfl ?_
      refine tt_getR d_X_day_158 rfl rfl (by decide) rfl rfl ?_
      refine tn_get d_X_day_161 rfl rfl (by decide) rfl (h.v 0 (by decide)) ?_
      refine tt_i2l d_X_day_164 ?_
      refine tt_callV (xq_add (d := d) h hd (Nat.le_of_ble_eq_true rfl)) cw_Told_add rfl rfl (by decide) rfl (by omega) d_X_day_165 rfl rfl (Nat.le_of_ble_eq_true rfl) (Nat.le_of_ble_eq_true rfl) rfl rfl rfl (fun v σ2 q => ?_)
      obtain ⟨rfl, h, hd, hf⟩ := q
      refine tt_iload_n d_X_day_168 rfl ?_
      refine tt_iret rfl d_X_day_169 ?_
      exact ⟨rfl, h.done hd, hF.tr h.2.1⟩
    · have hz : (if n < dyJ (wX w) then (1 : Int64) else 0) = 1 := by rw [hn]; exact if_pos (Decidable.byContradiction (fun z => by rw [hb, if_neg z] at c_142; exact c_142 rfl))
      rw [hz]
      refine tt_lconst (v := 1) d_X_day_145 (by decide) ?_
      refine tt_goto (t := 150) d_X_day_146 (by decide) ?_
      refine tt_callV (xq_add (d := d) h hd (Nat.le_of_ble_eq_true rfl)) cw_Told_add rfl rfl (by decide) rfl (by omega) d_X_day_150 rfl rfl (Nat.le_of_ble_eq_true rfl) (Nat.le_of_ble_eq_true rfl) rfl rfl rfl (fun v σ2 q => ?_)
      obtain ⟨rfl, h, hd, hf⟩ := q
      refine tt_aload_n d_X_day_153 rfl ?_
      refine tt_getR d_X_day_154 rfl rfl (by decide) rfl rfl ?_
      refine tt_aload_n d_X_day_157 rfl ?_
      refine tt_getR d_X_day_158 rfl rfl (by decide) rfl rfl ?_
      refine tn_get d_X_day_161 rfl rfl (by decide) rfl (h.v 0 (by decide)) ?_
      refine tt_i2l d_X_day_164 ?_
      refine tt_callV (xq_add (d := d) h hd (Nat.le_of_ble_eq_true rfl)) cw_Told_add rfl rfl (by decide) rfl (by omega) d_X_day_165 rfl rfl (Nat.le_of_ble_eq_true rfl) (Nat.le_of_ble_eq_true rfl) rfl rfl rfl (fun v σ2 q => ?_)
      obtain ⟨rfl, h, hd, hf⟩ := q
      refine tt_iload_n d_X_day_168 rfl ?_
      refine tt_iret rfl d_X_day_169 ?_
      exact ⟨rfl, h.done hd, hF.tr h.2.1⟩

set_option maxHeartbeats 4000000 in
theorem x_day_r {l : xLa} {d : Nat} {σ τ : xs} {w : wv} {n pp : Nat} {v : sv} {z1 : Int32} (hX : okX (wX w)) (hpp : pp < 1000) (ho : okQ w) (hA : dyA (wX w) = 0) (hl : (wU w).length ≤ 15) (hb : 1 = if (dyV w (dyJ (wX w))).2 < dyJ (wX w) then 1 else 0) (hn : n = (dyV w (dyJ (wX w))).2) (hv : v = (dyV w (dyJ (wX w))).1) (hn40 : n ≤ 40) (hw : XW τ (stV w v)) (hF : XF σ τ) (h25 : ST τ 25 (wV w)) : T l M_X_day (d + 30) 39 [some (.ref 0), some (.int z1), some (.int (nI n)), some (.int (nI 1)), some (.int (nI pp))] [] τ (fun r τ => r = some (.int (a_day w).1) ∧ XW τ (a_day w).2 ∧ XF σ τ) := by
  have hx : XT τ (wX w) := hw.2.2.1
  have hx1 := hX.1
  refine tt_iload d_X_day_39 rfl ?_
  refine tt_aload_n d_X_day_41 rfl ?_
  refine tt_getR d_X_day_42 rfl rfl (by decide) rfl rfl ?_
  refine tt_callV (x_Text_length (d := d)) cw_Text_length rfl rfl (by decide) rfl (by omega) d_X_day_45 rfl rfl (Nat.le_of_ble_eq_true rfl) (Nat.le_of_ble_eq_true rfl) rfl rfl rfl (fun v σ2 q => ?_)
  obtain ⟨rfl, e9⟩ := q
  rw [e9, hx.1]
  clear e9
  refine tn_ic_ge (t := 108) (by omega) (by omega) d_X_day_48 (by decide) (fun c_48 => ?_) (fun c_48 => ?_)
  · exact x_day_e ho hA hl hb hn hv hn40 hw hF h25
  · refine tt_iload_n d_X_day_51 rfl ?_
    refine tn_if_ne (t := 108) (by omega) d_X_day_52 (by decide) (fun c_52 => ?_) (fun c_52 => ?_)
    · exact x_day_e ho hA hl hb hn hv hn40 hw hF h25
    · omega

theorem pq_1 {x : Nat × (Nat → Nat)} {j : Nat} : pqN x 0 j + (1 + (alN (akN x (pqN x 0 j)) - 1)) = pqN x 0 (j + 1) := by
  show _ = pqN x 0 j + alN (akN x (pqN x 0 j))
  unfold alN
  split <;> omega
set_option maxHeartbeats 4000000 in
theorem x_day_l {l : xLa} {d : Nat} {σ : xs} {w : wv} (ho : okQ w) (hh : wV w 0 4 + 1000 < 2 ^ 29) (hX : okX (wX w)) (hA : dyA (wX w) = 0) (hl : (wU w).length ≤ 15) : ∀ (m j : Nat) (τ : xs), dyJ (wX w) - j = m → j ≤ dyJ (wX w) → (dyV w j).2 = j → XW τ (stV w (dyV w j).1) → XF σ τ → ST τ 25 (wV w) → T l M_X_day (d + 30) 39 [some (.ref 0), some (.int (-1)), some (.int (nI j)), some (.int (nI 0)), some (.int (nI (pqN (wX w) 0 j)))] [] τ (fun r τ => r = some (.int (a_day w).1) ∧ XW τ (a_day w).2 ∧ XF σ τ) := by
  obtain ⟨b1, b2, b3, b4⟩ := dyJ_c hX hA
  have hx1 := hX.1
  intro m
  induction m using Nat.strongRecOn with
  | ind m ih =>
    intro j τ hm hj hdn hw hF h25
    have hx : XT τ (wX w) := hw.2.2.1
    obtain ⟨k1, k2, k3⟩ := ok_dyV ho hh hX hA j hj
    have hpq : pqN (wX w) 0 j ≤ 80 := by
      by_cases c : j < dyJ (wX w)
      · have := (b2 j c).1; omega
      · rw [show j = dyJ (wX w) by omega]; omega
    refine tt_iload d_X_day_39 rfl ?_
    refine tt_aload_n d_X_day_41 rfl ?_
    refine tt_getR d_X_day_42 rfl rfl (by decide) rfl rfl ?_
    refine tt_callV (x_Text_length (d := d)) cw_Text_length rfl rfl (by decide) rfl (by omega) d_X_day_45 rfl rfl (Nat.le_of_ble_eq_true rfl) (Nat.le_of_ble_eq_true rfl) rfl rfl rfl (fun v σ2 q => ?_)
    obtain ⟨rfl, e9⟩ := q
    rw [e9, hx.1]
    clear e9
    refine tn_ic_ge (t := 108) (by omega) (by omega) d_X_day_48 (by decide) (fun c_48 => ?_) (fun c_48 => ?_)
    · obtain rfl : j = dyJ (wX w) := Decidable.byContradiction (fun z => by have := (b2 j (by omega)).1; omega)
      exact x_day_e ho hA hl (by rw [hdn, if_neg (by omega)]) hdn.symm rfl (by omega) hw hF h25
    · have hjJ : j < dyJ (wX w) := Decidable.byContradiction (fun z => by rw [show j = dyJ (wX w) by omega] at c_48; omega)
      obtain ⟨g1, g2⟩ := b2 j hjJ
      have hal := atx_lt (j := pqN (wX w) 0 j) hX
      have hkl := ac_le (atN (wX w) (pqN (wX w) 0 j))
      have hyy := dyV_y hdn
      have hy2 := congrArg Prod.snd hyy
      have hy1 := congrArg Prod.fst hyy
      dsimp only at hy1 hy2
      refine tt_iload_n d_X_day_51 rfl ?_
      refine tn_if_ne (t := 108) (by omega) d_X_day_52 (by decide) (fun c_52 => ?_) (fun c_52 => ?_)
      · omega
      · refine tt_aload_n d_X_day_55 rfl ?_
        refine tt_iload d_X_day_56 rfl ?_
        refine tt_callV (x_doAct (d := d) k1 hX hw (by omega) g2) cw_X_doAct rfl rfl (by decide) rfl (by omega) d_X_day_58 rfl rfl (Nat.le_of_ble_eq_true rfl) (Nat.le_of_ble_eq_true rfl) rfl rfl rfl (fun v σ2 q => ?_)
        obtain ⟨rfl, hw2, hF2, hK2⟩ := q
        replace hF := hF.tr hF2
        replace h25 := hK2 _ h25
        have hx2 : XT σ2 (wX w) := hw2.2.2.1
        replace hw2 : XW σ2 (stV w (acC (stV w (dyV w j).1) (wX w) (pqN (wX w) 0 j)).2) := hw2
        rw [← hy1] at hw2
        refine tt_if_ge (t := 68) d_X_day_61 (by decide) (fun c_61 => ?_) (fun c_61 => ?_)
        · have hnr : ¬ (acC (stV w (dyV w j).1) (wX w) (pqN (wX w) 0 j)).1 < 0 := fun z => fa_nlt2 z c_61
          rw [if_neg hnr] at hy2
          refine tt_iconst (v := nI 0) d_X_day_68 (by decide) ?_
          refine tt_istore_n (lv2 := [_, _, _, _, _]) d_X_day_69 (by decide) rfl ?_
          refine tt_iload_n d_X_day_70 rfl ?_
          refine tt_iload_n d_X_day_71 rfl ?_
          refine tn_if_eq (t := 79) (by omega) d_X_day_72 (by decide) (fun c_72 => ?_) (fun c_72 => ?_)
          · refine tt_iconst (v := nI 1) d_X_day_79 (by decide) ?_
            refine tn_iadd d_X_day_80 ?_
            refine tt_istore_n (lv2 := [_, _, _, _, _]) d_X_day_81 (by decide) rfl ?_
            refine tt_iload d_X_day_82 rfl ?_
            refine tt_iconst (v := nI 1) d_X_day_84 (by decide) ?_
            refine tt_iconst (v := nI 0) d_X_day_85 (by decide) ?_
            refine tt_aload_n d_X_day_86 rfl ?_
            refine tt_getR d_X_day_87 rfl rfl (by decide) rfl rfl ?_
            refine tt_iload d_X_day_90 rfl ?_
            refine tt_callV (x_Text_at (d := d) (n := (wX w).1) (j := pqN (wX w) 0 j) hx2.1 hX.1 (by omega)) cw_Text_at rfl rfl (by decide) rfl (by omega) d_X_day_92 rfl rfl (Nat.le_of_ble_eq_true rfl) (Nat.le_of_ble_eq_true rfl) rfl rfl rfl (fun v σ2 q => ?_)
            obtain ⟨rfl, e9⟩ := q
            rw [e9, X_at_N hx2]
            clear e9
            refine tt_callS (x_digitsB (d := d) hal) cw_X_digitsBehind rfl (by omega) d_X_day_95 rfl rfl (Nat.le_of_ble_eq_true rfl) (Nat.le_of_ble_eq_true rfl) rfl rfl rfl (fun v σ2 q => ?_)
            obtain ⟨rfl, e9⟩ := q
            rw [e9]
            clear e9
            refine tt_max d_X_day_98 rfl (Nat.le_of_ble_eq_true rfl) ?_
            refine tt_top (mx_al (k := akN (wX w) (pqN (wX w) 0 j)) g2.1 hkl) ?_
            refine tn_iadd d_X_day_101 ?_
            refine tn_iadd d_X_day_102 ?_
            refine tt_istore (lv2 := [_, _, _, _, _]) d_X_day_103 (by decide) rfl ?_
            refine tt_goto (t := 39) d_X_day_105 (by decide) ?_
            rw [show pqN (wX w) 0 j + (1 + (alN (akN (wX w) (pqN (wX w) 0 j)) - 1)) = pqN (wX w) 0 (j + 1) from pq_1]
            exact ih (dyJ (wX w) - (j + 1)) (by omega) (j + 1) _ rfl (by omega) hy2 hw2 hF h25
          · omega
        · have hnr : (acC (stV w (dyV w j).1) (wX w) (pqN (wX w) 0 j)).1 < 0 := Int32.not_le.mp c_61
          rw [if_pos hnr] at hy2
          have hst := dyV_st (w := w) (j := j + 1) (by omega) (dyJ (wX w) - (j + 1))
          rw [show j + 1 + (dyJ (wX w) - (j + 1)) = dyJ (wX w) by omega] at hst
          refine tt_iconst (v := nI 1) d_X_day_64 (by decide) ?_
          refine tt_goto (t := 69) d_X_day_65 (by decide) ?_
          refine tt_istore_n (lv2 := [_, _, _, _, _]) d_X_day_69 (by decide) rfl ?_
          refine tt_iload_n d_X_day_70 rfl ?_
          refine tt_iload_n d_X_day_71 rfl ?_
          refine tn_if_eq (t := 79) (by omega) d_X_day_72 (by decide) (fun c_72 => ?_) (fun c_72 => ?_)
          · omega
          · refine tt_iconst (v := nI 0) d_X_day_75 (by decide) ?_
            refine tt_goto (t := 80) d_X_day_76 (by decide) ?_
            refine tn_iadd d_X_day_80 ?_
            refine tt_istore_n (lv2 := [_, _, _, _, _]) d_X_day_81 (by decide) rfl ?_
            refine tt_iload d_X_day_82 rfl ?_
            refine tt_iconst (v := nI 1) d_X_day_84 (by decide) ?_
            refine tt_iconst (v := nI 0) d_X_day_85 (by decide) ?_
            refine tt_aload_n d_X_day_86 rfl ?_
            refine tt_getR d_X_day_87 rfl rfl (by decide) rfl rfl ?_
            refine tt_iload d_X_day_90 rfl ?_
            refine tt_callV (x_Text_at (d := d) (n := (wX w).1) (j := pqN (wX w) 0 j) hx2.1 hX.1 (by omega)) cw_Text_at rfl rfl (by decide) rfl (by omega) d_X_day_92 rfl rfl (Nat.le_of_ble_eq_true rfl) (Nat.le_of_ble_eq_true rfl) rfl rfl rfl (fun v σ2 q => ?_)
            obtain ⟨rfl, e9⟩ := q
            rw [e9, X_at_N hx2]
            clear e9
            refine tt_callS (x_digitsB (d := d) hal) cw_X_digitsBehind rfl (by omega) d_X_day_95 rfl rfl (Nat.le_of_ble_eq_true rfl) (Nat.le_of_ble_eq_true rfl) rfl rfl rfl (fun v σ2 q => ?_)
            obtain ⟨rfl, e9⟩ := q
            rw [e9]
            clear e9
            refine tt_max d_X_day_98 rfl (Nat.le_of_ble_eq_true rfl) ?_
            refine tt_top (mx_al (k := akN (wX w) (pqN (wX w) 0 j)) g2.1 hkl) ?_
            refine tn_iadd d_X_day_101 ?_
            refine tn_iadd d_X_day_102 ?_
            refine tt_istore (lv2 := [_, _, _, _, _]) d_X_day_103 (by decide) rfl ?_
            refine tt_goto (t := 39) d_X_day_105 (by decide) ?_
            have hpl : alN (akN (wX w) (pqN (wX w) 0 j)) ≤ 5 := by unfold alN; split <;> omega
            exact x_day_r hX (by omega) ho hA hl (by rw [hst, hy2, if_pos hjJ]) (by rw [hst, hy2]; rfl) (by rw [hst]) (by omega) hw2 hF h25

set_option maxHeartbeats 4000000 in
theorem xc_day {l : xLa} {d : Nat} {σ : xs} {w : wv} (ho : okQ w) (hw : XW σ w)  (hh : wV w 0 4 + 1000 < 2 ^ 29) (hX : okX (wX w)) (hl : (wU w).length ≤ 15) : TC l M_X_day (d + 30) [.ref 0] σ (fun r τ => r = some (.int (a_day w).1) ∧ XW τ (a_day w).2 ∧ XF σ τ) := by
  show T l M_X_day (d + 30) 0 _ [] σ _
  refine T_lv (lv2 := [_, _, _, _, _]) rfl ?_
  have h := XQ.rf hw.v
  have hd0 := hw.2.2.2.1
  have hb0 := ho.fb
  have hb8 := ho.n8
  have hx := hw.2.2.1
  have hx1 := hX.1
  have hfl := dy_le (x := wX w) 81 0
  have hg := gI_1 (g := dyA (wX w)) (by unfold dyA; omega)
  by_cases cf : dyA (wX w) = 0
  · skip
    refine tt_aload_n d_X_day_0 rfl ?_
    refine tt_callV (x_dayF (d := d) hx hX) cw_X_dayFault rfl rfl (by decide) rfl (by omega) d_X_day_1 rfl rfl (Nat.le_of_ble_eq_true rfl) (Nat.le_of_ble_eq_true rfl) rfl rfl rfl (fun v σ2 q => ?_)
    obtain ⟨rfl, e9⟩ := q
    rw [e9, cf]
    clear e9
    refine tt_istore_n (lv2 := [_, _, _, _, _]) d_X_day_4 (by decide) rfl ?_
    refine tt_iload_n d_X_day_5 rfl ?_
    refine tt_iconst (v := (-1)) d_X_day_6 (by decide) ?_
    refine tt_ic_eq (t := 21) d_X_day_7 (by decide) (fun c_7 => ?_) (fun c_7 => ?_)
    · refine tt_aload_n d_X_day_21 rfl ?_
      refine tt_getR d_X_day_22 rfl rfl (by decide) rfl rfl ?_
      refine tt_aload_n d_X_day_25 rfl ?_
      refine tt_getR d_X_day_26 rfl rfl (by decide) rfl rfl ?_
      refine tt_callV (x_before (d := d) hw) cw_State_copy rfl rfl (by decide) rfl (by omega) d_X_day_29 rfl rfl (Nat.le_of_ble_eq_true rfl) (Nat.le_of_ble_eq_true rfl) rfl rfl rfl (fun v σ2 q => ?_)
      obtain ⟨rfl, hw1, hF1, h25⟩ := q
      refine tt_iconst (v := nI 0) d_X_day_32 (by decide) ?_
      refine tt_istore_n (lv2 := [_, _, _, _, _]) d_X_day_33 (by decide) rfl ?_
      refine tt_iconst (v := nI 0) d_X_day_34 (by decide) ?_
      refine tt_istore_n (lv2 := [_, _, _, _, _]) d_X_day_35 (by decide) rfl ?_
      refine tt_iconst (v := nI 0) d_X_day_36 (by decide) ?_
      refine tt_istore (lv2 := [_, _, _, _, _]) d_X_day_37 (by decide) rfl ?_
      exact x_day_l ho hh hX cf hl _ 0 _ rfl (Nat.zero_le _) rfl hw1 hF1 h25
    · exact absurd rfl c_7
  · unfold a_day
    rw [if_neg cf]
    refine tt_aload_n d_X_day_0 rfl ?_
    refine tt_callV (x_dayF (d := d) hx hX) cw_X_dayFault rfl rfl (by decide) rfl (by omega) d_X_day_1 rfl rfl (Nat.le_of_ble_eq_true rfl) (Nat.le_of_ble_eq_true rfl) rfl rfl rfl (fun v σ2 q => ?_)
    obtain ⟨rfl, e9⟩ := q
    rw [e9]
    clear e9
    refine tt_istore_n (lv2 := [_, _, _, _, _]) d_X_day_4 (by decide) rfl ?_
    refine tt_iload_n d_X_day_5 rfl ?_
    refine tt_iconst (v := (-1)) d_X_day_6 (by decide) ?_
    refine tt_ic_eq (t := 21) d_X_day_7 (by decide) (fun c_7 => ?_) (fun c_7 => ?_)
    · exact absurd (hg.mp c_7) cf
    · refine tt_aload_n d_X_day_10 rfl ?_
      refine tt_getR d_X_day_11 rfl rfl (by decide) rfl rfl ?_
      refine tt_callV (x_Text_clear (d := d)) cw_Text_clear rfl rfl (by decide) rfl (by omega) d_X_day_14 rfl rfl (Nat.le_of_ble_eq_true rfl) (Nat.le_of_ble_eq_true rfl) rfl rfl rfl (fun v σ2 q => ?_)
      obtain ⟨rfl, e9⟩ := q
      rw [e9]
      clear e9
      refine tt_iconst (v := (-1)) d_X_day_17 (by decide) ?_
      refine tt_iload_n d_X_day_18 rfl ?_
      rw [(gI_c (show dyA (wX w) < 2 ^ 31 by unfold dyA; omega)).2 cf]
      refine tt_isub d_X_day_19 ?_
      refine tt_iret rfl d_X_day_20 ?_
      exact ⟨rfl, hw.tx⟩

