/-! Acts: what undo brings back. Printed by wip/whole. -/
def stV (w : wv) (v : sv) : wv := (wE w, v, wX w, wD w, wU w, wK w, wS w)
def stU (w : wv) (u : sv) : wv := (wE w, wV w, wX w, wD w, (u :: wU w).take 15, wK w, wS w)
theorem tk_get {u : sv} {U : List sv} {j : Nat} (h : j < 15) : ((u :: U).take 15).getD j v0 = (u :: U).getD j v0 := by
  rw [List.getD_eq_getElem?_getD, List.getElem?_take_of_lt h, ← List.getD_eq_getElem?_getD]
theorem tk_len {u : sv} {U : List sv} : ((u :: U).take 15).length = min 15 (U.length + 1) := by rw [List.length_take]; rfl
theorem X_push_w {σ : xs} {w : wv} {u : sv} {k : Nat} (h : XW σ w) (hl : (wU w).length ≤ 15) (hb : ST σ 25 u) (hk : k < 15) (e3 : ∀ j, j < (wU w).length → ST σ (37 + 5 * ((k + 14 - j) % 15)) ((wU w).getD j v0)) : XW (X_push σ 25 k (wU w).length) (stU w u) ∧ XF σ (X_push σ 25 k (wU w).length) := by
  have f1 : Fq (fun c => 37 + 5 * k + 1 ≤ c ∧ c ≤ 37 + 5 * k + 4) (fun c j => c = 37 + 5 * k) (fun _ => False) σ (X_copy σ (37 + 5 * k) 25) := Fq_copy (isS_p hk) isS_25 (fun c hc => hc) (fun k hk => rfl)
  have f2 : Fq (fun _ => False) (fun c j => c = 35) (fun _ => False) (X_copy σ (37 + 5 * k) 25) (X_push σ 25 k (wU w).length) := Fq.tr (Fq.wF rfl) (Fq.wF rfl)
  have f3 : Fq (fun c => 37 + 5 * k + 1 ≤ c ∧ c ≤ 37 + 5 * k + 4) (fun c j => c = 37 + 5 * k ∨ c = 35) (fun _ => False) σ (X_push σ 25 k (wU w).length) := Fq.tr (f1.mono (fun _ q => q) (fun _ _ q => Or.inl q) (fun _ q => q)) (f2.mono (fun _ q => q.elim) (fun _ _ q => Or.inr q) (fun _ q => q))
  refine h.putN (f3.mono (fun c hc => by omega) (fun c j hc => by unfold wF_; omega) (fun _ q => q.elim)) (h.2.1.fq f3 (fun j hj => by omega) (fun j hj => by omega)) (h.2.2.2.1.fq f3 id (by omega)) ⟨(k + 1) % 15, Nat.mod_lt _ (by decide), rfl, by rw [tk_len]; rfl, fun j hj => ?_⟩
  rw [tk_len] at hj
  rw [tk_get (by omega)]
  cases j with
  | zero =>
    rw [show ((k + 1) % 15 + 14 - 0) % 15 = k by omega]
    exact (ST_copy (isS_p hk) isS_25 hb).fq f2 (fun _ _ => id) (fun j hj => by omega)
  | succ j =>
    rw [show ((k + 1) % 15 + 14 - (j + 1)) % 15 = (k + 14 - j) % 15 by omega]
    exact (e3 j (by omega)).fq f3 (fun i hi => by omega) (fun i hi => by omega)
set_option maxHeartbeats 4000000 in
theorem x_noted {l : xLa} {d : Nat} {σ : xs} {w : wv} {a : Int32} {u : sv} (hl : (wU w).length ≤ 15) (hw : XW σ w) (hb : ST σ 25 u) : TC l M_X_noted (d + 5) [.ref 0, .int a] σ (fun r τ => r = some (.int a) ∧ XW τ (if a < 0 then w else stU w u) ∧ XF σ τ) := by
  show T l M_X_noted (d + 5) 0 _ [] σ _
  obtain ⟨k, hk, e1, e2, e3⟩ := hw.2.2.2.2.1
  refine tt_iload_n d_X_noted_0 rfl ?_
  refine tt_if_lt (t := 15) d_X_noted_1 (by decide) (fun c_1 => ?_) (fun c_1 => ?_)
  · rw [if_pos c_1]
    refine tt_iload_n d_X_noted_15 rfl ?_
    refine tt_iret rfl d_X_noted_16 ?_
    exact ⟨rfl, hw, XF.rf⟩
  · rw [if_neg c_1]
    refine tt_aload_n d_X_noted_4 rfl ?_
    refine tt_getR d_X_noted_5 rfl rfl (by decide) rfl rfl ?_
    refine tt_aload_n d_X_noted_8 rfl ?_
    refine tt_getR d_X_noted_9 rfl rfl (by decide) rfl rfl ?_
    refine tt_callV (x_Past_push (d := d) isS_25 e1 hk e2 hl) cw_Past_push rfl rfl (by decide) rfl (by omega) d_X_noted_12 rfl rfl (Nat.le_of_ble_eq_true rfl) (Nat.le_of_ble_eq_true rfl) rfl rfl rfl (fun v σ2 q => ?_)
    obtain ⟨rfl, rfl⟩ := q
    have y := X_push_w hw hl hb hk e3
    refine tt_iload_n d_X_noted_15 rfl ?_
    refine tt_iret rfl d_X_noted_16 ?_
    exact ⟨rfl, y.1, y.2⟩

theorem cp_lt {τ : xs} {n i : Nat} {y : Int32} {g : Nat → Int32} (h : ∀ x, x < n → si τ 171 x = g x) : ∀ x, x < n → si (wI τ 171 (n + i) y) 171 x = g x := fun x hx => by
  rw [si_wI, if_neg (by omega)]
  exact h x hx
set_option maxHeartbeats 4000000 in
theorem y_putsBy_l {l : xLa} {d : Nat} {σ : xs} {u : Nat} (hu : u ≤ 15) (hn : sf σ 154 30 = nI u) : ∀ (m : Nat) (i : Nat) (τ : xs), 38 - i = m → i ≤ 38 → Fq (fun c => c = 171) (fun _ _ => False) (fun _ => False) σ τ → (∀ j, j < i → si τ 171 (38 * u + j) = si σ 160 j) → (∀ x, x < 38 * u → si τ 171 x = si σ 171 x) → T l M_Y_putsBy (d + 1) 2 [some (.ref 154), some (.int (nI i))] [] τ (fun r υ => r = none ∧ Fq (fun c => c = 171) (fun _ _ => False) (fun _ => False) σ υ ∧ (∀ j, j < 38 → si υ 171 (38 * u + j) = si σ 160 j) ∧ (∀ x, x < 38 * u → si υ 171 x = si σ 171 x)) := by
  intro m
  induction m using Nat.strongRecOn with
  | ind m ih =>
    intro i τ hm hi hF hX hO
    refine tt_iload_n d_Y_putsBy_2 rfl ?_
    refine tt_bipush (v := nI 38) d_Y_putsBy_3 (by decide) ?_
    refine tn_ic_ge (t := 34) (by omega) (by omega) d_Y_putsBy_5 (by decide) (fun c_5 => ?_) (fun c_5 => ?_)
    · obtain rfl : i = 38 := by omega
      refine tt_vret rfl d_Y_putsBy_34 ?_
      exact ⟨rfl, hF, hX, hO⟩
    · refine tt_aload_n d_Y_putsBy_8 rfl ?_
      refine tt_getR d_Y_putsBy_9 rfl rfl (by decide) rfl rfl ?_
      refine tt_bipush (v := nI 38) d_Y_putsBy_12 (by decide) ?_
      refine tt_aload_n d_Y_putsBy_14 rfl ?_
      refine tn_get d_Y_putsBy_15 rfl rfl (by decide) rfl ((hF.2.1 154 30 id).trans hn) ?_
      refine tn_imul d_Y_putsBy_18 ?_
      refine tt_iload_n d_Y_putsBy_19 rfl ?_
      refine tn_iadd d_Y_putsBy_20 ?_
      refine tt_aload_n d_Y_putsBy_21 rfl ?_
      refine tt_getR d_Y_putsBy_22 rfl rfl (by decide) rfl rfl ?_
      refine tt_iload_n d_Y_putsBy_25 rfl ?_
      refine tn_iald d_Y_putsBy_26 rfl (by decide) (by omega) (show si τ 160 i = si σ 160 i from by rw [hF.1 160 (by omega)]) ?_
      refine tn_iast d_Y_putsBy_27 rfl (by decide) (by omega) ?_
      refine tt_iinc (lv2 := [_, _]) d_Y_putsBy_28 rfl (nI_inc _ 1) (by decide) rfl ?_
      refine tt_goto (t := 2) d_Y_putsBy_31 (by decide) ?_
      exact ih (38 - (i + 1)) (by omega) (i + 1) _ rfl (by omega) (hF.tr (Fq.wI rfl)) (cp_st hX) (cp_lt hO)

theorem y_putsBy {l : xLa} {d c : Nat} {σ : xs} {w : wv} (hb8 : eN (wE w) ≤ 8) (hl : (wU w).length ≤ 15) (hw : YW σ c w) : TC l M_Y_putsBy (d + 1) [.ref 154] σ (fun r τ => r = none ∧ YW τ c w ∧ YF σ τ ∧ rO (fun k => si τ 171 (38 * (wU w).length + k)) (eN (wE w)) (wV w)) := by
  show T l M_Y_putsBy (d + 1) 0 _ [] σ _
  refine tt_iconst (v := nI 0) d_Y_putsBy_0 (by decide) ?_
  refine tt_istore_n (lv2 := [_, _]) d_Y_putsBy_1 (by decide) rfl ?_
  refine T.mono (y_putsBy_l (u := (wU w).length) hl hw.2.2.2.2.1.1 38 0 _ rfl (by omega) Fq.rf (fun j hj => absurd hj (Nat.not_lt_zero j)) (fun x hx => rfl)) ?_
  rintro r υ ⟨rfl, z1, z2, z3⟩
  have z := hw.putV (z1.mono (fun c hc => by unfold yA; omega) (fun _ _ q => q.elim) (fun _ q => q.elim)) (SY_o hw.2.1 (z1.1 160 (by omega))) (hw.2.2.2.1.fq z1 id id) ⟨(z1.2.1 154 30 id).trans hw.2.2.2.2.1.1, fun j hj => rO_c hb8 (hw.2.2.2.2.1.2 j hj) (fun k hk => z3 _ (by omega))⟩
  exact ⟨rfl, z.1, z.2, rO_c hb8 hw.2.1 (fun k hk => z2 k hk)⟩

theorem sh_lo {σ τ : xs} {i : Nat} (h : ∀ x, x < i → si τ 171 x = si σ 171 (x + 38)) : ∀ x, x < i + 1 → si (wI τ 171 i (si σ 171 (i + 38))) 171 x = si σ 171 (x + 38) := fun x hx => by
  rw [si_wI]
  by_cases c : x = i
  · rw [if_pos ⟨rfl, c⟩, c]
  · rw [if_neg (fun q => c q.2)]; exact h x (by omega)
theorem sh_hi {σ τ : xs} {i : Nat} {y : Int32} (h : ∀ x, i ≤ x → si τ 171 x = si σ 171 x) : ∀ x, i + 1 ≤ x → si (wI τ 171 i y) 171 x = si σ 171 x := fun x hx => by
  rw [si_wI, if_neg (by omega)]; exact h x (by omega)
set_option maxHeartbeats 4000000 in
theorem y_adds_l {l : xLa} {d : Nat} {σ : xs} {a : Int32} (hn : sf σ 154 30 = nI 16) : ∀ (m : Nat) (i : Nat) (τ : xs), 570 - i = m → i ≤ 570 → Fq (fun c => c = 171) (fun _ _ => False) (fun _ => False) σ τ → (∀ x, x < i → si τ 171 x = si σ 171 (x + 38)) → (∀ x, i ≤ x → si τ 171 x = si σ 171 x) → T l M_Y_adds (d + 1) 21 [some (.ref 154), some (.int a), some (.int (nI i))] [] τ (fun r υ => r = some (.int a) ∧ ∃ ρ, υ = wF ρ 154 30 (nI 15) ∧ Fq (fun c => c = 171) (fun _ _ => False) (fun _ => False) σ ρ ∧ (∀ x, x < 570 → si ρ 171 x = si σ 171 (x + 38))) := by
  intro m
  induction m using Nat.strongRecOn with
  | ind m ih =>
    intro i τ hm hi hF hX hO
    refine tt_iload_n d_Y_adds_21 rfl ?_
    refine tt_sipush (v := nI 570) d_Y_adds_22 (by decide) ?_
    refine tn_ic_ge (t := 49) (by omega) (by omega) d_Y_adds_25 (by decide) (fun c_25 => ?_) (fun c_25 => ?_)
    · obtain rfl : i = 570 := by omega
      refine tt_aload_n d_Y_adds_49 rfl ?_
      refine tt_dup d_Y_adds_50 rfl ?_
      refine tn_get d_Y_adds_51 rfl rfl (by decide) rfl ((hF.2.1 154 30 id).trans hn) ?_
      refine tt_iconst (v := nI 1) d_Y_adds_54 (by decide) ?_
      refine tt_isub d_Y_adds_55 ?_
      refine tt_top (nI_sub1 15) ?_
      refine tt_putI d_Y_adds_56 rfl rfl (by decide) rfl (xpok_int rfl) rfl ?_
      refine tt_iload_n d_Y_adds_59 rfl ?_
      refine tt_iret rfl d_Y_adds_60 ?_
      exact ⟨rfl, τ, rfl, hF, hX⟩
    · refine tt_aload_n d_Y_adds_28 rfl ?_
      refine tt_getR d_Y_adds_29 rfl rfl (by decide) rfl rfl ?_
      refine tt_iload_n d_Y_adds_32 rfl ?_
      refine tt_aload_n d_Y_adds_33 rfl ?_
      refine tt_getR d_Y_adds_34 rfl rfl (by decide) rfl rfl ?_
      refine tt_iload_n d_Y_adds_37 rfl ?_
      refine tt_bipush (v := nI 38) d_Y_adds_38 (by decide) ?_
      refine tn_iadd d_Y_adds_40 ?_
      refine tn_iald d_Y_adds_41 rfl (by decide) (by omega) (hO (i + 38) (by omega)) ?_
      refine tn_iast d_Y_adds_42 rfl (by decide) (by omega) ?_
      refine tt_iinc (lv2 := [_, _, _]) d_Y_adds_43 rfl (nI_inc _ 1) (by decide) rfl ?_
      refine tt_goto (t := 21) d_Y_adds_46 (by decide) ?_
      exact ih (570 - (i + 1)) (by omega) (i + 1) _ rfl (by omega) (hF.tr (Fq.wI rfl)) (sh_lo hX) (sh_hi hO)

theorem Y_add_s {σ : xs} {c : Nat} {w : wv} {u : sv} (hl : (wU w).length + 1 ≤ 15) (h : YW σ c w) (hu : rO (fun k => si σ 171 (38 * (wU w).length + k)) (eN (wE w)) u) : YW (wF σ 154 30 (nI ((wU w).length + 1))) c (stU w u) ∧ YF σ (wF σ 154 30 (nI ((wU w).length + 1))) := by
  have f1 : Fq (fun _ => False) (fun c k => c = 154 ∧ k = 30) (fun _ => False) σ (wF σ 154 30 (nI ((wU w).length + 1))) := Fq.wF ⟨rfl, rfl⟩
  refine h.putV (f1.mono (fun _ q => q.elim) (fun c k hc => Or.inr hc) (fun _ q => q.elim)) (SY_o h.2.1 rfl) (h.2.2.2.1.fq f1 id (by omega)) ⟨by rw [tk_len, Nat.min_eq_right hl]; rfl, fun j hj => ?_⟩
  rw [tk_len, Nat.min_eq_right hl] at hj
  rw [tk_len, Nat.min_eq_right hl, tk_get (by omega)]
  cases j with
  | zero =>
    rw [show (wU w).length + 1 - 1 - 0 = (wU w).length by omega]
    exact hu
  | succ j =>
    rw [show (wU w).length + 1 - 1 - (j + 1) = (wU w).length - 1 - j by omega]
    exact h.2.2.2.2.1.2 j (by omega)
theorem Y_add_f {σ τ : xs} {c : Nat} {w : wv} {u : sv} (h8 : eN (wE w) ≤ 8) (hl : (wU w).length = 15) (h : YW σ c w) (hu : rO (fun k => si σ 171 (38 * (wU w).length + k)) (eN (wE w)) u) (hf : Fq (fun c => c = 171) (fun _ _ => False) (fun _ => False) (wF σ 154 30 (nI 16)) τ) (hX : ∀ x, x < 570 → si τ 171 x = si σ 171 (x + 38)) : YW (wF τ 154 30 (nI 15)) c (stU w u) ∧ YF σ (wF τ 154 30 (nI 15)) := by
  have f1 : Fq (fun c => c = 171) (fun c k => c = 154 ∧ k = 30) (fun _ => False) σ (wF τ 154 30 (nI 15)) := Fq.tr (Fq.tr (Fq.wF ⟨rfl, rfl⟩) (hf.mono (fun _ q => q) (fun _ _ q => q.elim) (fun _ q => q))) (Fq.wF ⟨rfl, rfl⟩)
  have e : min 15 ((wU w).length + 1) = 15 := by omega
  refine h.putV (f1.mono (fun c hc => by unfold yA; omega) (fun c k hc => Or.inr hc) (fun _ q => q.elim)) (SY_o h.2.1 (f1.1 160 (by omega))) (h.2.2.2.1.fq f1 id (by omega)) ⟨by rw [tk_len, e]; rfl, fun j hj => ?_⟩
  rw [tk_len, e] at hj
  rw [tk_len, e, tk_get (by omega)]
  cases j with
  | zero =>
    refine rO_c h8 hu (fun k hk => (hX _ (by omega)).trans ?_)
    rw [hl, show 38 * (15 - 1 - 0) + k + 38 = 38 * 15 + k by omega]
  | succ j =>
    have := h.2.2.2.2.1.2 j (by omega)
    refine rO_c h8 this (fun k hk => (hX _ (by omega)).trans ?_)
    rw [hl, show 38 * (15 - 1 - (j + 1)) + k + 38 = 38 * (15 - 1 - j) + k by omega]
set_option maxHeartbeats 4000000 in
theorem y_adds {l : xLa} {d c : Nat} {σ : xs} {w : wv} {a : Int32} {u : sv} (hb8 : eN (wE w) ≤ 8) (hl : (wU w).length ≤ 15) (hw : YW σ c w) (hu : rO (fun k => si σ 171 (38 * (wU w).length + k)) (eN (wE w)) u) : TC l M_Y_adds (d + 1) [.ref 154, .int a] σ (fun r τ => r = some (.int a) ∧ YW τ c (stU w u) ∧ YF σ τ) := by
  show T l M_Y_adds (d + 1) 0 _ [] σ _
  refine tt_aload_n d_Y_adds_0 rfl ?_
  refine tt_dup d_Y_adds_1 rfl ?_
  refine tn_get d_Y_adds_2 rfl rfl (by decide) rfl hw.2.2.2.2.1.1 ?_
  refine tt_iconst (v := nI 1) d_Y_adds_5 (by decide) ?_
  refine tn_iadd d_Y_adds_6 ?_
  refine tt_putI d_Y_adds_7 rfl rfl (by decide) rfl (xpok_int rfl) rfl ?_
  refine tt_aload_n d_Y_adds_10 rfl ?_
  refine tn_get d_Y_adds_11 rfl rfl (by decide) rfl (show _ = nI ((wU w).length + 1) from rfl) ?_
  refine tt_bipush (v := nI 15) d_Y_adds_14 (by decide) ?_
  refine tn_ic_le (t := 59) (by omega) (by omega) d_Y_adds_16 (by decide) (fun c_16 => ?_) (fun c_16 => ?_)
  · refine tt_iload_n d_Y_adds_59 rfl ?_
    refine tt_iret rfl d_Y_adds_60 ?_
    have z := Y_add_s (by omega) hw hu
    exact ⟨rfl, z.1, z.2⟩
  · refine tt_iconst (v := nI 0) d_Y_adds_19 (by decide) ?_
    refine tt_istore_n (lv2 := [_, _, _]) d_Y_adds_20 (by decide) rfl ?_
    have hl2 : (wU w).length = 15 := by omega
    rw [hl2]
    refine T.mono (y_adds_l rfl 570 0 _ rfl (by omega) Fq.rf (fun j hj => absurd hj (Nat.not_lt_zero j)) (fun x hx => rfl)) ?_
    rintro r υ ⟨rfl, ρ, rfl, z2, z3⟩
    have z := Y_add_f hb8 hl2 hw hu z2 z3
    exact ⟨rfl, z.1, z.2⟩

set_option maxHeartbeats 4000000 in
theorem y_counted {l : xLa} {d c : Nat} {σ : xs} {w : wv} {a : Int32} {u : sv} (hb8 : eN (wE w) ≤ 8) (hl : (wU w).length ≤ 15) (hw : YW σ c w) (hu : rO (fun k => si σ 171 (38 * (wU w).length + k)) (eN (wE w)) u) : TC l M_Y_counted (d + 5) [.ref 154, .int a] σ (fun r τ => r = some (.int a) ∧ YW τ c (if a < 0 then w else stU w u) ∧ YF σ τ) := by
  show T l M_Y_counted (d + 5) 0 _ [] σ _
  refine tt_iload_n d_Y_counted_0 rfl ?_
  refine tt_if_ge (t := 8) d_Y_counted_1 (by decide) (fun c_1 => ?_) (fun c_1 => ?_)
  · rw [if_neg (fun z => fa_nlt2 z c_1)]
    refine tt_aload_n d_Y_counted_8 rfl ?_
    refine tt_iload_n d_Y_counted_9 rfl ?_
    refine tt_callV (y_adds (d := d) hb8 hl hw hu) cw_Y_adds rfl rfl (by decide) rfl (by omega) d_Y_counted_10 rfl rfl (Nat.le_of_ble_eq_true rfl) (Nat.le_of_ble_eq_true rfl) rfl rfl rfl (fun v σ2 q => ?_)
    obtain ⟨rfl, y1, y2⟩ := q
    refine tt_iret rfl d_Y_counted_13 ?_
    exact ⟨rfl, y1, y2⟩
  · rw [if_pos (Int32.not_le.mp c_1)]
    refine tt_iload_n d_Y_counted_4 rfl ?_
    refine tt_goto (t := 13) d_Y_counted_5 (by decide) ?_
    refine tt_iret rfl d_Y_counted_13 ?_
    exact ⟨rfl, hw, YF.rf⟩

