/-! lake. Printed by wip/whole. -/
/-- no sign of a lake -/
def lkP (x : Nat × (Nat → Nat)) : Nat → Bool := fun j => decide (¬ atN x j = 47 ∧ ¬ atN x j = 36)
theorem lkP_t {x : Nat × (Nat → Nat)} {j : Nat} : lkP x j = true ↔ ¬ atN x j = 47 ∧ ¬ atN x j = 36 := decide_eq_true_iff
def lkR (x : Nat × (Nat → Nat)) : Nat := dgN x 0 - 1
def laC (x : Nat × (Nat → Nat)) : Nat := dgN x 1 - 1
def lkO (n e : Nat) : Option Nat → Nat
  | some q => q + 1
  | none => if e < n then e + 1 else 0
/-- the place of the fault plus 1; 0: none -/
def laF (x : Nat × (Nat → Nat)) : Nat := if ¬ (3 ≤ dgN x 0 ∧ dgN x 0 ≤ 7) then 1 else if ¬ (3 ≤ dgN x 1 ∧ dgN x 1 ≤ 7) then 2 else lkO x.1 (2 + lkR x * laC x) (fstN (lkP x) (lkR x * laC x) 2)
theorem gI_lk (n e : Nat) (o : Option Nat) : gI (lkO n e o) = match o with
  | some q => nI q
  | none => if n ≤ e then -1 else nI e := by
  cases o with
  | some q => rfl
  | none =>
    show gI (if e < n then e + 1 else 0) = if n ≤ e then -1 else nI e
    by_cases c : n ≤ e
    · rw [if_pos c, if_neg (by omega)]; rfl
    · rw [if_neg c, if_pos (by omega)]; rfl
theorem X_lf_N {σ : xs} {x : Nat × (Nat → Nat)} (h : XT σ x) (hX : okX x) {e : Nat} : ∀ k i, k + i = e → X_lf σ x.1 e k i = gI (lkO x.1 e (fstN (lkP x) k i))
  | 0, i, hk => (gI_lk x.1 e none).symm
  | k + 1, i, hk => by
    show (if e ≤ i then (if x.1 ≤ e then -1 else nI e) else if ¬ X_at σ x.1 i = nI 46 ∧ ¬ X_at σ x.1 i = nI 35 then nI i else X_lf σ x.1 e k (i + 1)) = _
    have hl := atx_lt (j := i) hX
    have q1 : X_at σ x.1 i = nI 46 ↔ atN x i = 47 := by rw [X_at_N h]; exact gI_eqN (by omega) (by omega)
    have q2 : X_at σ x.1 i = nI 35 ↔ atN x i = 36 := by rw [X_at_N h]; exact gI_eqN (by omega) (by omega)
    rw [if_neg (by omega)]
    by_cases c : ¬ atN x i = 47 ∧ ¬ atN x i = 36
    · have e1 : fstN (lkP x) (k + 1) i = some i := if_pos (lkP_t.mpr c)
      rw [if_pos ⟨fun z => c.1 (q1.mp z), fun z => c.2 (q2.mp z)⟩, e1]; rfl
    · have e1 : fstN (lkP x) (k + 1) i = fstN (lkP x) k (i + 1) := if_neg (fun z => c (lkP_t.mp z))
      rw [if_neg (fun z => c ⟨fun y => z.1 (q1.mpr y), fun y => z.2 (q2.mpr y)⟩), e1]
      exact X_lf_N h hX k (i + 1) (by omega)
theorem X_lft_N {σ : xs} {x : Nat × (Nat → Nat)} (h : XT σ x) (hX : okX x) : X_lft σ x.1 = gI (laF x) := by
  have h0 := (dg_le (x := x) (j := 0)).1
  have h1 := (dg_le (x := x) (j := 1)).1
  have key : ∀ j, dgN x j ≤ 10 → ((X_dig σ x.1 j < nI 2 ∨ nI 6 < X_dig σ x.1 j) ↔ ¬ (3 ≤ dgN x j ∧ dgN x j ≤ 7)) := by
    intro j hj
    rw [X_dig_N h hX]
    have a1 : gI (dgN x j) < nI 2 ↔ dgN x j < 3 := gI_ltN (b := 3) (by omega) (by omega)
    have a2 : nI 6 < gI (dgN x j) ↔ 7 < dgN x j := gI_ltN (a := 7) (by omega) (by omega)
    rw [a1, a2]; omega
  unfold X_lft laF
  by_cases c0 : ¬ (3 ≤ dgN x 0 ∧ dgN x 0 ≤ 7)
  · rw [if_pos ((key 0 h0).mpr c0), if_pos c0]; rfl
  · rw [if_neg (fun q => c0 ((key 0 h0).mp q)), if_neg c0]
    by_cases c1 : ¬ (3 ≤ dgN x 1 ∧ dgN x 1 ≤ 7)
    · rw [if_pos ((key 1 h1).mpr c1), if_pos c1]; rfl
    · rw [if_neg (fun q => c1 ((key 1 h1).mp q)), if_neg c1]
      have e0 : (X_dig σ x.1 0).toNatClampNeg = lkR x := by rw [X_dig_N h hX, (gI_c (by omega)).2 (by omega), nI_clamp (by omega)]; rfl
      have e1 : (X_dig σ x.1 1).toNatClampNeg = laC x := by rw [X_dig_N h hX, (gI_c (by omega)).2 (by omega), nI_clamp (by omega)]; rfl
      rw [e0, e1]
      exact X_lf_N h hX _ 2 (by omega)
theorem lk_0 {x : Nat × (Nat → Nat)} (h : laF x = 0) : (3 ≤ dgN x 0 ∧ dgN x 0 ≤ 7) ∧ (3 ≤ dgN x 1 ∧ dgN x 1 ≤ 7) ∧ x.1 ≤ 2 + lkR x * laC x ∧ 2 ≤ lkR x ∧ lkR x ≤ 6 ∧ 2 ≤ laC x ∧ laC x ≤ 6 := by
  unfold laF at h
  by_cases c0 : ¬ (3 ≤ dgN x 0 ∧ dgN x 0 ≤ 7)
  · rw [if_pos c0] at h; omega
  · rw [if_neg c0] at h
    by_cases c1 : ¬ (3 ≤ dgN x 1 ∧ dgN x 1 ≤ 7)
    · rw [if_pos c1] at h; omega
    · rw [if_neg c1] at h
      refine ⟨by omega, by omega, ?_, by unfold lkR; omega, by unfold lkR; omega, by unfold laC; omega, by unfold laC; omega⟩
      cases q : fstN (lkP x) (lkR x * laC x) 2 with
      | some p => rw [q] at h; have : p + 1 = 0 := h; omega
      | none =>
        rw [q] at h
        replace h : (if 2 + lkR x * laC x < x.1 then 2 + lkR x * laC x + 1 else 0) = 0 := h
        by_cases z : 2 + lkR x * laC x < x.1
        · rw [if_pos z] at h; omega
        · omega
/-- a lake as it was told -/
def lkE (e : xe) (x : Nat × (Nat → Nat)) : xe := ((fun k => if k = 0 then lkR x else if k = 1 then laC x else if k = 2 then 0 else e.1 k), eK e, eS e, eF e, (fun f => if atN x (2 + f) = 36 then 1 else 0), eW e)
def lkV (v : sv) : sv := upv (upv (upv v 0 5 0) 0 0 0) 0 4 0
def lkW (w : wv) : wv := (lkE (wE w) (wX w), lkV (wV w), (0, (wX w).2), wD w, [], (fun _ => none), (0, (wS w).2))
def a_lake (w : wv) : Int32 × wv := if laF (wX w) = 0 then (nI (lkR (wX w) * laC (wX w)), lkW w) else ((-1) - nI (laF (wX w) - 1), txC w)
def nc_lake (w : wv) (c : Nat) : Nat := if laF (wX w) = 0 then c + 1 else c
theorem laF_lt {x : Nat × (Nat → Nat)} (hX : okX x) : laF x ≤ 100 := by
  have h0 := (dg_le (x := x) (j := 0)).1
  have h1 := (dg_le (x := x) (j := 1)).1
  unfold laF
  split
  · omega
  · split
    · omega
    · rename_i c0 c1
      have hR : lkR x ≤ 6 := by unfold lkR; omega
      have hC : laC x ≤ 6 := by unfold laC; omega
      have hm : lkR x * laC x ≤ 36 := Nat.mul_le_mul hR hC
      cases q : fstN (lkP x) (lkR x * laC x) 2 with
      | some p => have := (fst_some _ _ _ q).2.1; show p + 1 ≤ 100; omega
      | none => show (if _ < x.1 then _ else 0) ≤ 100; split <;> omega
/-- what the class has of a lake told anew -/
def lkS (σ : xs) (n : Nat) : xs := wF (wF (wF (wF (wF (wF (wF (wF (X_tk σ n 36) 9 2 (nI 0)) 20 5 (nI 0)) 20 0 (nI 0)) 20 4 (nI 0)) 35 2 (nI 0)) 112 3 (nI 0)) 0 14 (nI 0)) 1 1 (nI 0)
theorem XW.lake {σ : xs} {w : wv} (h : XW σ w) (hX : okX (wX w)) (h0 : laF (wX w) = 0) : XW (lkS σ (wX w).1) (lkW w) ∧ XF σ (lkS σ (wX w).1) := by
  obtain ⟨k1, k2, k3, k4, k5, k6, k7⟩ := lk_0 h0
  have hf : Fq (fun c => c = 6) (fun c k => c = 5 ∨ c = 9 ∨ c = 20 ∨ (c = 35 ∧ k = 2) ∨ c = 112 ∨ (c = 0 ∧ k = 14) ∨ (c = 1 ∧ k = 1)) (fun _ => False) σ (lkS σ (wX w).1) := by
    unfold lkS X_tk X_tk0
    exact Fq.tr (Fq.tr (Fq.tr (Fq.tr (Fq.tr (Fq.tr (Fq.tr (Fq.tr (Fq.tr (Fq.tr (Fq.wF (by omega)) (Fq.wF (by omega))) (Fq.wA rfl)) (Fq.wF (by omega))) (Fq.wF (by omega))) (Fq.wF (by omega))) (Fq.wF (by omega))) (Fq.wF (by omega))) (Fq.wF (by omega))) (Fq.wF (by omega))) (Fq.wF (by omega))
  have hR := h.v.R
  obtain ⟨⟨⟨⟨a1, a2, a3, a4⟩, a5, a6, a7, a8⟩, b1, b2, b3, b4⟩, v, x, d, u, k, s⟩ := h
  refine ⟨⟨⟨⟨⟨?_, ?_, rfl, ?_⟩, fun i hi => ?_, fun i hi => ?_, fun f hf2 => ?_, ?_⟩, b1, b2, b3, ?_⟩, ⟨fun k hk => ?_, fun i hi => ?_⟩, ⟨rfl, fun i hi => absurd hi (Nat.not_lt_zero i)⟩, d.fq hf id (by omega), ?_, ?_, ⟨rfl, fun i hi => absurd hi (Nat.not_lt_zero i)⟩⟩, hf.XF (fun c hc => by omega) (fun c k hc => by omega) (fun c hc => id)⟩
  · show X_dig σ (wX w).1 0 = nI (lkR (wX w))
    rw [X_dig_N x hX, (gI_c (by omega)).2 (by omega)]; rfl
  · show X_dig σ (wX w).1 1 = nI (laC (wX w))
    rw [X_dig_N x hX, (gI_c (by omega)).2 (by omega)]; rfl
  · exact a4
  · exact a5 i hi
  · exact a6 i hi
  · show (if f < 36 then (if X_at σ (wX w).1 (2 + f) = nI 35 then nI 1 else nI 0) else si σ 6 f) = nI (if atN (wX w) (2 + f) = 36 then 1 else 0)
    have hl := atx_lt (j := 2 + f) hX
    have q2 : X_at σ (wX w).1 (2 + f) = nI 35 ↔ atN (wX w) (2 + f) = 36 := by rw [X_at_N x]; exact gI_eqN (by omega) (by omega)
    rw [if_pos hf2]
    by_cases c : atN (wX w) (2 + f) = 36
    · rw [if_pos c, if_pos (q2.mpr c)]
    · rw [if_neg c, if_neg (fun z => c (q2.mp z))]
  · exact a8.fq hf (by omega) (by omega)
  · exact b4.fq hf (by omega) (by omega)
  · obtain ⟨v1, v2⟩ := v
    rcases (show k = 0 ∨ k = 1 ∨ k = 2 ∨ k = 3 ∨ k = 4 ∨ k = 5 by omega) with rfl | rfl | rfl | rfl | rfl | rfl
    · rfl
    · exact v1 1 hk
    · exact v1 2 hk
    · exact v1 3 hk
    · rfl
    · rfl
  · exact v.2 i hi
  · obtain ⟨k, hk, e1, e2, e3⟩ := u
    exact ⟨k, hk, e1, rfl, fun j hj => absurd hj (Nat.not_lt_zero j)⟩
  · exact ⟨0, by omega, rfl, fun i hi => ⟨Nat.zero_testBit i, fun v hv => by cases hv⟩⟩
set_option maxHeartbeats 4000000 in
theorem xc_lake {l : xLa} {d : Nat} {σ : xs} {w : wv} (ho : okQ w) (hw : XW σ w)  (hX : okX (wX w)) : TC l M_X_lake (d + 30) [.ref 0] σ (fun r τ => r = some (.int (a_lake w).1) ∧ XW τ (a_lake w).2 ∧ XF σ τ) := by
  show T l M_X_lake (d + 30) 0 _ [] σ _
  refine T_lv (lv2 := [_, _]) rfl ?_
  have h := XQ.rf hw.v
  have hd0 := hw.2.2.2.1
  have hb0 := ho.fb
  have hb8 := ho.n8
  have hx := hw.2.2.1
  have hx1 := hX.1
  have hl := laF_lt hX
  have hg := gI_1 (g := laF (wX w)) (by omega)
  unfold a_lake
  by_cases cf : laF (wX w) = 0
  · rw [if_pos cf]
    obtain ⟨k1, k2, k3, k4, k5, k6, k7⟩ := lk_0 cf
    have hz := hw.lake hX cf
    refine tt_aload_n d_X_lake_0 rfl ?_
    refine tt_getR d_X_lake_1 rfl rfl (by decide) rfl rfl ?_
    refine tt_aload_n d_X_lake_4 rfl ?_
    refine tt_getR d_X_lake_5 rfl rfl (by decide) rfl rfl ?_
    refine tt_callV (x_Lake_faultIn (d := d) hx.1 hx1) cw_Lake_faultIn rfl rfl (by decide) rfl (by omega) d_X_lake_8 rfl rfl (Nat.le_of_ble_eq_true rfl) (Nat.le_of_ble_eq_true rfl) rfl rfl rfl (fun v σ2 q => ?_)
    obtain ⟨rfl, e9⟩ := q
    rw [e9, X_lft_N hx hX]
    clear e9
    refine tt_istore_n (lv2 := [_, _]) d_X_lake_11 (by decide) rfl ?_
    refine tt_iload_n d_X_lake_12 rfl ?_
    refine tt_iconst (v := (-1)) d_X_lake_13 (by decide) ?_
    refine tt_ic_ne (t := 79) d_X_lake_14 (by decide) (fun c_14 => ?_) (fun c_14 => ?_)
    · exact absurd (hg.mpr cf) c_14
    · refine tt_aload_n d_X_lake_17 rfl ?_
      refine tt_getR d_X_lake_18 rfl rfl (by decide) rfl rfl ?_
      refine tt_aload_n d_X_lake_21 rfl ?_
      refine tt_getR d_X_lake_22 rfl rfl (by decide) rfl rfl ?_
      refine tt_callV (x_Lake_take (d := d) hx.1 hx1) cw_Lake_take rfl rfl (by decide) rfl (by omega) d_X_lake_25 rfl rfl (Nat.le_of_ble_eq_true rfl) (Nat.le_of_ble_eq_true rfl) rfl rfl rfl (fun v σ2 q => ?_)
      obtain ⟨rfl, e9⟩ := q
      rw [e9]
      clear e9
      refine tt_aload_n d_X_lake_28 rfl ?_
      refine tt_getR d_X_lake_29 rfl rfl (by decide) rfl rfl ?_
      refine tt_iconst (v := nI 0) d_X_lake_32 (by decide) ?_
      refine tt_putI d_X_lake_33 rfl rfl (by decide) rfl (xpok_int rfl) rfl ?_
      refine tt_aload_n d_X_lake_36 rfl ?_
      refine tt_getR d_X_lake_37 rfl rfl (by decide) rfl rfl ?_
      refine tt_iconst (v := nI 0) d_X_lake_40 (by decide) ?_
      refine tt_putI d_X_lake_41 rfl rfl (by decide) rfl (xpok_int rfl) rfl ?_
      refine tt_aload_n d_X_lake_44 rfl ?_
      refine tt_getR d_X_lake_45 rfl rfl (by decide) rfl rfl ?_
      refine tt_iconst (v := nI 0) d_X_lake_48 (by decide) ?_
      refine tt_putI d_X_lake_49 rfl rfl (by decide) rfl (xpok_int rfl) rfl ?_
      refine tt_aload_n d_X_lake_52 rfl ?_
      refine tt_getR d_X_lake_53 rfl rfl (by decide) rfl rfl ?_
      refine tt_iconst (v := nI 0) d_X_lake_56 (by decide) ?_
      refine tt_putI d_X_lake_57 rfl rfl (by decide) rfl (xpok_int rfl) rfl ?_
      refine tt_aload_n d_X_lake_60 rfl ?_
      refine tt_getR d_X_lake_61 rfl rfl (by decide) rfl rfl ?_
      refine tt_callV (x_Past_clear (d := d)) cw_Past_clear rfl rfl (by decide) rfl (by omega) d_X_lake_64 rfl rfl (Nat.le_of_ble_eq_true rfl) (Nat.le_of_ble_eq_true rfl) rfl rfl rfl (fun v σ2 q => ?_)
      obtain ⟨rfl, e9⟩ := q
      rw [e9]
      clear e9
      refine tt_aload_n d_X_lake_67 rfl ?_
      refine tt_getR d_X_lake_68 rfl rfl (by decide) rfl rfl ?_
      refine tt_callV (x_Sights_clear (d := d)) cw_Sights_clear rfl rfl (by decide) rfl (by omega) d_X_lake_71 rfl rfl (Nat.le_of_ble_eq_true rfl) (Nat.le_of_ble_eq_true rfl) rfl rfl rfl (fun v σ2 q => ?_)
      obtain ⟨rfl, e9⟩ := q
      rw [e9]
      clear e9
      refine tt_aload_n d_X_lake_74 rfl ?_
      refine tt_iconst (v := nI 0) d_X_lake_75 (by decide) ?_
      refine tt_putI d_X_lake_76 rfl rfl (by decide) rfl (xpok_int rfl) rfl ?_
      refine tt_aload_n d_X_lake_79 rfl ?_
      refine tt_getR d_X_lake_80 rfl rfl (by decide) rfl rfl ?_
      refine tt_callV (x_Text_clear (d := d)) cw_Text_clear rfl rfl (by decide) rfl (by omega) d_X_lake_83 rfl rfl (Nat.le_of_ble_eq_true rfl) (Nat.le_of_ble_eq_true rfl) rfl rfl rfl (fun v σ2 q => ?_)
      obtain ⟨rfl, e9⟩ := q
      rw [e9]
      clear e9
      refine tt_iload_n d_X_lake_86 rfl ?_
      refine tt_iconst (v := (-1)) d_X_lake_87 (by decide) ?_
      refine tt_ic_ne (t := 101) d_X_lake_88 (by decide) (fun c_88 => ?_) (fun c_88 => ?_)
      · exact absurd (hg.mpr cf) c_88
      · refine tt_aload_n d_X_lake_91 rfl ?_
        refine tt_getR d_X_lake_92 rfl rfl (by decide) rfl rfl ?_
        refine tt_callV (x_Lake_fields (d := d) (R := lkR (wX w)) (C := laC (wX w)) hz.1.1.1.1.1 hz.1.1.1.1.2.1 k5 k7 (by omega)) cw_Lake_fields rfl rfl (by decide) rfl (by omega) d_X_lake_95 rfl rfl (Nat.le_of_ble_eq_true rfl) (Nat.le_of_ble_eq_true rfl) rfl rfl rfl (fun v σ2 q => ?_)
        obtain ⟨rfl, e9⟩ := q
        rw [e9]
        clear e9
        refine tt_goto (t := 104) d_X_lake_98 (by decide) ?_
        refine tt_iret rfl d_X_lake_104 ?_
        exact ⟨rfl, hz⟩
  · rw [if_neg cf]
    refine tt_aload_n d_X_lake_0 rfl ?_
    refine tt_getR d_X_lake_1 rfl rfl (by decide) rfl rfl ?_
    refine tt_aload_n d_X_lake_4 rfl ?_
    refine tt_getR d_X_lake_5 rfl rfl (by decide) rfl rfl ?_
    refine tt_callV (x_Lake_faultIn (d := d) hx.1 hx1) cw_Lake_faultIn rfl rfl (by decide) rfl (by omega) d_X_lake_8 rfl rfl (Nat.le_of_ble_eq_true rfl) (Nat.le_of_ble_eq_true rfl) rfl rfl rfl (fun v σ2 q => ?_)
    obtain ⟨rfl, e9⟩ := q
    rw [e9, X_lft_N hx hX]
    clear e9
    refine tt_istore_n (lv2 := [_, _]) d_X_lake_11 (by decide) rfl ?_
    refine tt_iload_n d_X_lake_12 rfl ?_
    refine tt_iconst (v := (-1)) d_X_lake_13 (by decide) ?_
    refine tt_ic_ne (t := 79) d_X_lake_14 (by decide) (fun c_14 => ?_) (fun c_14 => ?_)
    · refine tt_aload_n d_X_lake_79 rfl ?_
      refine tt_getR d_X_lake_80 rfl rfl (by decide) rfl rfl ?_
      refine tt_callV (x_Text_clear (d := d)) cw_Text_clear rfl rfl (by decide) rfl (by omega) d_X_lake_83 rfl rfl (Nat.le_of_ble_eq_true rfl) (Nat.le_of_ble_eq_true rfl) rfl rfl rfl (fun v σ2 q => ?_)
      obtain ⟨rfl, e9⟩ := q
      rw [e9]
      clear e9
      refine tt_iload_n d_X_lake_86 rfl ?_
      refine tt_iconst (v := (-1)) d_X_lake_87 (by decide) ?_
      refine tt_ic_ne (t := 101) d_X_lake_88 (by decide) (fun c_88 => ?_) (fun c_88 => ?_)
      · refine tt_iconst (v := (-1)) d_X_lake_101 (by decide) ?_
        refine tt_iload_n d_X_lake_102 rfl ?_
        rw [(gI_c (show laF (wX w) < 2 ^ 31 by omega)).2 cf]
        refine tt_isub d_X_lake_103 ?_
        refine tt_iret rfl d_X_lake_104 ?_
        exact ⟨rfl, hw.tx⟩
      · exact absurd (hg.mp (Decidable.not_not.mp c_88)) cf
    · exact absurd (hg.mp (Decidable.not_not.mp c_14)) cf

theorem di_dg {x : Nat × (Nat → Nat)} {a L H : Nat} (hH : H ≤ 10) : (diN x.2 x.1 a L H = 0 ↔ ¬ (L + 1 ≤ dgN x a ∧ dgN x a ≤ H)) ∧ (¬ diN x.2 x.1 a L H = 0 → diN x.2 x.1 a L H = dgN x a ∧ a < x.1) := by
  obtain ⟨h1, h2, h3⟩ := dg_le (x := x) (j := a)
  unfold diN
  by_cases c : a < x.1 ∧ 48 + L ≤ x.2 a ∧ x.2 a < 48 + H
  · rw [if_pos c]
    have := h2 (fun q => h3 q ⟨c.1, by omega, by omega⟩)
    exact ⟨by omega, fun _ => by omega⟩
  · rw [if_neg c]
    refine ⟨⟨fun _ q => ?_, fun _ => rfl⟩, fun q => absurd rfl q⟩
    have := h2 (by omega)
    omega
theorem nI_ne {a b : Nat} (ha : a < 2 ^ 30) (hb : b < 2 ^ 30) : nI a = nI b ↔ a = b := by
  refine ⟨fun q => ?_, fun q => by rw [q]⟩
  have := congrArg Int32.toInt q
  rw [nI_toInt (by omega), nI_toInt (by omega)] at this
  omega
theorem to_1 {x : Nat × (Nat → Nat)} (hX : okX x) {a : Nat} : toN 1 x.2 x.1 a = if atN x a = 47 then some 0 else if atN x a = 36 then some 1 else none := by
  unfold toN atN
  by_cases c : a < x.1
  · have hx := hX.2 a c
    rw [if_pos c, if_pos c]
    show (if decide ((46 : Int32) = nI (x.2 a)) = true then some 0 else if decide ((35 : Int32) = nI (x.2 a)) = true then some 1 else none) = _
    have q1 : (46 : Int32) = nI (x.2 a) ↔ x.2 a + 1 = 47 := (nI_ne (a := 46) (by omega) (by omega)).trans (by omega)
    have q2 : (35 : Int32) = nI (x.2 a) ↔ x.2 a + 1 = 36 := (nI_ne (a := 35) (by omega) (by omega)).trans (by omega)
    by_cases c1 : x.2 a + 1 = 47
    · rw [if_pos c1, if_pos (decide_eq_true (q1.mpr c1))]
    · rw [if_neg c1, if_neg (fun z => c1 (q1.mp (of_decide_eq_true z)))]
      by_cases c2 : x.2 a + 1 = 36
      · rw [if_pos c2, if_pos (decide_eq_true (q2.mpr c2))]
      · rw [if_neg c2, if_neg (fun z => c2 (q2.mp (of_decide_eq_true z)))]
  · rw [if_neg c, if_neg c, if_neg (by omega), if_neg (by omega)]
theorem yq_163 {c : Nat} {w : wv} {σ τ : xs} {i : Nat} {x : Int32} (h : YQ c w σ τ) : YQ c w σ (wI τ 163 i x) := h.fq (Fq.wI (by unfold YqA; omega))
theorem RT_163 {τ : xs} {t : Nat → Nat} {to a i : Nat} {x : Int32} (h : RT τ t to a) : RT (wI τ 163 i x) t to a := ⟨h.1, h.2.1, h.2.2.1, h.2.2.2⟩
/-- the reference's lake, told anew -/
theorem YW.lake {c : Nat} {w : wv} {σ τ υ : xs} (h : YQ c (txC w) σ τ) (hd : YD τ (wD w)) (hf : Fq (fun c => c = 156 ∨ c = 160) (fun c k => c = 154 ∧ (k = 3 ∨ k = 4 ∨ k = 5 ∨ k = 6 ∨ k = 30 ∨ k = 41)) (fun _ => False) τ υ) (h3 : sf υ 154 3 = nI (lkR (wX w))) (h4 : sf υ 154 4 = nI (laC (wX w))) (h5 : sf υ 154 5 = nI 0) (h6 : sf υ 154 6 = nI (c + 1)) (h30 : sf υ 154 30 = nI 0) (h41 : sf υ 154 41 = nI 0) (hs : ∀ f, f < lkR (wX w) * laC (wX w) → si υ 156 f = nI (if atN (wX w) (2 + f) = 36 then 1 else 0)) (hv : ∀ k, k < 38 → si υ 160 k = if k = 0 ∨ k = 37 ∨ k = 33 then nI 0 else si τ 160 k) : YW υ (c + 1) (lkW w) ∧ YF σ υ := by
  obtain ⟨⟨⟨⟨⟨a1, a2, a3, a4⟩, a5, a6, a7⟩, b⟩, ⟨⟨v1, v2, v3, v4, v5, v6⟩, v7⟩, x, u, k, s⟩, y⟩ := h
  have gi : ∀ c, ¬ c = 156 → ¬ c = 160 → si υ c = si τ c := fun c h1 h2 => hf.1 c (by omega)
  refine ⟨⟨⟨⟨⟨h3, h4, h5, by rw [hf.2.1 154 7 (by omega)]; exact a4⟩, fun i hi => absurd hi (Nat.not_lt_zero i), fun i hi => by rw [gi 157 (by decide) (by decide)]; exact a6 i hi, hs⟩, b.fq hf (by omega) (by omega)⟩, ⟨⟨?_, ?_, ?_, ?_, ?_, ?_⟩, fun i hi => absurd hi (Nat.not_lt_zero i)⟩, x.fq hf (by omega) (by omega), hd.fq hf id (by omega), ⟨h30, fun j hj => absurd hj (Nat.not_lt_zero j)⟩, ⟨h6, fun i hi => ?_⟩, ⟨h41, fun i hi => absurd hi (Nat.not_lt_zero i)⟩⟩, y.tr (hf.YF (fun c hc => by omega) (fun c k hc => by omega) (fun c hc => id))⟩
  · rw [hv 0 (by decide)]; rfl
  · rw [hv 33 (by decide)]; rfl
  · rw [hv 34 (by decide)]; exact v3
  · rw [hv 35 (by decide)]; exact v4
  · rw [hv 36 (by decide)]; exact v5
  · rw [hv 37 (by decide)]; rfl
  · obtain ⟨b1, k1, q1, q2, q3, q4, q5, q6⟩ := k.2 i hi
    rw [gi 186 (by decide) (by decide), gi 187 (by decide) (by decide)]
    exact ⟨b1, k1, q1, by omega, q3, q4, ⟨fun z => (by cases z), fun z => (by omega)⟩, fun v hv => (by cases hv)⟩
theorem lk_none {x : Nat × (Nat → Nat)} (k1 : 3 ≤ dgN x 0 ∧ dgN x 0 ≤ 7) (k2 : 3 ≤ dgN x 1 ∧ dgN x 1 ≤ 7) (h : fstN (lkP x) (lkR x * laC x) 2 = none) : laF x = if 2 + lkR x * laC x < x.1 then 2 + lkR x * laC x + 1 else 0 := by
  unfold laF
  rw [if_neg (nnN k1), if_neg (nnN k2), h]
  rfl
theorem lk_some {x : Nat × (Nat → Nat)} {q : Nat} (k1 : 3 ≤ dgN x 0 ∧ dgN x 0 ≤ 7) (k2 : 3 ≤ dgN x 1 ∧ dgN x 1 ≤ 7) (h : fstN (lkP x) (lkR x * laC x) 2 = some q) : laF x = q + 1 := by
  unfold laF
  rw [if_neg (nnN k1), if_neg (nnN k2), h]
  rfl
theorem to_1c {x : Nat × (Nat → Nat)} (hX : okX x) {a : Nat} : (arI (toN 1 x.2 x.1 a) = nI 1 ↔ atN x a = 36) ∧ (arI (toN 1 x.2 x.1 a) < 0 ↔ lkP x a = true) ∧ opN (toN 1 x.2 x.1 a) = (if lkP x a = true then 0 else 1) := by
  rw [to_1 hX]
  by_cases c1 : atN x a = 47
  · have c3 : ¬ lkP x a = true := fun q => (lkP_t.mp q).1 c1
    rw [if_pos c1, if_neg c3]
    exact ⟨⟨fun q => absurd q (by decide), fun q => by omega⟩, ⟨fun q => absurd q (by decide), fun q => absurd q c3⟩, rfl⟩
  · rw [if_neg c1]
    by_cases c2 : atN x a = 36
    · have c3 : ¬ lkP x a = true := fun q => (lkP_t.mp q).2 c2
      rw [if_pos c2, if_neg c3]
      exact ⟨⟨fun _ => c2, fun _ => rfl⟩, ⟨fun q => absurd q (by decide), fun q => absurd q c3⟩, rfl⟩
    · have c3 : lkP x a = true := lkP_t.mpr ⟨c1, c2⟩
      rw [if_neg c2, if_pos c3]
      exact ⟨⟨fun q => absurd q (by decide), fun q => absurd q c2⟩, ⟨fun _ => c3, fun _ => by decide⟩, rfl⟩
set_option maxHeartbeats 4000000 in
theorem y_lake2 {l : xLa} {d : Nat} {σ : xs} {c : Nat} {w : wv} {τ0 : xs} {z : Option Int32} (ho : okQ w) (hX : okX (wX w)) (h0 : laF (wX w) = 0) (hk5 : lkR (wX w) ≤ 6) (hk6 : 2 ≤ laC (wX w)) (hk7 : laC (wX w) ≤ 6) (h : YQ c (txC w) σ τ0) (hd : YD τ0 (wD w)) (hrd : ∀ j, j < lkR (wX w) * laC (wX w) → si τ0 163 j = nI (if atN (wX w) (2 + j) = 36 then 1 else 0)) : ∀ (m : Nat) (i : Nat) (τ : xs), lkR (wX w) * laC (wX w) - i = m → i ≤ lkR (wX w) * laC (wX w) → Fq (fun c => c = 156) (fun c k => c = 154 ∧ (k = 3 ∨ k = 4)) (fun _ => False) τ0 τ → sf τ 154 3 = nI (lkR (wX w)) → sf τ 154 4 = nI (laC (wX w)) → (∀ j, j < i → si τ 156 j = nI (if atN (wX w) (2 + j) = 36 then 1 else 0)) → T l M_Y_lake (d + 150) 139 [some (.ref 154), some (.int (nI (lkR (wX w)))), some (.int (nI (laC (wX w)))), some (.int (nI 1)), some (.int (nI i)), z.map Value.int] [] τ (fun r τ => r = some (.int (a_lake w).1) ∧ YW τ (nc_lake w c) (a_lake w).2 ∧ YF σ τ) := by
  have hb0 := ho.fb
  have hb8 := ho.n8
  intro m
  induction m using Nat.strongRecOn with
  | ind m ih =>
    intro i τ hm hi hf h3 h4 hs
    have hrc : lkR (wX w) * laC (wX w) ≤ 36 := Nat.mul_le_mul hk5 hk7
    have hch := h.1.2.2.2.2.1.1
    refine tt_iload d_Y_lake_139 rfl ?_
    refine tt_aload_n d_Y_lake_141 rfl ?_
    refine tt_callV (y_fields (d := d) h3 h4 hk5 hk7 (by omega)) cw_Y_fields rfl rfl (by decide) rfl (by omega) d_Y_lake_142 rfl rfl (Nat.le_of_ble_eq_true rfl) (Nat.le_of_ble_eq_true rfl) rfl rfl rfl (fun v σ2 q => ?_)
    obtain ⟨rfl, e9⟩ := q
    rw [e9]
    clear e9
    refine tn_ic_ge (t := 168) (by omega) (by omega) d_Y_lake_145 (by decide) (fun c_145 => ?_) (fun c_145 => ?_)
    · obtain rfl : i = lkR (wX w) * laC (wX w) := by omega
      refine tt_aload_n d_Y_lake_168 rfl ?_
      refine tt_getR d_Y_lake_169 rfl rfl (by decide) rfl rfl ?_
      refine tt_iconst (v := nI 0) d_Y_lake_172 (by decide) ?_
      refine tt_iconst (v := nI 0) d_Y_lake_173 (by decide) ?_
      refine tn_iast d_Y_lake_174 rfl (by decide) (by omega) ?_
      refine tt_aload_n d_Y_lake_175 rfl ?_
      refine tt_getR d_Y_lake_176 rfl rfl (by decide) rfl rfl ?_
      refine tt_bipush (v := nI 37) d_Y_lake_179 (by decide) ?_
      refine tt_iconst (v := nI 0) d_Y_lake_181 (by decide) ?_
      refine tn_iast d_Y_lake_182 rfl (by decide) (by omega) ?_
      refine tt_aload_n d_Y_lake_183 rfl ?_
      refine tt_getR d_Y_lake_184 rfl rfl (by decide) rfl rfl ?_
      refine tt_bipush (v := nI 33) d_Y_lake_187 (by decide) ?_
      refine tt_iconst (v := nI 0) d_Y_lake_189 (by decide) ?_
      refine tn_iast d_Y_lake_190 rfl (by decide) (by omega) ?_
      refine tt_aload_n d_Y_lake_191 rfl ?_
      refine tt_iconst (v := nI 0) d_Y_lake_192 (by decide) ?_
      refine tt_putI d_Y_lake_193 rfl rfl (by decide) rfl (xpok_int rfl) rfl ?_
      refine tt_aload_n d_Y_lake_196 rfl ?_
      refine tt_iconst (v := nI 0) d_Y_lake_197 (by decide) ?_
      refine tt_putI d_Y_lake_198 rfl rfl (by decide) rfl (xpok_int rfl) rfl ?_
      refine tt_aload_n d_Y_lake_201 rfl ?_
      refine tt_dup d_Y_lake_202 rfl ?_
      refine tn_get d_Y_lake_203 rfl rfl (by decide) rfl (show _ = nI c from (hf.2.1 154 6 (by omega)).trans hch) ?_
      refine tt_iconst (v := nI 1) d_Y_lake_206 (by decide) ?_
      refine tn_iadd d_Y_lake_207 ?_
      refine tt_putI d_Y_lake_208 rfl rfl (by decide) rfl (xpok_int rfl) rfl ?_
      refine tt_aload_n d_Y_lake_211 rfl ?_
      refine tt_iconst (v := nI 0) d_Y_lake_212 (by decide) ?_
      refine tt_putI d_Y_lake_213 rfl rfl (by decide) rfl (xpok_int rfl) rfl ?_
      refine tt_aload_n d_Y_lake_216 rfl ?_
      refine tt_callV (y_fields (d := d) h3 h4 hk5 hk7 (by omega)) cw_Y_fields rfl rfl (by decide) rfl (by omega) d_Y_lake_217 rfl rfl (Nat.le_of_ble_eq_true rfl) (Nat.le_of_ble_eq_true rfl) rfl rfl rfl (fun v σ2 q => ?_)
      obtain ⟨rfl, e9⟩ := q
      rw [e9]
      clear e9
      refine tt_iret rfl d_Y_lake_220 ?_
      unfold a_lake nc_lake
      rw [if_pos h0, if_pos h0]
      have hfr : Fq (fun c => c = 156 ∨ c = 160) (fun c k => c = 154 ∧ (k = 3 ∨ k = 4 ∨ k = 5 ∨ k = 6 ∨ k = 30 ∨ k = 41)) (fun _ => False) τ0 (wF (wF (wF (wF (wI (wI (wI τ 160 0 (nI 0)) 160 37 (nI 0)) 160 33 (nI 0)) 154 5 (nI 0)) 154 30 (nI 0)) 154 6 (nI (c + 1))) 154 41 (nI 0)) := Fq.tr (Fq.tr (Fq.tr (Fq.tr (Fq.tr (Fq.tr (Fq.tr (hf.mono (fun c q => Or.inl q) (fun c k q => by omega) (fun _ q => q)) (Fq.wI (Or.inr rfl))) (Fq.wI (Or.inr rfl))) (Fq.wI (Or.inr rfl))) (Fq.wF (by omega))) (Fq.wF (by omega))) (Fq.wF (by omega))) (Fq.wF (by omega))
      refine ⟨rfl, YW.lake h hd hfr h3 h4 rfl rfl rfl rfl hs (fun k hk => ?_)⟩
      show (if 160 = 160 ∧ k = 33 then nI 0 else if 160 = 160 ∧ k = 37 then nI 0 else if 160 = 160 ∧ k = 0 then nI 0 else si τ 160 k) = _
      rw [hf.1 160 (by decide)]
      by_cases z1 : k = 33
      · rw [if_pos ⟨rfl, z1⟩, if_pos (by omega)]
      · rw [if_neg (fun q => z1 q.2)]
        by_cases z2 : k = 37
        · rw [if_pos ⟨rfl, z2⟩, if_pos (by omega)]
        · rw [if_neg (fun q => z2 q.2)]
          by_cases z3 : k = 0
          · rw [if_pos ⟨rfl, z3⟩, if_pos (by omega)]
          · rw [if_neg (fun q => z3 q.2), if_neg (by omega)]
    · refine tt_aload_n d_Y_lake_148 rfl ?_
      refine tt_getR d_Y_lake_149 rfl rfl (by decide) rfl rfl ?_
      refine tt_iload d_Y_lake_152 rfl ?_
      refine tt_aload_n d_Y_lake_154 rfl ?_
      refine tt_getR d_Y_lake_155 rfl rfl (by decide) rfl rfl ?_
      refine tt_iload d_Y_lake_158 rfl ?_
      refine tn_zald d_Y_lake_160 rfl (by decide) (by omega) (show _ = nI (if atN (wX w) (2 + i) = 36 then 1 else 0) from by rw [hf.1 163 (by decide)]; exact hrd i (by omega)) ?_
      refine tn_zast d_Y_lake_161 rfl (by decide) (by omega) (show vp_nar .boolean _ = nI (if atN (wX w) (2 + i) = 36 then 1 else 0) from by split <;> rfl) ?_
      refine tt_iinc (lv2 := [_, _, _, _, _, _]) d_Y_lake_162 rfl (nI_inc _ 1) (by decide) rfl ?_
      refine tt_goto (t := 139) d_Y_lake_165 (by decide) ?_
      refine ih (lkR (wX w) * laC (wX w) - (i + 1)) (by omega) (i + 1) _ rfl (by omega) (hf.tr (Fq.wI rfl)) h3 h4 (fun j hj => ?_)
      rw [si_wI]
      by_cases c9 : j = i
      · rw [if_pos ⟨rfl, c9⟩, c9]
      · rw [if_neg (fun q => c9 q.2)]; exact hs j (by omega)

set_option maxHeartbeats 4000000 in
theorem y_lake1 {l : xLa} {d : Nat} {σ : xs} {c : Nat} {w : wv} (ho : okQ w) (hX : okX (wX w)) (k1 : 3 ≤ dgN (wX w) 0 ∧ dgN (wX w) 0 ≤ 7) (k2 : 3 ≤ dgN (wX w) 1 ∧ dgN (wX w) 1 ≤ 7) : ∀ (m : Nat) (i : Nat) (z : Option Int32) (τ : xs), lkR (wX w) * laC (wX w) - i = m → i ≤ lkR (wX w) * laC (wX w) → fstN (lkP (wX w)) (lkR (wX w) * laC (wX w) - i) (2 + i) = fstN (lkP (wX w)) (lkR (wX w) * laC (wX w)) 2 → YQ c (txC w) σ τ → YD τ (wD w) → RT τ (wX w).2 (wX w).1 (2 + i) → (∀ j, j < i → si τ 163 j = nI (if atN (wX w) (2 + j) = 36 then 1 else 0)) → T l M_Y_lake (d + 150) 53 [some (.ref 154), some (.int (nI (lkR (wX w)))), some (.int (nI (laC (wX w)))), some (.int (nI 1)), some (.int (nI i)), z.map Value.int] [] τ (fun r τ => r = some (.int (a_lake w).1) ∧ YW τ (nc_lake w c) (a_lake w).2 ∧ YF σ τ) := by
  have hb0 := ho.fb
  have hb8 := ho.n8
  intro m
  induction m using Nat.strongRecOn with
  | ind m ih =>
    intro i z τ hm hi hfs h hd hR hrd
    have hk5 : lkR (wX w) ≤ 6 := by unfold lkR; omega
    have hk7 : laC (wX w) ≤ 6 := by unfold laC; omega
    have hk6 : 2 ≤ laC (wX w) := by unfold laC; omega
    have hrc : lkR (wX w) * laC (wX w) ≤ 36 := Nat.mul_le_mul hk5 hk7
    have hx1 := hX.1
    have hto := to_1c (a := 2 + i) hX
    refine tt_iload d_Y_lake_53 rfl ?_
    refine tt_iload_n d_Y_lake_55 rfl ?_
    refine tt_iload_n d_Y_lake_56 rfl ?_
    refine tn_imul d_Y_lake_57 ?_
    refine tn_ic_ge (t := 104) (by omega) (by omega) d_Y_lake_58 (by decide) (fun c_58 => ?_) (fun c_58 => ?_)
    · obtain rfl : i = lkR (wX w) * laC (wX w) := by omega
      rw [Nat.sub_self] at hfs
      have hlk := lk_none k1 k2 hfs.symm
      refine tt_iload_n d_Y_lake_104 rfl ?_
      refine tn_if_eq (t := 119) (by omega) d_Y_lake_105 (by decide) (fun c_105 => ?_) (fun c_105 => ?_)
      · omega
      · refine tt_aload_n d_Y_lake_108 rfl ?_
        refine tn_get d_Y_lake_109 rfl rfl (by decide) rfl hR.2.1 ?_
        refine tt_aload_n d_Y_lake_112 rfl ?_
        refine tn_get d_Y_lake_113 rfl rfl (by decide) rfl hR.1 ?_
        refine tn_ic_ge (t := 126) (by omega) (by omega) d_Y_lake_116 (by decide) (fun c_116 => ?_) (fun c_116 => ?_)
        · have h0 : laF (wX w) = 0 := by rw [hlk, if_neg (by omega)]
          refine tt_aload_n d_Y_lake_126 rfl ?_
          refine tt_iload_n d_Y_lake_127 rfl ?_
          refine tt_putI d_Y_lake_128 rfl rfl (by decide) rfl (xpok_int rfl) rfl ?_
          refine tt_aload_n d_Y_lake_131 rfl ?_
          refine tt_iload_n d_Y_lake_132 rfl ?_
          refine tt_putI d_Y_lake_133 rfl rfl (by decide) rfl (xpok_int rfl) rfl ?_
          refine tt_iconst (v := nI 0) d_Y_lake_136 (by decide) ?_
          refine tt_istore (lv2 := [_, _, _, _, _, _]) d_Y_lake_137 (by decide) rfl ?_
          exact y_lake2 ho hX h0 hk5 hk6 hk7 h hd hrd (lkR (wX w) * laC (wX w)) 0 _ rfl (by omega) (Fq.tr (Fq.wF (by omega)) (Fq.wF (by omega))) rfl rfl (fun j q => absurd q (Nat.not_lt_zero j))
        · replace hlk : laF (wX w) = 2 + lkR (wX w) * laC (wX w) + 1 := by rw [hlk, if_pos (by omega)]
          refine tt_iconst (v := (-1)) d_Y_lake_119 (by decide) ?_
          refine tt_aload_n d_Y_lake_120 rfl ?_
          refine tn_get d_Y_lake_121 rfl rfl (by decide) rfl hR.2.1 ?_
          refine tt_isub d_Y_lake_124 ?_
          refine tt_iret rfl d_Y_lake_125 ?_
          unfold a_lake nc_lake
          rw [if_neg (show ¬ laF (wX w) = 0 by omega), if_neg (show ¬ laF (wX w) = 0 by omega), hlk, Nat.add_sub_cancel]
          exact ⟨rfl, h.ww hd, h.2⟩
    · refine tt_aload_n d_Y_lake_61 rfl ?_
      refine E.ldcS (j := 1) rfl rfl rfl d_Y_lake_62 ?_
      refine tt_callV (y_takesOf (d := d) (j := 1) hR (by decide)) cw_Y_takesOf rfl rfl (by decide) rfl (by omega) d_Y_lake_64 rfl rfl (Nat.le_of_ble_eq_true rfl) (Nat.le_of_ble_eq_true rfl) rfl rfl rfl (fun v σ2 q => ?_)
      obtain ⟨rfl, hR2, hF⟩ := q
      rw [hto.2.2] at hR2
      replace h := h.fa hF
      replace hd := hd.fa hF
      replace hrd : ∀ j, j < i → si _ 163 j = nI (if atN (wX w) (2 + j) = 36 then 1 else 0) := fun j q => (congrFun (hF.si 163) j).trans (hrd j q)
      refine tt_istore (lv2 := [_, _, _, _, _, _]) d_Y_lake_67 (by decide) rfl ?_
      refine tt_aload_n d_Y_lake_69 rfl ?_
      refine tt_getR d_Y_lake_70 rfl rfl (by decide) rfl rfl ?_
      refine tt_iload d_Y_lake_73 rfl ?_
      refine tt_iload d_Y_lake_75 rfl ?_
      refine tt_iconst (v := nI 1) d_Y_lake_77 (by decide) ?_
      refine tt_ic_ne (t := 85) d_Y_lake_78 (by decide) (fun c_78 => ?_) (fun c_78 => ?_)
      · have hrk : nI 0 = nI (if atN (wX w) (2 + i) = 36 then 1 else 0) := by rw [if_neg (fun q => c_78 (hto.1.mpr q))]
        refine tt_iconst (v := nI 0) d_Y_lake_85 (by decide) ?_
        refine tn_zast d_Y_lake_86 rfl (by decide) (by omega) (show vp_nar .boolean _ = nI (if atN (wX w) (2 + i) = 36 then 1 else 0) from hrk) ?_
        refine tt_iload d_Y_lake_87 rfl ?_
        refine tt_if_lt (t := 96) d_Y_lake_89 (by decide) (fun c_89 => ?_) (fun c_89 => ?_)
        · have hlp := hto.2.1.mp c_89
          rw [if_pos hlp] at hR2
          have hlk := lk_some (q := 2 + i) k1 k2 (by rw [← hfs, show lkR (wX w) * laC (wX w) - i = lkR (wX w) * laC (wX w) - (i + 1) + 1 by omega]; exact if_pos hlp)
          refine tt_iconst (v := nI 0) d_Y_lake_96 (by decide) ?_
          refine tt_istore_n (lv2 := [_, _, _, _, _, _]) d_Y_lake_97 (by decide) rfl ?_
          refine tt_iinc (lv2 := [_, _, _, _, _, _]) d_Y_lake_98 rfl (nI_inc _ 1) (by decide) rfl ?_
          refine tt_goto (t := 49) d_Y_lake_101 (by decide) ?_
          refine tt_iload_n d_Y_lake_49 rfl ?_
          refine tn_if_eq (t := 104) (by omega) d_Y_lake_50 (by decide) (fun c_50 => ?_) (fun c_50 => ?_)
          · refine tt_iload_n d_Y_lake_104 rfl ?_
            refine tn_if_eq (t := 119) (by omega) d_Y_lake_105 (by decide) (fun c_105 => ?_) (fun c_105 => ?_)
            · refine tt_iconst (v := (-1)) d_Y_lake_119 (by decide) ?_
              refine tt_aload_n d_Y_lake_120 rfl ?_
              refine tn_get d_Y_lake_121 rfl rfl (by decide) rfl hR2.2.1 ?_
              refine tt_isub d_Y_lake_124 ?_
              refine tt_iret rfl d_Y_lake_125 ?_
              unfold a_lake nc_lake
              rw [if_neg (show ¬ laF (wX w) = 0 by omega), if_neg (show ¬ laF (wX w) = 0 by omega), hlk, Nat.add_sub_cancel]
              exact ⟨rfl, (yq_163 (i := i) h).ww (hd.un (τ := wI _ 163 i _) ⟨rfl, rfl⟩), (yq_163 (i := i) h).2⟩
            · omega
          · omega
        · have hlp : ¬ lkP (wX w) (2 + i) = true := fun q => c_89 (hto.2.1.mpr q)
          rw [if_neg hlp] at hR2
          rw [show lkR (wX w) * laC (wX w) - i = lkR (wX w) * laC (wX w) - (i + 1) + 1 by omega, show fstN (lkP (wX w)) (lkR (wX w) * laC (wX w) - (i + 1) + 1) (2 + i) = fstN (lkP (wX w)) (lkR (wX w) * laC (wX w) - (i + 1)) (2 + i + 1) from if_neg hlp] at hfs
          refine tt_iconst (v := nI 1) d_Y_lake_92 (by decide) ?_
          refine tt_goto (t := 97) d_Y_lake_93 (by decide) ?_
          refine tt_istore_n (lv2 := [_, _, _, _, _, _]) d_Y_lake_97 (by decide) rfl ?_
          refine tt_iinc (lv2 := [_, _, _, _, _, _]) d_Y_lake_98 rfl (nI_inc _ 1) (by decide) rfl ?_
          refine tt_goto (t := 49) d_Y_lake_101 (by decide) ?_
          refine tt_iload_n d_Y_lake_49 rfl ?_
          refine tn_if_eq (t := 104) (by omega) d_Y_lake_50 (by decide) (fun c_50 => ?_) (fun c_50 => ?_)
          · omega
          · refine ih (lkR (wX w) * laC (wX w) - (i + 1)) (by omega) (i + 1) (some _) _ rfl (by omega) hfs (yq_163 h) (hd.un (τ := wI _ 163 i _) ⟨rfl, rfl⟩) (RT_163 hR2) (fun j hj => ?_)
            rw [si_wI]
            by_cases c9 : j = i
            · rw [if_pos ⟨rfl, c9⟩, c9]
            · rw [if_neg (fun q => c9 q.2)]; exact hrd j (by omega)
      · have hrk : nI 1 = nI (if atN (wX w) (2 + i) = 36 then 1 else 0) := by rw [if_pos (hto.1.mp (Decidable.not_not.mp c_78))]
        refine tt_iconst (v := nI 1) d_Y_lake_81 (by decide) ?_
        refine tt_goto (t := 86) d_Y_lake_82 (by decide) ?_
        refine tn_zast d_Y_lake_86 rfl (by decide) (by omega) (show vp_nar .boolean _ = nI (if atN (wX w) (2 + i) = 36 then 1 else 0) from hrk) ?_
        refine tt_iload d_Y_lake_87 rfl ?_
        refine tt_if_lt (t := 96) d_Y_lake_89 (by decide) (fun c_89 => ?_) (fun c_89 => ?_)
        · have hlp := hto.2.1.mp c_89
          rw [if_pos hlp] at hR2
          have hlk := lk_some (q := 2 + i) k1 k2 (by rw [← hfs, show lkR (wX w) * laC (wX w) - i = lkR (wX w) * laC (wX w) - (i + 1) + 1 by omega]; exact if_pos hlp)
          refine tt_iconst (v := nI 0) d_Y_lake_96 (by decide) ?_
          refine tt_istore_n (lv2 := [_, _, _, _, _, _]) d_Y_lake_97 (by decide) rfl ?_
          refine tt_iinc (lv2 := [_, _, _, _, _, _]) d_Y_lake_98 rfl (nI_inc _ 1) (by decide) rfl ?_
          refine tt_goto (t := 49) d_Y_lake_101 (by decide) ?_
          refine tt_iload_n d_Y_lake_49 rfl ?_
          refine tn_if_eq (t := 104) (by omega) d_Y_lake_50 (by decide) (fun c_50 => ?_) (fun c_50 => ?_)
          · refine tt_iload_n d_Y_lake_104 rfl ?_
            refine tn_if_eq (t := 119) (by omega) d_Y_lake_105 (by decide) (fun c_105 => ?_) (fun c_105 => ?_)
            · refine tt_iconst (v := (-1)) d_Y_lake_119 (by decide) ?_
              refine tt_aload_n d_Y_lake_120 rfl ?_
              refine tn_get d_Y_lake_121 rfl rfl (by decide) rfl hR2.2.1 ?_
              refine tt_isub d_Y_lake_124 ?_
              refine tt_iret rfl d_Y_lake_125 ?_
              unfold a_lake nc_lake
              rw [if_neg (show ¬ laF (wX w) = 0 by omega), if_neg (show ¬ laF (wX w) = 0 by omega), hlk, Nat.add_sub_cancel]
              exact ⟨rfl, (yq_163 (i := i) h).ww (hd.un (τ := wI _ 163 i _) ⟨rfl, rfl⟩), (yq_163 (i := i) h).2⟩
            · omega
          · omega
        · have hlp : ¬ lkP (wX w) (2 + i) = true := fun q => c_89 (hto.2.1.mpr q)
          rw [if_neg hlp] at hR2
          rw [show lkR (wX w) * laC (wX w) - i = lkR (wX w) * laC (wX w) - (i + 1) + 1 by omega, show fstN (lkP (wX w)) (lkR (wX w) * laC (wX w) - (i + 1) + 1) (2 + i) = fstN (lkP (wX w)) (lkR (wX w) * laC (wX w) - (i + 1)) (2 + i + 1) from if_neg hlp] at hfs
          refine tt_iconst (v := nI 1) d_Y_lake_92 (by decide) ?_
          refine tt_goto (t := 97) d_Y_lake_93 (by decide) ?_
          refine tt_istore_n (lv2 := [_, _, _, _, _, _]) d_Y_lake_97 (by decide) rfl ?_
          refine tt_iinc (lv2 := [_, _, _, _, _, _]) d_Y_lake_98 rfl (nI_inc _ 1) (by decide) rfl ?_
          refine tt_goto (t := 49) d_Y_lake_101 (by decide) ?_
          refine tt_iload_n d_Y_lake_49 rfl ?_
          refine tn_if_eq (t := 104) (by omega) d_Y_lake_50 (by decide) (fun c_50 => ?_) (fun c_50 => ?_)
          · omega
          · refine ih (lkR (wX w) * laC (wX w) - (i + 1)) (by omega) (i + 1) (some _) _ rfl (by omega) hfs (yq_163 h) (hd.un (τ := wI _ 163 i _) ⟨rfl, rfl⟩) (RT_163 hR2) (fun j hj => ?_)
            rw [si_wI]
            by_cases c9 : j = i
            · rw [if_pos ⟨rfl, c9⟩, c9]
            · rw [if_neg (fun q => c9 q.2)]; exact hrd j (by omega)

theorem nI_nn {n : Nat} (h : n < 2 ^ 31) : (0 : Int32) ≤ nI n := by
  rw [fa_le', nI_toInt h]
  show (0 : Int) ≤ _
  omega
set_option maxHeartbeats 4000000 in
theorem yc_lake {l : xLa} {d c : Nat} {σ : xs} {w : wv} (ho : okQ w) (hw : YW σ c w)  (hX : okX (wX w)) : TC l M_Y_lake (d + 150) [.ref 154] σ (fun r τ => r = some (.int (a_lake w).1) ∧ YW τ (nc_lake w c) (a_lake w).2 ∧ YF σ τ) := by
  show T l M_Y_lake (d + 150) 0 _ [] σ _
  refine T_lv (lv2 := [_, _, _, _, _, _]) rfl ?_
  have h := YQ.rf hw.v
  have hd0 := hw.2.2.2.1
  have hb0 := ho.fb
  have hb8 := ho.n8
  have hd0x := di_dg (x := wX w) (a := 0) (L := 2) (H := 7) (by decide)
  have hd1x := di_dg (x := wX w) (a := 1) (L := 2) (H := 7) (by decide)
  have hl0 := (dg_le (x := wX w) (j := 0)).1
  have hl1 := (dg_le (x := wX w) (j := 1)).1
  have hx1 := hX.1
  refine tt_aload_n d_Y_lake_0 rfl ?_
  refine tt_iconst (v := nI 0) d_Y_lake_1 (by decide) ?_
  refine tt_putI d_Y_lake_2 rfl rfl (by decide) rfl (xpok_int rfl) rfl ?_
  replace h := h.thr (x := nI 0)
  replace hd0 := hd0.thr (x := nI 0)
  refine tt_aload_n d_Y_lake_5 rfl ?_
  refine tt_bipush (v := nI 80) d_Y_lake_6 (by decide) ?_
  refine tt_callV (y_begins (d := d) h hd0 hX (by decide)) cw_Y_begins rfl rfl (by decide) rfl (by omega) d_Y_lake_8 rfl rfl (Nat.le_of_ble_eq_true rfl) (Nat.le_of_ble_eq_true rfl) rfl rfl rfl (fun v σ2 q => ?_)
  obtain ⟨rfl, h, hd, hR, hn18⟩ := q
  rw [Nat.min_eq_left hX.1] at hR
  refine tt_pop d_Y_lake_11 rfl ?_
  refine tt_aload_n d_Y_lake_12 rfl ?_
  refine tt_iconst (v := nI 2) d_Y_lake_13 (by decide) ?_
  refine tt_bipush (v := nI 6) d_Y_lake_14 (by decide) ?_
  refine tt_callV (y_digitIn (d := d) (L := 2) (H := 7) hR (by decide) (by decide)) cw_Y_digitIn rfl rfl (by decide) rfl (by omega) d_Y_lake_16 rfl rfl (Nat.le_of_ble_eq_true rfl) (Nat.le_of_ble_eq_true rfl) rfl rfl rfl (fun v σ2 q => ?_)
  obtain ⟨rfl, hR, hF⟩ := q
  replace h := h.fa hF
  replace hd := hd.fa hF
  refine tt_istore_n (lv2 := [_, _, _, _, _, _]) d_Y_lake_19 (by decide) rfl ?_
  refine tt_iload_n d_Y_lake_20 rfl ?_
  refine tt_if_ge (t := 28) d_Y_lake_21 (by decide) (fun c_21 => ?_) (fun c_21 => ?_)
  · have he0 : ¬ diN (wX w).2 (wX w).1 0 2 7 = 0 := fun q => by rw [q] at c_21; exact absurd c_21 (by decide)
    have k1 : 3 ≤ dgN (wX w) 0 ∧ dgN (wX w) 0 ≤ 7 := Decidable.byContradiction (fun q => he0 (hd0x.1.mpr q))
    rw [if_neg he0] at hR
    rw [(hd0x.2 he0).1, (gI_c (show dgN (wX w) 0 < 2 ^ 31 by omega)).2 (by omega)]
    refine tt_aload_n d_Y_lake_28 rfl ?_
    refine tt_iconst (v := nI 2) d_Y_lake_29 (by decide) ?_
    refine tt_bipush (v := nI 6) d_Y_lake_30 (by decide) ?_
    refine tt_callV (y_digitIn (d := d) (L := 2) (H := 7) hR (by decide) (by decide)) cw_Y_digitIn rfl rfl (by decide) rfl (by omega) d_Y_lake_32 rfl rfl (Nat.le_of_ble_eq_true rfl) (Nat.le_of_ble_eq_true rfl) rfl rfl rfl (fun v σ2 q => ?_)
    obtain ⟨rfl, hR, hF⟩ := q
    replace h := h.fa hF
    replace hd := hd.fa hF
    rw [show 0 + 1 = 1 from rfl] at hR ⊢
    refine tt_istore_n (lv2 := [_, _, _, _, _, _]) d_Y_lake_35 (by decide) rfl ?_
    refine tt_iload_n d_Y_lake_36 rfl ?_
    refine tt_if_le (t := 44) d_Y_lake_37 (by decide) (fun c_37 => ?_) (fun c_37 => ?_)
    · have he1 : diN (wX w).2 (wX w).1 1 2 7 = 0 := Decidable.byContradiction (fun q => by
        have k9 : 3 ≤ dgN (wX w) 1 ∧ dgN (wX w) 1 ≤ 7 := Decidable.byContradiction (fun y => q (hd1x.1.mpr y))
        rw [(hd1x.2 q).1] at c_37
        have := (gI_leN (a := dgN (wX w) 1) (b := 1) (by omega) (by omega)).mp c_37
        omega)
      have hlk : laF (wX w) = 2 := (if_neg (nnN k1)).trans (if_pos (hd1x.1.mp he1))
      rw [if_pos he1] at hR
      refine tt_iconst (v := nI 0) d_Y_lake_44 (by decide) ?_
      refine tt_istore_n (lv2 := [_, _, _, _, _, _]) d_Y_lake_45 (by decide) rfl ?_
      refine tt_iconst (v := nI 0) d_Y_lake_46 (by decide) ?_
      refine tt_istore (lv2 := [_, _, _, _, _, _]) d_Y_lake_47 (by decide) rfl ?_
      refine tt_iload_n d_Y_lake_49 rfl ?_
      refine tn_if_eq (t := 104) (by omega) d_Y_lake_50 (by decide) (fun c_50 => ?_) (fun c_50 => ?_)
      · refine tt_iload_n d_Y_lake_104 rfl ?_
        refine tn_if_eq (t := 119) (by omega) d_Y_lake_105 (by decide) (fun c_105 => ?_) (fun c_105 => ?_)
        · refine tt_iconst (v := (-1)) d_Y_lake_119 (by decide) ?_
          refine tt_aload_n d_Y_lake_120 rfl ?_
          refine tn_get d_Y_lake_121 rfl rfl (by decide) rfl hR.2.1 ?_
          refine tt_isub d_Y_lake_124 ?_
          refine tt_iret rfl d_Y_lake_125 ?_
          unfold a_lake nc_lake
          rw [if_neg (show ¬ laF (wX w) = 0 by omega), if_neg (show ¬ laF (wX w) = 0 by omega), hlk]
          exact ⟨rfl, h.ww hd, h.2⟩
        · omega
      · omega
    · have he1 : ¬ diN (wX w).2 (wX w).1 1 2 7 = 0 := fun q => by rw [q] at c_37; exact c_37 (by decide)
      have k2 : 3 ≤ dgN (wX w) 1 ∧ dgN (wX w) 1 ≤ 7 := Decidable.byContradiction (fun q => he1 (hd1x.1.mpr q))
      rw [if_neg he1] at hR
      rw [(hd1x.2 he1).1, (gI_c (show dgN (wX w) 1 < 2 ^ 31 by omega)).2 (by omega)]
      refine tt_iconst (v := nI 1) d_Y_lake_40 (by decide) ?_
      refine tt_goto (t := 45) d_Y_lake_41 (by decide) ?_
      refine tt_istore_n (lv2 := [_, _, _, _, _, _]) d_Y_lake_45 (by decide) rfl ?_
      refine tt_iconst (v := nI 0) d_Y_lake_46 (by decide) ?_
      refine tt_istore (lv2 := [_, _, _, _, _, _]) d_Y_lake_47 (by decide) rfl ?_
      refine tt_iload_n d_Y_lake_49 rfl ?_
      refine tn_if_eq (t := 104) (by omega) d_Y_lake_50 (by decide) (fun c_50 => ?_) (fun c_50 => ?_)
      · omega
      · exact y_lake1 ho hX k1 k2 (lkR (wX w) * laC (wX w)) 0 none _ rfl (by omega) rfl h hd hR (fun j q => absurd q (Nat.not_lt_zero j))
  · have he0 : diN (wX w).2 (wX w).1 0 2 7 = 0 := Decidable.byContradiction (fun q => c_21 (by rw [(hd0x.2 q).1, (gI_c (show dgN (wX w) 0 < 2 ^ 31 by omega)).2 (by rw [← (hd0x.2 q).1]; exact q)]; exact nI_nn (by omega)))
    have hlk : laF (wX w) = 1 := if_pos (hd0x.1.mp he0)
    rw [if_pos he0] at hR
    refine tt_iconst (v := (-1)) d_Y_lake_24 (by decide) ?_
    refine tt_goto (t := 35) d_Y_lake_25 (by decide) ?_
    refine tt_istore_n (lv2 := [_, _, _, _, _, _]) d_Y_lake_35 (by decide) rfl ?_
    refine tt_iload_n d_Y_lake_36 rfl ?_
    refine tt_if_le (t := 44) d_Y_lake_37 (by decide) (fun c_37 => ?_) (fun c_37 => ?_)
    · refine tt_iconst (v := nI 0) d_Y_lake_44 (by decide) ?_
      refine tt_istore_n (lv2 := [_, _, _, _, _, _]) d_Y_lake_45 (by decide) rfl ?_
      refine tt_iconst (v := nI 0) d_Y_lake_46 (by decide) ?_
      refine tt_istore (lv2 := [_, _, _, _, _, _]) d_Y_lake_47 (by decide) rfl ?_
      refine tt_iload_n d_Y_lake_49 rfl ?_
      refine tn_if_eq (t := 104) (by omega) d_Y_lake_50 (by decide) (fun c_50 => ?_) (fun c_50 => ?_)
      · refine tt_iload_n d_Y_lake_104 rfl ?_
        refine tn_if_eq (t := 119) (by omega) d_Y_lake_105 (by decide) (fun c_105 => ?_) (fun c_105 => ?_)
        · refine tt_iconst (v := (-1)) d_Y_lake_119 (by decide) ?_
          refine tt_aload_n d_Y_lake_120 rfl ?_
          refine tn_get d_Y_lake_121 rfl rfl (by decide) rfl hR.2.1 ?_
          refine tt_isub d_Y_lake_124 ?_
          refine tt_iret rfl d_Y_lake_125 ?_
          unfold a_lake nc_lake
          rw [if_neg (show ¬ laF (wX w) = 0 by omega), if_neg (show ¬ laF (wX w) = 0 by omega), hlk]
          exact ⟨rfl, h.ww hd, h.2⟩
        · omega
      · omega
    · exact absurd (by decide) c_37

