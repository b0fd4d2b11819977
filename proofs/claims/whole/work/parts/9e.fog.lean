/-! fog. Printed by wip/whole. -/
/-- the sign at a place, plus 1; 0: none. The digit, plus 1 -/
def atN (x : Nat × (Nat → Nat)) (j : Nat) : Nat := if j < x.1 then x.2 j + 1 else 0
def dgN (x : Nat × (Nat → Nat)) (j : Nat) : Nat := if j < x.1 ∧ 48 ≤ x.2 j ∧ x.2 j ≤ 57 then x.2 j - 48 + 1 else 0
section
variable {σ τ : xs} {x : Nat × (Nat → Nat)} {j : Nat}
theorem X_at_N (h : XT σ x) : X_at σ x.1 j = gI (atN x j) := by
  unfold X_at atN
  by_cases c : j < x.1
  · rw [if_pos c, if_pos c, h.2 j c]; rfl
  · rw [if_neg c, if_neg c]; rfl
theorem atx_lt (hX : okX x) : atN x j ≤ 256 := by
  unfold atN
  split
  · rename_i c; have := hX.2 j c; omega
  · omega
theorem dg_le : dgN x j ≤ 10 ∧ (¬ dgN x j = 0 → j < x.1 ∧ 48 ≤ x.2 j ∧ x.2 j ≤ 57 ∧ dgN x j = x.2 j - 47) ∧ (dgN x j = 0 → ¬ (j < x.1 ∧ 48 ≤ x.2 j ∧ x.2 j ≤ 57)) := by
  unfold dgN
  by_cases c : j < x.1 ∧ 48 ≤ x.2 j ∧ x.2 j ≤ 57
  · rw [if_pos c]; exact ⟨by omega, fun _ => by omega, fun q => by omega⟩
  · rw [if_neg c]; exact ⟨by omega, fun q => absurd rfl q, fun _ => c⟩
theorem X_dig_N (h : XT σ x) (hX : okX x) : X_dig σ x.1 j = gI (dgN x j) := by
  unfold X_dig
  rw [X_at_N h]
  unfold atN dgN
  by_cases c : j < x.1
  · have hx := hX.2 j c
    rw [if_pos c, show gI (x.2 j + 1) = nI (x.2 j) from rfl]
    have e1 : ((48 : Int32) ≤ nI (x.2 j)) ↔ 48 ≤ x.2 j := by rw [fa_le', nI_toInt (by omega)]; show (48 : Int) ≤ _ ↔ _; omega
    have e2 : (nI (x.2 j) ≤ (57 : Int32)) ↔ x.2 j ≤ 57 := by rw [fa_le', nI_toInt (by omega)]; show _ ≤ (57 : Int) ↔ _; omega
    by_cases d : 48 ≤ x.2 j ∧ x.2 j ≤ 57
    · rw [if_pos ⟨e1.mpr d.1, e2.mpr d.2⟩, if_pos ⟨c, d⟩]
      exact pk_sub d.1
    · rw [if_neg (fun q => d ⟨e1.mp q.1, e2.mp q.2⟩), if_neg (fun q => d q.2)]; rfl
  · rw [if_neg c, if_neg (c := j < x.1 ∧ 48 ≤ x.2 j ∧ x.2 j ≤ 57) (fun q => c q.1), if_neg (by decide)]; rfl
end
/-- digits at the beginning, 20 at most -/
def fgR : Option Nat → Nat
  | none => 20
  | some p => p
def fgP (x : Nat × (Nat → Nat)) : Nat → Bool := fun j => decide (dgN x j = 0)
def fgK (x : Nat × (Nat → Nat)) : Nat := fgR (fstN (fgP x) 20 0)
theorem fgP_t {x : Nat × (Nat → Nat)} {j : Nat} : fgP x j = true ↔ dgN x j = 0 := decide_eq_true_iff
theorem X_ff_N {σ : xs} {x : Nat × (Nat → Nat)} (h : XT σ x) (hX : okX x) : ∀ k i, k + i = 20 → (∀ j, j < i → ¬ dgN x j = 0) → X_ff σ x.1 k i = if fgR (fstN (fgP x) k i) = 0 ∨ fgR (fstN (fgP x) k i) < x.1 then nI (fgR (fstN (fgP x) k i)) else -1
  | 0, i, hk, hj => by
    have : ∀ j, j < i → j < x.1 := fun j q => (dg_le.2.1 (hj j q)).1
    have h1 := this 19 (by omega)
    rw [show fgR (fstN (fgP x) 0 i) = 20 from rfl, show X_ff σ x.1 0 i = if x.1 ≤ 20 then -1 else nI 20 from rfl]
    by_cases c : x.1 ≤ 20
    · rw [if_pos c, if_neg (by omega)]
    · rw [if_neg c, if_pos (by omega)]
  | k + 1, i, hk, hj => by
    have h1 : ∀ j, j < i → j < x.1 := fun j q => (dg_le.2.1 (hj j q)).1
    show (if 20 ≤ i ∨ (¬ i = 0 ∧ x.1 ≤ i) then (if x.1 ≤ 20 then -1 else nI 20) else if X_dig σ x.1 i = -1 then nI i else X_ff σ x.1 k (i + 1)) = _
    rw [X_dig_N h hX]
    have hd := gI_1 (g := dgN x i) (by have := (dg_le (x := x) (j := i)).1; omega)
    by_cases c : 20 ≤ i ∨ (¬ i = 0 ∧ x.1 ≤ i)
    · have h2 := h1 (i - 1) (by omega)
      have h0 : dgN x i = 0 := Decidable.byContradiction (fun q => by have := (dg_le.2.1 q).1; omega)
      have e : fstN (fgP x) (k + 1) i = some i := if_pos (fgP_t.mpr h0)
      rw [if_pos c, if_pos (by omega), e, if_neg (by show ¬ (i = 0 ∨ i < x.1); omega)]
    · rw [if_neg c]
      by_cases c2 : dgN x i = 0
      · have e : fstN (fgP x) (k + 1) i = some i := if_pos (fgP_t.mpr c2)
        rw [if_pos (hd.mpr c2), e, if_pos (by show i = 0 ∨ i < x.1; omega)]
        rfl
      · have e : fstN (fgP x) (k + 1) i = fstN (fgP x) k (i + 1) := if_neg (fun q => c2 (fgP_t.mp q))
        rw [if_neg (fun q => c2 (hd.mp q)), e]
        exact X_ff_N h hX k (i + 1) (by omega) (fun j q => by
          by_cases z : j = i
          · rw [z]; exact c2
          · exact hj j (by omega))
theorem fgK_c (x : Nat × (Nat → Nat)) : fgK x ≤ 20 ∧ ∀ j, j < fgK x → ¬ dgN x j = 0 := by
  have key : ∀ k i, k + i = 20 → (∀ j, j < i → ¬ dgN x j = 0) → fgR (fstN (fgP x) k i) ≤ 20 ∧ ∀ j, j < fgR (fstN (fgP x) k i) → ¬ dgN x j = 0 := by
    intro k
    induction k with
    | zero => exact fun i hi hj => ⟨Nat.le_refl _, fun j q => hj j (by have : j < 20 := q; omega)⟩
    | succ k ih =>
      intro i hi hj
      by_cases c : dgN x i = 0
      · have e : fstN (fgP x) (k + 1) i = some i := if_pos (fgP_t.mpr c)
        rw [e]; exact ⟨by show i ≤ 20; omega, hj⟩
      · have e : fstN (fgP x) (k + 1) i = fstN (fgP x) k (i + 1) := if_neg (fun q => c (fgP_t.mp q))
        rw [e]
        exact ih (i + 1) (by omega) (fun j q => by
          by_cases z : j = i
          · rw [z]; exact c
          · exact hj j (by omega))
  exact key 20 0 rfl (fun j q => absurd q (Nat.not_lt_zero j))
theorem fgK_n (x : Nat × (Nat → Nat)) : fgK x ≤ x.1 := by
  obtain ⟨h1, h2⟩ := fgK_c x
  cases h : fgK x with
  | zero => omega
  | succ k => have := (dg_le.2.1 (h2 k (by omega))).1; omega
/-- fog as it was told -/
def fgE (e : xe) (x : Nat × (Nat → Nat)) : xe := ((fun k => if k = 3 then x.1 else e.1 k), eK e, eS e, (fun i => if i < x.1 then dgN x i - 1 else eF e i), eB e, eW e)
def fgW (w : wv) : wv := (fgE (wE w) (wX w), wV w, (0, (wX w).2), wD w, wU w, wK w, wS w)
def a_fog (w : wv) : Int32 × wv := if fgK (wX w) = 0 ∨ fgK (wX w) < (wX w).1 then ((-1) - nI (fgK (wX w)), txC w) else (nI (wX w).1, fgW w)
theorem isC.fq {σ τ : xs} {A : Nat → Prop} {F : Nat → Nat → Prop} {J : Nat → Prop} {u n : Nat} {c : Nat → Nat} (h : isC σ u n c) (hf : Fq A F J σ τ) (h1 : ¬ A (u + 1)) (h2 : ¬ F u 1) : isC τ u n c := ⟨by rw [hf.2.1 u 1 h2]; exact h.1, h.2.1, fun i hi => by rw [hf.1 _ h1]; exact h.2.2.1 i hi, h.2.2.2⟩
section
variable {σ τ : xs} {w : wv} {c : Nat}
theorem XW.tx (h : XW σ w) : XW (wF σ 1 1 (nI 0)) (txC w) ∧ XF σ (wF σ 1 1 (nI 0)) := h.putX (Fq.wF ⟨rfl, rfl⟩) ⟨rfl, fun i hi => absurd hi (Nat.not_lt_zero i)⟩
theorem XW.fog (h : XW σ w) (hX : okX (wX w)) (hk : (wX w).1 ≤ 20) (h0 : 0 < (wX w).1) (hd : ∀ j, j < (wX w).1 → ¬ dgN (wX w) j = 0) : XW (wF (X_ft σ (wX w).1 (max 1 (min 20 (wX w).1))) 1 1 (nI 0)) (fgW w) ∧ XF σ (wF (X_ft σ (wX w).1 (max 1 (min 20 (wX w).1))) 1 1 (nI 0)) := by
  have hm : max 1 (min 20 (wX w).1) = (wX w).1 := by omega
  rw [hm]
  have hf : Fq (fun c => c = 13) (fun c k => (c = 12 ∧ k = 1) ∨ (c = 1 ∧ k = 1)) (fun _ => False) σ (wF (X_ft σ (wX w).1 (wX w).1) 1 1 (nI 0)) := by
    unfold X_ft
    rw [hm]
    exact Fq.tr (Fq.tr (Fq.wF (Or.inl ⟨rfl, rfl⟩)) (Fq.wA rfl)) (Fq.wF (Or.inr ⟨rfl, rfl⟩))
  have hR := h.v.R
  obtain ⟨⟨⟨⟨a1, a2, a3, a4⟩, a5, a6, a7, a8⟩, b1, b2, b3, b4⟩, v, x, d, u, k, s⟩ := h
  refine ⟨⟨⟨⟨⟨a1, a2, a3, ?_⟩, a5, fun i hi => ?_, a7, a8.fq hf (by omega) (by omega)⟩, b1, b2, b3, b4.fq hf (by omega) (by omega)⟩, v.fq hf (fun k hk => by omega) (fun k hk => by omega), ⟨rfl, fun i hi => absurd hi (Nat.not_lt_zero i)⟩, d.fq hf id (by omega), u.fq hf (fun c h1 h2 => by omega) (fun c k h1 h2 => by omega), k.fq hf (fun c h1 h2 => by omega) (fun c k h1 h2 => by omega) (by omega), s.fq hf (fun c h1 h2 => by omega) (by omega)⟩, hf.XF (fun c hc => by omega) (fun c k hc => by omega) (fun c hc => id)⟩
  · show nI (max 1 (min 20 (wX w).1)) = nI (wX w).1
    rw [hm]
  · show (if i < (wX w).1 then X_dig σ (wX w).1 i else si σ 13 i) = nI (if i < (wX w).1 then dgN (wX w) i - 1 else eF (wE w) i)
    by_cases c : i < (wX w).1
    · rw [if_pos c, if_pos c, X_dig_N x hX]
      exact (gI_c (by have := (dg_le (x := wX w) (j := i)).1; omega)).2 (hd i c)
    · rw [if_neg c, if_neg c]; exact a6 i hi
end
set_option maxHeartbeats 4000000 in
theorem xc_fog {l : xLa} {d : Nat} {σ : xs} {w : wv} (ho : okQ w) (hw : XW σ w)  (hX : okX (wX w)) : TC l M_X_fog (d + 30) [.ref 0] σ (fun r τ => r = some (.int (a_fog w).1) ∧ XW τ (a_fog w).2 ∧ XF σ τ) := by
  show T l M_X_fog (d + 30) 0 _ [] σ _
  refine T_lv (lv2 := [_, _, _]) rfl ?_
  have h := XQ.rf hw.v
  have hd0 := hw.2.2.2.1
  have hb0 := ho.fb
  have hb8 := ho.n8
  have hx := hw.2.2.1
  have hx1 := hX.1
  have hK := fgK_c (wX w)
  have hKn := fgK_n (wX w)
  have hff : X_ff σ (wX w).1 20 0 = if fgK (wX w) = 0 ∨ fgK (wX w) < (wX w).1 then nI (fgK (wX w)) else -1 := X_ff_N hx hX 20 0 rfl (fun j q => absurd q (Nat.not_lt_zero j))
  unfold a_fog
  by_cases cf : fgK (wX w) = 0 ∨ fgK (wX w) < (wX w).1
  · rw [if_pos cf] at hff
    rw [if_pos cf]
    refine tt_aload_n d_X_fog_0 rfl ?_
    refine tt_getR d_X_fog_1 rfl rfl (by decide) rfl rfl ?_
    refine tt_aload_n d_X_fog_4 rfl ?_
    refine tt_getR d_X_fog_5 rfl rfl (by decide) rfl rfl ?_
    refine tt_callV (x_Fog_fault (d := d) hx.1 hx1) cw_Fog_faultIn rfl rfl (by decide) rfl (by omega) d_X_fog_8 rfl rfl (Nat.le_of_ble_eq_true rfl) (Nat.le_of_ble_eq_true rfl) rfl rfl rfl (fun v σ2 q => ?_)
    obtain ⟨rfl, e9⟩ := q
    rw [e9, hff]
    clear e9
    refine tt_istore_n (lv2 := [_, _, _]) d_X_fog_11 (by decide) rfl ?_
    refine tt_iload_n d_X_fog_12 rfl ?_
    refine tt_iconst (v := (-1)) d_X_fog_13 (by decide) ?_
    refine tt_ic_ne (t := 28) d_X_fog_14 (by decide) (fun c_14 => ?_) (fun c_14 => ?_)
    · refine tt_aload_n d_X_fog_28 rfl ?_
      refine tt_getR d_X_fog_29 rfl rfl (by decide) rfl rfl ?_
      refine tt_callV (x_Text_length (d := d)) cw_Text_length rfl rfl (by decide) rfl (by omega) d_X_fog_32 rfl rfl (Nat.le_of_ble_eq_true rfl) (Nat.le_of_ble_eq_true rfl) rfl rfl rfl (fun v σ2 q => ?_)
      obtain ⟨rfl, e9⟩ := q
      rw [e9]
      clear e9
      refine tt_istore_n (lv2 := [_, _, _]) d_X_fog_35 (by decide) rfl ?_
      refine tt_aload_n d_X_fog_36 rfl ?_
      refine tt_getR d_X_fog_37 rfl rfl (by decide) rfl rfl ?_
      refine tt_callV (x_Text_clear (d := d)) cw_Text_clear rfl rfl (by decide) rfl (by omega) d_X_fog_40 rfl rfl (Nat.le_of_ble_eq_true rfl) (Nat.le_of_ble_eq_true rfl) rfl rfl rfl (fun v σ2 q => ?_)
      obtain ⟨rfl, e9⟩ := q
      rw [e9]
      clear e9
      refine tt_iload_n d_X_fog_43 rfl ?_
      refine tt_iconst (v := (-1)) d_X_fog_44 (by decide) ?_
      refine tt_ic_ne (t := 52) d_X_fog_45 (by decide) (fun c_45 => ?_) (fun c_45 => ?_)
      · refine tt_iconst (v := (-1)) d_X_fog_52 (by decide) ?_
        refine tt_iload_n d_X_fog_53 rfl ?_
        refine tt_isub d_X_fog_54 ?_
        refine tt_iret rfl d_X_fog_55 ?_
        exact ⟨rfl, hw.tx⟩
      · exact absurd (Decidable.not_not.mp c_45) (nI_n1 (by omega))
    · exact absurd (Decidable.not_not.mp c_14) (nI_n1 (by omega))
  · rw [if_neg cf] at hff
    rw [if_neg cf]
    refine tt_aload_n d_X_fog_0 rfl ?_
    refine tt_getR d_X_fog_1 rfl rfl (by decide) rfl rfl ?_
    refine tt_aload_n d_X_fog_4 rfl ?_
    refine tt_getR d_X_fog_5 rfl rfl (by decide) rfl rfl ?_
    refine tt_callV (x_Fog_fault (d := d) hx.1 hx1) cw_Fog_faultIn rfl rfl (by decide) rfl (by omega) d_X_fog_8 rfl rfl (Nat.le_of_ble_eq_true rfl) (Nat.le_of_ble_eq_true rfl) rfl rfl rfl (fun v σ2 q => ?_)
    obtain ⟨rfl, e9⟩ := q
    rw [e9, hff]
    clear e9
    refine tt_istore_n (lv2 := [_, _, _]) d_X_fog_11 (by decide) rfl ?_
    refine tt_iload_n d_X_fog_12 rfl ?_
    refine tt_iconst (v := (-1)) d_X_fog_13 (by decide) ?_
    refine tt_ic_ne (t := 28) d_X_fog_14 (by decide) (fun c_14 => ?_) (fun c_14 => ?_)
    · exact absurd rfl c_14
    · refine tt_aload_n d_X_fog_17 rfl ?_
      refine tt_getR d_X_fog_18 rfl rfl (by decide) rfl rfl ?_
      refine tt_aload_n d_X_fog_21 rfl ?_
      refine tt_getR d_X_fog_22 rfl rfl (by decide) rfl rfl ?_
      refine tt_callV (x_Fog_take (d := d) hx.1 hx1) cw_Fog_take rfl rfl (by decide) rfl (by omega) d_X_fog_25 rfl rfl (Nat.le_of_ble_eq_true rfl) (Nat.le_of_ble_eq_true rfl) rfl rfl rfl (fun v σ2 q => ?_)
      obtain ⟨rfl, e9⟩ := q
      rw [e9]
      clear e9
      refine tt_aload_n d_X_fog_28 rfl ?_
      refine tt_getR d_X_fog_29 rfl rfl (by decide) rfl rfl ?_
      refine tt_callV (x_Text_length (d := d)) cw_Text_length rfl rfl (by decide) rfl (by omega) d_X_fog_32 rfl rfl (Nat.le_of_ble_eq_true rfl) (Nat.le_of_ble_eq_true rfl) rfl rfl rfl (fun v σ2 q => ?_)
      obtain ⟨rfl, e9⟩ := q
      rw [e9]
      clear e9
      refine tt_istore_n (lv2 := [_, _, _]) d_X_fog_35 (by decide) rfl ?_
      refine tt_aload_n d_X_fog_36 rfl ?_
      refine tt_getR d_X_fog_37 rfl rfl (by decide) rfl rfl ?_
      refine tt_callV (x_Text_clear (d := d)) cw_Text_clear rfl rfl (by decide) rfl (by omega) d_X_fog_40 rfl rfl (Nat.le_of_ble_eq_true rfl) (Nat.le_of_ble_eq_true rfl) rfl rfl rfl (fun v σ2 q => ?_)
      obtain ⟨rfl, e9⟩ := q
      rw [e9]
      clear e9
      refine tt_iload_n d_X_fog_43 rfl ?_
      refine tt_iconst (v := (-1)) d_X_fog_44 (by decide) ?_
      refine tt_ic_ne (t := 52) d_X_fog_45 (by decide) (fun c_45 => ?_) (fun c_45 => ?_)
      · exact absurd rfl c_45
      · refine tt_iload_n d_X_fog_48 rfl ?_
        refine tt_goto (t := 55) d_X_fog_49 (by decide) ?_
        refine tt_iret rfl d_X_fog_55 ?_
        exact ⟨congrArg (fun z => some (Value.int z)) hx.1, hw.fog hX (by omega) (by omega) (fun j q => hK.2 j (by omega))⟩

theorem yq_164 {c : Nat} {w : wv} {σ τ : xs} {i : Nat} {x : Int32} (h : YQ c w σ τ) : YQ c w σ (wI τ 164 i x) := h.fq (Fq.wI (by unfold YqA; omega))
theorem RT_164 {τ : xs} {t : Nat → Nat} {to a i : Nat} {x : Int32} (h : RT τ t to a) : RT (wI τ 164 i x) t to a := ⟨h.1, h.2.1, h.2.2.1, h.2.2.2⟩
theorem fg_s {x : Nat × (Nat → Nat)} {i : Nat} (hi : i < 20) (h : ∀ j, j < i → ¬ dgN x j = 0) (h0 : fgR (fstN (fgP x) (20 - i) i) = fgK x) : (dgN x i = 0 → fgK x = i) ∧ (¬ dgN x i = 0 → fgR (fstN (fgP x) (20 - (i + 1)) (i + 1)) = fgK x) := by
  refine ⟨fun q => ?_, fun q => ?_⟩
  · rw [← h0, fst_hit hi (fgP_t.mpr q)]; rfl
  · rw [← h0, fst_miss hi (fun z => q (fgP_t.mp z))]
theorem dg_isD {x : Nat × (Nat → Nat)} {i : Nat} : isD x.2 x.1 i ↔ ¬ dgN x i = 0 := by
  obtain ⟨h1, h2, h3⟩ := dg_le (x := x) (j := i)
  refine ⟨fun q z => h3 z q, fun q => ?_⟩
  have := h2 q
  exact ⟨this.1, this.2.1, this.2.2.1⟩
theorem nm_1 {t : Nat → Nat} {to a : Nat} (h : isD t to a) : nmI t to 1 a = nI (t a - 48) ∧ nmA t to 1 a = a + 1 := by
  unfold nmI nmA
  rw [if_pos h, if_pos h, nm_y h]
  exact ⟨by show nI (10 * 0 + t a - 48) = _; rw [Nat.mul_zero, Nat.zero_add], rfl⟩
theorem nm_0 {t : Nat → Nat} {to a d : Nat} (h : ¬ isD t to a) : nmI t to d a = -1 ∧ nmA t to d a = a := by
  unfold nmI nmA
  rw [if_neg h, if_neg h]; exact ⟨rfl, rfl⟩
theorem YQ.fog {c : Nat} {w : wv} {σ τ : xs} (h : YQ c (txC w) σ τ) (hd : YD τ (wD w)) (h7 : sf τ 154 7 = nI (wX w).1) : True := trivial
/-- the reference's fog, told anew -/
theorem YW.fog {c : Nat} {w : wv} {σ τ υ : xs} (h : YQ c (txC w) σ τ) (hd : YD τ (wD w)) (hf : Fq (fun c => c = 157) (fun c k => c = 154 ∧ k = 7) (fun _ => False) τ υ) (h7 : sf υ 154 7 = nI (wX w).1) (hs : ∀ i, i < (wX w).1 → si υ 157 i = nI (dgN (wX w) i - 1)) : YW υ c (fgW w) ∧ YF σ υ := by
  obtain ⟨⟨⟨⟨⟨a1, a2, a3, a4⟩, a5, a6, a7⟩, b⟩, v, x, u, k, s⟩, y⟩ := h
  have g : ∀ k, ¬ k = 7 → sf υ 154 k = sf τ 154 k := fun k hk => hf.2.1 154 k (fun q => hk q.2)
  have gi : ∀ c, ¬ c = 157 → si υ c = si τ c := fun c hc => hf.1 c hc
  refine ⟨⟨⟨⟨⟨by rw [g 3 (by decide)]; exact a1, by rw [g 4 (by decide)]; exact a2, by rw [g 5 (by decide)]; exact a3, h7⟩, fun i hi => by rw [gi 158 (by decide), gi 159 (by decide)]; exact a5 i hi, fun i hi => ?_, fun f hf => by rw [gi 156 (by decide)]; exact a7 f hf⟩, b.fq hf (by omega) (by omega)⟩, SY_o v (gi 160 (by decide)), x.fq hf (by omega) (by omega), hd.fq hf id (by omega), u.fq hf (by omega) (by omega), k.fq hf (fun c h1 h2 => by omega) (by omega), s.fq hf (fun c h1 h2 => by omega) (by omega)⟩, y.tr (hf.YF (fun c hc => by omega) (fun c k hc => by omega) (fun c hc => id))⟩
  rw [hs i hi]
  show nI (dgN (wX w) i - 1) = nI (if i < (wX w).1 then dgN (wX w) i - 1 else eF (wE w) i)
  replace hi : i < (wX w).1 := hi
  rw [if_pos hi]
set_option maxHeartbeats 4000000 in
theorem y_fog2 {l : xLa} {d : Nat} {σ : xs} {c : Nat} {w : wv} {τ0 : xs} (ho : okQ w) (hX : okX (wX w)) (h20 : (wX w).1 ≤ 20) (h : YQ c (txC w) σ τ0) (hd : YD τ0 (wD w)) (hrd : ∀ j, j < (wX w).1 → si τ0 164 j = nI (dgN (wX w) j - 1)) (hcf : ¬ (fgK (wX w) = 0 ∨ fgK (wX w) < (wX w).1)) : ∀ (m : Nat) (i : Nat) (τ : xs), (wX w).1 - i = m → i ≤ (wX w).1 → Fq (fun c => c = 157) (fun c k => c = 154 ∧ k = 7) (fun _ => False) τ0 τ → sf τ 154 7 = nI (wX w).1 → (∀ j, j < i → si τ 157 j = nI (dgN (wX w) j - 1)) → T l M_Y_fog (d + 150) 73 [some (.ref 154), some (.int (nI (wX w).1)), some (.int (nI i))] [] τ (fun r τ => r = some (.int (a_fog w).1) ∧ YW τ c (a_fog w).2 ∧ YF σ τ) := by
  have hb0 := ho.fb
  have hb8 := ho.n8
  intro m
  induction m using Nat.strongRecOn with
  | ind m ih =>
    intro i τ hm hi hf h7 hs
    refine tt_iload_n d_Y_fog_73 rfl ?_
    refine tt_iload_n d_Y_fog_74 rfl ?_
    refine tn_ic_ge (t := 96) (by omega) (by omega) d_Y_fog_75 (by decide) (fun c_75 => ?_) (fun c_75 => ?_)
    · obtain rfl : i = (wX w).1 := by omega
      refine tt_iload_n d_Y_fog_96 rfl ?_
      refine tt_iret rfl d_Y_fog_97 ?_
      unfold a_fog
      rw [if_neg hcf]
      exact ⟨rfl, YW.fog h hd hf h7 hs⟩
    · refine tt_aload_n d_Y_fog_78 rfl ?_
      refine tt_getR d_Y_fog_79 rfl rfl (by decide) rfl rfl ?_
      refine tt_iload_n d_Y_fog_82 rfl ?_
      refine tt_aload_n d_Y_fog_83 rfl ?_
      refine tt_getR d_Y_fog_84 rfl rfl (by decide) rfl rfl ?_
      refine tt_iload_n d_Y_fog_87 rfl ?_
      refine tn_iald d_Y_fog_88 rfl (by decide) (by omega) (show _ = nI (dgN (wX w) i - 1) from by rw [hf.1 164 (by decide)]; exact hrd i (by omega)) ?_
      refine tn_iast d_Y_fog_89 rfl (by decide) (by omega) ?_
      refine tt_iinc (lv2 := [_, _, _]) d_Y_fog_90 rfl (nI_inc _ 1) (by decide) rfl ?_
      refine tt_goto (t := 73) d_Y_fog_93 (by decide) ?_
      refine ih ((wX w).1 - (i + 1)) (by omega) (i + 1) _ rfl (by omega) (hf.tr (Fq.wI rfl)) h7 (fun j hj => ?_)
      rw [si_wI]
      by_cases c9 : j = i
      · rw [if_pos ⟨rfl, c9⟩, c9]
      · rw [if_neg (fun q => c9 q.2)]; exact hs j (by omega)

set_option maxHeartbeats 4000000 in
theorem y_fog1 {l : xLa} {d : Nat} {σ : xs} {c : Nat} {w : wv} (ho : okQ w) (hX : okX (wX w)) : ∀ (m : Nat) (i : Nat) (τ : xs), 20 - i = m → i ≤ 20 → (∀ j, j < i → ¬ dgN (wX w) j = 0) → fgR (fstN (fgP (wX w)) (20 - i) i) = fgK (wX w) → YQ c (txC w) σ τ → YD τ (wD w) → RT τ (wX w).2 (wX w).1 i → (∀ j, j < i → si τ 164 j = nI (dgN (wX w) j - 1)) → T l M_Y_fog (d + 150) 14 [some (.ref 154), some (.int (nI i)), none] [] τ (fun r τ => r = some (.int (a_fog w).1) ∧ YW τ c (a_fog w).2 ∧ YF σ τ) := by
  have hb0 := ho.fb
  have hb8 := ho.n8
  intro m
  induction m using Nat.strongRecOn with
  | ind m ih =>
    intro i τ hm hi hj hfs h hd hR hrd
    have hx1 := hX.1
    have hid := id_le (wX w).2 (wX w).1 i
    have hr2 := hR.2.2.2.2
    have hdl := dg_le (x := wX w) (j := i)
    refine tt_iload_n d_Y_fog_14 rfl ?_
    refine tt_bipush (v := nI 20) d_Y_fog_15 (by decide) ?_
    refine tn_ic_ge (t := 44) (by omega) (by omega) d_Y_fog_17 (by decide) (fun c_17 => ?_) (fun c_17 => ?_)
    · have hi20 : i = 20 := by omega
      have hK : fgK (wX w) = i := by rw [← hfs, hi20]; rfl
      refine tt_iload_n d_Y_fog_44 rfl ?_
      refine tn_if_eq (t := 59) (by omega) d_Y_fog_45 (by decide) (fun c_45 => ?_) (fun c_45 => ?_)
      · refine tt_iconst (v := (-1)) d_Y_fog_59 (by decide) ?_
        refine tt_aload_n d_Y_fog_60 rfl ?_
        refine tn_get d_Y_fog_61 rfl rfl (by decide) rfl hR.2.1 ?_
        refine tt_isub d_Y_fog_64 ?_
        refine tt_iret rfl d_Y_fog_65 ?_
        unfold a_fog
        rw [if_pos (by omega), hK]
        exact ⟨rfl, h.ww hd, h.2⟩
      · refine tt_aload_n d_Y_fog_48 rfl ?_
        refine tn_get d_Y_fog_49 rfl rfl (by decide) rfl hR.2.1 ?_
        refine tt_aload_n d_Y_fog_52 rfl ?_
        refine tn_get d_Y_fog_53 rfl rfl (by decide) rfl hR.1 ?_
        refine tn_ic_ge (t := 66) (by omega) (by omega) d_Y_fog_56 (by decide) (fun c_56 => ?_) (fun c_56 => ?_)
        · refine tt_aload_n d_Y_fog_66 rfl ?_
          refine tt_iload_n d_Y_fog_67 rfl ?_
          refine tt_putI d_Y_fog_68 rfl rfl (by decide) rfl (xpok_int rfl) rfl ?_
          refine tt_iconst (v := nI 0) d_Y_fog_71 (by decide) ?_
          refine tt_istore_n (lv2 := [_, _, _]) d_Y_fog_72 (by decide) rfl ?_
          obtain rfl : i = (wX w).1 := by omega
          exact y_fog2 ho hX (by omega) h hd hrd (by omega) (wX w).1 0 _ rfl (by omega) (Fq.wF ⟨rfl, rfl⟩) rfl (fun j q => absurd q (Nat.not_lt_zero j))
        · refine tt_iconst (v := (-1)) d_Y_fog_59 (by decide) ?_
          refine tt_aload_n d_Y_fog_60 rfl ?_
          refine tn_get d_Y_fog_61 rfl rfl (by decide) rfl hR.2.1 ?_
          refine tt_isub d_Y_fog_64 ?_
          refine tt_iret rfl d_Y_fog_65 ?_
          unfold a_fog
          rw [if_pos (by omega), hK]
          exact ⟨rfl, h.ww hd, h.2⟩
    · have hst := fg_s c_17 hj hfs
      refine tt_aload_n d_Y_fog_20 rfl ?_
      refine tt_callV (y_isDigit (d := d) hR) cw_Y_isDigit rfl rfl (by decide) rfl (by omega) d_Y_fog_21 rfl rfl (Nat.le_of_ble_eq_true rfl) (Nat.le_of_ble_eq_true rfl) rfl rfl rfl (fun v σ2 q => ?_)
      obtain ⟨rfl, e9⟩ := q
      rw [e9]
      clear e9
      refine tn_if_eq (t := 44) (by omega) d_Y_fog_24 (by decide) (fun c_24 => ?_) (fun c_24 => ?_)
      · have hK : fgK (wX w) = i := hst.1 (Decidable.byContradiction (fun q => hid.2.mpr (dg_isD.mpr q) c_24))
        refine tt_iload_n d_Y_fog_44 rfl ?_
        refine tn_if_eq (t := 59) (by omega) d_Y_fog_45 (by decide) (fun c_45 => ?_) (fun c_45 => ?_)
        · refine tt_iconst (v := (-1)) d_Y_fog_59 (by decide) ?_
          refine tt_aload_n d_Y_fog_60 rfl ?_
          refine tn_get d_Y_fog_61 rfl rfl (by decide) rfl hR.2.1 ?_
          refine tt_isub d_Y_fog_64 ?_
          refine tt_iret rfl d_Y_fog_65 ?_
          unfold a_fog
          rw [if_pos (by omega), hK]
          exact ⟨rfl, h.ww hd, h.2⟩
        · refine tt_aload_n d_Y_fog_48 rfl ?_
          refine tn_get d_Y_fog_49 rfl rfl (by decide) rfl hR.2.1 ?_
          refine tt_aload_n d_Y_fog_52 rfl ?_
          refine tn_get d_Y_fog_53 rfl rfl (by decide) rfl hR.1 ?_
          refine tn_ic_ge (t := 66) (by omega) (by omega) d_Y_fog_56 (by decide) (fun c_56 => ?_) (fun c_56 => ?_)
          · refine tt_aload_n d_Y_fog_66 rfl ?_
            refine tt_iload_n d_Y_fog_67 rfl ?_
            refine tt_putI d_Y_fog_68 rfl rfl (by decide) rfl (xpok_int rfl) rfl ?_
            refine tt_iconst (v := nI 0) d_Y_fog_71 (by decide) ?_
            refine tt_istore_n (lv2 := [_, _, _]) d_Y_fog_72 (by decide) rfl ?_
            obtain rfl : i = (wX w).1 := by omega
            exact y_fog2 ho hX (by omega) h hd hrd (by omega) (wX w).1 0 _ rfl (by omega) (Fq.wF ⟨rfl, rfl⟩) rfl (fun j q => absurd q (Nat.not_lt_zero j))
          · refine tt_iconst (v := (-1)) d_Y_fog_59 (by decide) ?_
            refine tt_aload_n d_Y_fog_60 rfl ?_
            refine tn_get d_Y_fog_61 rfl rfl (by decide) rfl hR.2.1 ?_
            refine tt_isub d_Y_fog_64 ?_
            refine tt_iret rfl d_Y_fog_65 ?_
            unfold a_fog
            rw [if_pos (by omega), hK]
            exact ⟨rfl, h.ww hd, h.2⟩
      · have hyes := hid.2.mp c_24
        have hne := dg_isD.mp hyes
        have hnm := nm_1 hyes
        refine tt_aload_n d_Y_fog_27 rfl ?_
        refine tt_getR d_Y_fog_28 rfl rfl (by decide) rfl rfl ?_
        refine tt_iload_n d_Y_fog_31 rfl ?_
        refine tt_aload_n d_Y_fog_32 rfl ?_
        refine tt_iconst (v := nI 1) d_Y_fog_33 (by decide) ?_
        refine tt_callV (y_number (d := d) (D := 1) hR (by decide)) cw_Y_number rfl rfl (by decide) rfl (by omega) d_Y_fog_34 rfl rfl (Nat.le_of_ble_eq_true rfl) (Nat.le_of_ble_eq_true rfl) rfl rfl rfl (fun v σ2 q => ?_)
        obtain ⟨rfl, hR2, hF⟩ := q
        rw [hnm.1]
        rw [hnm.2] at hR2
        replace h := h.fa hF
        replace hd := hd.fa hF
        replace hrd : ∀ j, j < i → si _ 164 j = nI (dgN (wX w) j - 1) := fun j q => (congrFun (hF.si 164) j).trans (hrd j q)
        refine tn_iast d_Y_fog_37 rfl (by decide) (by omega) ?_
        refine tt_iinc (lv2 := [_, _, _]) d_Y_fog_38 rfl (nI_inc _ 1) (by decide) rfl ?_
        refine tt_goto (t := 14) d_Y_fog_41 (by decide) ?_
        refine ih (20 - (i + 1)) (by omega) (i + 1) _ rfl (by omega) (as_s hj hne) (hst.2 hne) (yq_164 h) (hd.un (τ := wI _ 164 i _) ⟨rfl, rfl⟩) (RT_164 hR2) (fun j q => ?_)
        rw [si_wI]
        by_cases c9 : j = i
        · rw [if_pos ⟨rfl, c9⟩, c9, (hdl.2.1 hne).2.2.2]
          rfl
        · rw [if_neg (fun q => c9 q.2)]; exact hrd j (by omega)

set_option maxHeartbeats 4000000 in
theorem yc_fog {l : xLa} {d c : Nat} {σ : xs} {w : wv} (ho : okQ w) (hw : YW σ c w)  (hX : okX (wX w)) : TC l M_Y_fog (d + 150) [.ref 154] σ (fun r τ => r = some (.int (a_fog w).1) ∧ YW τ c (a_fog w).2 ∧ YF σ τ) := by
  show T l M_Y_fog (d + 150) 0 _ [] σ _
  refine T_lv (lv2 := [_, _, _]) rfl ?_
  have h := YQ.rf hw.v
  have hd0 := hw.2.2.2.1
  have hb0 := ho.fb
  have hb8 := ho.n8
  refine tt_aload_n d_Y_fog_0 rfl ?_
  refine tt_iconst (v := nI 0) d_Y_fog_1 (by decide) ?_
  refine tt_putI d_Y_fog_2 rfl rfl (by decide) rfl (xpok_int rfl) rfl ?_
  replace h := h.thr (x := nI 0)
  replace hd0 := hd0.thr (x := nI 0)
  refine tt_aload_n d_Y_fog_5 rfl ?_
  refine tt_bipush (v := nI 80) d_Y_fog_6 (by decide) ?_
  refine tt_callV (y_begins (d := d) h hd0 hX (by decide)) cw_Y_begins rfl rfl (by decide) rfl (by omega) d_Y_fog_8 rfl rfl (Nat.le_of_ble_eq_true rfl) (Nat.le_of_ble_eq_true rfl) rfl rfl rfl (fun v σ2 q => ?_)
  obtain ⟨rfl, h, hd, hR, hn18⟩ := q
  rw [Nat.min_eq_left hX.1] at hR
  refine tt_pop d_Y_fog_11 rfl ?_
  refine tt_iconst (v := nI 0) d_Y_fog_12 (by decide) ?_
  refine tt_istore_n (lv2 := [_, _, _]) d_Y_fog_13 (by decide) rfl ?_
  exact y_fog1 ho hX 20 0 _ rfl (by omega) (fun j q => absurd q (Nat.not_lt_zero j)) rfl h hd hR (fun j q => absurd q (Nat.not_lt_zero j))

