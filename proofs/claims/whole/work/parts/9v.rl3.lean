/-! A rule while it is read: the signs of the class. Printed by wip/whole. -/
theorem fsf {u k : Nat} {σ τ : xs} {y : Int32} (h : Fs u σ τ) (hk : ¬ (k = 1 ∨ k = 4)) (e : sf σ u k = y) : sf τ u k = y := (h.2.1 u k (fun q => hk q.2)).trans e
theorem x_closeOne {l : xLa} {d : Nat} {σ : xs} {u q : Nat} {S : rst} (hu : isR u) (hI : RI S q) (hq : q ≤ 40) (hn : rN S = 0) (hR : RX σ u S) (hg : rG S = 0) : TC l M_Rule_closeOne (d + 4) [.ref u] σ (PB (tkB S 41) u σ) := by
  obtain ⟨hW, f5, f6, f7, f8⟩ := hR
  obtain ⟨i1, i2, i3, ⟨i4, i5, i6, i7⟩, i8, i9, i10⟩ := hI
  have e : tkB S 41 = if rD S = 0 then none else some (((stl 0 (rW S) (rC S)).1, (stl 0 (rW S) (rC S)).2.tail), (rD S - 1, rM S), 0, 0) := rfl
  rw [e]
  show T l M_Rule_closeOne (d + 4) 0 _ [] σ _
  refine tt_aload_n d_Rule_closeOne_0 rfl ?_
  refine tn_get d_Rule_closeOne_1 rfl (xR_sh hu) (by decide) (xR_i hu _ (by decide)) f5 ?_
  refine tn_if_ne (t := 9) (by omega) d_Rule_closeOne_4 (by decide) (fun c_4 => ?_) (fun c_4 => ?_)
  · obtain ⟨a1, a2, a3, a4, a5, a6⟩ := stl_ok (b := 0) (rW S) (rC S) i2 i8 (by omega)
    obtain ⟨W', ew⟩ : ∃ W', (stl 0 (rW S) (rC S)).2 = 40 :: W' := by
      rcases a6 rfl with z | z
      · rw [z] at a3
        have : 0 = nb4 (rW S) := a3
        omega
      · exact z
    rw [ew] at a1
    have a1' : (stl 0 (rW S) (rC S)).1.length + (W'.length + 1) = _ := a1
    refine tt_aload_n d_Rule_closeOne_9 rfl ?_
    refine tt_iconst (v := nI 0) d_Rule_closeOne_10 (by decide) ?_
    refine tt_callV (x_settle (d := d) hu (b := 0) (by omega) i2 (by omega) hW) cw_Rule_settle rfl (xR_sh hu) (by decide) rfl (by omega) d_Rule_closeOne_11 rfl rfl (Nat.le_of_ble_eq_true rfl) (Nat.le_of_ble_eq_true rfl) rfl rfl rfl (fun v σ2 q => ?_)
    obtain ⟨rfl, hW2, hF⟩ := q
    have g5 := fsf hF (by decide) f5
    have w4 : sf σ2 u 4 = nI (W'.length + 1) := by have := hW2.2.1; rw [ew] at this; exact this
    refine tt_aload_n d_Rule_closeOne_14 rfl ?_
    refine tt_dup d_Rule_closeOne_15 rfl ?_
    refine tn_get d_Rule_closeOne_16 rfl (xR_sh hu) (by decide) (xR_i hu _ (by decide)) w4 ?_
    refine tt_iconst (v := nI 1) d_Rule_closeOne_19 (by decide) ?_
    refine tn_isub (by omega) d_Rule_closeOne_20 ?_
    refine tt_putI d_Rule_closeOne_21 rfl (xR_sh hu) (by decide) (xR_i hu _ (by decide)) (xpok_int rfl) rfl ?_
    refine tt_aload_n d_Rule_closeOne_24 rfl ?_
    refine tt_dup d_Rule_closeOne_25 rfl ?_
    refine tn_get d_Rule_closeOne_26 rfl (xR_sh hu) (by decide) (xR_i hu _ (by decide)) (sfn g5 (by decide)) ?_
    refine tt_iconst (v := nI 1) d_Rule_closeOne_29 (by decide) ?_
    refine tn_isub (by omega) d_Rule_closeOne_30 ?_
    refine tt_putI d_Rule_closeOne_31 rfl (xR_sh hu) (by decide) (xR_i hu _ (by decide)) (xpok_int rfl) rfl ?_
    refine tt_iconst (v := nI 1) d_Rule_closeOne_34 (by decide) ?_
    refine tt_zret rfl rfl d_Rule_closeOne_35 ?_
    rw [if_neg (by omega)]
    have w3 := hW2.2.2.2
    rw [ew] at w3
    have et : (stl 0 (rW S) (rC S)).2.tail = W' := by rw [ew]; rfl
    refine PB_s ((Fs.u hF).tr (Fu.f.tr Fu.f)) ⟨⟨sfn (sfn hW2.1 (by decide)) (by decide), ?_, AL_f (AL_f hW2.2.2.1), ?_⟩, sfy, sfn (sfn (fsf hF (by decide) f6) (by decide)) (by decide), sfn (sfn (fsf hF (by decide) (hg ▸ f7)) (by decide)) (by decide), sfn (sfn (fsf hF (by decide) (hn ▸ f8)) (by decide)) (by decide)⟩
    · show sf _ u 4 = nI (stl 0 (rW S) (rC S)).2.tail.length
      rw [et]
      exact sfn sfy (by decide)
    · show AL _ _ (stl 0 (rW S) (rC S)).2.tail
      rw [et]
      exact AL_f (AL_f w3.2)
  · rw [if_pos (by omega)]
    refine tt_iconst (v := nI 0) d_Rule_closeOne_7 (by decide) ?_
    refine tt_zret rfl rfl d_Rule_closeOne_8 ?_
    exact PB_n Fu.rf

theorem x_takeDigit {l : xLa} {d : Nat} {σ : xs} {u q s : Nat} {S : rst} (hu : isR u) (hI : RI S q) (hq : q ≤ 40) (hn : rN S = 0) (hR : RX σ u S) (hs : 48 ≤ s ∧ s ≤ 57) : TC l M_Rule_takeDigit (d + 4) [.ref u, .int (nI (s - 48))] σ (PB (tkD S s) u σ) := by
  obtain ⟨hW, f5, f6, f7, f8⟩ := hR
  obtain ⟨i1, i2, i3, ⟨i4, i5, i6, i7⟩, i8, i9, i10⟩ := hI
  show T l M_Rule_takeDigit (d + 4) 0 _ [] σ _
  refine tt_aload_n d_Rule_takeDigit_0 rfl ?_
  refine tn_get d_Rule_takeDigit_1 rfl (xR_sh hu) (by decide) (xR_i hu _ (by decide)) f7 ?_
  refine tn_if_eq (t := 22) (by omega) d_Rule_takeDigit_4 (by decide) (fun c_4 => ?_) (fun c_4 => ?_)
  · have e : tkD S s = none := if_pos (Or.inl c_4)
    rw [e]
    refine tt_iconst (v := nI 0) d_Rule_takeDigit_22 (by decide) ?_
    refine tt_zret rfl rfl d_Rule_takeDigit_23 ?_
    exact PB_n Fu.rf
  · refine tt_aload_n d_Rule_takeDigit_7 rfl ?_
    refine tn_get d_Rule_takeDigit_8 rfl (xR_sh hu) (by decide) (xR_i hu _ (by decide)) f7 ?_
    refine tt_iconst (v := nI 3) d_Rule_takeDigit_11 (by decide) ?_
    refine tn_ic_eq (t := 22) (by omega) (by omega) d_Rule_takeDigit_12 (by decide) (fun c_12 => ?_) (fun c_12 => ?_)
    · have e : tkD S s = none := if_pos (Or.inr c_12)
      rw [e]
      refine tt_iconst (v := nI 0) d_Rule_takeDigit_22 (by decide) ?_
      refine tt_zret rfl rfl d_Rule_takeDigit_23 ?_
      exact PB_n Fu.rf
    · obtain ⟨c, C, ec, hc⟩ := i10 hn (by omega)
      have hp : 10 ^ (rG S) ≤ 100 := Nat.pow_le_pow_right (n := 10) (by decide) (show rG S ≤ 2 by omega)
      rw [ec] at i1
      have i1' : C.length + 1 + (rW S).length ≤ q := i1
      have f1 : sf σ u 1 = nI (C.length + 1) := by have := hW.1; rw [ec] at this; exact this
      have ac : AL σ (u + 1) (c :: C) := by have := hW.2.2.1; rw [ec] at this; exact this
      refine tt_aload_n d_Rule_takeDigit_15 rfl ?_
      refine tn_get d_Rule_takeDigit_16 rfl (xR_sh hu) (by decide) (xR_i hu _ (by decide)) f1 ?_
      refine tn_if_ne (t := 24) (by omega) d_Rule_takeDigit_19 (by decide) (fun c_19 => ?_) (fun c_19 => ?_)
      · refine tt_aload_n d_Rule_takeDigit_24 rfl ?_
        refine tt_dup d_Rule_takeDigit_25 rfl ?_
        refine tn_get d_Rule_takeDigit_26 rfl (xR_sh hu) (by decide) (xR_i hu _ (by decide)) f7 ?_
        refine tt_iconst (v := nI 1) d_Rule_takeDigit_29 (by decide) ?_
        refine tn_iadd d_Rule_takeDigit_30 ?_
        refine tt_putI d_Rule_takeDigit_31 rfl (xR_sh hu) (by decide) (xR_i hu _ (by decide)) (xpok_int rfl) rfl ?_
        refine tt_aload_n d_Rule_takeDigit_34 rfl ?_
        refine tt_getR d_Rule_takeDigit_35 rfl (xR_sh hu) (by decide) ((xR_r hu).1) (xR_0 hu _ (by decide)) ?_
        refine tt_aload_n d_Rule_takeDigit_38 rfl ?_
        refine tn_get d_Rule_takeDigit_39 rfl (xR_sh hu) (by decide) (xR_i hu _ (by decide)) (sfn f1 (by decide)) ?_
        refine tt_iconst (v := nI 1) d_Rule_takeDigit_42 (by decide) ?_
        refine tn_isub (by omega) d_Rule_takeDigit_43 ?_
        refine tt_aload_n d_Rule_takeDigit_44 rfl ?_
        refine tt_getR d_Rule_takeDigit_45 rfl (xR_sh hu) (by decide) ((xR_r hu).1) (xR_0 hu _ (by decide)) ?_
        refine tt_aload_n d_Rule_takeDigit_48 rfl ?_
        refine tn_get d_Rule_takeDigit_49 rfl (xR_sh hu) (by decide) (xR_i hu _ (by decide)) (sfn f1 (by decide)) ?_
        refine tt_iconst (v := nI 1) d_Rule_takeDigit_52 (by decide) ?_
        refine tn_isub (by omega) d_Rule_takeDigit_53 ?_
        refine tn_iald d_Rule_takeDigit_54 ((xR_a hu).1) (by decide) (by omega) (show si (wF σ u 7 (nI (rG S + 1))) (u + 1) (C.length + 1 - 1) = nI c from ac.1) ?_
        refine tt_bipush (v := nI 10) d_Rule_takeDigit_55 (by decide) ?_
        refine tn_imul d_Rule_takeDigit_57 ?_
        refine tt_iload_n d_Rule_takeDigit_58 rfl ?_
        refine tn_iadd d_Rule_takeDigit_59 ?_
        refine tn_iast d_Rule_takeDigit_60 ((xR_a hu).1) (by decide) (by omega) ?_
        refine tt_iconst (v := nI 1) d_Rule_takeDigit_61 (by decide) ?_
        refine tt_zret rfl rfl d_Rule_takeDigit_62 ?_
        have e : tkD S s = some (((c * 10 + (s - 48)) :: C, rW S), (rD S, rM S), rG S + 1, rN S) := by
          unfold tkD
          rw [if_neg (by omega), ec]
        rw [e]
        exact PB_s (Fu.f.tr Fu.c) ⟨⟨sfn f1 (by decide), sfn hW.2.1 (by decide), ⟨by rw [si_wI, if_pos ⟨rfl, rfl⟩], AL_w (AL_f ac.2) (Nat.le_refl _)⟩, AL_q (AL_f hW.2.2.2) (by omega)⟩, sfn f5 (by decide), sfn f6 (by decide), sfy, sfn f8 (by decide)⟩
      · omega

theorem ix_lt : ∀ s, s < 256 → ixF (nI s).toInt8.toInt32 (sb 0) 0 = gI (ltN s) := by decide +kernel
theorem clb_I : ∀ k, k < 6 → ∀ c, c < 32 → nI c &&& (nI (2 ^ k) ^^^ (-1)) = nI (clb c k) := by decide +kernel
theorem c16_N {s : Nat} (h : s < 256) : ((nI s).toUInt32 % 65536).toInt32 = nI s := (show ∀ s, s < 256 → ((nI s).toUInt32 % 65536).toInt32 = nI s by decide +kernel) s h

