/-! Small calls: keep, again. Printed by wip/whole. -/
theorem xrr_k : ∀ i, i < 3 → xrr 116 i = some (139 + 5 * i) := by decide
theorem X_keep_w {σ : xs} {w : wv} {s i : Nat} (h : XW σ w) (hi : i < 3) (hs : s < 8) (h2 : ∀ i, i < 3 → (s.testBit i = (wK w i).isSome) ∧ ∀ v, wK w i = some v → ST σ (139 + 5 * i) v) : XW (wF (X_copy σ (139 + 5 * i) 20) 0 14 (nI (s ||| 2 ^ i))) (wE w, wV w, wX w, wD w, wU w, uqK (wK w) i (wV w), wS w) ∧ XF σ (wF (X_copy σ (139 + 5 * i) 20) 0 14 (nI (s ||| 2 ^ i))) := by
  have f1 : Fq (fun c => 139 + 5 * i + 1 ≤ c ∧ c ≤ 139 + 5 * i + 4) (fun c k => c = 139 + 5 * i) (fun _ => False) σ (X_copy σ (139 + 5 * i) 20) := Fq_copy (isS_k hi) isS_20 (fun c hc => hc) (fun k hk => rfl)
  have f2 : Fq (fun c => 139 + 5 * i + 1 ≤ c ∧ c ≤ 139 + 5 * i + 4) (fun c k => c = 139 + 5 * i ∨ c = 0) (fun _ => False) σ (wF (X_copy σ (139 + 5 * i) 20) 0 14 (nI (s ||| 2 ^ i))) := Fq.tr (f1.mono (fun _ q => q) (fun _ _ q => Or.inl q) (fun _ q => q)) (Fq.wF (Or.inr rfl))
  have f3 : Fq (fun c => 139 ≤ c ∧ c ≤ 153) (fun c k => (139 ≤ c ∧ c ≤ 153) ∨ (c = 0 ∧ k = 14)) (fun _ => False) σ (wF (X_copy σ (139 + 5 * i) 20) 0 14 (nI (s ||| 2 ^ i))) := Fq.tr (f1.mono (fun c q => by omega) (fun c k q => by omega) (fun _ q => q)) (Fq.wF (Or.inr ⟨rfl, rfl⟩))
  have hp : 2 ^ i < 2 ^ 3 := Nat.pow_lt_pow_right (by decide) hi
  refine h.putK f3 ⟨s ||| 2 ^ i, Nat.or_lt_two_pow (n := 3) hs hp, rfl, fun j hj => ?_⟩
  obtain ⟨g1, g2⟩ := h2 j hj
  unfold uqK
  by_cases c : j = i
  · subst c
    rw [if_pos rfl]
    refine ⟨by rw [Nat.testBit_or, tb_pow, decide_eq_true rfl, Bool.or_true]; rfl, fun v hv => ?_⟩
    obtain rfl : wV w = v := Option.some.inj hv
    exact (ST_copy (isS_k hj) isS_20 h.2.1).fq (Fq.wF (A := fun _ => False) (F := fun c k => c = 0) (J := fun _ => False) rfl) (fun _ _ => id) (fun k hk => by omega)
  · rw [if_neg c]
    refine ⟨by rw [Nat.testBit_or, tb_pow, decide_eq_false (fun q => c q.symm), Bool.or_false]; exact g1, fun v hv => ?_⟩
    exact (g2 v hv).fq f2 (fun k hk => by omega) (fun k hk => by omega)
theorem X_again_w {σ : xs} {w : wv} {v : sv} {i : Nat} (h : XW σ w) (hi : i < 3) (hv : ST σ (139 + 5 * i) v) : XW (wF (X_copy σ 20 (139 + 5 * i)) 35 2 (nI 0)) (wE w, v, wX w, wD w, [], wK w, wS w) ∧ XF σ (wF (X_copy σ 20 (139 + 5 * i)) 35 2 (nI 0)) := by
  have f1 : Fq (fun c => 21 ≤ c ∧ c ≤ 24) (fun c k => c = 20) (fun _ => False) σ (X_copy σ 20 (139 + 5 * i)) := Fq_copy isS_20 (isS_k hi) (fun c hc => hc) (fun k hk => rfl)
  have f2 : Fq (fun c => 21 ≤ c ∧ c ≤ 24) (fun c k => c = 20 ∨ c = 35) (fun _ => False) σ (wF (X_copy σ 20 (139 + 5 * i)) 35 2 (nI 0)) := Fq.tr (f1.mono (fun _ q => q) (fun _ _ q => Or.inl q) (fun _ q => q)) (Fq.wF (Or.inr rfl))
  refine h.putN (f2.mono (fun c hc => by omega) (fun c k hc => by unfold wF_; omega) (fun _ q => q.elim)) ?_ (h.2.2.2.1.fq f2 id (by omega)) ?_
  · exact (ST_copy isS_20 (isS_k hi) hv).fq (Fq.wF (A := fun _ => False) (F := fun c k => c = 35) (J := fun _ => False) rfl) (fun _ _ => id) (fun k hk => by omega)
  · exact XP_nil (h.2.2.2.2.1.fq f1 (fun c h1 h2 => by omega) (fun c k h1 h2 => by omega))
theorem iN_f {i : Int32} {b : Nat} (hb : b < 2 ^ 31) (h : i.toInt < 0 ∨ (b : Int) ≤ i.toInt) (h1 : ¬ i < 0) (h2 : i < nI b) : False := by
  rw [show (0 : Int32) = nI 0 from rfl, rg_lt (by decide)] at h1
  rw [rg_lt hb] at h2
  omega
set_option maxHeartbeats 4000000 in
theorem xc_keep {l : xLa} {d : Nat} {σ : xs} {w : wv} (ho : okQ w) (hw : XW σ w) {n : Int32} : TC l M_X_keep (d + 30) [.ref 0, .int n] σ (fun r τ => r = some (.int (a_keep w n).1) ∧ XW τ (a_keep w n).2 ∧ XF σ τ) := by
  show T l M_X_keep (d + 30) 0 _ [] σ _
  refine T_lv (lv2 := [_, _]) rfl ?_
  have h := XQ.rf hw.v
  have hd0 := hw.2.2.2.1
  have hb0 := ho.fb
  have hb8 := ho.n8
  obtain ⟨s, hs8, f1, f2⟩ := hw.2.2.2.2.2.1
  rcases inN_c n 3 with ⟨m, hm, rfl, hq⟩ | ⟨hq, hb⟩
  · have hqv : a_keep w (nI m) = (nI 1, (wE w, wV w, wX w, wD w, wU w, uqK (wK w) m (wV w), wS w)) := by unfold a_keep; rw [hq]
    rw [hqv]
    have fs : sf (X_copy σ (139 + 5 * m) 20) 0 14 = nI s := (sf_copy σ (139 + 5 * m) 20 0 14).trans ((if_neg (by omega)).trans f1)
    refine tt_iload_n d_X_keep_0 rfl ?_
    refine tn_if_lt (t := 9) (by omega) d_X_keep_1 (by decide) ?_
    refine tt_iload_n d_X_keep_4 rfl ?_
    refine tt_iconst (v := nI 3) d_X_keep_5 (by decide) ?_
    refine tn_ic_lt (t := 11) (by omega) (by omega) d_X_keep_6 (by decide) (fun c_6 => ?_) (fun c_6 => ?_)
    · refine tt_aload_n d_X_keep_11 rfl ?_
      refine tt_getR d_X_keep_12 rfl rfl (by decide) rfl rfl ?_
      refine tt_iload_n d_X_keep_15 rfl ?_
      refine tn_aald d_X_keep_16 rfl (by decide) (by decide) (by omega) (xrr_k m hm) ?_
      refine tt_aload_n d_X_keep_17 rfl ?_
      refine tt_getR d_X_keep_18 rfl rfl (by decide) rfl rfl ?_
      refine tt_callV (x_State_copy (d := d) (isS_k hm) isS_20) cw_State_copy rfl (xS_sh (isS_k hm)) (by decide) rfl (by omega) d_X_keep_21 rfl rfl (Nat.le_of_ble_eq_true rfl) (Nat.le_of_ble_eq_true rfl) rfl rfl rfl (fun v σ2 q => ?_)
      obtain ⟨rfl, rfl⟩ := q
      refine tt_aload_n d_X_keep_24 rfl ?_
      refine tt_dup d_X_keep_25 rfl ?_
      refine tn_get d_X_keep_26 rfl rfl (by decide) rfl fs ?_
      refine tt_iconst (v := nI 1) d_X_keep_29 (by decide) ?_
      refine tt_iload_n d_X_keep_30 rfl ?_
      refine tt_ishl d_X_keep_31 ?_
      refine tt_top (shl_9 _ (by omega)) ?_
      refine tt_ior d_X_keep_32 ?_
      refine tt_top (or_N _ _) ?_
      refine tt_putI d_X_keep_33 rfl rfl (by decide) rfl (xpok_int rfl) rfl ?_
      refine tt_iconst (v := nI 1) d_X_keep_36 (by decide) ?_
      refine tt_zret rfl rfl d_X_keep_37 ?_
      have y := X_keep_w hw hm hs8 f2
      exact ⟨rfl, y.1, y.2⟩
    · omega
  · have hqv : a_keep w n = (nI 0, w) := by unfold a_keep; rw [hq]
    rw [hqv]
    refine tt_iload_n d_X_keep_0 rfl ?_
    refine tt_if_lt (t := 9) d_X_keep_1 (by decide) (fun c_1 => ?_) (fun c_1 => ?_)
    · refine tt_iconst (v := nI 0) d_X_keep_9 (by decide) ?_
      refine tt_zret rfl rfl d_X_keep_10 ?_
      exact ⟨rfl, h.ww hd0, h.2.1⟩
    · refine tt_iload_n d_X_keep_4 rfl ?_
      refine tt_iconst (v := nI 3) d_X_keep_5 (by decide) ?_
      refine tt_ic_lt (t := 11) d_X_keep_6 (by decide) (fun c_6 => ?_) (fun c_6 => ?_)
      · exact (iN_f (b := 3) (by decide) hb c_1 c_6).elim
      · refine tt_iconst (v := nI 0) d_X_keep_9 (by decide) ?_
        refine tt_zret rfl rfl d_X_keep_10 ?_
        exact ⟨rfl, h.ww hd0, h.2.1⟩

set_option maxHeartbeats 4000000 in
theorem xc_again {l : xLa} {d : Nat} {σ : xs} {w : wv} (ho : okQ w) (hw : XW σ w) {n : Int32} : TC l M_X_again (d + 30) [.ref 0, .int n] σ (fun r τ => r = some (.int (a_again w n).1) ∧ XW τ (a_again w n).2 ∧ XF σ τ) := by
  show T l M_X_again (d + 30) 0 _ [] σ _
  refine T_lv (lv2 := [_, _]) rfl ?_
  have h := XQ.rf hw.v
  have hd0 := hw.2.2.2.1
  have hb0 := ho.fb
  have hb8 := ho.n8
  obtain ⟨s, hs8, f1, f2⟩ := hw.2.2.2.2.2.1
  rcases inN_c n 3 with ⟨m, hm, rfl, hq⟩ | ⟨hq, hb⟩
  · obtain ⟨g1, g2⟩ := f2 m hm
    have tb := tbN_c s m
    rcases hK : wK w m with _ | v
    · have hqv : a_again w (nI m) = (nI 0, w) := by unfold a_again; rw [hq]; dsimp only; rw [hK]
      rw [hqv]
      have t0 : tbN s m = 0 := tb.2.2.mpr (by rw [g1, hK]; decide)
      refine tt_iload_n d_X_again_0 rfl ?_
      refine tn_if_lt (t := 20) (by omega) d_X_again_1 (by decide) ?_
      refine tt_iload_n d_X_again_4 rfl ?_
      refine tt_iconst (v := nI 3) d_X_again_5 (by decide) ?_
      refine tn_ic_ge (t := 20) (by omega) (by omega) d_X_again_6 (by decide) (fun c_6 => ?_) (fun c_6 => ?_)
      · omega
      · refine tt_aload_n d_X_again_9 rfl ?_
        refine tn_get d_X_again_10 rfl rfl (by decide) rfl f1 ?_
        refine tt_iload_n d_X_again_13 rfl ?_
        refine tt_iushr d_X_again_14 ?_
        refine tt_iconst (v := nI 1) d_X_again_15 (by decide) ?_
        refine tt_iand d_X_again_16 ?_
        refine tt_top (xbit_N (by omega) (by omega)) ?_
        refine tn_if_ne (t := 22) (by omega) d_X_again_17 (by decide) (fun c_17 => ?_) (fun c_17 => ?_)
        · omega
        · refine tt_iconst (v := nI 0) d_X_again_20 (by decide) ?_
          refine tt_zret rfl rfl d_X_again_21 ?_
          exact ⟨rfl, h.ww hd0, h.2.1⟩
    · have hqv : a_again w (nI m) = (nI 1, (wE w, v, wX w, wD w, [], wK w, wS w)) := by unfold a_again; rw [hq]; dsimp only; rw [hK]
      rw [hqv]
      have t0 : tbN s m = 1 := tb.2.1.mpr (by rw [g1, hK]; rfl)
      refine tt_iload_n d_X_again_0 rfl ?_
      refine tn_if_lt (t := 20) (by omega) d_X_again_1 (by decide) ?_
      refine tt_iload_n d_X_again_4 rfl ?_
      refine tt_iconst (v := nI 3) d_X_again_5 (by decide) ?_
      refine tn_ic_ge (t := 20) (by omega) (by omega) d_X_again_6 (by decide) (fun c_6 => ?_) (fun c_6 => ?_)
      · omega
      · refine tt_aload_n d_X_again_9 rfl ?_
        refine tn_get d_X_again_10 rfl rfl (by decide) rfl f1 ?_
        refine tt_iload_n d_X_again_13 rfl ?_
        refine tt_iushr d_X_again_14 ?_
        refine tt_iconst (v := nI 1) d_X_again_15 (by decide) ?_
        refine tt_iand d_X_again_16 ?_
        refine tt_top (xbit_N (by omega) (by omega)) ?_
        refine tn_if_ne (t := 22) (by omega) d_X_again_17 (by decide) (fun c_17 => ?_) (fun c_17 => ?_)
        · refine tt_aload_n d_X_again_22 rfl ?_
          refine tt_getR d_X_again_23 rfl rfl (by decide) rfl rfl ?_
          refine tt_aload_n d_X_again_26 rfl ?_
          refine tt_getR d_X_again_27 rfl rfl (by decide) rfl rfl ?_
          refine tt_iload_n d_X_again_30 rfl ?_
          refine tn_aald d_X_again_31 rfl (by decide) (by decide) (by omega) (xrr_k m hm) ?_
          refine tt_callV (x_State_copy (d := d) isS_20 (isS_k hm)) cw_State_copy rfl rfl (by decide) rfl (by omega) d_X_again_32 rfl rfl (Nat.le_of_ble_eq_true rfl) (Nat.le_of_ble_eq_true rfl) rfl rfl rfl (fun v σ2 q => ?_)
          obtain ⟨rfl, rfl⟩ := q
          refine tt_aload_n d_X_again_35 rfl ?_
          refine tt_getR d_X_again_36 rfl rfl (by decide) rfl rfl ?_
          refine tt_callV (x_Past_clear (d := d)) cw_Past_clear rfl rfl (by decide) rfl (by omega) d_X_again_39 rfl rfl (Nat.le_of_ble_eq_true rfl) (Nat.le_of_ble_eq_true rfl) rfl rfl rfl (fun v σ2 q => ?_)
          obtain ⟨rfl, rfl⟩ := q
          refine tt_iconst (v := nI 1) d_X_again_42 (by decide) ?_
          refine tt_zret rfl rfl d_X_again_43 ?_
          have y := X_again_w hw hm (g2 v hK)
          exact ⟨rfl, y.1, y.2⟩
        · omega
  · have hqv : a_again w n = (nI 0, w) := by unfold a_again; rw [hq]
    rw [hqv]
    refine tt_iload_n d_X_again_0 rfl ?_
    refine tt_if_lt (t := 20) d_X_again_1 (by decide) (fun c_1 => ?_) (fun c_1 => ?_)
    · refine tt_iconst (v := nI 0) d_X_again_20 (by decide) ?_
      refine tt_zret rfl rfl d_X_again_21 ?_
      exact ⟨rfl, h.ww hd0, h.2.1⟩
    · refine tt_iload_n d_X_again_4 rfl ?_
      refine tt_iconst (v := nI 3) d_X_again_5 (by decide) ?_
      refine tt_ic_ge (t := 20) d_X_again_6 (by decide) (fun c_6 => ?_) (fun c_6 => ?_)
      · refine tt_iconst (v := nI 0) d_X_again_20 (by decide) ?_
        refine tt_zret rfl rfl d_X_again_21 ?_
        exact ⟨rfl, h.ww hd0, h.2.1⟩
      · exact (iN_f (b := 3) (by decide) hb c_1 (Int32.not_le.mp c_6)).elim

theorem ot_st {τ : xs} {b n : Nat} {y : Int32} {g : Nat → Int32} {P : Nat → Prop} (h : ∀ x, P x → si τ b x = g x) (hn : ¬ P n) : ∀ x, P x → si (wI τ b n y) b x = g x := fun x hx => by
  rw [si_wI, if_neg (fun q => hn (by rw [← q.2]; exact hx))]
  exact h x hx
set_option maxHeartbeats 4000000 in
theorem y_keep_l {l : xLa} {d : Nat} {σ : xs} {c : Nat} {w : wv} {q : Nat} (ho : okQ w) (hu : q < 3) : ∀ (m : Nat) (i : Nat) (τ : xs), 38 - i = m → i ≤ 38 → Fq (fun c => c = 188) (fun _ _ => False) (fun _ => False) σ τ → (∀ j, j < i → si τ 188 (38 * q + j) = si σ 160 j) → (∀ x, (x < 38 * q ∨ 38 * q + 38 ≤ x) → si τ 188 x = si σ 188 x) → T l M_Y_keep (d + 150) 38 [some (.ref 154), some (.int (nI q)), some (.int (nI i))] [] τ (fun r υ => r = some (.int (nI 1)) ∧ Fq (fun c => c = 188) (fun _ _ => False) (fun _ => False) σ υ ∧ (∀ j, j < 38 → si υ 188 (38 * q + j) = si σ 160 j) ∧ (∀ x, (x < 38 * q ∨ 38 * q + 38 ≤ x) → si υ 188 x = si σ 188 x)) := by
  have hb0 := ho.fb
  have hb8 := ho.n8
  intro m
  induction m using Nat.strongRecOn with
  | ind m ih =>
    intro i τ hm hi hF hX hO
    refine tt_iload_n d_Y_keep_38 rfl ?_
    refine tt_bipush (v := nI 38) d_Y_keep_39 (by decide) ?_
    refine tn_ic_ge (t := 67) (by omega) (by omega) d_Y_keep_41 (by decide) (fun c_41 => ?_) (fun c_41 => ?_)
    · obtain rfl : i = 38 := by omega
      refine tt_iconst (v := nI 1) d_Y_keep_67 (by decide) ?_
      refine tt_zret rfl rfl d_Y_keep_68 ?_
      exact ⟨rfl, hF, hX, hO⟩
    · refine tt_aload_n d_Y_keep_44 rfl ?_
      refine tt_getR d_Y_keep_45 rfl rfl (by decide) rfl rfl ?_
      refine tt_bipush (v := nI 38) d_Y_keep_48 (by decide) ?_
      refine tt_iload_n d_Y_keep_50 rfl ?_
      refine tn_imul d_Y_keep_51 ?_
      refine tt_iload_n d_Y_keep_52 rfl ?_
      refine tn_iadd d_Y_keep_53 ?_
      refine tt_aload_n d_Y_keep_54 rfl ?_
      refine tt_getR d_Y_keep_55 rfl rfl (by decide) rfl rfl ?_
      refine tt_iload_n d_Y_keep_58 rfl ?_
      refine tn_iald d_Y_keep_59 rfl (by decide) (by omega) (show si τ 160 i = si σ 160 i from by rw [hF.1 160 (by omega)]) ?_
      refine tn_iast d_Y_keep_60 rfl (by decide) (by omega) ?_
      refine tt_iinc (lv2 := [_, _, _]) d_Y_keep_61 rfl (nI_inc _ 1) (by decide) rfl ?_
      refine tt_goto (t := 38) d_Y_keep_64 (by decide) ?_
      exact ih (38 - (i + 1)) (by omega) (i + 1) _ rfl (by omega) (hF.tr (Fq.wI rfl)) (cp_st hX) (ot_st hO (by omega))

theorem Y_keep_w {σ τ : xs} {c q : Nat} {w : wv} (h8 : eN (wE w) ≤ 8) (hq : q < 3) (h : YW σ c w) (hf : Fq (fun c => c = 188) (fun _ _ => False) (fun _ => False) (wI (wI σ 186 q (nI 1)) 187 q (nI c)) τ) (hX : ∀ j, j < 38 → si τ 188 (38 * q + j) = si σ 160 j) (hO : ∀ x, (x < 38 * q ∨ 38 * q + 38 ≤ x) → si τ 188 x = si σ 188 x) : YW τ c (wE w, wV w, wX w, wD w, wU w, uqK (wK w) q (wV w), wS w) ∧ YF σ τ := by
  have hK := h.2.2.2.2.2.1
  have f1 : Fq (fun c => 186 ≤ c ∧ c ≤ 188) (fun _ _ => False) (fun _ => False) σ τ := Fq.tr (Fq.tr (Fq.wI (by omega)) (Fq.wI (by omega))) (hf.mono (fun c hc => by omega) (fun _ _ q => q) (fun _ q => q))
  have e6 : si τ 186 = si (wI (wI σ 186 q (nI 1)) 187 q (nI c)) 186 := hf.1 186 (by omega)
  have e7 : si τ 187 = si (wI (wI σ 186 q (nI 1)) 187 q (nI c)) 187 := hf.1 187 (by omega)
  refine h.putK f1 ⟨(f1.2.1 154 6 id).trans hK.1, fun i hi => ?_⟩
  obtain ⟨b, k, hb, hk, g1, g2, g3, g4⟩ := hK.2 i hi
  rw [e6, e7, si_wI, si_wI, si_wI, si_wI]
  unfold uqK
  by_cases z : i = q
  · subst z
    refine ⟨1, c, by decide, Nat.le_refl c, ?_, ?_, ?_, fun v hv => ?_⟩
    · simp
    · simp
    · simp
    · rw [if_pos rfl] at hv
      obtain rfl : wV w = v := Option.some.inj hv
      exact rO_c h8 h.2.1 (fun j hj => hX j hj)
  · refine ⟨b, k, hb, hk, ?_, ?_, ?_, fun v hv => ?_⟩
    · rw [if_neg (by omega), if_neg (by omega)]; exact g1
    · rw [if_neg (by omega), if_neg (by omega)]; exact g2
    · rw [if_neg z]; exact g3
    · rw [if_neg z] at hv
      exact rO_c h8 (g4 v hv) (fun j hj => hO _ (by omega))
set_option maxHeartbeats 4000000 in
theorem yc_keep {l : xLa} {d c : Nat} {σ : xs} {w : wv} (ho : okQ w) (hw : YW σ c w) {n : Int32} : TC l M_Y_keep (d + 150) [.ref 154, .int n] σ (fun r τ => r = some (.int (a_keep w n).1) ∧ YW τ c (a_keep w n).2 ∧ YF σ τ) := by
  show T l M_Y_keep (d + 150) 0 _ [] σ _
  refine T_lv (lv2 := [_, _, _]) rfl ?_
  have h := YQ.rf hw.v
  have hd0 := hw.2.2.2.1
  have hb0 := ho.fb
  have hb8 := ho.n8
  rcases inN_c n 3 with ⟨m, hm, rfl, hq⟩ | ⟨hq, hb⟩
  · have hqv : a_keep w (nI m) = (nI 1, (wE w, wV w, wX w, wD w, wU w, uqK (wK w) m (wV w), wS w)) := by unfold a_keep; rw [hq]
    rw [hqv]
    refine tt_aload_n d_Y_keep_0 rfl ?_
    refine tt_iconst (v := nI 0) d_Y_keep_1 (by decide) ?_
    refine tt_putI d_Y_keep_2 rfl rfl (by decide) rfl (xpok_int rfl) rfl ?_
    replace h := h.thr (x := nI 0)
    replace hd0 := hd0.thr (x := nI 0)
    refine tt_iload_n d_Y_keep_5 rfl ?_
    refine tt_i2l d_Y_keep_6 ?_
    refine tt_lconst (v := 0) d_Y_keep_7 (by decide) ?_
    refine tt_ldc2_w d_Y_keep_8 rfl ?_
    refine tt_callS (y_in (d := d)) cw_Y_in rfl (by omega) d_Y_keep_11 rfl rfl (Nat.le_of_ble_eq_true rfl) (Nat.le_of_ble_eq_true rfl) rfl rfl rfl (fun v σ2 q => ?_)
    obtain ⟨rfl, e9⟩ := q
    rw [e9, show Yin (nI m).toInt64 0 2 = nI 1 from Yin_t (a := 0) (b := 2) rfl rfl (by omega) (by omega) (by decide)]
    clear e9
    refine tn_if_ne (t := 19) (by omega) d_Y_keep_14 (by decide) (fun c_14 => ?_) (fun c_14 => ?_)
    · refine tt_aload_n d_Y_keep_19 rfl ?_
      refine tt_getR d_Y_keep_20 rfl rfl (by decide) rfl rfl ?_
      refine tt_iload_n d_Y_keep_23 rfl ?_
      refine tt_iconst (v := nI 1) d_Y_keep_24 (by decide) ?_
      refine tn_zast d_Y_keep_25 rfl (by decide) (by omega) rfl ?_
      refine tt_aload_n d_Y_keep_26 rfl ?_
      refine tt_getR d_Y_keep_27 rfl rfl (by decide) rfl rfl ?_
      refine tt_iload_n d_Y_keep_30 rfl ?_
      refine tt_aload_n d_Y_keep_31 rfl ?_
      refine tn_get d_Y_keep_32 rfl rfl (by decide) rfl h.1.2.2.2.2.1.1 ?_
      refine tn_iast d_Y_keep_35 rfl (by decide) (by omega) ?_
      refine tt_iconst (v := nI 0) d_Y_keep_36 (by decide) ?_
      refine tt_istore_n (lv2 := [_, _, _]) d_Y_keep_37 (by decide) rfl ?_
      refine T.mono (y_keep_l (c := c) (q := m) ho hm 38 0 _ rfl (by omega) Fq.rf (fun j hj => absurd hj (Nat.not_lt_zero j)) (fun x hx => rfl)) ?_
      rintro r υ ⟨rfl, z1, z2, z3⟩
      have z := Y_keep_w hb8 hm (h.ww hd0) z1 z2 z3
      exact ⟨rfl, z.1, h.2.tr z.2⟩
    · exact absurd c_14 (by decide)
  · have hqv : a_keep w n = (nI 0, w) := by unfold a_keep; rw [hq]
    rw [hqv]
    refine tt_aload_n d_Y_keep_0 rfl ?_
    refine tt_iconst (v := nI 0) d_Y_keep_1 (by decide) ?_
    refine tt_putI d_Y_keep_2 rfl rfl (by decide) rfl (xpok_int rfl) rfl ?_
    replace h := h.thr (x := nI 0)
    replace hd0 := hd0.thr (x := nI 0)
    refine tt_iload_n d_Y_keep_5 rfl ?_
    refine tt_i2l d_Y_keep_6 ?_
    refine tt_lconst (v := 0) d_Y_keep_7 (by decide) ?_
    refine tt_ldc2_w d_Y_keep_8 rfl ?_
    refine tt_callS (y_in (d := d)) cw_Y_in rfl (by omega) d_Y_keep_11 rfl rfl (Nat.le_of_ble_eq_true rfl) (Nat.le_of_ble_eq_true rfl) rfl rfl rfl (fun v σ2 q => ?_)
    obtain ⟨rfl, e9⟩ := q
    rw [e9, show Yin n.toInt64 0 2 = nI 0 from Yin_f (a := 0) (b := 2) rfl rfl (by decide) (by decide) (by omega)]
    clear e9
    refine tn_if_ne (t := 19) (by omega) d_Y_keep_14 (by decide) (fun c_14 => ?_) (fun c_14 => ?_)
    · exact absurd rfl c_14
    · refine tt_iconst (v := nI 0) d_Y_keep_17 (by decide) ?_
      refine tt_zret rfl rfl d_Y_keep_18 ?_
      exact ⟨rfl, h.ww hd0, h.2⟩

set_option maxHeartbeats 4000000 in
theorem y_again_l {l : xLa} {d : Nat} {σ : xs} {c : Nat} {w : wv} {q : Nat} (ho : okQ w) (hu : q < 3) : ∀ (m : Nat) (i : Nat) (τ : xs), 38 - i = m → i ≤ 38 → Fq (fun c => c = 160) (fun _ _ => False) (fun _ => False) σ τ → (∀ j, j < i → si τ 160 j = si σ 188 (38 * q + j)) → T l M_Y_again (d + 150) 43 [some (.ref 154), some (.int (nI q)), some (.int (nI i))] [] τ (fun r υ => r = some (.int (nI 1)) ∧ ∃ ρ, υ = wF ρ 154 30 (nI 0) ∧ Fq (fun c => c = 160) (fun _ _ => False) (fun _ => False) σ ρ ∧ (∀ j, j < 38 → si ρ 160 j = si σ 188 (38 * q + j))) := by
  have hb0 := ho.fb
  have hb8 := ho.n8
  intro m
  induction m using Nat.strongRecOn with
  | ind m ih =>
    intro i τ hm hi hF hX
    refine tt_iload_n d_Y_again_43 rfl ?_
    refine tt_bipush (v := nI 38) d_Y_again_44 (by decide) ?_
    refine tn_ic_ge (t := 72) (by omega) (by omega) d_Y_again_46 (by decide) (fun c_46 => ?_) (fun c_46 => ?_)
    · obtain rfl : i = 38 := by omega
      refine tt_aload_n d_Y_again_72 rfl ?_
      refine tt_iconst (v := nI 0) d_Y_again_73 (by decide) ?_
      refine tt_putI d_Y_again_74 rfl rfl (by decide) rfl (xpok_int rfl) rfl ?_
      refine tt_iconst (v := nI 1) d_Y_again_77 (by decide) ?_
      refine tt_zret rfl rfl d_Y_again_78 ?_
      exact ⟨rfl, τ, rfl, hF, hX⟩
    · refine tt_aload_n d_Y_again_49 rfl ?_
      refine tt_getR d_Y_again_50 rfl rfl (by decide) rfl rfl ?_
      refine tt_iload_n d_Y_again_53 rfl ?_
      refine tt_aload_n d_Y_again_54 rfl ?_
      refine tt_getR d_Y_again_55 rfl rfl (by decide) rfl rfl ?_
      refine tt_bipush (v := nI 38) d_Y_again_58 (by decide) ?_
      refine tt_iload_n d_Y_again_60 rfl ?_
      refine tn_imul d_Y_again_61 ?_
      refine tt_iload_n d_Y_again_62 rfl ?_
      refine tn_iadd d_Y_again_63 ?_
      refine tn_iald d_Y_again_64 rfl (by decide) (by omega) (show si τ 188 (38 * q + i) = si σ 188 (38 * q + i) from by rw [hF.1 188 (by omega)]) ?_
      refine tn_iast d_Y_again_65 rfl (by decide) (by omega) ?_
      refine tt_iinc (lv2 := [_, _, _]) d_Y_again_66 rfl (nI_inc _ 1) (by decide) rfl ?_
      refine tt_goto (t := 43) d_Y_again_69 (by decide) ?_
      exact ih (38 - (i + 1)) (by omega) (i + 1) _ rfl (by omega) (hF.tr (Fq.wI rfl)) (cs_st hX)

theorem Y_again_w {σ τ : xs} {c q : Nat} {w : wv} {v : sv} (h8 : eN (wE w) ≤ 8) (h : YW σ c w) (hv : rO (fun j => si σ 188 (38 * q + j)) (eN (wE w)) v) (hf : Fq (fun c => c = 160) (fun _ _ => False) (fun _ => False) σ τ) (hX : ∀ j, j < 38 → si τ 160 j = si σ 188 (38 * q + j)) : YW (wF τ 154 30 (nI 0)) c (wE w, v, wX w, wD w, [], wK w, wS w) ∧ YF σ (wF τ 154 30 (nI 0)) := by
  have f1 : Fq (fun c => c = 160) (fun c k => c = 154 ∧ k = 30) (fun _ => False) σ (wF τ 154 30 (nI 0)) := Fq.tr (hf.mono (fun _ q => q) (fun _ _ q => q.elim) (fun _ q => q)) (Fq.wF ⟨rfl, rfl⟩)
  exact h.putV (f1.mono (fun c hc => by unfold yA; omega) (fun c k hc => by unfold yF; omega) (fun _ q => q.elim)) (rO_c h8 hv (fun j hj => hX j hj)) (h.2.2.2.1.fq f1 id (by omega)) ⟨rfl, fun j hj => absurd hj (Nat.not_lt_zero j)⟩
set_option maxHeartbeats 4000000 in
theorem yc_again {l : xLa} {d c : Nat} {σ : xs} {w : wv} (ho : okQ w) (hw : YW σ c w) (hc : c < 2 ^ 31) {n : Int32} : TC l M_Y_again (d + 150) [.ref 154, .int n] σ (fun r τ => r = some (.int (a_again w n).1) ∧ YW τ c (a_again w n).2 ∧ YF σ τ) := by
  show T l M_Y_again (d + 150) 0 _ [] σ _
  refine T_lv (lv2 := [_, _, _]) rfl ?_
  have h := YQ.rf hw.v
  have hd0 := hw.2.2.2.1
  have hb0 := ho.fb
  have hb8 := ho.n8
  rcases inN_c n 3 with ⟨m, hm, rfl, hq⟩ | ⟨hq, hb⟩
  · obtain ⟨b, k, hb1, hk, g1, g2, g3, g4⟩ := hw.2.2.2.2.2.1.2 m hm
    rcases hK : wK w m with _ | v
    · have hqv : a_again w (nI m) = (nI 0, w) := by unfold a_again; rw [hq]; dsimp only; rw [hK]
      rw [hqv]
      have t0 : ¬ (b = 1 ∧ k = c) := fun z => by have := g3.mpr z; rw [hK] at this; cases this
      refine tt_aload_n d_Y_again_0 rfl ?_
      refine tt_iconst (v := nI 0) d_Y_again_1 (by decide) ?_
      refine tt_putI d_Y_again_2 rfl rfl (by decide) rfl (xpok_int rfl) rfl ?_
      replace h := h.thr (x := nI 0)
      replace hd0 := hd0.thr (x := nI 0)
      refine tt_iload_n d_Y_again_5 rfl ?_
      refine tt_i2l d_Y_again_6 ?_
      refine tt_lconst (v := 0) d_Y_again_7 (by decide) ?_
      refine tt_ldc2_w d_Y_again_8 rfl ?_
      refine tt_callS (y_in (d := d)) cw_Y_in rfl (by omega) d_Y_again_11 rfl rfl (Nat.le_of_ble_eq_true rfl) (Nat.le_of_ble_eq_true rfl) rfl rfl rfl (fun v σ2 q => ?_)
      obtain ⟨rfl, e9⟩ := q
      rw [e9, show Yin (nI m).toInt64 0 2 = nI 1 from Yin_t (a := 0) (b := 2) rfl rfl (by omega) (by omega) (by decide)]
      clear e9
      refine tn_if_eq (t := 39) (by omega) d_Y_again_14 (by decide) (fun c_14 => ?_) (fun c_14 => ?_)
      · exact absurd c_14 (by decide)
      · refine tt_aload_n d_Y_again_17 rfl ?_
        refine tt_getR d_Y_again_18 rfl rfl (by decide) rfl rfl ?_
        refine tt_iload_n d_Y_again_21 rfl ?_
        refine tn_zald d_Y_again_22 rfl (by decide) (by omega) g1 ?_
        refine tn_if_eq (t := 39) (by omega) d_Y_again_23 (by decide) (fun c_23 => ?_) (fun c_23 => ?_)
        · refine tt_iconst (v := nI 0) d_Y_again_39 (by decide) ?_
          refine tt_zret rfl rfl d_Y_again_40 ?_
          exact ⟨rfl, h.ww hd0, h.2⟩
        · refine tt_aload_n d_Y_again_26 rfl ?_
          refine tt_getR d_Y_again_27 rfl rfl (by decide) rfl rfl ?_
          refine tt_iload_n d_Y_again_30 rfl ?_
          refine tn_iald d_Y_again_31 rfl (by decide) (by omega) g2 ?_
          refine tt_aload_n d_Y_again_32 rfl ?_
          refine tn_get d_Y_again_33 rfl rfl (by decide) rfl h.1.2.2.2.2.1.1 ?_
          refine tn_ic_eq (t := 41) (by omega) (by omega) d_Y_again_36 (by decide) (fun c_36 => ?_) (fun c_36 => ?_)
          · omega
          · refine tt_iconst (v := nI 0) d_Y_again_39 (by decide) ?_
            refine tt_zret rfl rfl d_Y_again_40 ?_
            exact ⟨rfl, h.ww hd0, h.2⟩
    · have hqv : a_again w (nI m) = (nI 1, (wE w, v, wX w, wD w, [], wK w, wS w)) := by unfold a_again; rw [hq]; dsimp only; rw [hK]
      rw [hqv]
      have t0 : b = 1 ∧ k = c := g3.mp (by rw [hK]; rfl)
      refine tt_aload_n d_Y_again_0 rfl ?_
      refine tt_iconst (v := nI 0) d_Y_again_1 (by decide) ?_
      refine tt_putI d_Y_again_2 rfl rfl (by decide) rfl (xpok_int rfl) rfl ?_
      replace h := h.thr (x := nI 0)
      replace hd0 := hd0.thr (x := nI 0)
      refine tt_iload_n d_Y_again_5 rfl ?_
      refine tt_i2l d_Y_again_6 ?_
      refine tt_lconst (v := 0) d_Y_again_7 (by decide) ?_
      refine tt_ldc2_w d_Y_again_8 rfl ?_
      refine tt_callS (y_in (d := d)) cw_Y_in rfl (by omega) d_Y_again_11 rfl rfl (Nat.le_of_ble_eq_true rfl) (Nat.le_of_ble_eq_true rfl) rfl rfl rfl (fun v σ2 q => ?_)
      obtain ⟨rfl, e9⟩ := q
      rw [e9, show Yin (nI m).toInt64 0 2 = nI 1 from Yin_t (a := 0) (b := 2) rfl rfl (by omega) (by omega) (by decide)]
      clear e9
      refine tn_if_eq (t := 39) (by omega) d_Y_again_14 (by decide) (fun c_14 => ?_) (fun c_14 => ?_)
      · exact absurd c_14 (by decide)
      · refine tt_aload_n d_Y_again_17 rfl ?_
        refine tt_getR d_Y_again_18 rfl rfl (by decide) rfl rfl ?_
        refine tt_iload_n d_Y_again_21 rfl ?_
        refine tn_zald d_Y_again_22 rfl (by decide) (by omega) g1 ?_
        refine tn_if_eq (t := 39) (by omega) d_Y_again_23 (by decide) (fun c_23 => ?_) (fun c_23 => ?_)
        · omega
        · refine tt_aload_n d_Y_again_26 rfl ?_
          refine tt_getR d_Y_again_27 rfl rfl (by decide) rfl rfl ?_
          refine tt_iload_n d_Y_again_30 rfl ?_
          refine tn_iald d_Y_again_31 rfl (by decide) (by omega) g2 ?_
          refine tt_aload_n d_Y_again_32 rfl ?_
          refine tn_get d_Y_again_33 rfl rfl (by decide) rfl h.1.2.2.2.2.1.1 ?_
          refine tn_ic_eq (t := 41) (by omega) (by omega) d_Y_again_36 (by decide) (fun c_36 => ?_) (fun c_36 => ?_)
          · refine tt_iconst (v := nI 0) d_Y_again_41 (by decide) ?_
            refine tt_istore_n (lv2 := [_, _, _]) d_Y_again_42 (by decide) rfl ?_
            refine T.mono (y_again_l (c := c) (q := m) ho hm 38 0 _ rfl (by omega) Fq.rf (fun j hj => absurd hj (Nat.not_lt_zero j))) ?_
            rintro r υ ⟨rfl, ρ, rfl, z2, z3⟩
            have z := Y_again_w hb8 (h.ww hd0) (g4 v hK) z2 z3
            exact ⟨rfl, z.1, h.2.tr z.2⟩
          · omega
  · have hqv : a_again w n = (nI 0, w) := by unfold a_again; rw [hq]
    rw [hqv]
    refine tt_aload_n d_Y_again_0 rfl ?_
    refine tt_iconst (v := nI 0) d_Y_again_1 (by decide) ?_
    refine tt_putI d_Y_again_2 rfl rfl (by decide) rfl (xpok_int rfl) rfl ?_
    replace h := h.thr (x := nI 0)
    replace hd0 := hd0.thr (x := nI 0)
    refine tt_iload_n d_Y_again_5 rfl ?_
    refine tt_i2l d_Y_again_6 ?_
    refine tt_lconst (v := 0) d_Y_again_7 (by decide) ?_
    refine tt_ldc2_w d_Y_again_8 rfl ?_
    refine tt_callS (y_in (d := d)) cw_Y_in rfl (by omega) d_Y_again_11 rfl rfl (Nat.le_of_ble_eq_true rfl) (Nat.le_of_ble_eq_true rfl) rfl rfl rfl (fun v σ2 q => ?_)
    obtain ⟨rfl, e9⟩ := q
    rw [e9, show Yin n.toInt64 0 2 = nI 0 from Yin_f (a := 0) (b := 2) rfl rfl (by decide) (by decide) (by omega)]
    clear e9
    refine tn_if_eq (t := 39) (by omega) d_Y_again_14 (by decide) (fun c_14 => ?_) (fun c_14 => ?_)
    · refine tt_iconst (v := nI 0) d_Y_again_39 (by decide) ?_
      refine tt_zret rfl rfl d_Y_again_40 ?_
      exact ⟨rfl, h.ww hd0, h.2⟩
    · exact absurd rfl c_14

