/-! FishFerryModel: pull, laysPulls. Printed by wip/whole. -/
theorem EYb.sc {σ τ : xs} {e : xe} {P : Nat → Prop} (h : EYb σ e) (hs : Sc P σ τ) (hp : ∀ c, 156 ≤ c ∧ c ≤ 159 → ¬ P c) : EYb τ e := by
  obtain ⟨h1, h2, h3, h4⟩ := h
  have g := hs.2.2.2.2
  refine ⟨by rw [hs.1]; exact h1, fun i hi => ?_, fun i hi => ?_, fun i hi => ?_⟩
  · rw [g 158 (hp _ (by omega)), g 159 (hp _ (by omega))]; exact h2 i hi
  · rw [g 157 (hp _ (by omega))]; exact h3 i hi
  · rw [g 156 (hp _ (by omega))]; exact h4 i hi
theorem SY.sc {σ τ : xs} {b n : Nat} {v : sv} {P : Nat → Prop} (h : SY σ b n v) (hs : Sc P σ τ) (hp : ¬ P b) : SY τ b n v := by
  unfold SY
  rw [hs.2.2.2.2 b hp]
  exact h
theorem RCd.sc {σ τ : xs} {c : Nat → Nat} {m : Nat} {P : Nat → Prop} (h : RCd σ c m) (hs : Sc P σ τ) (hp : ¬ P 165) : RCd τ c m := by
  unfold RCd
  rw [hs.1, hs.2.2.2.2 165 hp]
  exact h
def PYp : Nat → Prop := fun a => a = 167 ∨ a = 168
def PYl : Nat → Prop := fun a => a = 167 ∨ a = 168 ∨ a = 169
theorem nY {σ : xs} {b k j : Nat} {x : Int32} (hb : isY b) : si (wI σ 168 k x) b j = si σ b j := by
  rw [si_wI, if_neg (by unfold isY at hb; omega)]
/-- what the reference asks for, of fish i -/
def askS (σ : xs) (e : xe) (v : sv) (i : Nat) : xs := wI (wI (wI (wI (wI (wI (wI (wI σ 168 0 (nI (eS e i))) 168 1 (nI (v 1 i))) 168 2 (nI (v 4 i))) 168 3 (nI (v 2 i))) 168 4 (nI (eF e (v 0 4 % eL e)))) 168 5 (nI (v 0 4 % 7))) 168 6 (nI (gpN (eC e) (v 3 i - 1) (v 0 0)))) 168 7 (nI (eK e i))
theorem ask_at {σ : xs} {e : xe} {v : sv} {i : Nat} : ∀ j, j < 8 → si (askS σ e v i) 168 j = nI (atV e v i (swl j)) := by
  intro j hj
  rcases (show j = 0 ∨ j = 1 ∨ j = 2 ∨ j = 3 ∨ j = 4 ∨ j = 5 ∨ j = 6 ∨ j = 7 by omega) with rfl | rfl | rfl | rfl | rfl | rfl | rfl | rfl <;> rfl
theorem ask_sc {σ : xs} {e : xe} {v : sv} {i : Nat} : Sc PYp σ (askS σ e v i) := (((((((Sc.wI (Or.inr rfl)).tr (Sc.wI (Or.inr rfl))).tr (Sc.wI (Or.inr rfl))).tr (Sc.wI (Or.inr rfl))).tr (Sc.wI (Or.inr rfl))).tr (Sc.wI (Or.inr rfl))).tr (Sc.wI (Or.inr rfl))).tr (Sc.wI (Or.inr rfl))
theorem PYp_n {c : Nat} (h : c < 167 ∨ 168 < c) : ¬ PYp c := by unfold PYp; omega
theorem at_lt {e : xe} {v : sv} {i : Nat} (he : okE e) (hv : okV e v) (hi : i < eN e) (hg : ¬ v 3 i = 0) : ∀ j, atV e v i j < 2 ^ 30 := by
  obtain ⟨h0, h1, h2, h3, h4, h5, h6, h7⟩ := okA_V he hv hi hg
  intro j
  match j with
  | 0 => omega
  | 1 => omega
  | 2 => omega
  | 3 => omega
  | 4 => omega
  | 5 => omega
  | 6 => omega
  | j + 7 => exact Nat.lt_of_le_of_lt h7 (by omega)
theorem y_pull {l : xLa} {d : Nat} {σ : xs} {b i : Nat} {e : xe} {v : sv} (hb : isY b) (hi : i < eN e) (he : okE e) (hv : okV e v) (hE : EYb σ e) (hS : SY σ b (eN e) v) (hC : RCd σ (eW e) (eM e)) : TC l M_Y_pull (d + 6) [.ref 154, .ref b, .int (nI i)] σ (fun r τ => r = some (.int (plV e v i)) ∧ Sc PYp σ τ) := by
  have he0 := he
  obtain ⟨⟨e1, e2, e3, e4, e5, e6, e7⟩, e8, e9x, e10⟩ := he
  have hRC : eR e * eC e ≤ 36 := Nat.mul_le_mul e2 e4
  obtain ⟨w1, w2, w3, w4⟩ := hv.2.2.2.2.2.2 i hi
  have hv0 := hv.1
  have hv4 := hv.2.2.2.2.1
  have hv5 := hv.2.2.2.2.2.1
  have hsh := xY_sh hb
  show T l M_Y_pull (d + 6) 0 _ [] σ _
  refine tt_aload_n d_Y_pull_0 rfl ?_
  refine tt_bipush (v := nI 17) d_Y_pull_1 (by decide) ?_
  refine tt_iload_n d_Y_pull_3 rfl ?_
  refine tn_iadd d_Y_pull_4 ?_
  refine tn_iald d_Y_pull_5 hsh (by decide) (by omega) (hS.2 i hi).2.2.1 ?_
  refine tt_istore_n d_Y_pull_6 (by decide) rfl ?_
  refine tt_iload_n d_Y_pull_7 rfl ?_
  refine tt_if_lt (t := 30) d_Y_pull_8 (by decide) (fun c_8 => ?_) (fun c_8 => ?_)
  · refine tt_iconst (v := nI 0) d_Y_pull_30 (by decide) ?_
    refine tt_iret rfl d_Y_pull_31 ?_
    exact ⟨congrArg (fun w => some (Value.int w)) (plV_0 (actV_f (Or.inl ((gI_lt (by omega)).mp c_8)))).symm, Sc.rf⟩
  · have hz : ¬ v 3 i = 0 := fun q => c_8 ((gI_lt (by omega)).mpr q)
    have hgI := (gI_c (g := v 3 i) (by omega)).2 hz
    refine tt_aload_n d_Y_pull_11 rfl ?_
    refine tt_bipush (v := nI 33) d_Y_pull_12 (by decide) ?_
    refine tn_iald d_Y_pull_14 hsh (by decide) (by omega) hS.1.2.1 ?_
    refine tt_i2l d_Y_pull_15 ?_
    refine tt_iload_n d_Y_pull_16 rfl ?_
    refine tt_callS (y_has (d := d + 4) (m := v 0 5) (k := i) hv5 (by omega)) cw_Y_has rfl (by omega) d_Y_pull_17 rfl rfl (Nat.le_of_ble_eq_true rfl) (Nat.le_of_ble_eq_true rfl) rfl rfl rfl (fun v σ2 q => ?_)
    obtain ⟨rfl, e9⟩ := q
    rw [e9]
    clear e9
    refine tt_if_eq (t := 30) d_Y_pull_20 (by decide) (fun c_20 => ?_) (fun c_20 => ?_)
    · refine tt_iconst (v := nI 0) d_Y_pull_30 (by decide) ?_
      refine tt_iret rfl d_Y_pull_31 ?_
      exact ⟨congrArg (fun w => some (Value.int w)) (plV_0 (actV_f (Or.inr (Or.inr (tbI_0.mp c_20))))).symm, Sc.rf⟩
    · have hbt : (v 0 5).testBit i = true := Classical.not_not.mp (fun q => c_20 (tbI_0.mpr q))
      refine tt_iload_n (x := nI (v 3 i - 1)) d_Y_pull_23 (congrArg (fun w => some (some (Value.int w))) hgI) ?_
      refine tt_aload_n d_Y_pull_24 rfl ?_
      refine tt_iconst (v := nI 0) d_Y_pull_25 (by decide) ?_
      refine tn_iald d_Y_pull_26 hsh (by decide) (by omega) hS.1.1 ?_
      refine tn_ic_ne (t := 32) (by omega) (by omega) d_Y_pull_27 (by decide) (fun c_27 => ?_) (fun c_27 => ?_)
      · have hon := actV_t hz c_27 hbt
        refine tt_aload_n d_Y_pull_32 rfl ?_
        refine tt_getR d_Y_pull_33 rfl rfl (by decide) rfl rfl ?_
        refine tt_iconst (v := nI 0) d_Y_pull_36 (by decide) ?_
        refine tt_aload_n d_Y_pull_37 rfl ?_
        refine tt_getR d_Y_pull_38 rfl rfl (by decide) rfl rfl ?_
        refine tt_iload_n d_Y_pull_41 rfl ?_
        refine tn_iald d_Y_pull_42 rfl (by decide) (by omega) (hE.2.1 i hi).2 ?_
        refine tn_iast d_Y_pull_43 rfl (by decide) (by omega) ?_
        refine tt_aload_n d_Y_pull_44 rfl ?_
        refine tt_getR d_Y_pull_45 rfl rfl (by decide) rfl rfl ?_
        refine tt_iconst (v := nI 1) d_Y_pull_48 (by decide) ?_
        refine tt_aload_n d_Y_pull_49 rfl ?_
        refine tt_iconst (v := nI 1) d_Y_pull_50 (by decide) ?_
        refine tt_iload_n d_Y_pull_51 rfl ?_
        refine tn_iadd d_Y_pull_52 ?_
        refine tn_iald d_Y_pull_53 hsh (by decide) (by omega) (show si _ b _ = nI (v 1 i) by (repeat rw [nY hb]); exact (hS.2 i hi).1) ?_
        refine tn_iast d_Y_pull_54 rfl (by decide) (by omega) ?_
        refine tt_aload_n d_Y_pull_55 rfl ?_
        refine tt_getR d_Y_pull_56 rfl rfl (by decide) rfl rfl ?_
        refine tt_iconst (v := nI 2) d_Y_pull_59 (by decide) ?_
        refine tt_aload_n d_Y_pull_60 rfl ?_
        refine tt_bipush (v := nI 25) d_Y_pull_61 (by decide) ?_
        refine tt_iload_n d_Y_pull_63 rfl ?_
        refine tn_iadd d_Y_pull_64 ?_
        refine tn_iald d_Y_pull_65 hsh (by decide) (by omega) (show si _ b _ = nI (v 4 i) by (repeat rw [nY hb]); exact ((hS.2 i hi).2.2.2.trans (if_neg hz))) ?_
        refine tn_iast d_Y_pull_66 rfl (by decide) (by omega) ?_
        refine tt_aload_n d_Y_pull_67 rfl ?_
        refine tt_getR d_Y_pull_68 rfl rfl (by decide) rfl rfl ?_
        refine tt_iconst (v := nI 3) d_Y_pull_71 (by decide) ?_
        refine tt_aload_n d_Y_pull_72 rfl ?_
        refine tt_bipush (v := nI 9) d_Y_pull_73 (by decide) ?_
        refine tt_iload_n d_Y_pull_75 rfl ?_
        refine tn_iadd d_Y_pull_76 ?_
        refine tn_iald d_Y_pull_77 hsh (by decide) (by omega) (show si _ b _ = nI (v 2 i) by (repeat rw [nY hb]); exact (hS.2 i hi).2.1) ?_
        refine tn_iast d_Y_pull_78 rfl (by decide) (by omega) ?_
        refine tt_aload_n d_Y_pull_79 rfl ?_
        refine tt_getR d_Y_pull_80 rfl rfl (by decide) rfl rfl ?_
        refine tt_iconst (v := nI 4) d_Y_pull_83 (by decide) ?_
        refine tt_aload_n d_Y_pull_84 rfl ?_
        refine tt_aload_n d_Y_pull_85 rfl ?_
        refine tt_bipush (v := nI 37) d_Y_pull_86 (by decide) ?_
        refine tn_iald d_Y_pull_88 hsh (by decide) (by omega) (show si _ b _ = nI (v 0 4) by (repeat rw [nY hb]); exact hS.1.2.2.2.2.2) ?_
        refine tt_callV (y_fogOn (d := d + 4) (h := v 0 4) (L := eL e) (F := eF e) (by omega) hE.1.2.2.2 e6 e7 hE.2.2.1) cw_Y_fogOn rfl rfl (by decide) rfl (by omega) d_Y_pull_89 rfl rfl (Nat.le_of_ble_eq_true rfl) (Nat.le_of_ble_eq_true rfl) rfl rfl rfl (fun v σ2 q => ?_)
        obtain ⟨rfl, e9⟩ := q
        rw [e9]
        clear e9
        refine tn_iast d_Y_pull_92 rfl (by decide) (by omega) ?_
        refine tt_aload_n d_Y_pull_93 rfl ?_
        refine tt_getR d_Y_pull_94 rfl rfl (by decide) rfl rfl ?_
        refine tt_iconst (v := nI 5) d_Y_pull_97 (by decide) ?_
        refine tt_aload_n d_Y_pull_98 rfl ?_
        refine tt_bipush (v := nI 37) d_Y_pull_99 (by decide) ?_
        refine tn_iald d_Y_pull_101 hsh (by decide) (by omega) (show si _ b _ = nI (v 0 4) by (repeat rw [nY hb]); exact hS.1.2.2.2.2.2) ?_
        refine tt_bipush (v := nI 7) d_Y_pull_102 (by decide) ?_
        refine tn_irem (by omega) (by omega) (by omega) d_Y_pull_104 ?_
        refine tn_iast d_Y_pull_105 rfl (by decide) (by omega) ?_
        refine tt_aload_n d_Y_pull_106 rfl ?_
        refine tt_getR d_Y_pull_107 rfl rfl (by decide) rfl rfl ?_
        refine tt_bipush (v := nI 6) d_Y_pull_110 (by decide) ?_
        refine tt_aload_n d_Y_pull_112 rfl ?_
        refine tt_iload_n (x := nI (v 3 i - 1)) d_Y_pull_113 (congrArg (fun w => some (some (Value.int w))) hgI) ?_
        refine tt_aload_n d_Y_pull_114 rfl ?_
        refine tt_iconst (v := nI 0) d_Y_pull_115 (by decide) ?_
        refine tn_iald d_Y_pull_116 hsh (by decide) (by omega) (show si _ b _ = nI (v 0 0) by (repeat rw [nY hb]); exact hS.1.1) ?_
        refine tt_callV (y_far (d := d + 4) (a := v 3 i - 1) (b := v 0 0) (R := eR e) (C := eC e) (by omega) (by omega) hE.1.1 hE.1.2.1 e2 e4 (by omega)) cw_Y_far rfl rfl (by decide) rfl (by omega) d_Y_pull_117 rfl rfl (Nat.le_of_ble_eq_true rfl) (Nat.le_of_ble_eq_true rfl) rfl rfl rfl (fun v σ2 q => ?_)
        obtain ⟨rfl, e9⟩ := q
        rw [e9]
        clear e9
        refine tn_iast d_Y_pull_120 rfl (by decide) (by omega) ?_
        refine tt_aload_n d_Y_pull_121 rfl ?_
        refine tt_getR d_Y_pull_122 rfl rfl (by decide) rfl rfl ?_
        refine tt_bipush (v := nI 7) d_Y_pull_125 (by decide) ?_
        refine tt_aload_n d_Y_pull_127 rfl ?_
        refine tt_getR d_Y_pull_128 rfl rfl (by decide) rfl rfl ?_
        refine tt_iload_n d_Y_pull_131 rfl ?_
        refine tn_iald d_Y_pull_132 rfl (by decide) (by omega) (show si _ 158 i = nI (eK e i) from (hE.2.1 i hi).1) ?_
        refine tn_iast d_Y_pull_133 rfl (by decide) (by omega) ?_
        refine tt_iconst (v := nI 0) d_Y_pull_134 (by decide) ?_
        refine tt_bipush (v := nI 9) d_Y_pull_135 (by decide) ?_
        refine tt_aload_n d_Y_pull_137 rfl ?_
        have hab := at_lt he0 hv hi hz
        refine tt_callV (y_ruled (d := d + 2) (σ := askS σ e v i) (at_ := atV e v i) (hC.sc ask_sc (PYp_n (by omega))) ask_at hab) cw_Y_ruled rfl rfl (by decide) rfl (by omega) d_Y_pull_138 rfl rfl (Nat.le_of_ble_eq_true rfl) (Nat.le_of_ble_eq_true rfl) rfl rfl rfl (fun v σ2 q => ?_)
        obtain ⟨rfl, f, e9⟩ := q
        subst e9
        refine tt_min d_Y_pull_141 rfl (Nat.le_of_ble_eq_true rfl) ?_
        refine tt_max d_Y_pull_144 rfl (Nat.le_of_ble_eq_true rfl) ?_
        refine tt_iret rfl d_Y_pull_147 ?_
        exact ⟨congrArg (fun w => some (Value.int w)) (if_pos hon).symm, ask_sc.tr (Sc.wA (Or.inl rfl))⟩
      · refine tt_iconst (v := nI 0) d_Y_pull_30 (by decide) ?_
        refine tt_iret rfl d_Y_pull_31 ?_
        exact ⟨congrArg (fun w => some (Value.int w)) (plV_0 (actV_f (Or.inr (Or.inl c_27)))).symm, Sc.rf⟩

theorem PYl_n {c : Nat} (h : c < 167 ∨ 169 < c) : ¬ PYl c := by unfold PYl; omega
theorem isY_l {b : Nat} (h : isY b) : b < 167 := by unfold isY at h; omega
theorem y_laysPulls_l {l : xLa} {d : Nat} {σ : xs} {b : Nat} {e : xe} {v : sv} (hb : isY b) (he : okE e) (hv : okV e v) (hE : EYb σ e) (hS : SY σ b (eN e) v) (hC : RCd σ (eW e) (eM e)) : ∀ (m : Nat) (k : Nat) (τ : xs), eN e - k = m → k ≤ eN e → Sc PYl σ τ → (∀ j, j < k → si τ 169 j = plV e v j) → T l M_Y_laysPulls (d + 7) 2 [some (.ref 154), some (.ref b), some (.int (nI k))] [] τ (fun r τ => r = none ∧ Sc PYl σ τ ∧ ∀ j, j < eN e → si τ 169 j = plV e v j) := by
  intro m
  induction m using Nat.strongRecOn with
  | ind m ih =>
    intro k τ hm hk hSc hM
    have he8 : eN e ≤ 8 := he.1.2.2.2.2.1
    have hbl := isY_l hb
    have hE2 := hE.sc hSc (fun c hc => PYl_n (by omega))
    have hS2 := hS.sc hSc (PYl_n (by omega))
    have hC2 := hC.sc hSc (PYl_n (by omega))
    refine tt_iload_n d_Y_laysPulls_2 rfl ?_
    refine tt_aload_n d_Y_laysPulls_3 rfl ?_
    refine tn_get d_Y_laysPulls_4 rfl rfl (by decide) rfl hE2.1.2.2.1 ?_
    refine tn_ic_ge (t := 28) (by omega) (by omega) d_Y_laysPulls_7 (by decide) (fun c_7 => ?_) (fun c_7 => ?_)
    · obtain rfl : k = eN e := by omega
      refine tt_vret rfl d_Y_laysPulls_28 ?_
      exact ⟨rfl, hSc, hM⟩
    · refine tt_aload_n d_Y_laysPulls_10 rfl ?_
      refine tt_getR d_Y_laysPulls_11 rfl rfl (by decide) rfl rfl ?_
      refine tt_iload_n d_Y_laysPulls_14 rfl ?_
      refine tt_aload_n d_Y_laysPulls_15 rfl ?_
      refine tt_aload_n d_Y_laysPulls_16 rfl ?_
      refine tt_iload_n d_Y_laysPulls_17 rfl ?_
      refine tt_callV (y_pull (d := d) (i := k) hb (by omega) he hv hE2 hS2 hC2) cw_Y_pull rfl rfl (by decide) rfl (by omega) d_Y_laysPulls_18 rfl rfl (Nat.le_of_ble_eq_true rfl) (Nat.le_of_ble_eq_true rfl) rfl rfl rfl (fun v σ2 q => ?_)
      obtain ⟨rfl, hSp⟩ := q
      refine tn_iast d_Y_laysPulls_21 rfl (by decide) (by omega) ?_
      refine tt_iinc d_Y_laysPulls_22 rfl (nI_inc _ 1) (by decide) rfl ?_
      refine tt_goto (t := 2) d_Y_laysPulls_25 (by decide) ?_
      refine ih (eN e - (k + 1)) (by omega) (k + 1) _ rfl (by omega) (hSc.tr ((hSp.mono (fun a h => by unfold PYl; unfold PYp at h; omega)).tr (Sc.wI (Or.inr (Or.inr rfl))))) (fun j hj => ?_)
      rw [si_wI]
      by_cases q : j = k
      · rw [if_pos ⟨rfl, q⟩, q]
      · rw [if_neg (fun z => q z.2), hSp.2.2.2.2 169 (PYp_n (by omega))]
        exact hM j (by omega)

theorem y_laysPulls {l : xLa} {d : Nat} {σ : xs} {b : Nat} {e : xe} {v : sv} (hb : isY b) (he : okE e) (hv : okV e v) (hE : EYb σ e) (hS : SY σ b (eN e) v) (hC : RCd σ (eW e) (eM e)) : TC l M_Y_laysPulls (d + 7) [.ref 154, .ref b] σ (fun r τ => r = none ∧ Sc PYl σ τ ∧ ∀ j, j < eN e → si τ 169 j = plV e v j) := by
  show T l M_Y_laysPulls (d + 7) 0 _ [] σ _
  refine tt_iconst (v := nI 0) d_Y_laysPulls_0 (by decide) ?_
  refine tt_istore_n d_Y_laysPulls_1 (by decide) rfl ?_
  exact y_laysPulls_l hb he hv hE hS hC (eN e) 0 σ (by omega) (by omega) Sc.rf (fun j hj => absurd hj (Nat.not_lt_zero _))

