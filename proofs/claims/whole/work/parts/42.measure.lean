/-! Tug.measure. Printed by wip/whole. -/
theorem hold_1 {σ : xs} {a h i : Nat} (hs : sf σ a 5 = nI h) (hh : h < 256) (hi : i < 8) (c : ¬ X_hold σ a (nI i) = 0) : h.testBit i = true := by
  unfold X_hold at c
  rw [hs] at c
  by_cases g : xbit (nI h) (nI i) = nI 1
  · exact (xbit_t h hh i hi).mp g
  · rw [if_neg g] at c; exact absurd rfl c
theorem hold_0 {σ : xs} {a h i : Nat} (hs : sf σ a 5 = nI h) (hh : h < 256) (hi : i < 8) (c : X_hold σ a (nI i) = 0) : ¬ h.testBit i = true := by
  unfold X_hold at c
  rw [hs] at c
  intro q
  rw [if_pos ((xbit_t h hh i hi).mpr q)] at c
  exact absurd c (by decide)
theorem key_eqV {e : xe} {v : sv} {i : Nat} (he : okE e) (hv : okV e v) (hi : i < eN e) (hg : ¬ v 3 i = 0) : (((((nI (eS e i) ||| (nI (v 1 i) <<< (nI 4 &&& 31))) ||| (nI (v 4 i) <<< (nI 8 &&& 31))) ||| (nI (v 2 i) <<< (nI 12 &&& 31))) ||| nI (2 ^ 16 * eF e (v 0 4 % eL e) + 2 ^ 20 * (v 0 4 % 7))) ||| (nI (eK e i) <<< (nI 23 &&& 31))) ||| (nI (adf ((v 3 i - 1) / eC e) (v 0 0 / eC e) + adf ((v 3 i - 1) % eC e) (v 0 0 % eC e)) <<< (nI 25 &&& 31)) = nI (keyN (atV e v i)) := by
  have q := key_eq (okA_V he hv hi hg)
  simp only [atV, gpN] at q ⊢
  exact q
theorem plV_0 {e : xe} {v : sv} {i : Nat} (h : ¬ actV v i = true) : plV e v i = nI 0 := if_neg h
theorem MS_s {e : xe} {v : sv} {i : Nat} {τ τ' : xs} (h : MS e v i τ) (h15 : ∀ j, j < i → si τ' 15 j = si τ 15 j ∧ si τ' 16 j = si τ 16 j ∧ si τ' 17 j = si τ 17 j) (hi : si τ' 15 i = plV e v i ∧ (actV v i = true → si τ' 16 i = w1V e v i ∧ si τ' 17 i = w2V e v i)) : MS e v (i + 1) τ' := by
  intro j hj
  by_cases q : j = i
  · subst q; exact hi
  · obtain ⟨g1, g2, g3⟩ := h15 j (by omega)
    rw [g1, g2, g3]
    exact h j (by omega)
theorem actV_t {v : sv} {i : Nat} (h1 : ¬ v 3 i = 0) (h2 : ¬ v 3 i - 1 = v 0 0) (h3 : (v 0 5).testBit i = true) : actV v i = true := by
  unfold actV
  simp [h1, h2, h3]
theorem actV_f {v : sv} {i : Nat} (h : v 3 i = 0 ∨ v 3 i - 1 = v 0 0 ∨ ¬ (v 0 5).testBit i = true) : ¬ actV v i = true := by
  unfold actV
  rcases h with h | h | h <;> simp [h]
set_option maxHeartbeats 20000000 in
theorem x_measure_l {l : xLa} {d : Nat} {σ : xs} {a u : Nat} {e : xe} {v : sv} (ha : isS a) (hu : isR u) (he : okE e) (hv : okV e v) (hS : ST σ a v) (hE : EX σ e u) : ∀ (m : Nat) (i : Nat) (τ : xs) (z5 z6 z7 z8 z9 : Option Int32), eN e - i = m → i ≤ eN e → Sc (PM u) σ τ → CI τ u (V (eW e) (eM e)) → MS e v i τ → T l M_Tug_measure (d + 6) 31 [some (.ref 14), some (.ref a), some (.ref u), some (.int (nI (2 ^ 16 * eF e (v 0 4 % eL e) + 2 ^ 20 * (v 0 4 % 7)))), some (.int (nI i)), z5.map Value.int, z6.map Value.int, z7.map Value.int, z8.map Value.int, z9.map Value.int] [] τ (fun r τ => r = none ∧ Sc (PM u) σ τ ∧ CI τ u (V (eW e) (eM e)) ∧ MS e v (eN e) τ) := by
  intro m
  induction m using Nat.strongRecOn with
  | ind m ih =>
    intro i τ z5 z6 z7 z8 z9 hm hi hSc hCI hMS
    have he0 := he
    have hv0 := hv
    obtain ⟨⟨hr, hc, hn, hfl⟩, hks, hfd, hrk, hcd⟩ := hE.sc hu hSc
    obtain ⟨hsf, hsi⟩ := hS.sc hu ha hSc
    obtain ⟨⟨e1, e2, e3, e4, e5, e6, e7⟩, e8, e9x, e10⟩ := he
    obtain ⟨v1, v2, v3, v4, v5, v6, v7⟩ := hv
    have hRC : eR e * eC e ≤ 36 := Nat.mul_le_mul e2 e4
    have hout := isS_out ha
    have hv3 : i < eN e → v 3 i ≤ 36 := fun h => by have := (v7 i (by omega)).2.2.1; omega
    refine tt_iload d_Tug_measure_31 rfl ?_
    refine tt_aload_n d_Tug_measure_33 rfl ?_
    refine tt_getR d_Tug_measure_34 rfl rfl (by decide) rfl rfl ?_
    refine tn_get d_Tug_measure_37 rfl rfl (by decide) rfl hn ?_
    refine tn_ic_ge (t := 241) (by omega) (by omega) d_Tug_measure_40 (by decide) (fun c_40 => ?_) (fun c_40 => ?_)
    · refine tt_vret rfl d_Tug_measure_241 ?_
      obtain rfl : i = eN e := by omega
      exact ⟨rfl, hSc, hCI, hMS⟩
    · refine tt_aload_n d_Tug_measure_43 rfl ?_
      refine tt_getR d_Tug_measure_44 rfl rfl (by decide) rfl rfl ?_
      refine tt_iload d_Tug_measure_47 rfl ?_
      refine tt_iconst (v := nI 0) d_Tug_measure_49 (by decide) ?_
      refine tn_iast d_Tug_measure_50 rfl (by decide) (by omega) ?_
      refine tt_aload_n d_Tug_measure_51 rfl ?_
      refine tt_getR d_Tug_measure_52 rfl (by first | exact xS_sh ha) (by decide) (by first | exact (xS_r ha).2.2.1) (by first | exact xS_0 ha _ (by decide)) ?_
      refine tt_iload d_Tug_measure_55 rfl ?_
      refine tn_iald d_Tug_measure_57 (xS_a ha).2.2.1 (by decide) (by omega) (show si (wI τ 15 i (nI 0)) (a + 3) i = gI (v 3 i) by rw [si_wI, if_neg (by omega)]; exact (hsi i (by omega)).2.2.1) ?_
      refine tt_istore d_Tug_measure_58 (by decide) rfl ?_
      refine tt_iload d_Tug_measure_60 rfl ?_
      refine tt_iconst (v := (-1)) d_Tug_measure_62 (by decide) ?_
      refine tt_ic_eq (t := 235) d_Tug_measure_63 (by decide) (fun c_63 => ?_) (fun c_63 => ?_)
      · skip
        have hoff : ¬ actV v i = true := actV_f (Or.inl ((gI_c (by omega)).1.mp c_63))
        refine tt_iinc d_Tug_measure_235 rfl (nI_inc _ 1) (by decide) rfl ?_
        refine tt_goto (t := 31) d_Tug_measure_238 (by decide) ?_
        refine ih (eN e - (i + 1)) (by omega) (i + 1) (wI τ 15 i (nI 0)) (some _) z6 z7 z8 z9 rfl (by omega) (hSc.tr (Sc.wI (Or.inl rfl))) (fun s hs => by rw [si_wI, if_neg (by rcases isR_c hu with g | g <;> omega), si_wI, if_neg (by rcases isR_c hu with g | g <;> omega)]; exact hCI s hs) ?_
        refine MS_s hMS (fun j hj => ⟨by rw [si_wI, if_neg (by omega)], rfl, rfl⟩) ⟨by rw [si_wI, if_pos ⟨rfl, rfl⟩, plV_0 hoff], fun q => absurd q hoff⟩
      · have hz : ¬ v 3 i = 0 := fun q => c_63 ((gI_c (by omega)).1.mpr q)
        have hgI := (gI_c (g := v 3 i) (by omega)).2 hz
        refine tt_iload (x := nI (v 3 i - 1)) d_Tug_measure_66 (congrArg (fun w => some (some (Value.int w))) hgI) ?_
        refine tt_aload_n d_Tug_measure_68 rfl ?_
        refine tn_get d_Tug_measure_69 rfl (by first | exact xS_sh ha) (by decide) (by first | exact xS_i ha _ (by decide)) (hsf 0 (by decide)) ?_
        refine tn_ic_eq (t := 235) (by omega) (by omega) d_Tug_measure_72 (by decide) (fun c_72 => ?_) (fun c_72 => ?_)
        · skip
          have hoff : ¬ actV v i = true := actV_f (Or.inr (Or.inl c_72))
          refine tt_iinc d_Tug_measure_235 rfl (nI_inc _ 1) (by decide) rfl ?_
          refine tt_goto (t := 31) d_Tug_measure_238 (by decide) ?_
          refine ih (eN e - (i + 1)) (by omega) (i + 1) (wI τ 15 i (nI 0)) (some _) z6 z7 z8 z9 rfl (by omega) (hSc.tr (Sc.wI (Or.inl rfl))) (fun s hs => by rw [si_wI, if_neg (by rcases isR_c hu with g | g <;> omega), si_wI, if_neg (by rcases isR_c hu with g | g <;> omega)]; exact hCI s hs) ?_
          refine MS_s hMS (fun j hj => ⟨by rw [si_wI, if_neg (by omega)], rfl, rfl⟩) ⟨by rw [si_wI, if_pos ⟨rfl, rfl⟩, plV_0 hoff], fun q => absurd q hoff⟩
        · refine tt_aload_n d_Tug_measure_75 rfl ?_
          refine tt_iload d_Tug_measure_76 rfl ?_
          refine tt_callV (x_State_holds (σ := (wI τ 15 i (nI 0))) (d := d + 4) ha) cw_State_holds rfl (xS_sh ha) (by decide) rfl (by omega) d_Tug_measure_78 rfl rfl (Nat.le_of_ble_eq_true rfl) (Nat.le_of_ble_eq_true rfl) rfl rfl rfl (fun v σ2 q => ?_)
          obtain ⟨rfl, e9⟩ := q
          rw [e9]
          clear e9
          refine tt_if_ne (t := 87) d_Tug_measure_81 (by decide) (fun c_81 => ?_) (fun c_81 => ?_)
          · have hbt := hold_1 (σ := (wI τ 15 i (nI 0))) (hsf 5 (by decide)) v6 (by omega) c_81
            have hon := actV_t hz c_72 hbt
            refine tt_aload_n d_Tug_measure_87 rfl ?_
            refine tt_getR d_Tug_measure_88 rfl rfl (by decide) rfl rfl ?_
            refine tt_iload (x := nI (v 3 i - 1)) d_Tug_measure_91 (congrArg (fun w => some (some (Value.int w))) hgI) ?_
            refine tt_callV (x_Lake_rowOf (σ := (wI τ 15 i (nI 0))) (d := d + 4) (k := v 3 i - 1) (by omega) hr hc e2 e4 (by omega)) cw_Lake_rowOf rfl rfl (by decide) rfl (by omega) d_Tug_measure_93 rfl rfl (Nat.le_of_ble_eq_true rfl) (Nat.le_of_ble_eq_true rfl) rfl rfl rfl (fun v σ2 q => ?_)
            obtain ⟨rfl, e9⟩ := q
            rw [e9]
            clear e9
            refine tt_aload_n d_Tug_measure_96 rfl ?_
            refine tt_getR d_Tug_measure_97 rfl rfl (by decide) rfl rfl ?_
            refine tt_aload_n d_Tug_measure_100 rfl ?_
            refine tn_get d_Tug_measure_101 rfl (by first | exact xS_sh ha) (by decide) (by first | exact xS_i ha _ (by decide)) (hsf 0 (by decide)) ?_
            refine tt_callV (x_Lake_rowOf (σ := (wI τ 15 i (nI 0))) (d := d + 4) (k := v 0 0) (by omega) hr hc e2 e4 (by omega)) cw_Lake_rowOf rfl rfl (by decide) rfl (by omega) d_Tug_measure_104 rfl rfl (Nat.le_of_ble_eq_true rfl) (Nat.le_of_ble_eq_true rfl) rfl rfl rfl (fun v σ2 q => ?_)
            obtain ⟨rfl, e9⟩ := q
            rw [e9]
            clear e9
            refine tt_isub d_Tug_measure_107 ?_
            refine tt_istore d_Tug_measure_108 (by decide) rfl ?_
            refine tt_aload_n d_Tug_measure_110 rfl ?_
            refine tt_getR d_Tug_measure_111 rfl rfl (by decide) rfl rfl ?_
            refine tt_iload (x := nI (v 3 i - 1)) d_Tug_measure_114 (congrArg (fun w => some (some (Value.int w))) hgI) ?_
            refine tt_callV (x_Lake_columnOf (σ := (wI τ 15 i (nI 0))) (d := d + 4) (k := v 3 i - 1) (by omega) hr hc e2 e4 (by omega)) cw_Lake_columnOf rfl rfl (by decide) rfl (by omega) d_Tug_measure_116 rfl rfl (Nat.le_of_ble_eq_true rfl) (Nat.le_of_ble_eq_true rfl) rfl rfl rfl (fun v σ2 q => ?_)
            obtain ⟨rfl, e9⟩ := q
            rw [e9]
            clear e9
            refine tt_aload_n d_Tug_measure_119 rfl ?_
            refine tt_getR d_Tug_measure_120 rfl rfl (by decide) rfl rfl ?_
            refine tt_aload_n d_Tug_measure_123 rfl ?_
            refine tn_get d_Tug_measure_124 rfl (by first | exact xS_sh ha) (by decide) (by first | exact xS_i ha _ (by decide)) (hsf 0 (by decide)) ?_
            refine tt_callV (x_Lake_columnOf (σ := (wI τ 15 i (nI 0))) (d := d + 4) (k := v 0 0) (by omega) hr hc e2 e4 (by omega)) cw_Lake_columnOf rfl rfl (by decide) rfl (by omega) d_Tug_measure_127 rfl rfl (Nat.le_of_ble_eq_true rfl) (Nat.le_of_ble_eq_true rfl) rfl rfl rfl (fun v σ2 q => ?_)
            obtain ⟨rfl, e9⟩ := q
            rw [e9]
            clear e9
            refine tt_isub d_Tug_measure_130 ?_
            refine tt_istore d_Tug_measure_131 (by decide) rfl ?_
            refine tt_iload d_Tug_measure_133 rfl ?_
            refine tt_abs d_Tug_measure_135 rfl (Nat.le_of_ble_eq_true rfl) ?_
            refine tt_top (y := nI (adf ((v 3 i - 1) / eC e) (v 0 0 / eC e))) (X_abs_adf (Nat.lt_of_le_of_lt (Nat.div_le_self _ _) (by omega)) (Nat.lt_of_le_of_lt (Nat.div_le_self _ _) (by omega))) ?_
            refine tt_iload d_Tug_measure_138 rfl ?_
            refine tt_abs d_Tug_measure_140 rfl (Nat.le_of_ble_eq_true rfl) ?_
            refine tt_top (y := nI (adf ((v 3 i - 1) % eC e) (v 0 0 % eC e))) (X_abs_adf (Nat.lt_of_le_of_lt (Nat.mod_le _ _) (by omega)) (Nat.lt_of_le_of_lt (Nat.mod_le _ _) (by omega))) ?_
            refine tn_iadd d_Tug_measure_143 ?_
            refine tt_istore d_Tug_measure_144 (by decide) rfl ?_
            refine tt_aload_n d_Tug_measure_146 rfl ?_
            refine tt_getR d_Tug_measure_147 rfl rfl (by decide) rfl rfl ?_
            refine tt_getR d_Tug_measure_150 rfl rfl (by decide) rfl rfl ?_
            refine tt_iload d_Tug_measure_153 rfl ?_
            refine tn_iald d_Tug_measure_155 rfl (by decide) (by omega) (show si (wI τ 15 i (nI 0)) (11) i = nI (eS e i) by rw [si_wI, if_neg (by omega)]; exact (hks i (by omega)).2) ?_
            refine tt_aload_n d_Tug_measure_156 rfl ?_
            refine tt_getR d_Tug_measure_157 rfl (by first | exact xS_sh ha) (by decide) (by first | exact (xS_r ha).1) (by first | exact xS_0 ha _ (by decide)) ?_
            refine tt_iload d_Tug_measure_160 rfl ?_
            refine tn_iald d_Tug_measure_162 (xS_a ha).1 (by decide) (by omega) (show si (wI τ 15 i (nI 0)) (a + 1) i = nI (v 1 i) by rw [si_wI, if_neg (by omega)]; exact (hsi i (by omega)).1) ?_
            refine tt_iconst (v := nI 4) d_Tug_measure_163 (by decide) ?_
            refine tt_ishl d_Tug_measure_164 ?_
            refine tt_ior d_Tug_measure_165 ?_
            refine tt_aload_n d_Tug_measure_166 rfl ?_
            refine tt_getR d_Tug_measure_167 rfl (by first | exact xS_sh ha) (by decide) (by first | exact (xS_r ha).2.2.2) (by first | exact xS_0 ha _ (by decide)) ?_
            refine tt_iload d_Tug_measure_170 rfl ?_
            refine tn_iald d_Tug_measure_172 (xS_a ha).2.2.2 (by decide) (by omega) (show si (wI τ 15 i (nI 0)) (a + 4) i = nI (v 4 i) by rw [si_wI, if_neg (by omega)]; exact (hsi i (by omega)).2.2.2) ?_
            refine tt_bipush (v := nI 8) d_Tug_measure_173 (by decide) ?_
            refine tt_ishl d_Tug_measure_175 ?_
            refine tt_ior d_Tug_measure_176 ?_
            refine tt_aload_n d_Tug_measure_177 rfl ?_
            refine tt_getR d_Tug_measure_178 rfl (by first | exact xS_sh ha) (by decide) (by first | exact (xS_r ha).2.1) (by first | exact xS_0 ha _ (by decide)) ?_
            refine tt_iload d_Tug_measure_181 rfl ?_
            refine tn_iald d_Tug_measure_183 (xS_a ha).2.1 (by decide) (by omega) (show si (wI τ 15 i (nI 0)) (a + 2) i = nI (v 2 i) by rw [si_wI, if_neg (by omega)]; exact (hsi i (by omega)).2.1) ?_
            refine tt_bipush (v := nI 12) d_Tug_measure_184 (by decide) ?_
            refine tt_ishl d_Tug_measure_186 ?_
            refine tt_ior d_Tug_measure_187 ?_
            refine tt_iload_n d_Tug_measure_188 rfl ?_
            refine tt_ior d_Tug_measure_189 ?_
            refine tt_aload_n d_Tug_measure_190 rfl ?_
            refine tt_getR d_Tug_measure_191 rfl rfl (by decide) rfl rfl ?_
            refine tt_getR d_Tug_measure_194 rfl rfl (by decide) rfl rfl ?_
            refine tt_iload d_Tug_measure_197 rfl ?_
            refine tn_iald d_Tug_measure_199 rfl (by decide) (by omega) (show si (wI τ 15 i (nI 0)) (10) i = nI (eK e i) by rw [si_wI, if_neg (by omega)]; exact (hks i (by omega)).1) ?_
            refine tt_bipush (v := nI 23) d_Tug_measure_200 (by decide) ?_
            refine tt_ishl d_Tug_measure_202 ?_
            refine tt_ior d_Tug_measure_203 ?_
            refine tt_iload d_Tug_measure_204 rfl ?_
            refine tt_bipush (v := nI 25) d_Tug_measure_206 (by decide) ?_
            refine tt_ishl d_Tug_measure_208 ?_
            refine tt_ior d_Tug_measure_209 ?_
            refine tt_top (y := nI (keyN (atV e v i))) (key_eqV he0 hv0 (by omega) hz) ?_
            refine tt_istore d_Tug_measure_210 (by decide) rfl ?_
            refine tt_aload_n d_Tug_measure_212 rfl ?_
            refine tt_getR d_Tug_measure_213 rfl rfl (by decide) rfl rfl ?_
            refine tt_iload d_Tug_measure_216 rfl ?_
            refine tt_aload_n d_Tug_measure_218 rfl ?_
            refine tt_iload d_Tug_measure_219 rfl ?_
            refine tt_callV (x_pullBy (d := d + 2) (σ := (wI τ 15 i (nI 0))) (n := eM e) (c := eW e) hu ⟨hcd.1, hcd.2.1, fun j hj => by rw [si_wI, if_neg (by rcases isR_c hu with g | g <;> omega)]; exact hcd.2.2.1 j hj, hcd.2.2.2⟩ (key_ne (okA_V he0 hv0 (by omega) hz)) (fun s hs => by rw [si_wI, if_neg (by rcases isR_c hu with g | g <;> omega), si_wI, if_neg (by rcases isR_c hu with g | g <;> omega)]; exact hCI s hs)) cw_Rule_pullBy rfl (xR_sh hu) (by decide) rfl (by omega) d_Tug_measure_221 rfl rfl (Nat.le_of_ble_eq_true rfl) (Nat.le_of_ble_eq_true rfl) rfl rfl rfl (fun v σ2 q => ?_)
            obtain ⟨rfl, hSc2, hCI2⟩ := q
            have h15 : ∀ b, b = 15 ∨ b = 16 ∨ b = 17 → si σ2 b = si (wI τ 15 i (nI 0)) b := fun b hb => hSc2.2.2.2.2 b (fun q => by unfold Pu at q; rcases isR_c hu with g | g <;> omega)
            have h10 : si σ2 10 i = nI (eK e i) := by
              rw [hSc2.2.2.2.2 10 (fun q => by unfold Pu at q; rcases isR_c hu with g | g <;> omega), si_wI, if_neg (by omega)]
              exact (hks i (by omega)).1
            refine tn_iast d_Tug_measure_224 rfl (by decide) (by omega) ?_
            refine tt_aload_n d_Tug_measure_225 rfl ?_
            refine tt_iload d_Tug_measure_226 rfl ?_
            refine tt_iload d_Tug_measure_228 rfl ?_
            refine tt_iload d_Tug_measure_230 rfl ?_
            refine tt_callV (x_head (σ := wI σ2 15 i _) (d := d + 4) (i := i) (k := eK e i) (by omega) (by rw [si_wI, if_neg (by omega)]; exact h10) ((e8 i (by omega)).1)) cw_Tug_head rfl rfl (by decide) rfl (by omega) d_Tug_measure_232 rfl rfl (Nat.le_of_ble_eq_true rfl) (Nat.le_of_ble_eq_true rfl) rfl rfl rfl (fun v σ2 q => ?_)
            obtain ⟨rfl, e9⟩ := q
            rw [e9]
            clear e9
            refine tt_iinc d_Tug_measure_235 rfl (nI_inc _ 1) (by decide) rfl ?_
            refine tt_goto (t := 31) d_Tug_measure_238 (by decide) ?_
            refine ih (eN e - (i + 1)) (by omega) (i + 1) _ (some _) (some _) (some _) (some _) (some _) rfl (by omega) ?_ ?_ ?_
            · refine hSc.tr (((Sc.wI (Or.inl rfl)).tr (hSc2.mono (fun a h => Or.inr (Or.inr (Or.inr h))))).tr ((Sc.wI (Or.inl rfl)).tr ((Sc.wI (Or.inr (Or.inl rfl))).tr (Sc.wI (Or.inr (Or.inr (Or.inl rfl)))))))
            · intro s hs
              have hu4 : ∀ k, k < 10 → ¬ u + k = 15 ∧ ¬ u + k = 16 ∧ ¬ u + k = 17 := fun k hk => by rcases isR_c hu with g | g <;> omega
              unfold X_hd X_hd3
              rw [si_wI, if_neg (fun q => (hu4 4 (by omega)).2.2 q.1), si_wI, if_neg (fun q => (hu4 4 (by omega)).2.1 q.1), si_wI, if_neg (fun q => (hu4 4 (by omega)).1 q.1), si_wI, if_neg (fun q => (hu4 5 (by omega)).2.2 q.1), si_wI, if_neg (fun q => (hu4 5 (by omega)).2.1 q.1), si_wI, if_neg (fun q => (hu4 5 (by omega)).1 q.1)]
              exact hCI2 s hs
            · refine MS_s hMS (fun j hj => ⟨?_, ?_, ?_⟩) ⟨?_, fun _ => ⟨?_, ?_⟩⟩
              · unfold X_hd X_hd3; rw [si_wI, if_neg (by omega), si_wI, if_neg (by omega), si_wI, if_neg (by omega), h15 15 (by omega), si_wI, if_neg (by omega)]
              · unfold X_hd X_hd3; rw [si_wI, if_neg (by omega), si_wI, if_neg (by omega), si_wI, if_neg (by omega), h15 16 (by omega), si_wI, if_neg (by omega)]
              · unfold X_hd X_hd3; rw [si_wI, if_neg (by omega), si_wI, if_neg (by omega), si_wI, if_neg (by omega), h15 17 (by omega), si_wI, if_neg (by omega)]
              · unfold X_hd X_hd3; rw [si_wI, if_neg (by omega), si_wI, if_neg (by omega), si_wI, if_pos ⟨rfl, rfl⟩]
                show X_clp ((gL (nI (keyN (atV e v i))) (eW e) (eM e)).getD 0 0) = plV e v i
                rw [gL_gA (key_at (okA_V he0 hv0 (by omega) hz)) (eM e) (fun j hj => (hcd.2.2.1 j hj).2)]
                exact (if_pos hon).symm
              · unfold X_hd X_hd3; rw [si_wI, if_neg (by omega), si_wI, if_pos ⟨rfl, rfl⟩]; rfl
              · unfold X_hd X_hd3; rw [si_wI, if_pos ⟨rfl, rfl⟩]; rfl
          · skip
            have hoff : ¬ actV v i = true := actV_f (Or.inr (Or.inr (hold_0 (σ := (wI τ 15 i (nI 0))) (hsf 5 (by decide)) v6 (by omega) (Classical.not_not.mp c_81))))
            refine tt_goto (t := 235) d_Tug_measure_84 (by decide) ?_
            refine tt_iinc d_Tug_measure_235 rfl (nI_inc _ 1) (by decide) rfl ?_
            refine tt_goto (t := 31) d_Tug_measure_238 (by decide) ?_
            refine ih (eN e - (i + 1)) (by omega) (i + 1) (wI τ 15 i (nI 0)) (some _) z6 z7 z8 z9 rfl (by omega) (hSc.tr (Sc.wI (Or.inl rfl))) (fun s hs => by rw [si_wI, if_neg (by rcases isR_c hu with g | g <;> omega), si_wI, if_neg (by rcases isR_c hu with g | g <;> omega)]; exact hCI s hs) ?_
            refine MS_s hMS (fun j hj => ⟨by rw [si_wI, if_neg (by omega)], rfl, rfl⟩) ⟨by rw [si_wI, if_pos ⟨rfl, rfl⟩, plV_0 hoff], fun q => absurd q hoff⟩

