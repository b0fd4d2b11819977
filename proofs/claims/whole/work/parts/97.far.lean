/-! Questions: farthest. Printed by wip/whole. -/
/-- the farthest field of those below i; those that can't be reached -/
def frB (w : wv) : Nat → Nat
  | 0 => wV w 0 0
  | i + 1 => if dW w (wV w 0 0) (frB w i) < dW w (wV w 0 0) i then i else frB w i
def frL (w : wv) : Nat → Int64
  | 0 => 0
  | i + 1 => if dW w (wV w 0 0) i = 0 ∧ eB (wE w) i = 0 then frL w i ||| bitL i else frL w i
def q_farthest (w : wv) : Int32 × Option (List Int64) := (nI (frB w (eR (wE w) * eC (wE w))), some [(gI (dW w (wV w 0 0) (frB w (eR (wE w) * eC (wE w))))).toInt64, frL w (eR (wE w) * eC (wE w))])
section
variable {w : wv} {i b : Nat} {L : Int64}
theorem fr_y (h : b = frB w i) (c : dW w (wV w 0 0) b < dW w (wV w 0 0) i) : i = frB w (i + 1) := by subst h; exact (if_pos c).symm
theorem fr_n (h : b = frB w i) (c : ¬ dW w (wV w 0 0) b < dW w (wV w 0 0) i) : b = frB w (i + 1) := by subst h; exact (if_neg c).symm
theorem fl_y (h : L = frL w i) (c : dW w (wV w 0 0) i = 0) (c2 : eB (wE w) i = 0) : L ||| bitL i = frL w (i + 1) := by subst h; exact (if_pos ⟨c, c2⟩).symm
theorem fl_n (h : L = frL w i) (c : ¬ (dW w (wV w 0 0) i = 0 ∧ eB (wE w) i = 0)) : L = frL w (i + 1) := by subst h; exact (if_neg c).symm
theorem fl_0 (h : L = frL w i) (c : ¬ (dW w (wV w 0 0) i = 0 ∧ eB (wE w) i = 0)) : L ||| 0 = frL w (i + 1) := by
  rw [show L ||| 0 = L from Int64.or_zero]; exact fl_n h c
theorem fr_c (ho : okQ w) : ∀ i, i ≤ eR (wE w) * eC (wE w) → frB w i < eR (wE w) * eC (wE w) ∧ ¬ dW w (wV w 0 0) (frB w i) = 0 ∧ (frB w i = wV w 0 0 ∨ frB w i < i)
  | 0, _ => ⟨ho.2.1.1, by show ¬ dT _ _ _ _ _ = 0; rw [show frB w 0 = wV w 0 0 from rfl, dT_s ho.1.1.2.1 ho.1.1.2.2.2.1 ho.2.1.1]; omega, Or.inl rfl⟩
  | i + 1, hi => by
    obtain ⟨h1, h2, h3⟩ := fr_c ho i (by omega)
    show (if dW w (wV w 0 0) (frB w i) < dW w (wV w 0 0) i then i else frB w i) < _ ∧ ¬ dW w (wV w 0 0) (if dW w (wV w 0 0) (frB w i) < dW w (wV w 0 0) i then i else frB w i) = 0 ∧ ((if dW w (wV w 0 0) (frB w i) < dW w (wV w 0 0) i then i else frB w i) = wV w 0 0 ∨ (if dW w (wV w 0 0) (frB w i) < dW w (wV w 0 0) i then i else frB w i) < i + 1)
    by_cases c : dW w (wV w 0 0) (frB w i) < dW w (wV w 0 0) i
    · rw [if_pos c]; exact ⟨by omega, by omega, Or.inr (by omega)⟩
    · rw [if_neg c]; exact ⟨h1, h2, by omega⟩
theorem fr_s (ho : okQ w) : dW w (wV w 0 0) (wV w 0 0) = 1 := dT_s ho.1.1.2.1 ho.1.1.2.2.2.1 ho.2.1.1
/-- no other field is as near as the first -/
theorem fr_u (ho : okQ w) (hb : b < eR (wE w) * eC (wE w)) (h : b = frB w i) (hi : i < eR (wE w) * eC (wE w)) (h1 : dW w (wV w 0 0) i = dW w (wV w 0 0) b) (h2 : i < b) : False := by
  obtain ⟨g1, g2, g3⟩ := fr_c ho i (by omega)
  rw [← h] at g3
  rcases g3 with g | g
  · rw [g, fr_s ho] at h1
    exact absurd (dT_1 h1) (by omega)
  · omega
theorem gI_leN {a b : Nat} (ha : a < 2 ^ 30) (hb : b < 2 ^ 30) : gI a ≤ gI b ↔ a ≤ b := by
  rw [← Int32.not_lt, gI_ltN hb ha]; omega
end
set_option maxHeartbeats 4000000 in
theorem x_far_l {l : xLa} {d : Nat} {σ : xs} {w : wv} (ho : okQ w) : ∀ (m : Nat) (i b : Nat) (L : Int64) (z : Option Int32) (τ : xs), eR (wE w) * eC (wE w) - i = m → i ≤ eR (wE w) * eC (wE w) → b = frB w i → L = frL w i → XQ w σ τ → SX τ w (wV w 0 0) → T l M_X_farthest (d + 30) 29 [some (.ref 0), some (.int (nI b)), some (.int (gI (dW w (wV w 0 0) b))), some (.long L), none, some (.int (nI i)), z.map Value.int] [] τ (fun r τ => r = some (.int (q_farthest w).1) ∧ XW τ (stD w (q_farthest w).2) ∧ XF σ τ) := by
  have hb0 := ho.fb
  have hb8 := ho.n8
  intro m
  induction m using Nat.strongRecOn with
  | ind m ih =>
    intro i b L z τ hm hi hb hL h hS
    obtain ⟨y1, y2, y3⟩ := fr_c ho i hi
    rw [← hb] at y1 y2 y3
    have y4 := (hS b y1).2
    refine tt_iload d_X_farthest_29 rfl ?_
    refine tt_aload_n d_X_farthest_31 rfl ?_
    refine tt_getR d_X_farthest_32 rfl rfl (by decide) rfl rfl ?_
    refine tt_callV (x_Lake_fields (d := d) h.r h.cl ho.1.1.2.1 ho.1.1.2.2.2.1 ho.cp) cw_Lake_fields rfl rfl (by decide) rfl (by omega) d_X_farthest_35 rfl rfl (Nat.le_of_ble_eq_true rfl) (Nat.le_of_ble_eq_true rfl) rfl rfl rfl (fun v σ2 q => ?_)
    obtain ⟨rfl, e9⟩ := q
    rw [e9]
    clear e9
    refine tn_ic_ge (t := 95) (by omega) (by omega) d_X_farthest_38 (by decide) (fun c_38 => ?_) (fun c_38 => ?_)
    · obtain rfl : i = eR (wE w) * eC (wE w) := by omega
      subst hb hL
      refine tt_aload_n d_X_farthest_95 rfl ?_
      refine tt_getR d_X_farthest_96 rfl rfl (by decide) rfl rfl ?_
      refine tt_callV (xq_start (d := d) h) cw_Told_start rfl rfl (by decide) rfl (by omega) d_X_farthest_99 rfl rfl (Nat.le_of_ble_eq_true rfl) (Nat.le_of_ble_eq_true rfl) rfl rfl rfl (fun v σ2 q => ?_)
      obtain ⟨rfl, h, hd, hf⟩ := q
      refine tt_aload_n d_X_farthest_102 rfl ?_
      refine tt_getR d_X_farthest_103 rfl rfl (by decide) rfl rfl ?_
      refine tt_iload_n d_X_farthest_106 rfl ?_
      refine tt_i2l d_X_farthest_107 ?_
      refine tt_callV (xq_add (d := d) h hd (Nat.le_of_ble_eq_true rfl)) cw_Told_add rfl rfl (by decide) rfl (by omega) d_X_farthest_108 rfl rfl (Nat.le_of_ble_eq_true rfl) (Nat.le_of_ble_eq_true rfl) rfl rfl rfl (fun v σ2 q => ?_)
      obtain ⟨rfl, h, hd, hf⟩ := q
      refine tt_aload_n d_X_farthest_111 rfl ?_
      refine tt_getR d_X_farthest_112 rfl rfl (by decide) rfl rfl ?_
      refine tt_lload_n d_X_farthest_115 rfl ?_
      refine tt_callV (xq_add (d := d) h hd (Nat.le_of_ble_eq_true rfl)) cw_Told_add rfl rfl (by decide) rfl (by omega) d_X_farthest_116 rfl rfl (Nat.le_of_ble_eq_true rfl) (Nat.le_of_ble_eq_true rfl) rfl rfl rfl (fun v σ2 q => ?_)
      obtain ⟨rfl, h, hd, hf⟩ := q
      refine tt_iload_n d_X_farthest_119 rfl ?_
      refine tt_iret rfl d_X_farthest_120 ?_
      exact ⟨rfl, h.done hd, h.2.1⟩
    · have y5 := (hS i (by omega)).2
      have hkf := ho.1.2.2.2 i (by omega)
      refine tt_aload_n d_X_farthest_41 rfl ?_
      refine tt_getR d_X_farthest_42 rfl rfl (by decide) rfl rfl ?_
      refine tt_iload d_X_farthest_45 rfl ?_
      refine tt_callV (x_Lake_stepsTo (d := d) h.r h.cl ho.1.1.2.1 ho.1.1.2.2.2.1 ho.cp) cw_Lake_stepsTo rfl rfl (by decide) rfl (by omega) d_X_farthest_47 rfl rfl (Nat.le_of_ble_eq_true rfl) (Nat.le_of_ble_eq_true rfl) rfl rfl rfl (fun v σ2 q => ?_)
      obtain ⟨rfl, e9⟩ := q
      rw [e9, X_stp_N (by omega) hb0, (hS i (by omega)).1]
      clear e9
      refine tt_istore (lv2 := [_, _, _, _, _, _, _]) d_X_farthest_50 (by decide) rfl ?_
      refine tt_iload d_X_farthest_52 rfl ?_
      refine tt_iload_n d_X_farthest_54 rfl ?_
      refine tt_ic_le (t := 64) d_X_farthest_55 (by decide) (fun c_55 => ?_) (fun c_55 => ?_)
      · have hbz := fr_n hb (by have := (gI_leN (by omega) (by omega)).mp c_55; omega)
        refine tt_iload d_X_farthest_64 rfl ?_
        refine tt_iconst (v := (-1)) d_X_farthest_66 (by decide) ?_
        refine tt_ic_ne (t := 89) d_X_farthest_67 (by decide) (fun c_67 => ?_) (fun c_67 => ?_)
        · have ht0 : ¬ dW w (wV w 0 0) i = 0 := fun q => c_67 ((gI_1 (by omega)).mpr q)
          have hlz := fl_n hL (fun z => ht0 z.1)
          refine tt_iinc (lv2 := [_, _, _, _, _, _, _]) d_X_farthest_89 rfl (nI_inc _ 1) (by decide) rfl ?_
          refine tt_goto (t := 29) d_X_farthest_92 (by decide) ?_
          exact ih (eR (wE w) * eC (wE w) - (i + 1)) (by omega) (i + 1) _ _ (some _) _ rfl (by omega) hbz hlz h hS
        · have ht0 : dW w (wV w 0 0) i = 0 := (gI_1 (by omega)).mp (Decidable.not_not.mp c_67)
          refine tt_aload_n d_X_farthest_70 rfl ?_
          refine tt_getR d_X_farthest_71 rfl rfl (by decide) rfl rfl ?_
          refine tt_iload d_X_farthest_74 rfl ?_
          refine tt_callV (x_Lake_isRock (d := d) h.r h.cl ho.1.1.2.1 ho.1.1.2.2.2.1 ho.cp) cw_Lake_isRock rfl rfl (by decide) rfl (by omega) d_X_farthest_76 rfl rfl (Nat.le_of_ble_eq_true rfl) (Nat.le_of_ble_eq_true rfl) rfl rfl rfl (fun v σ2 q => ?_)
          obtain ⟨rfl, e9⟩ := q
          rw [e9, X_rk_N h ho (by omega)]
          clear e9
          refine tn_if_ne (t := 89) (by omega) d_X_farthest_79 (by decide) (fun c_79 => ?_) (fun c_79 => ?_)
          · have hlz := fl_n hL (fun z => c_79 z.2)
            refine tt_iinc (lv2 := [_, _, _, _, _, _, _]) d_X_farthest_89 rfl (nI_inc _ 1) (by decide) rfl ?_
            refine tt_goto (t := 29) d_X_farthest_92 (by decide) ?_
            exact ih (eR (wE w) * eC (wE w) - (i + 1)) (by omega) (i + 1) _ _ (some _) _ rfl (by omega) hbz hlz h hS
          · have hlz := fl_y hL ht0 (by omega)
            refine tt_lload_n d_X_farthest_82 rfl ?_
            refine tt_lconst (v := 1) d_X_farthest_83 (by decide) ?_
            refine tt_iload d_X_farthest_84 rfl ?_
            refine tt_lshl d_X_farthest_86 ?_
            refine tt_lor d_X_farthest_87 ?_
            refine tt_lstore_n (lv2 := [_, _, _, _, _, _, _]) d_X_farthest_88 (by decide) rfl ?_
            refine tt_iinc (lv2 := [_, _, _, _, _, _, _]) d_X_farthest_89 rfl (nI_inc _ 1) (by decide) rfl ?_
            refine tt_goto (t := 29) d_X_farthest_92 (by decide) ?_
            exact ih (eR (wE w) * eC (wE w) - (i + 1)) (by omega) (i + 1) _ _ (some _) _ rfl (by omega) hbz hlz h hS
      · have hbz := fr_y hb (by have := mt (gI_leN (a := dW w (wV w 0 0) i) (b := dW w (wV w 0 0) b) (by omega) (by omega)).mpr (fun q => c_55 q); omega)
        refine tt_iload d_X_farthest_58 rfl ?_
        refine tt_istore_n (lv2 := [_, _, _, _, _, _, _]) d_X_farthest_60 (by decide) rfl ?_
        refine tt_iload d_X_farthest_61 rfl ?_
        refine tt_istore_n (lv2 := [_, _, _, _, _, _, _]) d_X_farthest_63 (by decide) rfl ?_
        refine tt_iload d_X_farthest_64 rfl ?_
        refine tt_iconst (v := (-1)) d_X_farthest_66 (by decide) ?_
        refine tt_ic_ne (t := 89) d_X_farthest_67 (by decide) (fun c_67 => ?_) (fun c_67 => ?_)
        · have ht0 : ¬ dW w (wV w 0 0) i = 0 := fun q => c_67 ((gI_1 (by omega)).mpr q)
          have hlz := fl_n hL (fun z => ht0 z.1)
          refine tt_iinc (lv2 := [_, _, _, _, _, _, _]) d_X_farthest_89 rfl (nI_inc _ 1) (by decide) rfl ?_
          refine tt_goto (t := 29) d_X_farthest_92 (by decide) ?_
          exact ih (eR (wE w) * eC (wE w) - (i + 1)) (by omega) (i + 1) _ _ (some _) _ rfl (by omega) hbz hlz h hS
        · have ht0 : dW w (wV w 0 0) i = 0 := (gI_1 (by omega)).mp (Decidable.not_not.mp c_67)
          refine tt_aload_n d_X_farthest_70 rfl ?_
          refine tt_getR d_X_farthest_71 rfl rfl (by decide) rfl rfl ?_
          refine tt_iload d_X_farthest_74 rfl ?_
          refine tt_callV (x_Lake_isRock (d := d) h.r h.cl ho.1.1.2.1 ho.1.1.2.2.2.1 ho.cp) cw_Lake_isRock rfl rfl (by decide) rfl (by omega) d_X_farthest_76 rfl rfl (Nat.le_of_ble_eq_true rfl) (Nat.le_of_ble_eq_true rfl) rfl rfl rfl (fun v σ2 q => ?_)
          obtain ⟨rfl, e9⟩ := q
          rw [e9, X_rk_N h ho (by omega)]
          clear e9
          refine tn_if_ne (t := 89) (by omega) d_X_farthest_79 (by decide) (fun c_79 => ?_) (fun c_79 => ?_)
          · have hlz := fl_n hL (fun z => c_79 z.2)
            refine tt_iinc (lv2 := [_, _, _, _, _, _, _]) d_X_farthest_89 rfl (nI_inc _ 1) (by decide) rfl ?_
            refine tt_goto (t := 29) d_X_farthest_92 (by decide) ?_
            exact ih (eR (wE w) * eC (wE w) - (i + 1)) (by omega) (i + 1) _ _ (some _) _ rfl (by omega) hbz hlz h hS
          · have hlz := fl_y hL ht0 (by omega)
            refine tt_lload_n d_X_farthest_82 rfl ?_
            refine tt_lconst (v := 1) d_X_farthest_83 (by decide) ?_
            refine tt_iload d_X_farthest_84 rfl ?_
            refine tt_lshl d_X_farthest_86 ?_
            refine tt_lor d_X_farthest_87 ?_
            refine tt_lstore_n (lv2 := [_, _, _, _, _, _, _]) d_X_farthest_88 (by decide) rfl ?_
            refine tt_iinc (lv2 := [_, _, _, _, _, _, _]) d_X_farthest_89 rfl (nI_inc _ 1) (by decide) rfl ?_
            refine tt_goto (t := 29) d_X_farthest_92 (by decide) ?_
            exact ih (eR (wE w) * eC (wE w) - (i + 1)) (by omega) (i + 1) _ _ (some _) _ rfl (by omega) hbz hlz h hS

set_option maxHeartbeats 4000000 in
theorem xc_farthest {l : xLa} {d : Nat} {σ : xs} {w : wv} (ho : okQ w) (hw : XW σ w)  : TC l M_X_farthest (d + 30) [.ref 0] σ (fun r τ => r = some (.int ((q_farthest w).1)) ∧ XW τ (stD w ((q_farthest w).2)) ∧ XF σ τ) := by
  show T l M_X_farthest (d + 30) 0 _ [] σ _
  refine T_lv (lv2 := [_, _, _, _, _, _, _]) rfl ?_
  have h := XQ.rf hw.v
  have hd0 := hw.2.2.2.1
  have hb0 := ho.fb
  have hb8 := ho.n8
  refine tt_aload_n d_X_farthest_0 rfl ?_
  refine tt_getR d_X_farthest_1 rfl rfl (by decide) rfl rfl ?_
  refine tt_aload_n d_X_farthest_4 rfl ?_
  refine tt_getR d_X_farthest_5 rfl rfl (by decide) rfl rfl ?_
  refine tn_get d_X_farthest_8 rfl rfl (by decide) rfl (h.v 0 (by decide)) ?_
  refine tt_callV (xq_mf (d := d) h ho ho.2.1.1) cw_Lake_measureFrom rfl rfl (by decide) rfl (by omega) d_X_farthest_11 rfl rfl (Nat.le_of_ble_eq_true rfl) (Nat.le_of_ble_eq_true rfl) rfl rfl rfl (fun v σ2 q => ?_)
  obtain ⟨rfl, h, hu, hS⟩ := q
  refine tt_aload_n d_X_farthest_14 rfl ?_
  refine tt_getR d_X_farthest_15 rfl rfl (by decide) rfl rfl ?_
  refine tn_get d_X_farthest_18 rfl rfl (by decide) rfl (h.v 0 (by decide)) ?_
  refine tt_istore_n (lv2 := [_, _, _, _, _, _, _]) d_X_farthest_21 (by decide) rfl ?_
  refine tt_iconst (v := nI 0) d_X_farthest_22 (by decide) ?_
  refine tt_istore_n (lv2 := [_, _, _, _, _, _, _]) d_X_farthest_23 (by decide) rfl ?_
  refine tt_lconst (v := 0) d_X_farthest_24 (by decide) ?_
  refine tt_lstore_n (lv2 := [_, _, _, _, _, _, _]) d_X_farthest_25 (by decide) rfl ?_
  refine tt_iconst (v := nI 0) d_X_farthest_26 (by decide) ?_
  refine tt_istore (lv2 := [_, _, _, _, _, _, _]) d_X_farthest_27 (by decide) rfl ?_
  refine T_lv (lv2 := [_, _, some (.int (gI (dW w (wV w 0 0) (wV w 0 0)))), _, _, _, _]) (by rw [fr_s ho]; rfl) ?_
  exact x_far_l ho (eR (wE w) * eC (wE w)) 0 _ 0 none _ rfl (by omega) rfl rfl h hS

set_option maxHeartbeats 4000000 in
theorem y_far_l {l : xLa} {d : Nat} {σ : xs} {c : Nat} {w : wv} (ho : okQ w) : ∀ (m : Nat) (i b : Nat) (L : Int64) (z : Option Int32) (τ : xs), eR (wE w) * eC (wE w) - i = m → i ≤ eR (wE w) * eC (wE w) → b = frB w i → L = frL w i → YQ c w σ τ → SYs τ w (wV w 0 0) → T l M_Y_farthest (d + 150) 27 [some (.ref 154), some (.int (nI b)), some (.long L), none, some (.int (nI i)), z.map Value.int] [] τ (fun r τ => r = some (.int (q_farthest w).1) ∧ YW τ c (stD w (q_farthest w).2) ∧ YF σ τ) := by
  have hb0 := ho.fb
  have hb8 := ho.n8
  intro m
  induction m using Nat.strongRecOn with
  | ind m ih =>
    intro i b L z τ hm hi hb hL h hU
    obtain ⟨y1, y2, y3⟩ := fr_c ho i hi
    rw [← hb] at y1 y2 y3
    have y4 := (hU b y1).2
    have y6 := nvN_c y4
    refine tt_iload d_Y_farthest_27 rfl ?_
    refine tt_aload_n d_Y_farthest_29 rfl ?_
    refine tt_callV (y_fields (d := d) h.e.1.1 h.e.1.2.1 ho.1.1.2.1 ho.1.1.2.2.2.1 ho.cp) cw_Y_fields rfl rfl (by decide) rfl (by omega) d_Y_farthest_30 rfl rfl (Nat.le_of_ble_eq_true rfl) (Nat.le_of_ble_eq_true rfl) rfl rfl rfl (fun v σ2 q => ?_)
    obtain ⟨rfl, e9⟩ := q
    rw [e9]
    clear e9
    refine tn_ic_ge (t := 138) (by omega) (by omega) d_Y_farthest_33 (by decide) (fun c_33 => ?_) (fun c_33 => ?_)
    · obtain rfl : i = eR (wE w) * eC (wE w) := by omega
      subst hb hL
      refine tt_aload_n d_Y_farthest_138 rfl ?_
      refine tt_iconst (v := nI 0) d_Y_farthest_139 (by decide) ?_
      refine tt_putI d_Y_farthest_140 rfl rfl (by decide) rfl (xpok_int rfl) rfl ?_
      replace h := h.td0
      have hd := YD_0t h
      replace hU : SYs (wF _ 154 1 (nI 0)) w (wV w 0 0) := hU
      refine tt_aload_n d_Y_farthest_143 rfl ?_
      refine tt_aload_n d_Y_farthest_144 rfl ?_
      refine tt_getR d_Y_farthest_145 rfl rfl (by decide) rfl rfl ?_
      refine tt_iload_n d_Y_farthest_148 rfl ?_
      refine tn_iald d_Y_farthest_149 rfl (by decide) (by omega) (hU _ (by omega)).1 ?_
      refine tt_i2l d_Y_farthest_150 ?_
      refine tt_callV (yq_add (d := d) h hd (Nat.le_of_ble_eq_true rfl)) cw_Y_enters rfl rfl (by decide) rfl (by omega) d_Y_farthest_151 rfl rfl (Nat.le_of_ble_eq_true rfl) (Nat.le_of_ble_eq_true rfl) rfl rfl rfl (fun v σ2 q => ?_)
      obtain ⟨rfl, h, hd, hf2⟩ := q
      refine tt_aload_n d_Y_farthest_154 rfl ?_
      refine tt_lload_n d_Y_farthest_155 rfl ?_
      refine tt_callV (yq_add (d := d) h hd (Nat.le_of_ble_eq_true rfl)) cw_Y_enters rfl rfl (by decide) rfl (by omega) d_Y_farthest_156 rfl rfl (Nat.le_of_ble_eq_true rfl) (Nat.le_of_ble_eq_true rfl) rfl rfl rfl (fun v σ2 q => ?_)
      obtain ⟨rfl, h, hd, hf⟩ := q
      refine tt_iload_n d_Y_farthest_159 rfl ?_
      refine tt_iret rfl d_Y_farthest_160 ?_
      rw [y6.2.2 y2, ← (gI_c (show dW w (wV w 0 0) (frB w (eR (wE w) * eC (wE w))) < 2 ^ 31 by omega)).2 y2] at hd
      exact ⟨rfl, h.done hd, h.2⟩
    · have y5 := (hU i (by omega)).2
      have y7 := nvN_c y5
      have hkf := ho.1.2.2.2 i (by omega)
      refine tt_aload_n d_Y_farthest_36 rfl ?_
      refine tt_getR d_Y_farthest_37 rfl rfl (by decide) rfl rfl ?_
      refine tt_iload d_Y_farthest_40 rfl ?_
      refine tn_iald d_Y_farthest_42 rfl (by decide) (by omega) (hU _ (by omega)).1 ?_
      refine tt_ldc_w (v := nI 1000000) d_Y_farthest_43 rfl ?_
      refine tn_ic_ge (t := 53) (by omega) (by omega) d_Y_farthest_46 (by decide) (fun c_46 => ?_) (fun c_46 => ?_)
      · have ht0 : dW w (wV w 0 0) i = 0 := by omega
        have hbz := fr_n hb (by omega)
        refine tt_iconst (v := nI 0) d_Y_farthest_53 (by decide) ?_
        refine tt_istore (lv2 := [_, _, _, _, _, _]) d_Y_farthest_54 (by decide) rfl ?_
        refine tt_iload d_Y_farthest_56 rfl ?_
        refine tn_if_eq (t := 104) (by omega) d_Y_farthest_58 (by decide) (fun c_58 => ?_) (fun c_58 => ?_)
        · refine tt_iload_n d_Y_farthest_104 rfl ?_
          refine tt_istore_n (lv2 := [_, _, _, _, _, _]) d_Y_farthest_105 (by decide) rfl ?_
          refine tt_lload_n d_Y_farthest_106 rfl ?_
          refine tt_iload d_Y_farthest_107 rfl ?_
          refine tn_if_ne (t := 129) (by omega) d_Y_farthest_109 (by decide) (fun c_109 => ?_) (fun c_109 => ?_)
          · omega
          · refine tt_aload_n d_Y_farthest_112 rfl ?_
            refine tt_getR d_Y_farthest_113 rfl rfl (by decide) rfl rfl ?_
            refine tt_iload d_Y_farthest_116 rfl ?_
            refine tn_zald d_Y_farthest_118 rfl (by decide) (by omega) (h.e.2.2.2 _ (by omega)) ?_
            refine tn_if_ne (t := 129) (by omega) d_Y_farthest_119 (by decide) (fun c_119 => ?_) (fun c_119 => ?_)
            · have hlz := fl_0 hL (fun z => c_119 z.2)
              refine tt_lconst (v := 0) d_Y_farthest_129 (by decide) ?_
              refine tt_lor d_Y_farthest_130 ?_
              refine tt_lstore_n (lv2 := [_, _, _, _, _, _]) d_Y_farthest_131 (by decide) rfl ?_
              refine tt_iinc (lv2 := [_, _, _, _, _, _]) d_Y_farthest_132 rfl (nI_inc _ 1) (by decide) rfl ?_
              refine tt_goto (t := 27) d_Y_farthest_135 (by decide) ?_
              exact ih (eR (wE w) * eC (wE w) - (i + 1)) (by omega) (i + 1) _ _ (some _) _ rfl (by omega) hbz hlz h hU
            · have hlz := fl_y hL ht0 (by omega)
              refine tt_lconst (v := 1) d_Y_farthest_122 (by decide) ?_
              refine tt_iload d_Y_farthest_123 rfl ?_
              refine tt_lshl d_Y_farthest_125 ?_
              refine tt_goto (t := 130) d_Y_farthest_126 (by decide) ?_
              refine tt_lor d_Y_farthest_130 ?_
              refine tt_lstore_n (lv2 := [_, _, _, _, _, _]) d_Y_farthest_131 (by decide) rfl ?_
              refine tt_iinc (lv2 := [_, _, _, _, _, _]) d_Y_farthest_132 rfl (nI_inc _ 1) (by decide) rfl ?_
              refine tt_goto (t := 27) d_Y_farthest_135 (by decide) ?_
              exact ih (eR (wE w) * eC (wE w) - (i + 1)) (by omega) (i + 1) _ _ (some _) _ rfl (by omega) hbz hlz h hU
        · omega
      · have ht0 : ¬ dW w (wV w 0 0) i = 0 := by omega
        refine tt_iconst (v := nI 1) d_Y_farthest_49 (by decide) ?_
        refine tt_goto (t := 54) d_Y_farthest_50 (by decide) ?_
        refine tt_istore (lv2 := [_, _, _, _, _, _]) d_Y_farthest_54 (by decide) rfl ?_
        refine tt_iload d_Y_farthest_56 rfl ?_
        refine tn_if_eq (t := 104) (by omega) d_Y_farthest_58 (by decide) (fun c_58 => ?_) (fun c_58 => ?_)
        · omega
        · refine tt_aload_n d_Y_farthest_61 rfl ?_
          refine tt_getR d_Y_farthest_62 rfl rfl (by decide) rfl rfl ?_
          refine tt_iload d_Y_farthest_65 rfl ?_
          refine tn_iald d_Y_farthest_67 rfl (by decide) (by omega) (hU _ (by omega)).1 ?_
          refine tt_aload_n d_Y_farthest_68 rfl ?_
          refine tt_getR d_Y_farthest_69 rfl rfl (by decide) rfl rfl ?_
          refine tt_iload_n d_Y_farthest_72 rfl ?_
          refine tn_iald d_Y_farthest_73 rfl (by decide) (by omega) (hU _ (by omega)).1 ?_
          refine tn_ic_gt (t := 99) (by omega) (by omega) d_Y_farthest_74 (by decide) (fun c_74 => ?_) (fun c_74 => ?_)
          · have hbz := fr_y hb (by omega)
            refine tt_iload d_Y_farthest_99 rfl ?_
            refine tt_goto (t := 105) d_Y_farthest_101 (by decide) ?_
            refine tt_istore_n (lv2 := [_, _, _, _, _, _]) d_Y_farthest_105 (by decide) rfl ?_
            refine tt_lload_n d_Y_farthest_106 rfl ?_
            refine tt_iload d_Y_farthest_107 rfl ?_
            refine tn_if_ne (t := 129) (by omega) d_Y_farthest_109 (by decide) (fun c_109 => ?_) (fun c_109 => ?_)
            · have hlz := fl_0 hL (fun z => ht0 z.1)
              refine tt_lconst (v := 0) d_Y_farthest_129 (by decide) ?_
              refine tt_lor d_Y_farthest_130 ?_
              refine tt_lstore_n (lv2 := [_, _, _, _, _, _]) d_Y_farthest_131 (by decide) rfl ?_
              refine tt_iinc (lv2 := [_, _, _, _, _, _]) d_Y_farthest_132 rfl (nI_inc _ 1) (by decide) rfl ?_
              refine tt_goto (t := 27) d_Y_farthest_135 (by decide) ?_
              exact ih (eR (wE w) * eC (wE w) - (i + 1)) (by omega) (i + 1) _ _ (some _) _ rfl (by omega) hbz hlz h hU
            · omega
          · refine tt_aload_n d_Y_farthest_77 rfl ?_
            refine tt_getR d_Y_farthest_78 rfl rfl (by decide) rfl rfl ?_
            refine tt_iload d_Y_farthest_81 rfl ?_
            refine tn_iald d_Y_farthest_83 rfl (by decide) (by omega) (hU _ (by omega)).1 ?_
            refine tt_aload_n d_Y_farthest_84 rfl ?_
            refine tt_getR d_Y_farthest_85 rfl rfl (by decide) rfl rfl ?_
            refine tt_iload_n d_Y_farthest_88 rfl ?_
            refine tn_iald d_Y_farthest_89 rfl (by decide) (by omega) (hU _ (by omega)).1 ?_
            refine tn_ic_ne (t := 104) (by omega) (by omega) d_Y_farthest_90 (by decide) (fun c_90 => ?_) (fun c_90 => ?_)
            · have hbz := fr_n hb (by omega)
              refine tt_iload_n d_Y_farthest_104 rfl ?_
              refine tt_istore_n (lv2 := [_, _, _, _, _, _]) d_Y_farthest_105 (by decide) rfl ?_
              refine tt_lload_n d_Y_farthest_106 rfl ?_
              refine tt_iload d_Y_farthest_107 rfl ?_
              refine tn_if_ne (t := 129) (by omega) d_Y_farthest_109 (by decide) (fun c_109 => ?_) (fun c_109 => ?_)
              · have hlz := fl_0 hL (fun z => ht0 z.1)
                refine tt_lconst (v := 0) d_Y_farthest_129 (by decide) ?_
                refine tt_lor d_Y_farthest_130 ?_
                refine tt_lstore_n (lv2 := [_, _, _, _, _, _]) d_Y_farthest_131 (by decide) rfl ?_
                refine tt_iinc (lv2 := [_, _, _, _, _, _]) d_Y_farthest_132 rfl (nI_inc _ 1) (by decide) rfl ?_
                refine tt_goto (t := 27) d_Y_farthest_135 (by decide) ?_
                exact ih (eR (wE w) * eC (wE w) - (i + 1)) (by omega) (i + 1) _ _ (some _) _ rfl (by omega) hbz hlz h hU
              · omega
            · refine tt_iload d_Y_farthest_93 rfl ?_
              refine tt_iload_n d_Y_farthest_95 rfl ?_
              refine tn_ic_ge (t := 104) (by omega) (by omega) d_Y_farthest_96 (by decide) (fun c_96 => ?_) (fun c_96 => ?_)
              · have hbz := fr_n hb (by omega)
                refine tt_iload_n d_Y_farthest_104 rfl ?_
                refine tt_istore_n (lv2 := [_, _, _, _, _, _]) d_Y_farthest_105 (by decide) rfl ?_
                refine tt_lload_n d_Y_farthest_106 rfl ?_
                refine tt_iload d_Y_farthest_107 rfl ?_
                refine tn_if_ne (t := 129) (by omega) d_Y_farthest_109 (by decide) (fun c_109 => ?_) (fun c_109 => ?_)
                · have hlz := fl_0 hL (fun z => ht0 z.1)
                  refine tt_lconst (v := 0) d_Y_farthest_129 (by decide) ?_
                  refine tt_lor d_Y_farthest_130 ?_
                  refine tt_lstore_n (lv2 := [_, _, _, _, _, _]) d_Y_farthest_131 (by decide) rfl ?_
                  refine tt_iinc (lv2 := [_, _, _, _, _, _]) d_Y_farthest_132 rfl (nI_inc _ 1) (by decide) rfl ?_
                  refine tt_goto (t := 27) d_Y_farthest_135 (by decide) ?_
                  exact ih (eR (wE w) * eC (wE w) - (i + 1)) (by omega) (i + 1) _ _ (some _) _ rfl (by omega) hbz hlz h hU
                · omega
              · exact (fr_u ho y1 hb (by omega) (by omega) (by omega)).elim

set_option maxHeartbeats 4000000 in
theorem yc_farthest {l : xLa} {d c : Nat} {σ : xs} {w : wv} (ho : okQ w) (hw : YW σ c w)  : TC l M_Y_farthest (d + 150) [.ref 154] σ (fun r τ => r = some (.int ((q_farthest w).1)) ∧ YW τ c (stD w ((q_farthest w).2)) ∧ YF σ τ) := by
  show T l M_Y_farthest (d + 150) 0 _ [] σ _
  refine T_lv (lv2 := [_, _, _, _, _, _]) rfl ?_
  have h := YQ.rf hw.v
  have hd0 := hw.2.2.2.1
  have hb0 := ho.fb
  have hb8 := ho.n8
  refine tt_aload_n d_Y_farthest_0 rfl ?_
  refine tt_iconst (v := nI 0) d_Y_farthest_1 (by decide) ?_
  refine tt_putI d_Y_farthest_2 rfl rfl (by decide) rfl (xpok_int rfl) rfl ?_
  replace h := h.thr (x := nI 0)
  replace hd0 := hd0.thr (x := nI 0)
  refine tt_aload_n d_Y_farthest_5 rfl ?_
  refine tt_aload_n d_Y_farthest_6 rfl ?_
  refine tt_getR d_Y_farthest_7 rfl rfl (by decide) rfl rfl ?_
  refine tt_iconst (v := nI 0) d_Y_farthest_10 (by decide) ?_
  refine tn_iald d_Y_farthest_11 rfl (by decide) (by omega) (h.1.2.1.1.1) ?_
  refine tt_callV (yq_lays (d := d) h ho ho.2.1.1) cw_Y_laysSteps rfl rfl (by decide) rfl (by omega) d_Y_farthest_12 rfl rfl (Nat.le_of_ble_eq_true rfl) (Nat.le_of_ble_eq_true rfl) rfl rfl rfl (fun v σ2 q => ?_)
  obtain ⟨rfl, h, hu, hU⟩ := q
  replace hU : SYs _ w (wV w 0 0) := hU
  refine tt_aload_n d_Y_farthest_15 rfl ?_
  refine tt_getR d_Y_farthest_16 rfl rfl (by decide) rfl rfl ?_
  refine tt_iconst (v := nI 0) d_Y_farthest_19 (by decide) ?_
  refine tn_iald d_Y_farthest_20 rfl (by decide) (by omega) (h.1.2.1.1.1) ?_
  refine tt_istore_n (lv2 := [_, _, _, _, _, _]) d_Y_farthest_21 (by decide) rfl ?_
  refine tt_lconst (v := 0) d_Y_farthest_22 (by decide) ?_
  refine tt_lstore_n (lv2 := [_, _, _, _, _, _]) d_Y_farthest_23 (by decide) rfl ?_
  refine tt_iconst (v := nI 0) d_Y_farthest_24 (by decide) ?_
  refine tt_istore (lv2 := [_, _, _, _, _, _]) d_Y_farthest_25 (by decide) rfl ?_
  exact y_far_l ho (eR (wE w) * eC (wE w)) 0 _ 0 none _ rfl (by omega) rfl rfl h hU

