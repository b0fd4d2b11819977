/-! Questions: sends. Printed by wip/whole. -/
def cbN (e : xe) (v : sv) (i : Nat) : Nat := if eK e i = 2 ∨ v 2 i = 0 then 0 else 1
def cbI (w : wv) (i : Int32) : Nat := match inN i (eN (wE w)) with
  | none => 0
  | some k => cbN (wE w) (wV w) k
def abW (w : wv) : Nat := abN (wE w) (wV w) (eN (wE w))
theorem cbI_N {w : wv} {k : Nat} (h : k < eN (wE w)) (h8 : eN (wE w) ≤ 8) : cbI w (nI k) = cbN (wE w) (wV w) k := by unfold cbI; rw [inN_N h (by omega)]
theorem ab_y {e : xe} {v : sv} {i b : Nat} (h : b = abN e v i) (c : ¬ cbN e v i = 0) : b ||| 2 ^ i = abN e v (i + 1) := by
  subst h
  have : ¬ (eK e i = 2 ∨ v 2 i = 0) := fun q => c (if_pos q)
  show _ = abN e v i ||| (if decide (¬ (eK e i = 2 ∨ v 2 i = 0)) = true then 2 ^ i else 0)
  rw [if_pos (decide_eq_true this)]
theorem ab_n {e : xe} {v : sv} {i b : Nat} (h : b = abN e v i) (c : cbN e v i = 0) : b ||| 0 = abN e v (i + 1) := by
  subst h
  have : ¬ decide (¬ (eK e i = 2 ∨ v 2 i = 0)) = true := fun q => by
    unfold cbN at c
    rw [if_neg (of_decide_eq_true q)] at c
    omega
  show _ = abN e v i ||| (if decide (¬ (eK e i = 2 ∨ v 2 i = 0)) = true then 2 ^ i else 0)
  rw [if_neg this]
theorem ab_lt {w : wv} (ho : okQ w) {i : Nat} (hi : i ≤ eN (wE w)) : abN (wE w) (wV w) i < 256 := bsN_256 _ (by have := ho.n8; omega)
theorem ab_t {w : wv} {s k : Nat} (h : dfN s (abW w) = 0) (hk : s.testBit k = true) : ¬ (eK (wE w) k = 2 ∨ wV w 2 k = 0) := by
  have := dfN_0.mp h k hk
  unfold abW abN at this
  rw [bsN_t, Bool.and_eq_true] at this
  exact of_decide_eq_true this.2
def sdA (w : wv) (f c n : Nat) : Nat → Int32 × Option (List Int64)
  | 0 => (-2, none)
  | s + 1 => (nI (pcN s), some [(nI s).toInt64, (arI (aryN (wE w) (prm (wV w) s f c (eN (wE w))) f n)).toInt64])
def q_sends (w : wv) (f c n : Int32) : Int32 × Option (List Int64) := match inN f (eR (wE w) * eC (wE w)), rgN n 1 20, rgN c 0 9 with
  | some f, some n, some c => sdA w f c n (feN (arB w f c n) (abW w))
  | _, _, _ => (-1, none)
def afI (w : wv) (f n : Int32) : Int32 := match inN f (eR (wE w) * eC (wE w)), rgN n 1 20 with
  | some _, some _ => nI 1
  | _, _ => nI 0
theorem cb_le (e : xe) (v : sv) (i : Nat) : cbN e v i ≤ 1 := by unfold cbN; split <;> omega
theorem x_canBe {l : xLa} {d : Nat} {σ τ : xs} {w : wv} {i : Int32} (h : XQ w σ τ) (ho : okQ w) : TE l M_X_canBePromised (d + 3) [.ref 0, .int i] τ (some (.int (nI (cbI w i)))) τ := by
  show T l M_X_canBePromised (d + 3) 0 _ [] τ _
  refine T_lv (lv2 := [_, _]) rfl ?_
  have hb0 := ho.fb
  have hb8 := ho.n8
  rcases inN_c i (eN (wE w)) with ⟨m, hm, rfl, hq⟩ | ⟨hq, hb⟩
  · have hv7 := ho.2.1.2.2.2.2.2.2 m hm
    have hk3 := (ho.1.2.1 m (by omega)).1
    rw [cbI_N hm hb8]
    unfold cbN
    refine tt_aload_n d_X_canBePromised_0 rfl ?_
    refine tt_getR d_X_canBePromised_1 rfl rfl (by decide) rfl rfl ?_
    refine tt_iload_n d_X_canBePromised_4 rfl ?_
    refine tt_callV (x_School_has (d := d) h.n ho.n8) cw_School_has rfl rfl (by decide) rfl (by omega) d_X_canBePromised_5 rfl rfl (Nat.le_of_ble_eq_true rfl) (Nat.le_of_ble_eq_true rfl) rfl rfl rfl (fun v σ2 q => ?_)
    obtain ⟨rfl, e9⟩ := q
    rw [e9, X_in_N hm (by omega)]
    clear e9
    refine tn_if_eq (t := 40) (by omega) d_X_canBePromised_8 (by decide) (fun c_8 => ?_) (fun c_8 => ?_)
    · exact absurd c_8 (by decide)
    · refine tt_aload_n d_X_canBePromised_11 rfl ?_
      refine tt_getR d_X_canBePromised_12 rfl rfl (by decide) rfl rfl ?_
      refine tt_getR d_X_canBePromised_15 rfl rfl (by decide) rfl rfl ?_
      refine tt_iload_n d_X_canBePromised_18 rfl ?_
      refine tn_iald d_X_canBePromised_19 rfl (by decide) (by omega) (h.kd (by omega)) ?_
      refine tt_iconst (v := nI 2) d_X_canBePromised_20 (by decide) ?_
      refine tn_ic_eq (t := 40) (by omega) (by omega) d_X_canBePromised_21 (by decide) (fun c_21 => ?_) (fun c_21 => ?_)
      · refine tt_iconst (v := nI 0) d_X_canBePromised_40 (by decide) ?_
        refine tt_zret rfl rfl d_X_canBePromised_41 ?_
        first | (rw [if_pos (by omega)]; exact ⟨rfl, rfl⟩) | (rw [if_neg (by omega)]; exact ⟨rfl, rfl⟩)
      · refine tt_aload_n d_X_canBePromised_24 rfl ?_
        refine tt_getR d_X_canBePromised_25 rfl rfl (by decide) rfl rfl ?_
        refine tt_getR d_X_canBePromised_28 rfl rfl (by decide) rfl rfl ?_
        refine tt_iload_n d_X_canBePromised_31 rfl ?_
        refine tn_iald d_X_canBePromised_32 rfl (by decide) (by omega) (h.t2 (by omega)) ?_
        refine tn_if_le (t := 40) (by omega) d_X_canBePromised_33 (by decide) (fun c_33 => ?_) (fun c_33 => ?_)
        · refine tt_iconst (v := nI 0) d_X_canBePromised_40 (by decide) ?_
          refine tt_zret rfl rfl d_X_canBePromised_41 ?_
          first | (rw [if_pos (by omega)]; exact ⟨rfl, rfl⟩) | (rw [if_neg (by omega)]; exact ⟨rfl, rfl⟩)
        · refine tt_iconst (v := nI 1) d_X_canBePromised_36 (by decide) ?_
          refine tt_goto (t := 41) d_X_canBePromised_37 (by decide) ?_
          refine tt_zret rfl rfl d_X_canBePromised_41 ?_
          first | (rw [if_pos (by omega)]; exact ⟨rfl, rfl⟩) | (rw [if_neg (by omega)]; exact ⟨rfl, rfl⟩)
  · have e : cbI w i = 0 := by unfold cbI; rw [hq]
    rw [e]
    refine tt_aload_n d_X_canBePromised_0 rfl ?_
    refine tt_getR d_X_canBePromised_1 rfl rfl (by decide) rfl rfl ?_
    refine tt_iload_n d_X_canBePromised_4 rfl ?_
    refine tt_callV (x_School_has (d := d) h.n ho.n8) cw_School_has rfl rfl (by decide) rfl (by omega) d_X_canBePromised_5 rfl rfl (Nat.le_of_ble_eq_true rfl) (Nat.le_of_ble_eq_true rfl) rfl rfl rfl (fun v σ2 q => ?_)
    obtain ⟨rfl, e9⟩ := q
    rw [e9, X_in_none hb]
    clear e9
    refine tn_if_eq (t := 40) (by omega) d_X_canBePromised_8 (by decide) (fun c_8 => ?_) (fun c_8 => ?_)
    · refine tt_iconst (v := nI 0) d_X_canBePromised_40 (by decide) ?_
      refine tt_zret rfl rfl d_X_canBePromised_41 ?_
      exact ⟨rfl, rfl⟩
    · exact absurd rfl c_8

theorem y_canBe {l : xLa} {d c : Nat} {σ τ : xs} {w : wv} {m : Nat} (h : YQ c w σ τ) (ho : okQ w) (hm : m < eN (wE w)) : TE l M_Y_canBePromised (d + 1) [.ref 154, .ref 160, .int (nI m)] τ (some (.int (nI (cbN (wE w) (wV w) m)))) τ := by
  show T l M_Y_canBePromised (d + 1) 0 _ [] τ _
  refine T_lv (lv2 := [_, _, _]) rfl ?_
  have hb0 := ho.fb
  have hb8 := ho.n8
  have hv7 := ho.2.1.2.2.2.2.2.2 m hm
  have hk3 := (ho.1.2.1 m (by omega)).1
  unfold cbN
  refine tt_aload_n d_Y_canBePromised_0 rfl ?_
  refine tt_getR d_Y_canBePromised_1 rfl rfl (by decide) rfl rfl ?_
  refine tt_iload_n d_Y_canBePromised_4 rfl ?_
  refine tn_iald d_Y_canBePromised_5 rfl (by decide) (by omega) ((h.e.2.1 _ (by omega)).1) ?_
  refine tt_iconst (v := nI 2) d_Y_canBePromised_6 (by decide) ?_
  refine tn_ic_eq (t := 23) (by omega) (by omega) d_Y_canBePromised_7 (by decide) (fun c_7 => ?_) (fun c_7 => ?_)
  · refine tt_iconst (v := nI 0) d_Y_canBePromised_23 (by decide) ?_
    refine tt_zret rfl rfl d_Y_canBePromised_24 ?_
    first | (rw [if_pos (by omega)]; exact ⟨rfl, rfl⟩) | (rw [if_neg (by omega)]; exact ⟨rfl, rfl⟩)
  · refine tt_aload_n d_Y_canBePromised_10 rfl ?_
    refine tt_bipush (v := nI 9) d_Y_canBePromised_11 (by decide) ?_
    refine tt_iload_n d_Y_canBePromised_13 rfl ?_
    refine tn_iadd d_Y_canBePromised_14 ?_
    refine tn_iald d_Y_canBePromised_15 rfl (by decide) (by omega) ((h.1.2.1.2 _ (by omega)).2.1) ?_
    refine tn_if_le (t := 23) (by omega) d_Y_canBePromised_16 (by decide) (fun c_16 => ?_) (fun c_16 => ?_)
    · refine tt_iconst (v := nI 0) d_Y_canBePromised_23 (by decide) ?_
      refine tt_zret rfl rfl d_Y_canBePromised_24 ?_
      first | (rw [if_pos (by omega)]; exact ⟨rfl, rfl⟩) | (rw [if_neg (by omega)]; exact ⟨rfl, rfl⟩)
    · refine tt_iconst (v := nI 1) d_Y_canBePromised_19 (by decide) ?_
      refine tt_goto (t := 24) d_Y_canBePromised_20 (by decide) ?_
      refine tt_zret rfl rfl d_Y_canBePromised_24 ?_
      first | (rw [if_pos (by omega)]; exact ⟨rfl, rfl⟩) | (rw [if_neg (by omega)]; exact ⟨rfl, rfl⟩)

theorem x_asked {l : xLa} {d : Nat} {σ τ : xs} {w : wv} {f n : Int32} (h : XQ w σ τ) (ho : okQ w) : TE l M_X_canBeAskedFor (d + 3) [.ref 0, .int f, .int n] τ (some (.int (afI w f n))) τ := by
  show T l M_X_canBeAskedFor (d + 3) 0 _ [] τ _
  refine T_lv (lv2 := [_, _, _]) rfl ?_
  have hb0 := ho.fb
  have hb8 := ho.n8
  rcases inN_c f (eR (wE w) * eC (wE w)) with ⟨m, hm, rfl, hq⟩ | ⟨hq, hb⟩
  · rcases rgN_c n 1 20 with ⟨k, k1, k2, k3, rfl, hq2⟩ | ⟨hq2, hb⟩
    · have e : afI w (nI m) (nI k) = nI 1 := by unfold afI; rw [hq, hq2]
      rw [e]
      refine tt_aload_n d_X_canBeAskedFor_0 rfl ?_
      refine tt_getR d_X_canBeAskedFor_1 rfl rfl (by decide) rfl rfl ?_
      refine tt_iload_n d_X_canBeAskedFor_4 rfl ?_
      refine tt_callV (x_Lake_has (d := d) h.r h.cl ho.1.1.2.1 ho.1.1.2.2.2.1 ho.cp) cw_Lake_has rfl rfl (by decide) rfl (by omega) d_X_canBeAskedFor_5 rfl rfl (Nat.le_of_ble_eq_true rfl) (Nat.le_of_ble_eq_true rfl) rfl rfl rfl (fun v σ2 q => ?_)
      obtain ⟨rfl, e9⟩ := q
      rw [e9, X_in_N hm (by omega)]
      clear e9
      refine tn_if_eq (t := 26) (by omega) d_X_canBeAskedFor_8 (by decide) (fun c_8 => ?_) (fun c_8 => ?_)
      · exact absurd c_8 (by decide)
      · refine tt_iload_n d_X_canBeAskedFor_11 rfl ?_
        refine tt_iconst (v := nI 1) d_X_canBeAskedFor_12 (by decide) ?_
        refine tn_ic_lt (t := 26) (by omega) (by omega) d_X_canBeAskedFor_13 (by decide) (fun c_13 => ?_) (fun c_13 => ?_)
        · omega
        · refine tt_iload_n d_X_canBeAskedFor_16 rfl ?_
          refine tt_bipush (v := nI 20) d_X_canBeAskedFor_17 (by decide) ?_
          refine tn_ic_gt (t := 26) (by omega) (by omega) d_X_canBeAskedFor_19 (by decide) (fun c_19 => ?_) (fun c_19 => ?_)
          · omega
          · refine tt_iconst (v := nI 1) d_X_canBeAskedFor_22 (by decide) ?_
            refine tt_goto (t := 27) d_X_canBeAskedFor_23 (by decide) ?_
            refine tt_zret rfl rfl d_X_canBeAskedFor_27 ?_
            exact ⟨rfl, rfl⟩
    · have e : afI w (nI m) n = nI 0 := by unfold afI; rw [hq, hq2]
      rw [e]
      refine tt_aload_n d_X_canBeAskedFor_0 rfl ?_
      refine tt_getR d_X_canBeAskedFor_1 rfl rfl (by decide) rfl rfl ?_
      refine tt_iload_n d_X_canBeAskedFor_4 rfl ?_
      refine tt_callV (x_Lake_has (d := d) h.r h.cl ho.1.1.2.1 ho.1.1.2.2.2.1 ho.cp) cw_Lake_has rfl rfl (by decide) rfl (by omega) d_X_canBeAskedFor_5 rfl rfl (Nat.le_of_ble_eq_true rfl) (Nat.le_of_ble_eq_true rfl) rfl rfl rfl (fun v σ2 q => ?_)
      obtain ⟨rfl, e9⟩ := q
      rw [e9, X_in_N hm (by omega)]
      clear e9
      refine tn_if_eq (t := 26) (by omega) d_X_canBeAskedFor_8 (by decide) (fun c_8 => ?_) (fun c_8 => ?_)
      · exact absurd c_8 (by decide)
      · refine tt_iload_n d_X_canBeAskedFor_11 rfl ?_
        refine tt_iconst (v := nI 1) d_X_canBeAskedFor_12 (by decide) ?_
        refine tt_ic_lt (t := 26) d_X_canBeAskedFor_13 (by decide) (fun c_13 => ?_) (fun c_13 => ?_)
        · refine tt_iconst (v := nI 0) d_X_canBeAskedFor_26 (by decide) ?_
          refine tt_zret rfl rfl d_X_canBeAskedFor_27 ?_
          exact ⟨rfl, rfl⟩
        · refine tt_iload_n d_X_canBeAskedFor_16 rfl ?_
          refine tt_bipush (v := nI 20) d_X_canBeAskedFor_17 (by decide) ?_
          refine tt_ic_gt (t := 26) d_X_canBeAskedFor_19 (by decide) (fun c_19 => ?_) (fun c_19 => ?_)
          · refine tt_iconst (v := nI 0) d_X_canBeAskedFor_26 (by decide) ?_
            refine tt_zret rfl rfl d_X_canBeAskedFor_27 ?_
            exact ⟨rfl, rfl⟩
          · exact (rg_f (a := 1) (b := 20) (by decide) (by decide) hb c_13 (Int32.not_lt.mp c_19)).elim
  · have e : afI w f n = nI 0 := by unfold afI; rw [hq]
    rw [e]
    refine tt_aload_n d_X_canBeAskedFor_0 rfl ?_
    refine tt_getR d_X_canBeAskedFor_1 rfl rfl (by decide) rfl rfl ?_
    refine tt_iload_n d_X_canBeAskedFor_4 rfl ?_
    refine tt_callV (x_Lake_has (d := d) h.r h.cl ho.1.1.2.1 ho.1.1.2.2.2.1 ho.cp) cw_Lake_has rfl rfl (by decide) rfl (by omega) d_X_canBeAskedFor_5 rfl rfl (Nat.le_of_ble_eq_true rfl) (Nat.le_of_ble_eq_true rfl) rfl rfl rfl (fun v σ2 q => ?_)
    obtain ⟨rfl, e9⟩ := q
    rw [e9, X_in_none hb]
    clear e9
    refine tn_if_eq (t := 26) (by omega) d_X_canBeAskedFor_8 (by decide) (fun c_8 => ?_) (fun c_8 => ?_)
    · refine tt_iconst (v := nI 0) d_X_canBeAskedFor_26 (by decide) ?_
      refine tt_zret rfl rfl d_X_canBeAskedFor_27 ?_
      exact ⟨rfl, rfl⟩
    · exact absurd rfl c_8

set_option maxHeartbeats 4000000 in
theorem x_few_l {l : xLa} {d : Nat} {σ : xs} {w : wv} {f cc n room : Nat} {x : Int32} {σ0 : xs} (hf : f < eR (wE w) * eC (wE w)) (hc : cc ≤ 9) (hn : n ≤ 20) (hr : room < 2 ^ 30) (ho : okQ w) : ∀ (m : Nat) (size i : Nat) (z : Option Int32) (τ : xs), (9 - size) * 1000 + (abW w + 1 - i) = m → size ≤ room → size ≤ pcN (abW w) → i ≤ abW w + 1 → XQ w σ τ → Tn σ0 τ → nbJ (arB w f cc n) (abW w) size i → T l M_X_fewestBy (d + 35) 107 [some (.ref 0), some (.int (nI f)), some (.int (nI cc)), some (.int (nI n)), some (.int (nI room)), some (.int x), some (.int (nI (abW w))), some (.int (nI size)), some (.int (nI i)), z.map Value.int] [] τ (fun r υ => r = some (.int (gI (rmN (arB w f cc n) (abW w) room))) ∧ XQ w σ υ ∧ Tn σ0 υ) := by
  have hb0 := ho.fb
  have hb8 := ho.n8
  intro m
  induction m using Nat.strongRecOn with
  | ind m ih =>
    intro size i z τ hm hs1 hs2 hi h ht hN
    have hab : abW w < 256 := ab_lt ho (Nat.le_refl _)
    have hpp := pcN_le (abW w)
    refine tt_iload d_X_fewestBy_107 rfl ?_
    refine tt_iload d_X_fewestBy_109 rfl ?_
    refine tn_ic_gt (t := 168) (by omega) (by omega) d_X_fewestBy_111 (by decide) (fun c_111 => ?_) (fun c_111 => ?_)
    · refine tt_iinc (lv2 := [_, _, _, _, _, _, _, _, _, _]) d_X_fewestBy_168 rfl (nI_inc _ 1) (by decide) rfl ?_
      refine tt_goto (t := 87) d_X_fewestBy_171 (by decide) ?_
      refine tt_iload d_X_fewestBy_87 rfl ?_
      refine tt_iload d_X_fewestBy_89 rfl ?_
      refine tn_ic_gt (t := 174) (by omega) (by omega) d_X_fewestBy_91 (by decide) (fun c_91 => ?_) (fun c_91 => ?_)
      · rw [nb_e (nb_n hN (by omega)) (Or.inl c_91)]
        refine tt_iconst (v := (-1)) d_X_fewestBy_174 (by decide) ?_
        refine tt_iret rfl d_X_fewestBy_175 ?_
        exact ⟨rfl, h, ht⟩
      · refine tt_iload d_X_fewestBy_94 rfl ?_
        refine tt_iload d_X_fewestBy_96 rfl ?_
        refine tt_callS (x_bitN (d := d) hab) cw_Integer_bitCount rfl (by omega) d_X_fewestBy_98 rfl rfl (Nat.le_of_ble_eq_true rfl) (Nat.le_of_ble_eq_true rfl) rfl rfl rfl (fun v σ2 q => ?_)
        obtain ⟨rfl, e9⟩ := q
        rw [e9]
        clear e9
        refine tn_ic_gt (t := 174) (by omega) (by omega) d_X_fewestBy_101 (by decide) (fun c_101 => ?_) (fun c_101 => ?_)
        · rw [nb_e (room := room) (nb_n hN (by omega)) (Or.inr c_101)]
          refine tt_iconst (v := (-1)) d_X_fewestBy_174 (by decide) ?_
          refine tt_iret rfl d_X_fewestBy_175 ?_
          exact ⟨rfl, h, ht⟩
        · refine tt_iconst (v := nI 0) d_X_fewestBy_104 (by decide) ?_
          refine tt_istore (lv2 := [_, _, _, _, _, _, _, _, _, _]) d_X_fewestBy_105 (by decide) rfl ?_
          exact ih ((9 - (size + 1)) * 1000 + (abW w + 1 - 0)) (by omega) (size + 1) 0 z _ rfl (by omega) (by omega) (by omega) h ht (nb_n hN (by omega))
    · have hdl : dfN i (abW w) < 2 ^ 30 := dfN_lt (by omega)
      have hpi := pcN_le i
      refine tt_iload d_X_fewestBy_114 rfl ?_
      refine tt_iload d_X_fewestBy_116 rfl ?_
      refine tt_iconst (v := (-1)) d_X_fewestBy_118 (by decide) ?_
      refine tt_ixor d_X_fewestBy_119 ?_
      refine tt_iand d_X_fewestBy_120 ?_
      refine tt_top (an_N _ _) ?_
      refine tn_if_ne (t := 138) (by omega) d_X_fewestBy_121 (by decide) (fun c_121 => ?_) (fun c_121 => ?_)
      · refine tt_iconst (v := nI 0) d_X_fewestBy_138 (by decide) ?_
        refine tt_istore (lv2 := [_, _, _, _, _, _, _, _, _, _]) d_X_fewestBy_139 (by decide) rfl ?_
        refine tt_iload d_X_fewestBy_141 rfl ?_
        refine tn_if_eq (t := 162) (by omega) d_X_fewestBy_143 (by decide) (fun c_143 => ?_) (fun c_143 => ?_)
        · refine tt_iinc (lv2 := [_, _, _, _, _, _, _, _, _, _]) d_X_fewestBy_162 rfl (nI_inc _ 1) (by decide) rfl ?_
          refine tt_goto (t := 107) d_X_fewestBy_165 (by decide) ?_
          exact ih ((9 - size) * 1000 + (abW w + 1 - (i + 1))) (by omega) size (i + 1) (some _) _ rfl hs1 hs2 (by omega) h ht (nb_s hN (fun z => c_121 z.1.1))
        · omega
      · refine tt_iload d_X_fewestBy_124 rfl ?_
        refine tt_callS (x_bitN (d := d) (by omega)) cw_Integer_bitCount rfl (by omega) d_X_fewestBy_126 rfl rfl (Nat.le_of_ble_eq_true rfl) (Nat.le_of_ble_eq_true rfl) rfl rfl rfl (fun v σ2 q => ?_)
        obtain ⟨rfl, e9⟩ := q
        rw [e9]
        clear e9
        refine tt_iload d_X_fewestBy_129 rfl ?_
        refine tn_ic_ne (t := 138) (by omega) (by omega) d_X_fewestBy_131 (by decide) (fun c_131 => ?_) (fun c_131 => ?_)
        · refine tt_iconst (v := nI 0) d_X_fewestBy_138 (by decide) ?_
          refine tt_istore (lv2 := [_, _, _, _, _, _, _, _, _, _]) d_X_fewestBy_139 (by decide) rfl ?_
          refine tt_iload d_X_fewestBy_141 rfl ?_
          refine tn_if_eq (t := 162) (by omega) d_X_fewestBy_143 (by decide) (fun c_143 => ?_) (fun c_143 => ?_)
          · refine tt_iinc (lv2 := [_, _, _, _, _, _, _, _, _, _]) d_X_fewestBy_162 rfl (nI_inc _ 1) (by decide) rfl ?_
            refine tt_goto (t := 107) d_X_fewestBy_165 (by decide) ?_
            exact ih ((9 - size) * 1000 + (abW w + 1 - (i + 1))) (by omega) size (i + 1) (some _) _ rfl hs1 hs2 (by omega) h ht (nb_s hN (fun z => c_131 z.1.2))
          · omega
        · refine tt_iconst (v := nI 1) d_X_fewestBy_134 (by decide) ?_
          refine tt_goto (t := 139) d_X_fewestBy_135 (by decide) ?_
          refine tt_istore (lv2 := [_, _, _, _, _, _, _, _, _, _]) d_X_fewestBy_139 (by decide) rfl ?_
          refine tt_iload d_X_fewestBy_141 rfl ?_
          refine tn_if_eq (t := 162) (by omega) d_X_fewestBy_143 (by decide) (fun c_143 => ?_) (fun c_143 => ?_)
          · omega
          · refine tt_aload_n d_X_fewestBy_146 rfl ?_
            refine tt_iload d_X_fewestBy_147 rfl ?_
            refine tt_iload_n d_X_fewestBy_149 rfl ?_
            refine tt_iload_n d_X_fewestBy_150 rfl ?_
            refine tt_iload_n d_X_fewestBy_151 rfl ?_
            refine tt_callV (xq_arr (d := d) h (by omega) hf hc (by omega) ho) cw_X_arrivesBy rfl rfl (by decide) rfl (by omega) d_X_fewestBy_152 rfl rfl (Nat.le_of_ble_eq_true rfl) (Nat.le_of_ble_eq_true rfl) rfl rfl rfl (fun v σ2 q => ?_)
            obtain ⟨rfl, h, hu, hA⟩ := q
            replace ht := ht.tr hu
            clear hA hu
            have ha := arI_c (e := wE w) (u := prm (wV w) i f cc (eN (wE w))) (f := f) (n := n) (by omega)
            refine tt_iconst (v := (-1)) d_X_fewestBy_155 (by decide) ?_
            refine tt_ic_eq (t := 162) d_X_fewestBy_156 (by decide) (fun c_156 => ?_) (fun c_156 => ?_)
            · refine tt_iinc (lv2 := [_, _, _, _, _, _, _, _, _, _]) d_X_fewestBy_162 rfl (nI_inc _ 1) (by decide) rfl ?_
              refine tt_goto (t := 107) d_X_fewestBy_165 (by decide) ?_
              exact ih ((9 - size) * 1000 + (abW w + 1 - (i + 1))) (by omega) size (i + 1) (some _) _ rfl hs1 hs2 (by omega) h ht (nb_s hN (fun z => arB_t.mp z.2 (ha.1.mp c_156)))
            · refine tt_iload d_X_fewestBy_159 rfl ?_
              refine tt_iret rfl d_X_fewestBy_161 ?_
              rw [nb_y (room := room) hN c_121 c_131 (arB_t.mpr (fun q => c_156 (ha.1.mpr q))) hs1]
              exact ⟨rfl, h, ht⟩

set_option maxHeartbeats 4000000 in
theorem x_few_a {l : xLa} {d : Nat} {σ : xs} {w : wv} {f cc n room : Nat} {x : Int32} {σ0 : xs} (hf : f < eR (wE w) * eC (wE w)) (hc : cc ≤ 9) (hn : n ≤ 20) (hr : room < 2 ^ 30) (ho : okQ w) : ∀ (m : Nat) (i b : Nat) (τ : xs), eN (wE w) - i = m → i ≤ eN (wE w) → b = abN (wE w) (wV w) i → XQ w σ τ → Tn σ0 τ → T l M_X_fewestBy (d + 35) 44 [some (.ref 0), some (.int (nI f)), some (.int (nI cc)), some (.int (nI n)), some (.int (nI room)), some (.int x), some (.int (nI b)), some (.int (nI i)), none, none] [] τ (fun r υ => r = some (.int (gI (rmN (arB w f cc n) (abW w) room))) ∧ XQ w σ υ ∧ Tn σ0 υ) := by
  have hb0 := ho.fb
  have hb8 := ho.n8
  intro m
  induction m using Nat.strongRecOn with
  | ind m ih =>
    intro i b τ hm hi hb h ht
    have hbl := ab_lt ho hi
    rw [← hb] at hbl
    have hcl := cb_le (wE w) (wV w) i
    refine tt_iload d_X_fewestBy_44 rfl ?_
    refine tt_aload_n d_X_fewestBy_46 rfl ?_
    refine tt_getR d_X_fewestBy_47 rfl rfl (by decide) rfl rfl ?_
    refine tn_get d_X_fewestBy_50 rfl rfl (by decide) rfl h.n ?_
    refine tn_ic_ge (t := 84) (by omega) (by omega) d_X_fewestBy_53 (by decide) (fun c_53 => ?_) (fun c_53 => ?_)
    · obtain rfl : i = eN (wE w) := by omega
      replace hb : b = abW w := hb
      subst hb
      have hpp := pcN_le (abW w)
      refine tt_iconst (v := nI 0) d_X_fewestBy_84 (by decide) ?_
      refine tt_istore (lv2 := [_, _, _, _, _, _, _, _, _, _]) d_X_fewestBy_85 (by decide) rfl ?_
      refine tt_iload d_X_fewestBy_87 rfl ?_
      refine tt_iload d_X_fewestBy_89 rfl ?_
      refine tn_ic_gt (t := 174) (by omega) (by omega) d_X_fewestBy_91 (by decide) (fun c_91 => ?_) (fun c_91 => ?_)
      · omega
      · refine tt_iload d_X_fewestBy_94 rfl ?_
        refine tt_iload d_X_fewestBy_96 rfl ?_
        refine tt_callS (x_bitN (d := d) hbl) cw_Integer_bitCount rfl (by omega) d_X_fewestBy_98 rfl rfl (Nat.le_of_ble_eq_true rfl) (Nat.le_of_ble_eq_true rfl) rfl rfl rfl (fun v σ2 q => ?_)
        obtain ⟨rfl, e9⟩ := q
        rw [e9]
        clear e9
        refine tn_ic_gt (t := 174) (by omega) (by omega) d_X_fewestBy_101 (by decide) (fun c_101 => ?_) (fun c_101 => ?_)
        · omega
        · refine tt_iconst (v := nI 0) d_X_fewestBy_104 (by decide) ?_
          refine tt_istore (lv2 := [_, _, _, _, _, _, _, _, _, _]) d_X_fewestBy_105 (by decide) rfl ?_
          exact x_few_l hf hc hn hr ho _ 0 0 none _ rfl (by omega) (by omega) (by omega) h ht nb_0
    · refine tt_iload d_X_fewestBy_56 rfl ?_
      refine tt_aload_n d_X_fewestBy_58 rfl ?_
      refine tt_iload d_X_fewestBy_59 rfl ?_
      refine tt_callV (x_canBe (d := d) h ho) cw_X_canBePromised rfl rfl (by decide) rfl (by omega) d_X_fewestBy_61 rfl rfl (Nat.le_of_ble_eq_true rfl) (Nat.le_of_ble_eq_true rfl) rfl rfl rfl (fun v σ2 q => ?_)
      obtain ⟨rfl, e9⟩ := q
      rw [e9, cbI_N (by omega) hb8]
      clear e9
      refine tn_if_eq (t := 74) (by omega) d_X_fewestBy_64 (by decide) (fun c_64 => ?_) (fun c_64 => ?_)
      · refine tt_iconst (v := nI 0) d_X_fewestBy_74 (by decide) ?_
        refine tt_ior d_X_fewestBy_75 ?_
        refine tt_top (or_N _ _) ?_
        refine tt_istore (lv2 := [_, _, _, _, _, _, _, _, _, _]) d_X_fewestBy_76 (by decide) rfl ?_
        refine tt_iinc (lv2 := [_, _, _, _, _, _, _, _, _, _]) d_X_fewestBy_78 rfl (nI_inc _ 1) (by decide) rfl ?_
        refine tt_goto (t := 44) d_X_fewestBy_81 (by decide) ?_
        exact ih (eN (wE w) - (i + 1)) (by omega) (i + 1) _ _ rfl (by omega) (ab_n hb c_64) h ht
      · refine tt_iconst (v := nI 1) d_X_fewestBy_67 (by decide) ?_
        refine tt_iload d_X_fewestBy_68 rfl ?_
        refine tt_ishl d_X_fewestBy_70 ?_
        refine tt_top (shl_9 _ (by omega)) ?_
        refine tt_goto (t := 75) d_X_fewestBy_71 (by decide) ?_
        refine tt_ior d_X_fewestBy_75 ?_
        refine tt_top (or_N _ _) ?_
        refine tt_istore (lv2 := [_, _, _, _, _, _, _, _, _, _]) d_X_fewestBy_76 (by decide) rfl ?_
        refine tt_iinc (lv2 := [_, _, _, _, _, _, _, _, _, _]) d_X_fewestBy_78 rfl (nI_inc _ 1) (by decide) rfl ?_
        refine tt_goto (t := 44) d_X_fewestBy_81 (by decide) ?_
        exact ih (eN (wE w) - (i + 1)) (by omega) (i + 1) _ _ rfl (by omega) (ab_y hb c_64) h ht

theorem xq_few {l : xLa} {d : Nat} {σ τ : xs} {w : wv} {f cc n room : Nat} (h : XQ w σ τ) (hf : f < eR (wE w) * eC (wE w)) (hc : cc ≤ 9) (hn : n ≤ 20) (hr : room < 2 ^ 30) (ho : okQ w) : TC l M_X_fewestBy (d + 35) [.ref 0, .int (nI f), .int (nI cc), .int (nI n), .int (nI room)] τ (fun r υ => r = some (.int (gI (rmN (arB w f cc n) (abW w) room))) ∧ XQ w σ υ ∧ Tn τ υ) := by
  show T l M_X_fewestBy (d + 35) 0 _ [] τ _
  refine T_lv (lv2 := [_, _, _, _, _, _, _, _, _, _]) rfl ?_
  have hb0 := ho.fb
  have hb8 := ho.n8
  have hi0 := ho.2.1.1
  refine tt_aload_n d_X_fewestBy_0 rfl ?_
  refine tt_getR d_X_fewestBy_1 rfl rfl (by decide) rfl rfl ?_
  refine tt_aload_n d_X_fewestBy_4 rfl ?_
  refine tt_getR d_X_fewestBy_5 rfl rfl (by decide) rfl rfl ?_
  refine tn_get d_X_fewestBy_8 rfl rfl (by decide) rfl (h.v 0 (by decide)) ?_
  refine tt_callV (xq_mf (d := d) h ho hi0) cw_Lake_measureFrom rfl rfl (by decide) rfl (by omega) d_X_fewestBy_11 rfl rfl (Nat.le_of_ble_eq_true rfl) (Nat.le_of_ble_eq_true rfl) rfl rfl rfl (fun v σ2 q => ?_)
  obtain ⟨rfl, h, hu, hS⟩ := q
  have h37 := (hS f hf).2
  replace hu : Tn τ _ := hu
  refine tt_aload_n d_X_fewestBy_14 rfl ?_
  refine tt_getR d_X_fewestBy_15 rfl rfl (by decide) rfl rfl ?_
  refine tt_iload_n d_X_fewestBy_18 rfl ?_
  refine tt_callV (x_Lake_stepsTo (d := d) h.r h.cl ho.1.1.2.1 ho.1.1.2.2.2.1 ho.cp) cw_Lake_stepsTo rfl rfl (by decide) rfl (by omega) d_X_fewestBy_19 rfl rfl (Nat.le_of_ble_eq_true rfl) (Nat.le_of_ble_eq_true rfl) rfl rfl rfl (fun v σ2 q => ?_)
  obtain ⟨rfl, e9⟩ := q
  rw [e9, X_stp_N hf hb0, (hS f hf).1]
  clear e9
  refine tt_istore (lv2 := [_, _, _, _, _, _, _, _, _, _]) d_X_fewestBy_22 (by decide) rfl ?_
  refine tt_iload d_X_fewestBy_24 rfl ?_
  refine tt_iconst (v := (-1)) d_X_fewestBy_26 (by decide) ?_
  refine tt_ic_eq (t := 36) d_X_fewestBy_27 (by decide) (fun c_27 => ?_) (fun c_27 => ?_)
  · have hz := (gI_1 (show dW w (wV w 0 0) f < 2 ^ 30 by omega)).mp c_27
    refine tt_iconst (v := (-1)) d_X_fewestBy_36 (by decide) ?_
    refine tt_iret rfl d_X_fewestBy_37 ?_
    rw [rm_no (fun t _ => arB_no ho hf hc (by omega) (by omega))]
    exact ⟨rfl, h, hu⟩
  · refine tt_iload d_X_fewestBy_30 rfl ?_
    refine tt_iload_n d_X_fewestBy_32 rfl ?_
    refine tt_ic_le (t := 38) d_X_fewestBy_33 (by decide) (fun c_33 => ?_) (fun c_33 => ?_)
    · refine tt_iconst (v := nI 0) d_X_fewestBy_38 (by decide) ?_
      refine tt_istore (lv2 := [_, _, _, _, _, _, _, _, _, _]) d_X_fewestBy_39 (by decide) rfl ?_
      refine tt_iconst (v := nI 0) d_X_fewestBy_41 (by decide) ?_
      refine tt_istore (lv2 := [_, _, _, _, _, _, _, _, _, _]) d_X_fewestBy_42 (by decide) rfl ?_
      exact x_few_a hf hc hn hr ho (eN (wE w)) 0 0 _ rfl (by omega) rfl h hu
    · have hz : n + 1 < dW w (wV w 0 0) f := by have := mt (gI_leN (a := dW w (wV w 0 0) f) (b := n + 1) (by omega) (by omega)).mpr c_33; omega
      refine tt_iconst (v := (-1)) d_X_fewestBy_36 (by decide) ?_
      refine tt_iret rfl d_X_fewestBy_37 ?_
      rw [rm_no (fun t _ => arB_no ho hf hc (by omega) (by omega))]
      exact ⟨rfl, h, hu⟩

set_option maxHeartbeats 4000000 in
theorem xc_sends {l : xLa} {d : Nat} {σ : xs} {w : wv} (ho : okQ w) (hw : XW σ w) {f cc n : Int32} : TC l M_X_sends (d + 40) [.ref 0, .int f, .int cc, .int n] σ (fun r τ => r = some (.int ((q_sends w f cc n).1)) ∧ XW τ (stD w ((q_sends w f cc n).2)) ∧ XF σ τ) := by
  show T l M_X_sends (d + 40) 0 _ [] σ _
  refine T_lv (lv2 := [_, _, _, _, _]) rfl ?_
  have h := XQ.rf hw.v
  have hd0 := hw.2.2.2.1
  have hb0 := ho.fb
  have hb8 := ho.n8
  rcases inN_c f (eR (wE w) * eC (wE w)) with ⟨g, hg, rfl, hq⟩ | ⟨hq, hb⟩
  · rcases rgN_c n 1 20 with ⟨k, k1, k2, k3, rfl, hq2⟩ | ⟨hq2, hb⟩
    · rcases rgN_c cc 0 9 with ⟨z, z1, z2, z3, rfl, hq3⟩ | ⟨hq3, hb⟩
      · have hqv : q_sends w (nI g) (nI z) (nI k) = sdA w g z k (feN (arB w g z k) (abW w)) := by unfold q_sends; rw [hq, hq2, hq3]
        rw [hqv]
        clear hqv
        have hab : abW w < 256 := ab_lt ho (Nat.le_refl _)
        cases hF : feN (arB w g z k) (abW w) with
        | zero =>
          unfold sdA
          refine tt_aload_n d_X_sends_0 rfl ?_
          refine tt_iload_n d_X_sends_1 rfl ?_
          refine tt_iload_n d_X_sends_2 rfl ?_
          refine tt_callV (x_asked (d := d) h ho) cw_X_canBeAskedFor rfl rfl (by decide) rfl (by omega) d_X_sends_3 rfl rfl (Nat.le_of_ble_eq_true rfl) (Nat.le_of_ble_eq_true rfl) rfl rfl rfl (fun v σ2 q => ?_)
          obtain ⟨rfl, e9⟩ := q
          rw [e9, show afI w _ _ = nI 1 by unfold afI; rw [hq, hq2]]
          clear e9
          refine tn_if_eq (t := 19) (by omega) d_X_sends_6 (by decide) (fun c_6 => ?_) (fun c_6 => ?_)
          · exact absurd c_6 (by decide)
          · refine tt_iload_n d_X_sends_9 rfl ?_
            refine tn_if_lt (t := 19) (by omega) d_X_sends_10 (by decide) ?_
            refine tt_iload_n d_X_sends_13 rfl ?_
            refine tt_bipush (v := nI 9) d_X_sends_14 (by decide) ?_
            refine tn_ic_le (t := 21) (by omega) (by omega) d_X_sends_16 (by decide) (fun c_16 => ?_) (fun c_16 => ?_)
            · refine tt_aload_n d_X_sends_21 rfl ?_
              refine tt_iload_n d_X_sends_22 rfl ?_
              refine tt_iload_n d_X_sends_23 rfl ?_
              refine tt_iload_n d_X_sends_24 rfl ?_
              refine tt_bipush (v := nI 8) d_X_sends_25 (by decide) ?_
              refine tt_callV (xq_few (d := d) h hg (by omega) (by omega) (by decide) ho) cw_X_fewestBy rfl rfl (by decide) rfl (by omega) d_X_sends_27 rfl rfl (Nat.le_of_ble_eq_true rfl) (Nat.le_of_ble_eq_true rfl) rfl rfl rfl (fun v σ2 q => ?_)
              obtain ⟨rfl, h, hu⟩ := q
              replace hd0 := hd0.tn hu
              rw [rm_8, hF]
              refine tt_istore (lv2 := [_, _, _, _, _]) d_X_sends_30 (by decide) rfl ?_
              refine tt_iload d_X_sends_32 rfl ?_
              refine tt_iconst (v := (-1)) d_X_sends_34 (by decide) ?_
              refine tt_ic_ne (t := 41) d_X_sends_35 (by decide) (fun c_35 => ?_) (fun c_35 => ?_)
              · exact absurd rfl c_35
              · refine tt_bipush (v := (-2)) d_X_sends_38 (by decide) ?_
                refine tt_iret rfl d_X_sends_40 ?_
                exact ⟨rfl, h.none hd0, h.2.1⟩
            · omega
        | succ s =>
          obtain ⟨s1, s2, s3, s4⟩ := fe_s hF
          unfold sdA
          refine tt_aload_n d_X_sends_0 rfl ?_
          refine tt_iload_n d_X_sends_1 rfl ?_
          refine tt_iload_n d_X_sends_2 rfl ?_
          refine tt_callV (x_asked (d := d) h ho) cw_X_canBeAskedFor rfl rfl (by decide) rfl (by omega) d_X_sends_3 rfl rfl (Nat.le_of_ble_eq_true rfl) (Nat.le_of_ble_eq_true rfl) rfl rfl rfl (fun v σ2 q => ?_)
          obtain ⟨rfl, e9⟩ := q
          rw [e9, show afI w _ _ = nI 1 by unfold afI; rw [hq, hq2]]
          clear e9
          refine tn_if_eq (t := 19) (by omega) d_X_sends_6 (by decide) (fun c_6 => ?_) (fun c_6 => ?_)
          · exact absurd c_6 (by decide)
          · refine tt_iload_n d_X_sends_9 rfl ?_
            refine tn_if_lt (t := 19) (by omega) d_X_sends_10 (by decide) ?_
            refine tt_iload_n d_X_sends_13 rfl ?_
            refine tt_bipush (v := nI 9) d_X_sends_14 (by decide) ?_
            refine tn_ic_le (t := 21) (by omega) (by omega) d_X_sends_16 (by decide) (fun c_16 => ?_) (fun c_16 => ?_)
            · refine tt_aload_n d_X_sends_21 rfl ?_
              refine tt_iload_n d_X_sends_22 rfl ?_
              refine tt_iload_n d_X_sends_23 rfl ?_
              refine tt_iload_n d_X_sends_24 rfl ?_
              refine tt_bipush (v := nI 8) d_X_sends_25 (by decide) ?_
              refine tt_callV (xq_few (d := d) h hg (by omega) (by omega) (by decide) ho) cw_X_fewestBy rfl rfl (by decide) rfl (by omega) d_X_sends_27 rfl rfl (Nat.le_of_ble_eq_true rfl) (Nat.le_of_ble_eq_true rfl) rfl rfl rfl (fun v σ2 q => ?_)
              obtain ⟨rfl, h, hu⟩ := q
              replace hd0 := hd0.tn hu
              rw [rm_8, hF]
              show T _ _ _ _ _ (.int (nI s) :: _) _ _
              refine tt_istore (lv2 := [_, _, _, _, _]) d_X_sends_30 (by decide) rfl ?_
              refine tt_iload d_X_sends_32 rfl ?_
              refine tt_iconst (v := (-1)) d_X_sends_34 (by decide) ?_
              refine tt_ic_ne (t := 41) d_X_sends_35 (by decide) (fun c_35 => ?_) (fun c_35 => ?_)
              · refine tt_aload_n d_X_sends_41 rfl ?_
                refine tt_getR d_X_sends_42 rfl rfl (by decide) rfl rfl ?_
                refine tt_callV (xq_start (d := d) h) cw_Told_start rfl rfl (by decide) rfl (by omega) d_X_sends_45 rfl rfl (Nat.le_of_ble_eq_true rfl) (Nat.le_of_ble_eq_true rfl) rfl rfl rfl (fun v σ2 q => ?_)
                obtain ⟨rfl, h, hd, hf⟩ := q
                refine tt_aload_n d_X_sends_48 rfl ?_
                refine tt_getR d_X_sends_49 rfl rfl (by decide) rfl rfl ?_
                refine tt_iload d_X_sends_52 rfl ?_
                refine tt_i2l d_X_sends_54 ?_
                refine tt_callV (xq_add (d := d) h hd (Nat.le_of_ble_eq_true rfl)) cw_Told_add rfl rfl (by decide) rfl (by omega) d_X_sends_55 rfl rfl (Nat.le_of_ble_eq_true rfl) (Nat.le_of_ble_eq_true rfl) rfl rfl rfl (fun v σ2 q => ?_)
                obtain ⟨rfl, h, hd, hf⟩ := q
                refine tt_aload_n d_X_sends_58 rfl ?_
                refine tt_getR d_X_sends_59 rfl rfl (by decide) rfl rfl ?_
                refine tt_aload_n d_X_sends_62 rfl ?_
                refine tt_iload d_X_sends_63 rfl ?_
                refine tt_iload_n d_X_sends_65 rfl ?_
                refine tt_iload_n d_X_sends_66 rfl ?_
                refine tt_iload_n d_X_sends_67 rfl ?_
                refine tt_callV (xq_arr (d := d) h (by omega) hg (by omega) (by omega) ho) cw_X_arrivesBy rfl rfl (by decide) rfl (by omega) d_X_sends_68 rfl rfl (Nat.le_of_ble_eq_true rfl) (Nat.le_of_ble_eq_true rfl) rfl rfl rfl (fun v σ2 q => ?_)
                obtain ⟨rfl, h, hu, hA⟩ := q
                replace hd := hd.tn hu
                refine tt_i2l d_X_sends_71 ?_
                refine tt_callV (xq_add (d := d) h hd (Nat.le_of_ble_eq_true rfl)) cw_Told_add rfl rfl (by decide) rfl (by omega) d_X_sends_72 rfl rfl (Nat.le_of_ble_eq_true rfl) (Nat.le_of_ble_eq_true rfl) rfl rfl rfl (fun v σ2 q => ?_)
                obtain ⟨rfl, h, hd, hf⟩ := q
                refine tt_iload d_X_sends_75 rfl ?_
                refine tt_callS (x_bitN (d := d) (by omega)) cw_Integer_bitCount rfl (by omega) d_X_sends_77 rfl rfl (Nat.le_of_ble_eq_true rfl) (Nat.le_of_ble_eq_true rfl) rfl rfl rfl (fun v σ2 q => ?_)
                obtain ⟨rfl, e9⟩ := q
                rw [e9]
                clear e9
                refine tt_iret rfl d_X_sends_80 ?_
                exact ⟨rfl, h.done hd, h.2.1⟩
              · exact absurd (Decidable.not_not.mp c_35) (nI_n1 (by omega))
            · omega
      · have hqv : q_sends w (nI g) cc (nI k) = (-1, none) := by unfold q_sends; rw [hq, hq2, hq3]
        rw [hqv]
        refine tt_aload_n d_X_sends_0 rfl ?_
        refine tt_iload_n d_X_sends_1 rfl ?_
        refine tt_iload_n d_X_sends_2 rfl ?_
        refine tt_callV (x_asked (d := d) h ho) cw_X_canBeAskedFor rfl rfl (by decide) rfl (by omega) d_X_sends_3 rfl rfl (Nat.le_of_ble_eq_true rfl) (Nat.le_of_ble_eq_true rfl) rfl rfl rfl (fun v σ2 q => ?_)
        obtain ⟨rfl, e9⟩ := q
        rw [e9, show afI w _ _ = nI 1 by unfold afI; rw [hq, hq2]]
        clear e9
        refine tn_if_eq (t := 19) (by omega) d_X_sends_6 (by decide) (fun c_6 => ?_) (fun c_6 => ?_)
        · exact absurd c_6 (by decide)
        · refine tt_iload_n d_X_sends_9 rfl ?_
          refine tt_if_lt (t := 19) d_X_sends_10 (by decide) (fun c_10 => ?_) (fun c_10 => ?_)
          · refine tt_iconst (v := (-1)) d_X_sends_19 (by decide) ?_
            refine tt_iret rfl d_X_sends_20 ?_
            exact ⟨rfl, h.none hd0, h.2.1⟩
          · refine tt_iload_n d_X_sends_13 rfl ?_
            refine tt_bipush (v := nI 9) d_X_sends_14 (by decide) ?_
            refine tt_ic_le (t := 21) d_X_sends_16 (by decide) (fun c_16 => ?_) (fun c_16 => ?_)
            · exact (rg_f (a := 0) (b := 9) (by decide) (by decide) hb (by rw [nI_0]; exact c_10) c_16).elim
            · refine tt_iconst (v := (-1)) d_X_sends_19 (by decide) ?_
              refine tt_iret rfl d_X_sends_20 ?_
              exact ⟨rfl, h.none hd0, h.2.1⟩
    · have hqv : q_sends w (nI g) cc n = (-1, none) := by unfold q_sends; rw [hq, hq2]
      rw [hqv]
      refine tt_aload_n d_X_sends_0 rfl ?_
      refine tt_iload_n d_X_sends_1 rfl ?_
      refine tt_iload_n d_X_sends_2 rfl ?_
      refine tt_callV (x_asked (d := d) h ho) cw_X_canBeAskedFor rfl rfl (by decide) rfl (by omega) d_X_sends_3 rfl rfl (Nat.le_of_ble_eq_true rfl) (Nat.le_of_ble_eq_true rfl) rfl rfl rfl (fun v σ2 q => ?_)
      obtain ⟨rfl, e9⟩ := q
      rw [e9, show afI w _ _ = nI 0 by unfold afI; rw [hq, hq2]]
      clear e9
      refine tn_if_eq (t := 19) (by omega) d_X_sends_6 (by decide) (fun c_6 => ?_) (fun c_6 => ?_)
      · refine tt_iconst (v := (-1)) d_X_sends_19 (by decide) ?_
        refine tt_iret rfl d_X_sends_20 ?_
        exact ⟨rfl, h.none hd0, h.2.1⟩
      · exact absurd rfl c_6 
  · have hqv : q_sends w f cc n = (-1, none) := by unfold q_sends; rw [hq]
    rw [hqv]
    refine tt_aload_n d_X_sends_0 rfl ?_
    refine tt_iload_n d_X_sends_1 rfl ?_
    refine tt_iload_n d_X_sends_2 rfl ?_
    refine tt_callV (x_asked (d := d) h ho) cw_X_canBeAskedFor rfl rfl (by decide) rfl (by omega) d_X_sends_3 rfl rfl (Nat.le_of_ble_eq_true rfl) (Nat.le_of_ble_eq_true rfl) rfl rfl rfl (fun v σ2 q => ?_)
    obtain ⟨rfl, e9⟩ := q
    rw [e9, show afI w _ _ = nI 0 by unfold afI; rw [hq]]
    clear e9
    refine tn_if_eq (t := 19) (by omega) d_X_sends_6 (by decide) (fun c_6 => ?_) (fun c_6 => ?_)
    · refine tt_iconst (v := (-1)) d_X_sends_19 (by decide) ?_
      refine tt_iret rfl d_X_sends_20 ?_
      exact ⟨rfl, h.none hd0, h.2.1⟩
    · exact absurd rfl c_6 

