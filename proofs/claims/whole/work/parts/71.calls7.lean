/-! Questions: matters, fates. Printed by wip/whole. -/
theorem y_letsOne {l : xLa} {d : Nat} {σ : xs} {b k : Nat} {e : xe} {v : sv} (hb : isY b) (he : okE e) (hv : okV e v) (hE : sf σ 154 5 = nI (eN e)) (hS : SY σ b (eN e) v) (hk : k < eN e) : TE l M_Y_letsOne (d + 4) [.ref 154, .ref b, .int (nI k)] σ (some (.int (nI (pcN (v 0 5 ^^^ 2 ^ k))))) (wI σ b 33 (nI (v 0 5 ^^^ 2 ^ k))) := by
  have h8 := he.1.2.2.2.2.1
  have h5 : v 0 5 < 256 := hv.2.2.2.2.2.1
  have hx : v 0 5 ^^^ 2 ^ k < 256 := Nat.xor_lt_two_pow (n := 8) h5 (Nat.pow_lt_pow_right (by decide) (by omega))
  show T l M_Y_letsOne (d + 4) 0 _ [] σ _
  refine tt_aload_n d_Y_letsOne_0 rfl ?_
  refine tt_iload_n d_Y_letsOne_1 rfl ?_
  refine tt_callV (y_isFish (d := d) hE h8) cw_Y_isFish rfl rfl (by decide) rfl (by omega) d_Y_letsOne_2 rfl rfl (Nat.le_of_ble_eq_true rfl) (Nat.le_of_ble_eq_true rfl) rfl rfl rfl (fun v σ2 q => ?_)
  obtain ⟨rfl, e9⟩ := q
  rw [e9, X_in_N hk (by omega)]
  clear e9
  refine tn_if_ne (t := 10) (by omega) d_Y_letsOne_5 (by decide) (fun c_5 => ?_) (fun c_5 => ?_)
  · refine tt_aload_n d_Y_letsOne_10 rfl ?_
    refine tt_bipush (v := nI 33) d_Y_letsOne_11 (by decide) ?_
    refine tt_dup2 d_Y_letsOne_13 rfl rfl ?_
    refine tn_iald d_Y_letsOne_14 (xY_sh hb) (by decide) (by omega) hS.1.2.1 ?_
    refine tt_iconst (v := nI 1) d_Y_letsOne_15 (by decide) ?_
    refine tt_iload_n d_Y_letsOne_16 rfl ?_
    refine tt_ishl d_Y_letsOne_17 ?_
    refine tt_top (shl_9 _ (by omega)) ?_
    refine tt_ixor d_Y_letsOne_18 ?_
    refine tt_top (xor_N _ _) ?_
    refine tn_iast d_Y_letsOne_19 (xY_sh hb) (by decide) (by omega) ?_
    refine tt_aload_n d_Y_letsOne_20 rfl ?_
    refine tt_bipush (v := nI 33) d_Y_letsOne_21 (by decide) ?_
    refine tn_iald d_Y_letsOne_23 (xY_sh hb) (by decide) (by omega) (show si (wI σ b 33 (nI (v 0 5 ^^^ 2 ^ k))) b 33 = nI (v 0 5 ^^^ 2 ^ k) from if_pos ⟨rfl, rfl⟩) ?_
    refine tt_callS (x_bitN (d := d) hx) cw_Integer_bitCount rfl (by omega) d_Y_letsOne_24 rfl rfl (Nat.le_of_ble_eq_true rfl) (Nat.le_of_ble_eq_true rfl) rfl rfl rfl (fun v σ2 q => ?_)
    obtain ⟨rfl, e9⟩ := q
    rw [e9]
    clear e9
    refine tt_iret rfl d_Y_letsOne_27 ?_
    exact ⟨rfl, rfl⟩
  · exact absurd c_5 (by decide)

theorem yq_lets {l : xLa} {d c : Nat} {σ τ : xs} {w : wv} {k : Nat} {v : sv} (h : YQ c w σ τ) (ho : okQ w) (hv : okV (wE w) v) (hS : SY τ 161 (eN (wE w)) v) (hk : k < eN (wE w)) : TC l M_Y_letsOne (d + 4) [.ref 154, .ref 161, .int (nI k)] τ (fun r υ => r = some (.int (nI (pcN (v 0 5 ^^^ 2 ^ k)))) ∧ YQ c w σ υ ∧ SY υ 161 (eN (wE w)) (upv v 0 5 (v 0 5 ^^^ 2 ^ k)) ∧ Un τ υ) := by
  refine T.mono (y_letsOne (d := d) (σ := τ) isY_161 ho.1 hv h.e.1.2.2.1 hS hk) ?_
  rintro r υ ⟨rfl, rfl⟩
  exact ⟨rfl, h.fq (Fq.wI (by unfold YqA; omega)), SY_05 hS ho.n8, ⟨rfl, rfl⟩⟩
theorem ok_05 {e : xe} {v : sv} {x : Nat} (h : okV e v) (hx : x < 256) : okV e (upv v 0 5 x) := ⟨h.1, h.2.1, h.2.2.1, h.2.2.2.1, h.2.2.2.2.1, hx, h.2.2.2.2.2.2⟩
theorem xq_wh {σ τ : xs} {w : wv} {k : Nat} {x : Int32} (h : XQ w σ τ) : XQ w σ (wF τ 30 k x) := h.f0 (Fq.wF (by unfold sF; omega))
/-! matters -/
def mtB (w : wv) (n i : Nat) : Nat := (hrsV (wE w) (upv (wV w) 0 5 (dfN (wV w 0 5) (2 ^ i))) n) 0 0
def mtD (w : wv) (n i : Nat) : Int32 := nI (gpN (eC (wE w)) ((hrsV (wE w) (wV w) n) 0 0) (mtB w n i))
def mtF (w : wv) (n : Nat) : Nat → Int32 × Int32
  | 0 => (-2, -1)
  | i + 1 => if ((wV w 0 5).testBit i = true ∧ ¬ wV w 3 i = 0) ∧ (mtF w n i).2 < mtD w n i then (nI i, mtD w n i) else mtF w n i
def q_matters (w : wv) (n : Int32) : Int32 × Option (List Int64) := match rgN n 1 60 with
  | none => (-1, none)
  | some m => ((mtF w m (eN (wE w))).1, if (mtF w m (eN (wE w))).1 = -2 then none else some [(mtF w m (eN (wE w))).2.toInt64])
theorem mt_t {w : wv} {n i : Nat} {a b : Int32} (h : (a, b) = mtF w n i) (c : (wV w 0 5).testBit i = true ∧ ¬ wV w 3 i = 0) (c2 : b < mtD w n i) : (nI i, mtD w n i) = mtF w n (i + 1) := by
  show _ = if ((wV w 0 5).testBit i = true ∧ ¬ wV w 3 i = 0) ∧ (mtF w n i).2 < mtD w n i then (nI i, mtD w n i) else mtF w n i
  rw [← h, if_pos ⟨c, c2⟩]
theorem mt_f {w : wv} {n i : Nat} {a b : Int32} (h : (a, b) = mtF w n i) (c : ¬ (((wV w 0 5).testBit i = true ∧ ¬ wV w 3 i = 0) ∧ b < mtD w n i)) : (a, b) = mtF w n (i + 1) := by
  show _ = if ((wV w 0 5).testBit i = true ∧ ¬ wV w 3 i = 0) ∧ (mtF w n i).2 < mtD w n i then (nI i, mtD w n i) else mtF w n i
  rw [← h, if_neg c]
theorem mt_c (w : wv) (n : Nat) : ∀ i, i < 2 ^ 20 → ((mtF w n i).1 = -2 ∨ ∃ k, k < i ∧ (mtF w n i).1 = nI k)
  | 0, _ => Or.inl rfl
  | i + 1, hi => by
    have ih := mt_c w n i (by omega)
    show (if ((wV w 0 5).testBit i = true ∧ ¬ wV w 3 i = 0) ∧ (mtF w n i).2 < mtD w n i then (nI i, mtD w n i) else mtF w n i).1 = -2 ∨ ∃ k, k < i + 1 ∧ (if ((wV w 0 5).testBit i = true ∧ ¬ wV w 3 i = 0) ∧ (mtF w n i).2 < mtD w n i then (nI i, mtD w n i) else mtF w n i).1 = nI k
    split
    · exact Or.inr ⟨i, by omega, rfl⟩
    · rcases ih with q | ⟨k, h1, h2⟩
      · exact Or.inl q
      · exact Or.inr ⟨k, by omega, h2⟩
theorem mt_s {w : wv} {n i : Nat} (hi : i < 2 ^ 20) : (mtF w n i).1 = -2 ↔ (mtF w n i).1 < 0 := by
  rcases mt_c w n i hi with q | ⟨k, h1, h2⟩
  · rw [q]; exact ⟨fun _ => by decide, fun _ => rfl⟩
  · rw [h2]
    refine ⟨fun q => ?_, fun q => absurd q (nI_pos (by omega))⟩
    have := congrArg Int32.toInt q
    rw [nI_toInt (by omega)] at this
    have e : (-2 : Int32).toInt = -2 := rfl
    omega
theorem xor_df {m i : Nat} (h : m.testBit i = true) : m ^^^ 2 ^ i = dfN m (2 ^ i) := by
  apply Nat.eq_of_testBit_eq
  intro j
  rw [dfN_t, Nat.testBit_xor, tb_pow]
  by_cases c : i = j
  · subst c; rw [h]; simp
  · simp [c]
set_option maxHeartbeats 4000000 in
theorem x_matters_l {l : xLa} {d : Nat} {σ : xs} {w : wv} {n : Nat} (hn : 1 ≤ n ∧ n ≤ 60) (ho : okQ w) : ∀ (m : Nat) (i : Nat) (a b : Int32) (z6 : Option Int32) (τ : xs), eN (wE w) - i = m → i ≤ eN (wE w) → XQ w σ τ → XD τ (wD w) → (a, b) = mtF w n i → T l M_X_matters (d + 30) 57 [some (.ref 0), some (.int (nI n)), some (.int (nI ((hrsV (wE w) (wV w) n) 0 0))), some (.int a), some (.int b), some (.int (nI i)), z6.map Value.int] [] τ (fun r τ => r = some (.int (mtF w n (eN (wE w))).1) ∧ XW τ (stD w (if (mtF w n (eN (wE w))).1 = -2 then none else some [(mtF w n (eN (wE w))).2.toInt64])) ∧ XF σ τ) := by
  have hb0 := ho.fb
  have hb8 := ho.n8
  intro m
  induction m using Nat.strongRecOn with
  | ind m ih =>
    intro i a b z6 τ hm hi h hd0 hst
    have hok := ok_h ho (n := n) (by omega)
    have htb := tbN_c (wV w 0 5) i
    refine tt_iload d_X_matters_57 rfl ?_
    refine tt_aload_n d_X_matters_59 rfl ?_
    refine tt_getR d_X_matters_60 rfl rfl (by decide) rfl rfl ?_
    refine tn_get d_X_matters_63 rfl rfl (by decide) rfl h.n ?_
    refine tn_ic_ge (t := 177) (by omega) (by omega) d_X_matters_66 (by decide) (fun c_66 => ?_) (fun c_66 => ?_)
    · obtain rfl : i = eN (wE w) := by omega
      rw [← hst]
      dsimp only
      refine tt_iload_n d_X_matters_177 rfl ?_
      refine tt_bipush (v := (-2)) d_X_matters_178 (by decide) ?_
      refine tt_ic_eq (t := 200) d_X_matters_180 (by decide) (fun c_180 => ?_) (fun c_180 => ?_)
      · rw [if_pos c_180]
        refine tt_iload_n d_X_matters_200 rfl ?_
        refine tt_iret rfl d_X_matters_201 ?_
        exact ⟨rfl, h.none hd0, h.2.1⟩
      · rw [if_neg c_180]
        refine tt_aload_n d_X_matters_183 rfl ?_
        refine tt_getR d_X_matters_184 rfl rfl (by decide) rfl rfl ?_
        refine tt_callV (xq_start (d := d) h) cw_Told_start rfl rfl (by decide) rfl (by omega) d_X_matters_187 rfl rfl (Nat.le_of_ble_eq_true rfl) (Nat.le_of_ble_eq_true rfl) rfl rfl rfl (fun v σ2 q => ?_)
        obtain ⟨rfl, h, hd, hf⟩ := q
        refine tt_aload_n d_X_matters_190 rfl ?_
        refine tt_getR d_X_matters_191 rfl rfl (by decide) rfl rfl ?_
        refine tt_iload d_X_matters_194 rfl ?_
        refine tt_i2l d_X_matters_196 ?_
        refine tt_callV (xq_add (d := d) h hd (Nat.le_of_ble_eq_true rfl)) cw_Told_add rfl rfl (by decide) rfl (by omega) d_X_matters_197 rfl rfl (Nat.le_of_ble_eq_true rfl) (Nat.le_of_ble_eq_true rfl) rfl rfl rfl (fun v σ2 q => ?_)
        obtain ⟨rfl, h, hd, hf⟩ := q
        refine tt_iload_n d_X_matters_200 rfl ?_
        refine tt_iret rfl d_X_matters_201 ?_
        exact ⟨rfl, h.done hd, h.2.1⟩
    · have h3 := okV_3 ho.1 ho.2.1 i (by omega)
      have hg := gI_c (g := wV w 3 i) (by omega)
      have hdf : dfN (wV w 0 5) (2 ^ i) < 256 := dfN_lt (n := 8) ho.h5
      have hu5 := ok_05 ho.2.1 hdf
      have hub := ok_hrs ho.1 hu5 n (by have := ho.2.2; show wV w 0 4 + n < 2 ^ 30; omega)
      have hbb := hub.1.1
      have hgl := gpN_lt (C := eC (wE w)) (a := ((hrsV (wE w) (wV w) n) 0 0)) (b := mtB w n i) (by omega) (by unfold mtB; omega)
      refine tt_aload_n d_X_matters_69 rfl ?_
      refine tt_getR d_X_matters_70 rfl rfl (by decide) rfl rfl ?_
      refine tt_iload d_X_matters_73 rfl ?_
      refine tt_callV (x_holdN (d := d) isS_20 h.1.2.1 ho.h5 (by omega)) cw_State_holds rfl rfl (by decide) rfl (by omega) d_X_matters_75 rfl rfl (Nat.le_of_ble_eq_true rfl) (Nat.le_of_ble_eq_true rfl) rfl rfl rfl (fun v σ2 q => ?_)
      obtain ⟨rfl, e9⟩ := q
      rw [e9]
      clear e9
      refine tn_if_eq (t := 171) (by omega) d_X_matters_78 (by decide) (fun c_78 => ?_) (fun c_78 => ?_)
      · have hz := mt_f hst (fun q => htb.2.2.mp c_78 q.1.1)
        refine tt_iinc (lv2 := [_, _, _, _, _, _, _]) d_X_matters_171 rfl (nI_inc _ 1) (by decide) rfl ?_
        refine tt_goto (t := 57) d_X_matters_174 (by decide) ?_
        exact ih (eN (wE w) - (i + 1)) (by omega) (i + 1) _ _ z6 _ rfl (by omega) h hd0 hz
      · refine tt_aload_n d_X_matters_81 rfl ?_
        refine tt_getR d_X_matters_82 rfl rfl (by decide) rfl rfl ?_
        refine tt_getR d_X_matters_85 rfl rfl (by decide) rfl rfl ?_
        refine tt_iload d_X_matters_88 rfl ?_
        refine tn_iald d_X_matters_90 rfl (by decide) (by omega) (h.t3 (by omega)) ?_
        refine tt_iconst (v := (-1)) d_X_matters_91 (by decide) ?_
        refine tt_ic_eq (t := 171) d_X_matters_92 (by decide) (fun c_92 => ?_) (fun c_92 => ?_)
        · have hz := mt_f hst (fun q => q.1.2 (hg.1.mp c_92))
          refine tt_iinc (lv2 := [_, _, _, _, _, _, _]) d_X_matters_171 rfl (nI_inc _ 1) (by decide) rfl ?_
          refine tt_goto (t := 57) d_X_matters_174 (by decide) ?_
          exact ih (eN (wE w) - (i + 1)) (by omega) (i + 1) _ _ z6 _ rfl (by omega) h hd0 hz
        · have hcd : (wV w 0 5).testBit i = true ∧ ¬ wV w 3 i = 0 := ⟨htb.2.1.mp (by omega), fun q => c_92 (hg.1.mpr q)⟩
          refine tt_aload_n d_X_matters_95 rfl ?_
          refine tt_getR d_X_matters_96 rfl rfl (by decide) rfl rfl ?_
          refine tt_aload_n d_X_matters_99 rfl ?_
          refine tt_getR d_X_matters_100 rfl rfl (by decide) rfl rfl ?_
          refine tt_callV (xq_copy (d := d) h) cw_State_copy rfl rfl (by decide) rfl (by omega) d_X_matters_103 rfl rfl (Nat.le_of_ble_eq_true rfl) (Nat.le_of_ble_eq_true rfl) rfl rfl rfl (fun v σ2 q => ?_)
          obtain ⟨rfl, h, hS, hu⟩ := q
          replace hd0 := hd0.tn hu
          refine tt_aload_n d_X_matters_106 rfl ?_
          refine tt_getR d_X_matters_107 rfl rfl (by decide) rfl rfl ?_
          refine tt_dup d_X_matters_110 rfl ?_
          refine tn_get d_X_matters_111 rfl rfl (by decide) rfl (hS.1 5 (by decide)) ?_
          refine tt_iconst (v := nI 1) d_X_matters_114 (by decide) ?_
          refine tt_iload d_X_matters_115 rfl ?_
          refine tt_ishl d_X_matters_117 ?_
          refine tt_top (shl_9 _ (by omega)) ?_
          refine tt_iconst (v := (-1)) d_X_matters_118 (by decide) ?_
          refine tt_ixor d_X_matters_119 ?_
          refine tt_iand d_X_matters_120 ?_
          refine tt_top (an_N _ _) ?_
          refine tt_putI d_X_matters_121 rfl rfl (by decide) rfl (xpok_int rfl) rfl ?_
          replace hS := ST_wF (k := 5) (x := dfN (wV w 0 5) (2 ^ i)) hS
          replace h := xq_wh (k := 5) (x := nI (dfN (wV w 0 5) (2 ^ i))) h
          replace hd0 : XD (wF _ 30 5 (nI (dfN (wV w 0 5) (2 ^ i)))) (wD w) := hd0
          refine tt_aload_n d_X_matters_124 rfl ?_
          refine tt_getR d_X_matters_125 rfl rfl (by decide) rfl rfl ?_
          refine tt_aload_n d_X_matters_128 rfl ?_
          refine tt_getR d_X_matters_129 rfl rfl (by decide) rfl rfl ?_
          refine tt_aload_n d_X_matters_132 rfl ?_
          refine tt_getP d_X_matters_133 rfl ?_
          refine tt_iload_n d_X_matters_136 rfl ?_
          refine tt_callV (xq_hrs (d := d) (n := n) h ho hu5 hS (by have := ho.2.2; show wV w 0 4 + n < 2 ^ 30; omega)) cw_Trip_pass rfl rfl (by decide) rfl (by omega) d_X_matters_137 rfl rfl (Nat.le_of_ble_eq_true rfl) (Nat.le_of_ble_eq_true rfl) rfl rfl rfl (fun v σ2 q => ?_)
          obtain ⟨rfl, h, hS, hT, hu⟩ := q
          replace hd0 := hd0.tn hu
          refine tt_aload_n d_X_matters_140 rfl ?_
          refine tt_getR d_X_matters_141 rfl rfl (by decide) rfl rfl ?_
          refine tt_iload_n d_X_matters_144 rfl ?_
          refine tt_aload_n d_X_matters_145 rfl ?_
          refine tt_getR d_X_matters_146 rfl rfl (by decide) rfl rfl ?_
          refine tn_get d_X_matters_149 rfl rfl (by decide) rfl (show _ = nI (mtB w n i) from hS.1 0 (by decide)) ?_
          refine tt_callV (x_Lake_gap (d := d) (by omega) (by unfold mtB; omega) h.r h.cl ho.1.1.2.1 ho.1.1.2.2.2.1 ho.cp) cw_Lake_gap rfl rfl (by decide) rfl (by omega) d_X_matters_152 rfl rfl (Nat.le_of_ble_eq_true rfl) (Nat.le_of_ble_eq_true rfl) rfl rfl rfl (fun v σ2 q => ?_)
          obtain ⟨rfl, e9⟩ := q
          rw [e9, X_gap_N (by omega) (by unfold mtB; omega)]
          clear e9
          have hmd : nI (gpN (eC (wE w)) ((hrsV (wE w) (wV w) n) 0 0) (mtB w n i)) = mtD w n i := rfl
          rw [hmd]
          refine tt_istore (lv2 := [_, _, _, _, _, _, _]) d_X_matters_155 (by decide) rfl ?_
          refine tt_iload d_X_matters_157 rfl ?_
          refine tt_iload d_X_matters_159 rfl ?_
          refine tt_ic_le (t := 171) d_X_matters_161 (by decide) (fun c_161 => ?_) (fun c_161 => ?_)
          · have hz := mt_f hst (fun q => fa_nlt2 q.2 c_161)
            refine tt_iinc (lv2 := [_, _, _, _, _, _, _]) d_X_matters_171 rfl (nI_inc _ 1) (by decide) rfl ?_
            refine tt_goto (t := 57) d_X_matters_174 (by decide) ?_
            exact ih (eN (wE w) - (i + 1)) (by omega) (i + 1) _ _ (some _) _ rfl (by omega) h hd0 hz
          · have hz := mt_t hst hcd (fa_nle c_161)
            refine tt_iload d_X_matters_164 rfl ?_
            refine tt_istore (lv2 := [_, _, _, _, _, _, _]) d_X_matters_166 (by decide) rfl ?_
            refine tt_iload d_X_matters_168 rfl ?_
            refine tt_istore_n (lv2 := [_, _, _, _, _, _, _]) d_X_matters_170 (by decide) rfl ?_
            refine tt_iinc (lv2 := [_, _, _, _, _, _, _]) d_X_matters_171 rfl (nI_inc _ 1) (by decide) rfl ?_
            refine tt_goto (t := 57) d_X_matters_174 (by decide) ?_
            exact ih (eN (wE w) - (i + 1)) (by omega) (i + 1) _ _ (some _) _ rfl (by omega) h hd0 hz

set_option maxHeartbeats 4000000 in
theorem xc_matters {l : xLa} {d : Nat} {σ : xs} {w : wv} (ho : okQ w) (hw : XW σ w) {n : Int32} : TC l M_X_matters (d + 30) [.ref 0, .int n] σ (fun r τ => r = some (.int ((q_matters w n).1)) ∧ XW τ (stD w ((q_matters w n).2)) ∧ XF σ τ) := by
  show T l M_X_matters (d + 30) 0 _ [] σ _
  refine T_lv (lv2 := [_, _, _, _, _, _, _]) rfl ?_
  have h := XQ.rf hw.v
  have hd0 := hw.2.2.2.1
  have hb0 := ho.fb
  have hb8 := ho.n8
  rcases rgN_c n 1 60 with ⟨m, hm1, hm2, hm3, rfl, hq⟩ | ⟨hq, hb⟩
  · have hqv : q_matters w (nI m) = ((mtF w m (eN (wE w))).1, if (mtF w m (eN (wE w))).1 = -2 then none else some [(mtF w m (eN (wE w))).2.toInt64]) := by unfold q_matters; rw [hq]
    rw [hqv]
    refine tt_iload_n d_X_matters_0 rfl ?_
    refine tt_iconst (v := nI 1) d_X_matters_1 (by decide) ?_
    refine tn_ic_lt (t := 11) (by omega) (by omega) d_X_matters_2 (by decide) (fun c_2 => ?_) (fun c_2 => ?_)
    · omega
    · refine tt_iload_n d_X_matters_5 rfl ?_
      refine tt_bipush (v := nI 60) d_X_matters_6 (by decide) ?_
      refine tn_ic_le (t := 13) (by omega) (by omega) d_X_matters_8 (by decide) (fun c_8 => ?_) (fun c_8 => ?_)
      · refine tt_aload_n d_X_matters_13 rfl ?_
        refine tt_getR d_X_matters_14 rfl rfl (by decide) rfl rfl ?_
        refine tt_aload_n d_X_matters_17 rfl ?_
        refine tt_getR d_X_matters_18 rfl rfl (by decide) rfl rfl ?_
        refine tt_callV (xq_copy (d := d) h) cw_State_copy rfl rfl (by decide) rfl (by omega) d_X_matters_21 rfl rfl (Nat.le_of_ble_eq_true rfl) (Nat.le_of_ble_eq_true rfl) rfl rfl rfl (fun v σ2 q => ?_)
        obtain ⟨rfl, h, hS, hu⟩ := q
        replace hd0 := hd0.tn hu
        refine tt_aload_n d_X_matters_24 rfl ?_
        refine tt_getR d_X_matters_25 rfl rfl (by decide) rfl rfl ?_
        refine tt_aload_n d_X_matters_28 rfl ?_
        refine tt_getR d_X_matters_29 rfl rfl (by decide) rfl rfl ?_
        refine tt_aload_n d_X_matters_32 rfl ?_
        refine tt_getP d_X_matters_33 rfl ?_
        refine tt_iload_n d_X_matters_36 rfl ?_
        refine tt_callV (xq_hrs (d := d) h ho ho.2.1 hS (by have := ho.2.2; omega)) cw_Trip_pass rfl rfl (by decide) rfl (by omega) d_X_matters_37 rfl rfl (Nat.le_of_ble_eq_true rfl) (Nat.le_of_ble_eq_true rfl) rfl rfl rfl (fun v σ2 q => ?_)
        obtain ⟨rfl, h, hS, hT, hu⟩ := q
        replace hd0 := hd0.tn hu
        refine tt_aload_n d_X_matters_40 rfl ?_
        refine tt_getR d_X_matters_41 rfl rfl (by decide) rfl rfl ?_
        refine tn_get d_X_matters_44 rfl rfl (by decide) rfl (hS.1 0 (by decide)) ?_
        refine tt_istore_n (lv2 := [_, _, _, _, _, _, _]) d_X_matters_47 (by decide) rfl ?_
        refine tt_bipush (v := (-2)) d_X_matters_48 (by decide) ?_
        refine tt_istore_n (lv2 := [_, _, _, _, _, _, _]) d_X_matters_50 (by decide) rfl ?_
        refine tt_iconst (v := (-1)) d_X_matters_51 (by decide) ?_
        refine tt_istore (lv2 := [_, _, _, _, _, _, _]) d_X_matters_52 (by decide) rfl ?_
        refine tt_iconst (v := nI 0) d_X_matters_54 (by decide) ?_
        refine tt_istore (lv2 := [_, _, _, _, _, _, _]) d_X_matters_55 (by decide) rfl ?_
        exact x_matters_l ⟨hm1, hm2⟩ ho (eN (wE w)) 0 _ _ none _ rfl (by omega) h hd0 rfl
      · omega
  · have hqv : q_matters w n = (-1, none) := by unfold q_matters; rw [hq]
    rw [hqv]
    refine tt_iload_n d_X_matters_0 rfl ?_
    refine tt_iconst (v := nI 1) d_X_matters_1 (by decide) ?_
    refine tt_ic_lt (t := 11) d_X_matters_2 (by decide) (fun c_2 => ?_) (fun c_2 => ?_)
    · refine tt_iconst (v := (-1)) d_X_matters_11 (by decide) ?_
      refine tt_iret rfl d_X_matters_12 ?_
      exact ⟨rfl, h.none hd0, h.2.1⟩
    · refine tt_iload_n d_X_matters_5 rfl ?_
      refine tt_bipush (v := nI 60) d_X_matters_6 (by decide) ?_
      refine tt_ic_le (t := 13) d_X_matters_8 (by decide) (fun c_8 => ?_) (fun c_8 => ?_)
      · exact (rg_f (a := 1) (b := 60) (by decide) (by decide) hb c_2 c_8).elim
      · refine tt_iconst (v := (-1)) d_X_matters_11 (by decide) ?_
        refine tt_iret rfl d_X_matters_12 ?_
        exact ⟨rfl, h.none hd0, h.2.1⟩

set_option maxHeartbeats 4000000 in
theorem y_matters_l {l : xLa} {d : Nat} {σ : xs} {c : Nat} {w : wv} {n : Nat} (hn : 1 ≤ n ∧ n ≤ 60) (ho : okQ w) : ∀ (m : Nat) (i : Nat) (a b : Int32) (z6 : Option Int32) (τ : xs), eN (wE w) - i = m → i ≤ eN (wE w) → YQ c w σ τ → YD τ (wD w) → (a, b) = mtF w n i → T l M_Y_matters (d + 150) 48 [some (.ref 154), some (.int (nI n)), some (.int (nI ((hrsV (wE w) (wV w) n) 0 0))), some (.int a), some (.int b), some (.int (nI i)), z6.map Value.int] [] τ (fun r τ => r = some (.int (mtF w n (eN (wE w))).1) ∧ YW τ c (stD w (if (mtF w n (eN (wE w))).1 = -2 then none else some [(mtF w n (eN (wE w))).2.toInt64])) ∧ YF σ τ) := by
  have hb0 := ho.fb
  have hb8 := ho.n8
  intro m
  induction m using Nat.strongRecOn with
  | ind m ih =>
    intro i a b z6 τ hm hi h hd0 hst
    have hok := ok_h ho (n := n) (by omega)
    have htb := tbN_c (wV w 0 5) i
    have hal := and_lt8 (a := wV w 0 5) (b := prN (wV w) (eN (wE w))) ho.h5
    have hta := tbN_c (wV w 0 5 &&& prN (wV w) (eN (wE w))) i
    have htt : i < eN (wE w) → ((wV w 0 5 &&& prN (wV w) (eN (wE w))).testBit i = true ↔ (wV w 0 5).testBit i = true ∧ ¬ wV w 3 i = 0) := fun hi2 => by
      rw [Nat.testBit_and, Bool.and_eq_true, prN_t]
      exact ⟨fun q => ⟨q.1, q.2.2⟩, fun q => ⟨q.1, hi2, q.2⟩⟩
    refine tt_iload d_Y_matters_48 rfl ?_
    refine tt_aload_n d_Y_matters_50 rfl ?_
    refine tn_get d_Y_matters_51 rfl rfl (by decide) rfl h.e.1.2.2.1 ?_
    refine tn_ic_ge (t := 148) (by omega) (by omega) d_Y_matters_54 (by decide) (fun c_54 => ?_) (fun c_54 => ?_)
    · obtain rfl : i = eN (wE w) := by omega
      rw [← hst]
      dsimp only
      have hms := mt_s (w := w) (n := n) (i := eN (wE w)) (by omega)
      rw [← hst] at hms
      dsimp only at hms
      refine tt_iload_n d_Y_matters_148 rfl ?_
      refine tt_if_lt (t := 164) d_Y_matters_149 (by decide) (fun c_149 => ?_) (fun c_149 => ?_)
      · rw [if_pos (hms.mpr c_149)]
        refine tt_iload_n d_Y_matters_164 rfl ?_
        refine tt_iret rfl d_Y_matters_165 ?_
        exact ⟨rfl, h.none hd0, h.2⟩
      · rw [if_neg (fun q => c_149 (hms.mp q))]
        refine tt_aload_n d_Y_matters_152 rfl ?_
        refine tt_iconst (v := nI 0) d_Y_matters_153 (by decide) ?_
        refine tt_putI d_Y_matters_154 rfl rfl (by decide) rfl (xpok_int rfl) rfl ?_
        replace h := h.td0
        have hd := YD_0t h
        refine tt_aload_n d_Y_matters_157 rfl ?_
        refine tt_iload d_Y_matters_158 rfl ?_
        refine tt_i2l d_Y_matters_160 ?_
        refine tt_callV (yq_add (d := d) h hd (Nat.le_of_ble_eq_true rfl)) cw_Y_enters rfl rfl (by decide) rfl (by omega) d_Y_matters_161 rfl rfl (Nat.le_of_ble_eq_true rfl) (Nat.le_of_ble_eq_true rfl) rfl rfl rfl (fun v σ2 q => ?_)
        obtain ⟨rfl, h, hd, hf⟩ := q
        refine tt_iload_n d_Y_matters_164 rfl ?_
        refine tt_iret rfl d_Y_matters_165 ?_
        exact ⟨rfl, h.done hd, h.2⟩
    · have hdf : dfN (wV w 0 5) (2 ^ i) < 256 := dfN_lt (n := 8) ho.h5
      have hu5 := ok_05 ho.2.1 hdf
      have hub := ok_hrs ho.1 hu5 n (by have := ho.2.2; show wV w 0 4 + n < 2 ^ 30; omega)
      have hbb := hub.1.1
      have hgl := gpN_lt (C := eC (wE w)) (a := ((hrsV (wE w) (wV w) n) 0 0)) (b := mtB w n i) (by omega) (by unfold mtB; omega)
      refine tt_aload_n d_Y_matters_57 rfl ?_
      refine tt_getR d_Y_matters_58 rfl rfl (by decide) rfl rfl ?_
      refine tt_bipush (v := nI 33) d_Y_matters_61 (by decide) ?_
      refine tn_iald d_Y_matters_63 rfl (by decide) (by omega) (h.1.2.1.1.2.1) ?_
      refine tt_aload_n d_Y_matters_64 rfl ?_
      refine tt_aload_n d_Y_matters_65 rfl ?_
      refine tt_getR d_Y_matters_66 rfl rfl (by decide) rfl rfl ?_
      refine tt_callV (y_promN (d := d) isY_160 ho.1 ho.2.1 h.e.1.2.2.1 h.1.2.1) cw_Y_promised rfl rfl (by decide) rfl (by omega) d_Y_matters_69 rfl rfl (Nat.le_of_ble_eq_true rfl) (Nat.le_of_ble_eq_true rfl) rfl rfl rfl (fun v σ2 q => ?_)
      obtain ⟨rfl, e9⟩ := q
      rw [e9]
      clear e9
      refine tt_iand d_Y_matters_72 ?_
      refine tt_top (and_N _ _) ?_
      refine tt_i2l d_Y_matters_73 ?_
      refine tt_iload d_Y_matters_74 rfl ?_
      refine tt_callS (y_hasN (d := d) (by omega) (by omega)) cw_Y_has rfl (by omega) d_Y_matters_76 rfl rfl (Nat.le_of_ble_eq_true rfl) (Nat.le_of_ble_eq_true rfl) rfl rfl rfl (fun v σ2 q => ?_)
      obtain ⟨rfl, e9⟩ := q
      rw [e9]
      clear e9
      refine tn_if_eq (t := 142) (by omega) d_Y_matters_79 (by decide) (fun c_79 => ?_) (fun c_79 => ?_)
      · have hz := mt_f hst (fun q => hta.2.2.mp c_79 ((htt (by omega)).mpr q.1))
        refine tt_iinc (lv2 := [_, _, _, _, _, _, _]) d_Y_matters_142 rfl (nI_inc _ 1) (by decide) rfl ?_
        refine tt_goto (t := 48) d_Y_matters_145 (by decide) ?_
        exact ih (eN (wE w) - (i + 1)) (by omega) (i + 1) _ _ z6 _ rfl (by omega) h hd0 hz
      · have hcd := (htt (by omega)).mp (Decidable.not_not.mp (fun q => c_79 (hta.2.2.mpr q)))
        refine tt_aload_n d_Y_matters_82 rfl ?_
        refine tt_callV (yq_copies (d := d) h ho.n8) cw_Y_copies rfl rfl (by decide) rfl (by omega) d_Y_matters_83 rfl rfl (Nat.le_of_ble_eq_true rfl) (Nat.le_of_ble_eq_true rfl) rfl rfl rfl (fun v σ2 q => ?_)
        obtain ⟨rfl, h, hS, hu, -⟩ := q
        replace hd0 := hd0.un hu
        refine tt_aload_n d_Y_matters_86 rfl ?_
        refine tt_aload_n d_Y_matters_87 rfl ?_
        refine tt_getR d_Y_matters_88 rfl rfl (by decide) rfl rfl ?_
        refine tt_iload d_Y_matters_91 rfl ?_
        refine tt_callV (yq_lets (d := d) h ho ho.2.1 hS (by omega)) cw_Y_letsOne rfl rfl (by decide) rfl (by omega) d_Y_matters_93 rfl rfl (Nat.le_of_ble_eq_true rfl) (Nat.le_of_ble_eq_true rfl) rfl rfl rfl (fun v σ2 q => ?_)
        obtain ⟨rfl, h, hS, hu⟩ := q
        replace hd0 := hd0.un hu
        rw [xor_df hcd.1] at hS
        refine tt_pop d_Y_matters_96 rfl ?_
        refine tt_aload_n d_Y_matters_97 rfl ?_
        refine tt_aload_n d_Y_matters_98 rfl ?_
        refine tt_getR d_Y_matters_99 rfl rfl (by decide) rfl rfl ?_
        refine tt_iload_n d_Y_matters_102 rfl ?_
        refine tt_callV (yq_hrs (d := d) (n := n) h ho hu5 hS (by have := ho.2.2; show wV w 0 4 + n < 2 ^ 30; omega)) cw_Y_goesOn rfl rfl (by decide) rfl (by omega) d_Y_matters_103 rfl rfl (Nat.le_of_ble_eq_true rfl) (Nat.le_of_ble_eq_true rfl) rfl rfl rfl (fun v σ2 q => ?_)
        obtain ⟨rfl, h, hS, hT, hu⟩ := q
        replace hd0 := hd0.un hu
        refine tt_aload_n d_Y_matters_106 rfl ?_
        refine tt_aload_n d_Y_matters_107 rfl ?_
        refine tt_getR d_Y_matters_108 rfl rfl (by decide) rfl rfl ?_
        refine tt_iconst (v := nI 0) d_Y_matters_111 (by decide) ?_
        refine tn_iald d_Y_matters_112 rfl (by decide) (by omega) (show _ = nI (mtB w n i) from hS.1.1) ?_
        refine tt_iload_n d_Y_matters_113 rfl ?_
        refine tt_callV (y_far (d := d) (by unfold mtB; omega) (by omega) h.e.1.1 h.e.1.2.1 ho.1.1.2.1 ho.1.1.2.2.2.1 ho.cp) cw_Y_far rfl rfl (by decide) rfl (by omega) d_Y_matters_114 rfl rfl (Nat.le_of_ble_eq_true rfl) (Nat.le_of_ble_eq_true rfl) rfl rfl rfl (fun v σ2 q => ?_)
        obtain ⟨rfl, e9⟩ := q
        rw [e9, gpN_sy]
        clear e9
        have hmd : nI (gpN (eC (wE w)) ((hrsV (wE w) (wV w) n) 0 0) (mtB w n i)) = mtD w n i := rfl
        rw [hmd]
        refine tt_istore (lv2 := [_, _, _, _, _, _, _]) d_Y_matters_117 (by decide) rfl ?_
        refine tt_iload d_Y_matters_119 rfl ?_
        refine tt_iload d_Y_matters_121 rfl ?_
        refine tt_ic_le (t := 131) d_Y_matters_123 (by decide) (fun c_123 => ?_) (fun c_123 => ?_)
        · have hz := mt_f hst (fun q => fa_nlt2 q.2 c_123)
          refine tt_iload_n d_Y_matters_131 rfl ?_
          refine tt_istore_n (lv2 := [_, _, _, _, _, _, _]) d_Y_matters_132 (by decide) rfl ?_
          refine tt_iload d_Y_matters_133 rfl ?_
          refine tt_iload d_Y_matters_135 rfl ?_
          refine tt_max d_Y_matters_137 rfl (Nat.le_of_ble_eq_true rfl) ?_
          skip
          refine tt_istore (lv2 := [_, _, _, _, _, _, _]) d_Y_matters_140 (by decide) rfl ?_
          refine tt_iinc (lv2 := [_, _, _, _, _, _, _]) d_Y_matters_142 rfl (nI_inc _ 1) (by decide) rfl ?_
          refine tt_goto (t := 48) d_Y_matters_145 (by decide) ?_
          rw [if_neg (fun q => fa_nlt2 q c_123)]
          exact ih (eN (wE w) - (i + 1)) (by omega) (i + 1) _ _ (some _) _ rfl (by omega) h hd0 hz
        · have hz := mt_t hst hcd (fa_nle c_123)
          refine tt_iload d_Y_matters_126 rfl ?_
          refine tt_goto (t := 132) d_Y_matters_128 (by decide) ?_
          refine tt_istore_n (lv2 := [_, _, _, _, _, _, _]) d_Y_matters_132 (by decide) rfl ?_
          refine tt_iload d_Y_matters_133 rfl ?_
          refine tt_iload d_Y_matters_135 rfl ?_
          refine tt_max d_Y_matters_137 rfl (Nat.le_of_ble_eq_true rfl) ?_
          skip
          refine tt_istore (lv2 := [_, _, _, _, _, _, _]) d_Y_matters_140 (by decide) rfl ?_
          refine tt_iinc (lv2 := [_, _, _, _, _, _, _]) d_Y_matters_142 rfl (nI_inc _ 1) (by decide) rfl ?_
          refine tt_goto (t := 48) d_Y_matters_145 (by decide) ?_
          rw [if_pos (fa_nle c_123)]
          exact ih (eN (wE w) - (i + 1)) (by omega) (i + 1) _ _ (some _) _ rfl (by omega) h hd0 hz

set_option maxHeartbeats 4000000 in
theorem yc_matters {l : xLa} {d c : Nat} {σ : xs} {w : wv} (ho : okQ w) (hw : YW σ c w) {n : Int32} : TC l M_Y_matters (d + 150) [.ref 154, .int n] σ (fun r τ => r = some (.int ((q_matters w n).1)) ∧ YW τ c (stD w ((q_matters w n).2)) ∧ YF σ τ) := by
  show T l M_Y_matters (d + 150) 0 _ [] σ _
  refine T_lv (lv2 := [_, _, _, _, _, _, _]) rfl ?_
  have h := YQ.rf hw.v
  have hd0 := hw.2.2.2.1
  have hb0 := ho.fb
  have hb8 := ho.n8
  rcases rgN_c n 1 60 with ⟨m, hm1, hm2, hm3, rfl, hq⟩ | ⟨hq, hb⟩
  · have hqv : q_matters w (nI m) = ((mtF w m (eN (wE w))).1, if (mtF w m (eN (wE w))).1 = -2 then none else some [(mtF w m (eN (wE w))).2.toInt64]) := by unfold q_matters; rw [hq]
    rw [hqv]
    refine tt_aload_n d_Y_matters_0 rfl ?_
    refine tt_iconst (v := nI 0) d_Y_matters_1 (by decide) ?_
    refine tt_putI d_Y_matters_2 rfl rfl (by decide) rfl (xpok_int rfl) rfl ?_
    replace h := h.thr (x := nI 0)
    replace hd0 := hd0.thr (x := nI 0)
    refine tt_iload_n d_Y_matters_5 rfl ?_
    refine tt_i2l d_Y_matters_6 ?_
    refine tt_lconst (v := 1) d_Y_matters_7 (by decide) ?_
    refine tt_ldc2_w d_Y_matters_8 rfl ?_
    refine tt_callS (y_in (d := d)) cw_Y_in rfl (by omega) d_Y_matters_11 rfl rfl (Nat.le_of_ble_eq_true rfl) (Nat.le_of_ble_eq_true rfl) rfl rfl rfl (fun v σ2 q => ?_)
    obtain ⟨rfl, e9⟩ := q
    rw [e9, show Yin (nI m).toInt64 1 60 = nI 1 from Yin_t (a := 1) (b := 60) rfl rfl (by omega) (by omega) (by decide)]
    clear e9
    refine tn_if_ne (t := 19) (by omega) d_Y_matters_14 (by decide) (fun c_14 => ?_) (fun c_14 => ?_)
    · refine tt_aload_n d_Y_matters_19 rfl ?_
      refine tt_callV (yq_copies (d := d) h ho.n8) cw_Y_copies rfl rfl (by decide) rfl (by omega) d_Y_matters_20 rfl rfl (Nat.le_of_ble_eq_true rfl) (Nat.le_of_ble_eq_true rfl) rfl rfl rfl (fun v σ2 q => ?_)
      obtain ⟨rfl, h, hS, hu, -⟩ := q
      replace hd0 := hd0.un hu
      refine tt_aload_n d_Y_matters_23 rfl ?_
      refine tt_aload_n d_Y_matters_24 rfl ?_
      refine tt_getR d_Y_matters_25 rfl rfl (by decide) rfl rfl ?_
      refine tt_iload_n d_Y_matters_28 rfl ?_
      refine tt_callV (yq_hrs (d := d) h ho ho.2.1 hS (by have := ho.2.2; omega)) cw_Y_goesOn rfl rfl (by decide) rfl (by omega) d_Y_matters_29 rfl rfl (Nat.le_of_ble_eq_true rfl) (Nat.le_of_ble_eq_true rfl) rfl rfl rfl (fun v σ2 q => ?_)
      obtain ⟨rfl, h, hS, hT, hu⟩ := q
      replace hd0 := hd0.un hu
      refine tt_aload_n d_Y_matters_32 rfl ?_
      refine tt_getR d_Y_matters_33 rfl rfl (by decide) rfl rfl ?_
      refine tt_iconst (v := nI 0) d_Y_matters_36 (by decide) ?_
      refine tn_iald d_Y_matters_37 rfl (by decide) (by omega) (hS.1.1) ?_
      refine tt_istore_n (lv2 := [_, _, _, _, _, _, _]) d_Y_matters_38 (by decide) rfl ?_
      refine tt_bipush (v := (-2)) d_Y_matters_39 (by decide) ?_
      refine tt_istore_n (lv2 := [_, _, _, _, _, _, _]) d_Y_matters_41 (by decide) rfl ?_
      refine tt_iconst (v := (-1)) d_Y_matters_42 (by decide) ?_
      refine tt_istore (lv2 := [_, _, _, _, _, _, _]) d_Y_matters_43 (by decide) rfl ?_
      refine tt_iconst (v := nI 0) d_Y_matters_45 (by decide) ?_
      refine tt_istore (lv2 := [_, _, _, _, _, _, _]) d_Y_matters_46 (by decide) rfl ?_
      exact y_matters_l ⟨hm1, hm2⟩ ho (eN (wE w)) 0 _ _ none _ rfl (by omega) h hd0 rfl
    · exact absurd c_14 (by decide)
  · have hqv : q_matters w n = (-1, none) := by unfold q_matters; rw [hq]
    rw [hqv]
    refine tt_aload_n d_Y_matters_0 rfl ?_
    refine tt_iconst (v := nI 0) d_Y_matters_1 (by decide) ?_
    refine tt_putI d_Y_matters_2 rfl rfl (by decide) rfl (xpok_int rfl) rfl ?_
    replace h := h.thr (x := nI 0)
    replace hd0 := hd0.thr (x := nI 0)
    refine tt_iload_n d_Y_matters_5 rfl ?_
    refine tt_i2l d_Y_matters_6 ?_
    refine tt_lconst (v := 1) d_Y_matters_7 (by decide) ?_
    refine tt_ldc2_w d_Y_matters_8 rfl ?_
    refine tt_callS (y_in (d := d)) cw_Y_in rfl (by omega) d_Y_matters_11 rfl rfl (Nat.le_of_ble_eq_true rfl) (Nat.le_of_ble_eq_true rfl) rfl rfl rfl (fun v σ2 q => ?_)
    obtain ⟨rfl, e9⟩ := q
    rw [e9, show Yin n.toInt64 1 60 = nI 0 from Yin_f (a := 1) (b := 60) rfl rfl (by decide) (by decide) hb]
    clear e9
    refine tn_if_ne (t := 19) (by omega) d_Y_matters_14 (by decide) (fun c_14 => ?_) (fun c_14 => ?_)
    · exact absurd c_14 (by decide)
    · refine tt_iconst (v := (-1)) d_Y_matters_17 (by decide) ?_
      refine tt_iret rfl d_Y_matters_18 ?_
      exact ⟨rfl, h.none hd0, h.2⟩

