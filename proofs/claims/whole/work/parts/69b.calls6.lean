/-! Questions: sways. Printed by wip/whole. -/
theorem xq_goesWith {l : xLa} {d : Nat} {σ τ : xs} {w : wv} {s : Nat} (h : XQ w σ τ) (ho : okQ w) (hM : MS (wE w) (wV w) (eN (wE w)) τ) : TC l M_X_goesWith (d + 6) [.ref 0, .int (nI s)] τ (fun r υ => r = some (.int (b2I (goV (wE w) (wV w) (nI s)))) ∧ XQ w σ υ ∧ MS (wE w) (wV w) (eN (wE w)) υ ∧ Tn τ υ) := by
  show T l M_X_goesWith (d + 6) 0 _ [] τ _
  refine tt_aload_n d_X_goesWith_0 rfl ?_
  refine tt_getR d_X_goesWith_1 rfl rfl (by decide) rfl rfl ?_
  refine tt_iload_n d_X_goesWith_4 rfl ?_
  refine tt_callV (xq_weigh (d := d) (z := nI s) h ho.1 hM) cw_Tug_weigh rfl rfl (by decide) rfl (by omega) d_X_goesWith_5 rfl rfl (Nat.le_of_ble_eq_true rfl) (Nat.le_of_ble_eq_true rfl) rfl rfl rfl (fun v σ2 q => ?_)
  obtain ⟨rfl, h, hM, hu, hN⟩ := q
  refine tt_aload_n d_X_goesWith_8 rfl ?_
  refine tt_getR d_X_goesWith_9 rfl rfl (by decide) rfl rfl ?_
  refine tt_aload_n d_X_goesWith_12 rfl ?_
  refine tt_getR d_X_goesWith_13 rfl rfl (by decide) rfl rfl ?_
  refine tn_get d_X_goesWith_16 rfl rfl (by decide) rfl (h.v 0 (by decide)) ?_
  refine tt_callV (xq_go (d := d) (z := nI s) h ho.1 ho.2.1 hN) cw_Tug_goesFrom rfl rfl (by decide) rfl (by omega) d_X_goesWith_19 rfl rfl (Nat.le_of_ble_eq_true rfl) (Nat.le_of_ble_eq_true rfl) rfl rfl rfl (fun v σ2 q => ?_)
  obtain ⟨rfl, e9⟩ := q
  rw [e9]
  clear e9
  refine tt_iret rfl d_X_goesWith_22 ?_
  exact ⟨rfl, h, hM, hu⟩
theorem b2I_inj {a b : Nat} (ha : a ≤ 4) (hb : b ≤ 4) : b2I a = b2I b ↔ a = b := by
  rcases (show a = 0 ∨ a = 1 ∨ a = 2 ∨ a = 3 ∨ a = 4 by omega) with rfl | rfl | rfl | rfl | rfl <;> rcases (show b = 0 ∨ b = 1 ∨ b = 2 ∨ b = 3 ∨ b = 4 by omega) with rfl | rfl | rfl | rfl | rfl <;> decide
theorem g4_inj {a b : Nat} (ha : a ≤ 4) (hb : b ≤ 4) : g4 a = g4 b ↔ a = b := by
  have h1 := g4_c ha
  have h2 := g4_c hb
  by_cases c : a = 0
  · by_cases e : b = 0
    · rw [c, e]; exact ⟨fun _ => rfl, fun _ => rfl⟩
    · have := h2.2.1 e; have := h1.1.mpr c; omega
  · by_cases e : b = 0
    · have := h1.2.1 c; have := h2.1.mpr e; omega
    · have := h1.2.1 c; have := h2.2.1 e; omega
def swO (w : wv) (k : Nat) : Nat := dfN (wV w 0 5 &&& prN (wV w) (eN (wE w))) (2 ^ k)
def swS (w : wv) (k : Nat) (a s : Nat) : Nat := a + (if goV (wE w) (wV w) (nI s) = goV (wE w) (wV w) (nI (s ||| 2 ^ k)) then 0 else 1)
def swF (w : wv) (k : Nat) : Nat → Nat := fsN (swO w k) (swS w k) 0
def q_sways (w : wv) (i : Int32) : Int32 × Option (List Int64) := match inN i (eN (wE w)) with
  | none => (-1, none)
  | some k => if (wV w 0 5 &&& prN (wV w) (eN (wE w))).testBit k = true then (nI (swF w k (swO w k + 1)), some [(nI (2 ^ pcN (swO w k))).toInt64]) else (-2, none)
theorem sw_t {w : wv} {k P a s n : Nat} (hb : n = fsN P (swS w k) a s) (h0 : dfN s P = 0) (h : ¬ goV (wE w) (wV w) (nI s) = goV (wE w) (wV w) (nI (s ||| 2 ^ k))) : n + 1 = fsN P (swS w k) a (s + 1) := by
  rw [← fsN_in h0, ← hb]
  show n + 1 = n + _
  rw [if_neg h]
theorem sw_f {w : wv} {k P a s n : Nat} (hb : n = fsN P (swS w k) a s) (h0 : dfN s P = 0) (h : goV (wE w) (wV w) (nI s) = goV (wE w) (wV w) (nI (s ||| 2 ^ k))) : n = fsN P (swS w k) a (s + 1) := by
  rw [← fsN_in h0, ← hb]
  show n = n + _
  rw [if_pos h, Nat.add_zero]
theorem sw_o {w : wv} {k P a s n : Nat} (hb : n = fsN P (swS w k) a s) (h0 : ¬ dfN s P = 0) : n = fsN P (swS w k) a (s + 1) := by rw [← fsN_out h0]; exact hb
theorem sw_le {w : wv} {k P : Nat} : ∀ s, fsN P (swS w k) 0 s ≤ s
  | 0 => Nat.le_refl _
  | s + 1 => by
    have ih := sw_le (w := w) (k := k) (P := P) s
    show (if dfN s P = 0 then swS w k (fsN P (swS w k) 0 s) s else fsN P (swS w k) 0 s) ≤ _
    unfold swS at ih ⊢
    split
    · split <;> omega
    · omega
theorem or_lt8 {s k : Nat} (hs : s < 256) (hk : k < 8) : s ||| 2 ^ k < 256 := Nat.or_lt_two_pow (n := 8) hs (Nat.pow_lt_pow_right (by decide) hk)
theorem and_lt8 {a b : Nat} (h : a < 256) : a &&& b < 256 := Nat.lt_of_le_of_lt Nat.and_le_left h
theorem and_lt8r {a b n : Nat} (h : b < 2 ^ n) : a &&& b < 2 ^ n := Nat.lt_of_le_of_lt Nat.and_le_right h
set_option maxHeartbeats 4000000 in
theorem x_sways_l {l : xLa} {d : Nat} {σ : xs} {w : wv} {k : Nat} (hk : k < 8) (ho : okQ w) : ∀ (m : Nat) (s n : Nat) (τ : xs), 2 ^ eN (wE w) - s = m → s ≤ 2 ^ eN (wE w) → XQ w σ τ → MS (wE w) (wV w) (eN (wE w)) τ → n = swF w k s → T l M_X_sways (d + 30) 89 [some (.ref 0), some (.int (nI k)), some (.int (nI (swO w k))), some (.int (nI n)), some (.int (nI s))] [] τ (fun r τ => r = some (.int (nI (swF w k (swO w k + 1)))) ∧ XW τ (stD w (some [(nI (2 ^ pcN (swO w k))).toInt64])) ∧ XF σ τ) := by
  have hb0 := ho.fb
  have hb8 := ho.n8
  intro m
  induction m using Nat.strongRecOn with
  | ind m ih =>
    intro s n τ hm hs h hM hbb
    have hol : swO w k < 2 ^ eN (wE w) := dfN_lt (and_lt8r (prN_lt2 _ _))
    have hpw := pw8 ho.n8
    have hdl := dfN_lt (b := swO w k) (show s < 2 ^ 30 by omega)
    have hsl : swF w k s ≤ s := sw_le s
    have hnl : n ≤ s := by rw [hbb]; exact hsl
    have hpc := pcN_le (swO w k)
    refine tt_iload d_X_sways_89 rfl ?_
    refine tt_iconst (v := nI 1) d_X_sways_91 (by decide) ?_
    refine tt_aload_n d_X_sways_92 rfl ?_
    refine tt_getR d_X_sways_93 rfl rfl (by decide) rfl rfl ?_
    refine tn_get d_X_sways_96 rfl rfl (by decide) rfl h.n ?_
    refine tt_ishl d_X_sways_99 ?_
    refine tt_top (shl_9 _ (by omega)) ?_
    refine tn_ic_ge (t := 140) (by omega) (by omega) d_X_sways_100 (by decide) (fun c_100 => ?_) (fun c_100 => ?_)
    · obtain rfl : s = 2 ^ eN (wE w) := by omega
      replace hbb : n = swF w k (swO w k + 1) := hbb.trans (fsN_all hol)
      subst hbb
      refine tt_aload_n d_X_sways_140 rfl ?_
      refine tt_getR d_X_sways_141 rfl rfl (by decide) rfl rfl ?_
      refine tt_callV (xq_start (d := d) h) cw_Told_start rfl rfl (by decide) rfl (by omega) d_X_sways_144 rfl rfl (Nat.le_of_ble_eq_true rfl) (Nat.le_of_ble_eq_true rfl) rfl rfl rfl (fun v σ2 q => ?_)
      obtain ⟨rfl, h, hd, hf⟩ := q
      refine tt_aload_n d_X_sways_147 rfl ?_
      refine tt_getR d_X_sways_148 rfl rfl (by decide) rfl rfl ?_
      refine tt_iconst (v := nI 1) d_X_sways_151 (by decide) ?_
      refine tt_iload_n d_X_sways_152 rfl ?_
      refine tt_callS (x_bitN (d := d) (by omega)) cw_Integer_bitCount rfl (by omega) d_X_sways_153 rfl rfl (Nat.le_of_ble_eq_true rfl) (Nat.le_of_ble_eq_true rfl) rfl rfl rfl (fun v σ2 q => ?_)
      obtain ⟨rfl, e9⟩ := q
      rw [e9]
      clear e9
      refine tt_ishl d_X_sways_156 ?_
      refine tt_top (shl_9 _ (by omega)) ?_
      refine tt_i2l d_X_sways_157 ?_
      refine tt_callV (xq_add (d := d) h hd (Nat.le_of_ble_eq_true rfl)) cw_Told_add rfl rfl (by decide) rfl (by omega) d_X_sways_158 rfl rfl (Nat.le_of_ble_eq_true rfl) (Nat.le_of_ble_eq_true rfl) rfl rfl rfl (fun v σ2 q => ?_)
      obtain ⟨rfl, h, hd, hf⟩ := q
      refine tt_iload_n d_X_sways_161 rfl ?_
      refine tt_iret rfl d_X_sways_162 ?_
      exact ⟨rfl, h.done hd, h.2.1⟩
    · have ho1 := or_lt8 (s := s) (k := k) (by omega) hk
      refine tt_iload d_X_sways_103 rfl ?_
      refine tt_iload_n d_X_sways_105 rfl ?_
      refine tt_iconst (v := (-1)) d_X_sways_106 (by decide) ?_
      refine tt_ixor d_X_sways_107 ?_
      refine tt_iand d_X_sways_108 ?_
      refine tt_top (an_N _ _) ?_
      refine tn_if_ne (t := 134) (by omega) d_X_sways_109 (by decide) (fun c_109 => ?_) (fun c_109 => ?_)
      · have hz := sw_o hbb c_109
        refine tt_iinc (lv2 := [_, _, _, _, _]) d_X_sways_134 rfl (nI_inc _ 1) (by decide) rfl ?_
        refine tt_goto (t := 89) d_X_sways_137 (by decide) ?_
        exact ih (2 ^ eN (wE w) - (s + 1)) (by omega) (s + 1) _ _ rfl (by omega) h hM hz
      · refine tt_aload_n d_X_sways_112 rfl ?_
        refine tt_iload d_X_sways_113 rfl ?_
        refine tt_callV (xq_goesWith (d := d) (s := s) h ho hM) cw_X_goesWith rfl rfl (by decide) rfl (by omega) d_X_sways_115 rfl rfl (Nat.le_of_ble_eq_true rfl) (Nat.le_of_ble_eq_true rfl) rfl rfl rfl (fun v σ2 q => ?_)
        obtain ⟨rfl, h, hM, hu⟩ := q
        refine tt_aload_n d_X_sways_118 rfl ?_
        refine tt_iload d_X_sways_119 rfl ?_
        refine tt_iconst (v := nI 1) d_X_sways_121 (by decide) ?_
        refine tt_iload_n d_X_sways_122 rfl ?_
        refine tt_ishl d_X_sways_123 ?_
        refine tt_top (shl_9 _ (by omega)) ?_
        refine tt_ior d_X_sways_124 ?_
        refine tt_top (or_N _ _) ?_
        refine tt_callV (xq_goesWith (d := d) (s := s ||| 2 ^ k) h ho hM) cw_X_goesWith rfl rfl (by decide) rfl (by omega) d_X_sways_125 rfl rfl (Nat.le_of_ble_eq_true rfl) (Nat.le_of_ble_eq_true rfl) rfl rfl rfl (fun v σ2 q => ?_)
        obtain ⟨rfl, h, hM, hu⟩ := q
        refine tt_ic_eq (t := 134) d_X_sways_128 (by decide) (fun c_128 => ?_) (fun c_128 => ?_)
        · have hz := sw_f hbb c_109 ((b2I_inj goV_lt goV_lt).mp c_128)
          refine tt_iinc (lv2 := [_, _, _, _, _]) d_X_sways_134 rfl (nI_inc _ 1) (by decide) rfl ?_
          refine tt_goto (t := 89) d_X_sways_137 (by decide) ?_
          exact ih (2 ^ eN (wE w) - (s + 1)) (by omega) (s + 1) _ _ rfl (by omega) h hM hz
        · have hz := sw_t hbb c_109 (fun q => c_128 ((b2I_inj goV_lt goV_lt).mpr q))
          refine tt_iinc (lv2 := [_, _, _, _, _]) d_X_sways_131 rfl (nI_inc _ 1) (by decide) rfl ?_
          refine tt_iinc (lv2 := [_, _, _, _, _]) d_X_sways_134 rfl (nI_inc _ 1) (by decide) rfl ?_
          refine tt_goto (t := 89) d_X_sways_137 (by decide) ?_
          exact ih (2 ^ eN (wE w) - (s + 1)) (by omega) (s + 1) _ _ rfl (by omega) h hM hz

set_option maxHeartbeats 4000000 in
theorem xc_sways {l : xLa} {d : Nat} {σ : xs} {w : wv} (ho : okQ w) (hw : XW σ w) {i : Int32} : TC l M_X_sways (d + 30) [.ref 0, .int i] σ (fun r τ => r = some (.int ((q_sways w i).1)) ∧ XW τ (stD w ((q_sways w i).2)) ∧ XF σ τ) := by
  show T l M_X_sways (d + 30) 0 _ [] σ _
  refine T_lv (lv2 := [_, _, _, _, _]) rfl ?_
  have h := XQ.rf hw.v
  have hd0 := hw.2.2.2.1
  have hb0 := ho.fb
  have hb8 := ho.n8
  rcases inN_c i (eN (wE w)) with ⟨m, hm, rfl, hq⟩ | ⟨hq, hb⟩
  · have hqv : q_sways w (nI m) = if (wV w 0 5 &&& prN (wV w) (eN (wE w))).testBit m = true then (nI (swF w m (swO w m + 1)), some [(nI (2 ^ pcN (swO w m))).toInt64]) else (-2, none) := by unfold q_sways; rw [hq]
    rw [hqv]
    have htb := tbN_c (wV w 0 5) m
    have h3 := okV_3 ho.1 ho.2.1 m hm
    have hg := gI_c (g := wV w 3 m) (by omega)
    have htt : (wV w 0 5 &&& prN (wV w) (eN (wE w))).testBit m = true ↔ (wV w 0 5).testBit m = true ∧ ¬ wV w 3 m = 0 := by
      rw [Nat.testBit_and, Bool.and_eq_true, prN_t]
      exact ⟨fun q => ⟨q.1, q.2.2⟩, fun q => ⟨q.1, hm, q.2⟩⟩
    have hpl := prN_lt (wV w) ho.n8
    have h5 := ho.h5
    refine tt_aload_n d_X_sways_0 rfl ?_
    refine tt_getR d_X_sways_1 rfl rfl (by decide) rfl rfl ?_
    refine tt_iload_n d_X_sways_4 rfl ?_
    refine tt_callV (x_School_has (d := d) h.n ho.n8) cw_School_has rfl rfl (by decide) rfl (by omega) d_X_sways_5 rfl rfl (Nat.le_of_ble_eq_true rfl) (Nat.le_of_ble_eq_true rfl) rfl rfl rfl (fun v σ2 q => ?_)
    obtain ⟨rfl, e9⟩ := q
    rw [e9, X_in_N hm (by omega)]
    clear e9
    refine tn_if_ne (t := 13) (by omega) d_X_sways_8 (by decide) (fun c_8 => ?_) (fun c_8 => ?_)
    · refine tt_aload_n d_X_sways_13 rfl ?_
      refine tt_getR d_X_sways_14 rfl rfl (by decide) rfl rfl ?_
      refine tt_iload_n d_X_sways_17 rfl ?_
      refine tt_callV (x_holdN (d := d) isS_20 h.1.2.1 ho.h5 (by omega)) cw_State_holds rfl rfl (by decide) rfl (by omega) d_X_sways_18 rfl rfl (Nat.le_of_ble_eq_true rfl) (Nat.le_of_ble_eq_true rfl) rfl rfl rfl (fun v σ2 q => ?_)
      obtain ⟨rfl, e9⟩ := q
      rw [e9]
      clear e9
      refine tn_if_eq (t := 37) (by omega) d_X_sways_21 (by decide) (fun c_21 => ?_) (fun c_21 => ?_)
      · rw [if_neg (fun q => htb.2.2.mp c_21 (htt.mp q).1)]
        refine tt_bipush (v := (-2)) d_X_sways_37 (by decide) ?_
        refine tt_iret rfl d_X_sways_39 ?_
        exact ⟨rfl, h.none hd0, h.2.1⟩
      · refine tt_aload_n d_X_sways_24 rfl ?_
        refine tt_getR d_X_sways_25 rfl rfl (by decide) rfl rfl ?_
        refine tt_getR d_X_sways_28 rfl rfl (by decide) rfl rfl ?_
        refine tt_iload_n d_X_sways_31 rfl ?_
        refine tn_iald d_X_sways_32 rfl (by decide) (by omega) (h.t3 (by omega)) ?_
        refine tt_iconst (v := (-1)) d_X_sways_33 (by decide) ?_
        refine tt_ic_ne (t := 40) d_X_sways_34 (by decide) (fun c_34 => ?_) (fun c_34 => ?_)
        · rw [if_pos (htt.mpr ⟨htb.2.1.mp (by omega), fun q => c_34 (hg.1.mpr q)⟩)]
          have hal := and_lt8 (a := prN (wV w) (eN (wE w))) (b := wV w 0 5) hpl
          refine tt_aload_n d_X_sways_40 rfl ?_
          refine tt_getR d_X_sways_41 rfl rfl (by decide) rfl rfl ?_
          refine tt_aload_n d_X_sways_44 rfl ?_
          refine tt_getR d_X_sways_45 rfl rfl (by decide) rfl rfl ?_
          refine tn_get d_X_sways_48 rfl rfl (by decide) rfl h.n ?_
          refine tt_callV (x_promN (d := d) isS_20 ho.1 ho.2.1 h.1.2.1) cw_State_promised rfl rfl (by decide) rfl (by omega) d_X_sways_51 rfl rfl (Nat.le_of_ble_eq_true rfl) (Nat.le_of_ble_eq_true rfl) rfl rfl rfl (fun v σ2 q => ?_)
          obtain ⟨rfl, e9⟩ := q
          rw [e9]
          clear e9
          refine tt_aload_n d_X_sways_54 rfl ?_
          refine tt_getR d_X_sways_55 rfl rfl (by decide) rfl rfl ?_
          refine tn_get d_X_sways_58 rfl rfl (by decide) rfl (h.v 5 (by decide)) ?_
          refine tt_iand d_X_sways_61 ?_
          refine tt_top (and_N _ _) ?_
          refine tt_iconst (v := nI 1) d_X_sways_62 (by decide) ?_
          refine tt_iload_n d_X_sways_63 rfl ?_
          refine tt_ishl d_X_sways_64 ?_
          refine tt_top (shl_9 _ (by omega)) ?_
          refine tt_iconst (v := (-1)) d_X_sways_65 (by decide) ?_
          refine tt_ixor d_X_sways_66 ?_
          refine tt_iand d_X_sways_67 ?_
          refine tt_top (an_N _ _) ?_
          refine tt_istore_n (lv2 := [_, _, _, _, _]) d_X_sways_68 (by decide) rfl ?_
          refine tt_aload_n d_X_sways_69 rfl ?_
          refine tt_getR d_X_sways_70 rfl rfl (by decide) rfl rfl ?_
          refine tt_aload_n d_X_sways_73 rfl ?_
          refine tt_getR d_X_sways_74 rfl rfl (by decide) rfl rfl ?_
          refine tt_aload_n d_X_sways_77 rfl ?_
          refine tt_getP d_X_sways_78 rfl ?_
          refine tt_callV (xq_measure (d := d) h ho.1 ho.2.1) cw_Tug_measure rfl rfl (by decide) rfl (by omega) d_X_sways_81 rfl rfl (Nat.le_of_ble_eq_true rfl) (Nat.le_of_ble_eq_true rfl) rfl rfl rfl (fun v σ2 q => ?_)
          obtain ⟨rfl, h, hM, hu⟩ := q
          replace hd0 := hd0.tn hu
          refine tt_iconst (v := nI 0) d_X_sways_84 (by decide) ?_
          refine tt_istore_n (lv2 := [_, _, _, _, _]) d_X_sways_85 (by decide) rfl ?_
          refine tt_iconst (v := nI 0) d_X_sways_86 (by decide) ?_
          refine tt_istore (lv2 := [_, _, _, _, _]) d_X_sways_87 (by decide) rfl ?_
          rw [Nat.and_comm (prN (wV w) (eN (wE w)))]
          have e0 : dfN (wV w 0 5 &&& prN (wV w) (eN (wE w))) (2 ^ m) = swO w m := rfl
          rw [e0]
          exact x_sways_l (by omega) ho (2 ^ eN (wE w)) 0 0 _ rfl (Nat.zero_le _) h hM rfl
        · rw [if_neg (fun q => (htt.mp q).2 (hg.1.mp (Decidable.not_not.mp c_34)))]
          refine tt_bipush (v := (-2)) d_X_sways_37 (by decide) ?_
          refine tt_iret rfl d_X_sways_39 ?_
          exact ⟨rfl, h.none hd0, h.2.1⟩
    · exact absurd c_8 (by decide)
  · have hqv : q_sways w i = (-1, none) := by unfold q_sways; rw [hq]
    rw [hqv]
    refine tt_aload_n d_X_sways_0 rfl ?_
    refine tt_getR d_X_sways_1 rfl rfl (by decide) rfl rfl ?_
    refine tt_iload_n d_X_sways_4 rfl ?_
    refine tt_callV (x_School_has (d := d) h.n ho.n8) cw_School_has rfl rfl (by decide) rfl (by omega) d_X_sways_5 rfl rfl (Nat.le_of_ble_eq_true rfl) (Nat.le_of_ble_eq_true rfl) rfl rfl rfl (fun v σ2 q => ?_)
    obtain ⟨rfl, e9⟩ := q
    rw [e9, X_in_none hb]
    clear e9
    refine tn_if_ne (t := 13) (by omega) d_X_sways_8 (by decide) (fun c_8 => ?_) (fun c_8 => ?_)
    · exact absurd c_8 (by decide)
    · refine tt_iconst (v := (-1)) d_X_sways_11 (by decide) ?_
      refine tt_iret rfl d_X_sways_12 ?_
      exact ⟨rfl, h.none hd0, h.2.1⟩

set_option maxHeartbeats 4000000 in
theorem y_sways_l {l : xLa} {d : Nat} {σ : xs} {c : Nat} {w : wv} {k : Nat} (hk : k < 8) (ho : okQ w) : ∀ (m : Nat) (s n : Nat) (τ : xs), swO w k + 1 - s = m → s ≤ swO w k + 1 → YQ c w σ τ → (∀ j, j < eN (wE w) → si τ 169 j = plV (wE w) (wV w) j) → n = swF w k s → T l M_Y_sways (d + 150) 66 [some (.ref 154), some (.int (nI k)), some (.int (nI (wV w 0 5 &&& prN (wV w) (eN (wE w))))), some (.int (nI (swO w k))), some (.int (nI n)), some (.int (nI s))] [] τ (fun r τ => r = some (.int (nI (swF w k (swO w k + 1)))) ∧ YW τ c (stD w (some [(nI (2 ^ pcN (swO w k))).toInt64])) ∧ YF σ τ) := by
  have hb0 := ho.fb
  have hb8 := ho.n8
  intro m
  induction m using Nat.strongRecOn with
  | ind m ih =>
    intro s n τ hm hs h hM hbb
    have hol0 : swO w k < 2 ^ eN (wE w) := dfN_lt (and_lt8r (prN_lt2 _ _))
    have hpw0 := pw8 ho.n8
    have hol : swO w k < 2 ^ eN (wE w) := dfN_lt (and_lt8r (prN_lt2 _ _))
    have hpw := pw8 ho.n8
    have hdl := dfN_lt (b := swO w k) (show s < 2 ^ 30 by omega)
    have hsl : swF w k s ≤ s := sw_le s
    have hnl : n ≤ s := by rw [hbb]; exact hsl
    have hpc := pcN_le (swO w k)
    have hg1 := g4_c (goV_lt (e := wE w) (v := wV w) (z := nI s))
    have hg2 := g4_c (goV_lt (e := wE w) (v := wV w) (z := nI (s ||| 2 ^ k)))
    refine tt_iload d_Y_sways_66 rfl ?_
    refine tt_iload_n d_Y_sways_68 rfl ?_
    refine tn_ic_gt (t := 127) (by omega) (by omega) d_Y_sways_69 (by decide) (fun c_69 => ?_) (fun c_69 => ?_)
    · obtain rfl : s = swO w k + 1 := by omega
      subst hbb
      refine tt_aload_n d_Y_sways_127 rfl ?_
      refine tt_iconst (v := nI 0) d_Y_sways_128 (by decide) ?_
      refine tt_putI d_Y_sways_129 rfl rfl (by decide) rfl (xpok_int rfl) rfl ?_
      replace h := h.td0
      have hd := YD_0t h
      refine tt_aload_n d_Y_sways_132 rfl ?_
      refine tt_iconst (v := nI 1) d_Y_sways_133 (by decide) ?_
      refine tt_iload_n d_Y_sways_134 rfl ?_
      refine tt_callS (x_bitN (d := d) (by omega)) cw_Integer_bitCount rfl (by omega) d_Y_sways_135 rfl rfl (Nat.le_of_ble_eq_true rfl) (Nat.le_of_ble_eq_true rfl) rfl rfl rfl (fun v σ2 q => ?_)
      obtain ⟨rfl, e9⟩ := q
      rw [e9]
      clear e9
      refine tt_ishl d_Y_sways_138 ?_
      refine tt_top (shl_9 _ (by omega)) ?_
      refine tt_i2l d_Y_sways_139 ?_
      refine tt_callV (yq_add (d := d) h hd (Nat.le_of_ble_eq_true rfl)) cw_Y_enters rfl rfl (by decide) rfl (by omega) d_Y_sways_140 rfl rfl (Nat.le_of_ble_eq_true rfl) (Nat.le_of_ble_eq_true rfl) rfl rfl rfl (fun v σ2 q => ?_)
      obtain ⟨rfl, h, hd, hf⟩ := q
      refine tt_iload d_Y_sways_143 rfl ?_
      refine tt_iret rfl d_Y_sways_145 ?_
      exact ⟨rfl, h.done hd, h.2⟩
    · have ho1 := or_lt8 (s := s) (k := k) (by omega) hk
      refine tt_iload d_Y_sways_72 rfl ?_
      refine tt_iload d_Y_sways_74 rfl ?_
      refine tt_iload_n d_Y_sways_76 rfl ?_
      refine tt_iconst (v := (-1)) d_Y_sways_77 (by decide) ?_
      refine tt_ixor d_Y_sways_78 ?_
      refine tt_iand d_Y_sways_79 ?_
      refine tt_top (an_N _ _) ?_
      refine tn_if_ne (t := 114) (by omega) d_Y_sways_80 (by decide) (fun c_80 => ?_) (fun c_80 => ?_)
      · have hz := sw_o hbb c_80
        refine tt_iconst (v := nI 0) d_Y_sways_114 (by decide) ?_
        refine tt_callS (y_flagN (d := d) (by omega)) cw_Y_flag rfl (by omega) d_Y_sways_115 rfl rfl (Nat.le_of_ble_eq_true rfl) (Nat.le_of_ble_eq_true rfl) rfl rfl rfl (fun v σ2 q => ?_)
        obtain ⟨rfl, e9⟩ := q
        rw [e9]
        clear e9
        refine tn_iadd d_Y_sways_118 ?_
        refine tt_istore (lv2 := [_, _, _, _, _, _]) d_Y_sways_119 (by decide) rfl ?_
        refine tt_iinc (lv2 := [_, _, _, _, _, _]) d_Y_sways_121 rfl (nI_inc _ 1) (by decide) rfl ?_
        refine tt_goto (t := 66) d_Y_sways_124 (by decide) ?_
        exact ih (swO w k + 1 - (s + 1)) (by omega) (s + 1) _ _ rfl (by omega) h hM hz
      · refine tt_aload_n d_Y_sways_83 rfl ?_
        refine tt_aload_n d_Y_sways_84 rfl ?_
        refine tt_getR d_Y_sways_85 rfl rfl (by decide) rfl rfl ?_
        refine tt_iload d_Y_sways_88 rfl ?_
        refine tt_callV (yq_goesBy (d := d) (ms := s) h (by omega) ho.1 ho.2.1 hM) cw_Y_goesBy rfl rfl (by decide) rfl (by omega) d_Y_sways_90 rfl rfl (Nat.le_of_ble_eq_true rfl) (Nat.le_of_ble_eq_true rfl) rfl rfl rfl (fun v σ2 q => ?_)
        obtain ⟨rfl, h, hu, hM, -⟩ := q
        refine tt_aload_n d_Y_sways_93 rfl ?_
        refine tt_aload_n d_Y_sways_94 rfl ?_
        refine tt_getR d_Y_sways_95 rfl rfl (by decide) rfl rfl ?_
        refine tt_iload d_Y_sways_98 rfl ?_
        refine tt_iconst (v := nI 1) d_Y_sways_100 (by decide) ?_
        refine tt_iload_n d_Y_sways_101 rfl ?_
        refine tt_ishl d_Y_sways_102 ?_
        refine tt_top (shl_9 _ (by omega)) ?_
        refine tt_ior d_Y_sways_103 ?_
        refine tt_top (or_N _ _) ?_
        refine tt_callV (yq_goesBy (d := d) (ms := s ||| 2 ^ k) h ho1 ho.1 ho.2.1 hM) cw_Y_goesBy rfl rfl (by decide) rfl (by omega) d_Y_sways_104 rfl rfl (Nat.le_of_ble_eq_true rfl) (Nat.le_of_ble_eq_true rfl) rfl rfl rfl (fun v σ2 q => ?_)
        obtain ⟨rfl, h, hu, hM, -⟩ := q
        refine tn_ic_eq (t := 114) (by omega) (by omega) d_Y_sways_107 (by decide) (fun c_107 => ?_) (fun c_107 => ?_)
        · have hz := sw_f hbb c_80 ((g4_inj goV_lt goV_lt).mp c_107)
          refine tt_iconst (v := nI 0) d_Y_sways_114 (by decide) ?_
          refine tt_callS (y_flagN (d := d) (by omega)) cw_Y_flag rfl (by omega) d_Y_sways_115 rfl rfl (Nat.le_of_ble_eq_true rfl) (Nat.le_of_ble_eq_true rfl) rfl rfl rfl (fun v σ2 q => ?_)
          obtain ⟨rfl, e9⟩ := q
          rw [e9]
          clear e9
          refine tn_iadd d_Y_sways_118 ?_
          refine tt_istore (lv2 := [_, _, _, _, _, _]) d_Y_sways_119 (by decide) rfl ?_
          refine tt_iinc (lv2 := [_, _, _, _, _, _]) d_Y_sways_121 rfl (nI_inc _ 1) (by decide) rfl ?_
          refine tt_goto (t := 66) d_Y_sways_124 (by decide) ?_
          exact ih (swO w k + 1 - (s + 1)) (by omega) (s + 1) _ _ rfl (by omega) h hM hz
        · have hz := sw_t hbb c_80 (fun q => c_107 ((g4_inj goV_lt goV_lt).mpr q))
          refine tt_iconst (v := nI 1) d_Y_sways_110 (by decide) ?_
          refine tt_goto (t := 115) d_Y_sways_111 (by decide) ?_
          refine tt_callS (y_flagN (d := d) (by omega)) cw_Y_flag rfl (by omega) d_Y_sways_115 rfl rfl (Nat.le_of_ble_eq_true rfl) (Nat.le_of_ble_eq_true rfl) rfl rfl rfl (fun v σ2 q => ?_)
          obtain ⟨rfl, e9⟩ := q
          rw [e9]
          clear e9
          refine tn_iadd d_Y_sways_118 ?_
          refine tt_istore (lv2 := [_, _, _, _, _, _]) d_Y_sways_119 (by decide) rfl ?_
          refine tt_iinc (lv2 := [_, _, _, _, _, _]) d_Y_sways_121 rfl (nI_inc _ 1) (by decide) rfl ?_
          refine tt_goto (t := 66) d_Y_sways_124 (by decide) ?_
          exact ih (swO w k + 1 - (s + 1)) (by omega) (s + 1) _ _ rfl (by omega) h hM hz

set_option maxHeartbeats 4000000 in
theorem yc_sways {l : xLa} {d c : Nat} {σ : xs} {w : wv} (ho : okQ w) (hw : YW σ c w) {i : Int32} : TC l M_Y_sways (d + 150) [.ref 154, .int i] σ (fun r τ => r = some (.int ((q_sways w i).1)) ∧ YW τ c (stD w ((q_sways w i).2)) ∧ YF σ τ) := by
  show T l M_Y_sways (d + 150) 0 _ [] σ _
  refine T_lv (lv2 := [_, _, _, _, _, _]) rfl ?_
  have h := YQ.rf hw.v
  have hd0 := hw.2.2.2.1
  have hb0 := ho.fb
  have hb8 := ho.n8
  rcases inN_c i (eN (wE w)) with ⟨m, hm, rfl, hq⟩ | ⟨hq, hb⟩
  · have hqv : q_sways w (nI m) = if (wV w 0 5 &&& prN (wV w) (eN (wE w))).testBit m = true then (nI (swF w m (swO w m + 1)), some [(nI (2 ^ pcN (swO w m))).toInt64]) else (-2, none) := by unfold q_sways; rw [hq]
    rw [hqv]
    have htb := tbN_c (wV w 0 5) m
    have h3 := okV_3 ho.1 ho.2.1 m hm
    have hg := gI_c (g := wV w 3 m) (by omega)
    have htt : (wV w 0 5 &&& prN (wV w) (eN (wE w))).testBit m = true ↔ (wV w 0 5).testBit m = true ∧ ¬ wV w 3 m = 0 := by
      rw [Nat.testBit_and, Bool.and_eq_true, prN_t]
      exact ⟨fun q => ⟨q.1, q.2.2⟩, fun q => ⟨q.1, hm, q.2⟩⟩
    have hpl := prN_lt (wV w) ho.n8
    have h5 := ho.h5
    refine tt_aload_n d_Y_sways_0 rfl ?_
    refine tt_iconst (v := nI 0) d_Y_sways_1 (by decide) ?_
    refine tt_putI d_Y_sways_2 rfl rfl (by decide) rfl (xpok_int rfl) rfl ?_
    replace h := h.thr (x := nI 0)
    replace hd0 := hd0.thr (x := nI 0)
    refine tt_aload_n d_Y_sways_5 rfl ?_
    refine tt_iload_n d_Y_sways_6 rfl ?_
    refine tt_callV (y_isFish (d := d) h.e.1.2.2.1 ho.n8) cw_Y_isFish rfl rfl (by decide) rfl (by omega) d_Y_sways_7 rfl rfl (Nat.le_of_ble_eq_true rfl) (Nat.le_of_ble_eq_true rfl) rfl rfl rfl (fun v σ2 q => ?_)
    obtain ⟨rfl, e9⟩ := q
    rw [e9, X_in_N hm (by omega)]
    clear e9
    refine tn_if_ne (t := 15) (by omega) d_Y_sways_10 (by decide) (fun c_10 => ?_) (fun c_10 => ?_)
    · refine tt_aload_n d_Y_sways_15 rfl ?_
      refine tt_getR d_Y_sways_16 rfl rfl (by decide) rfl rfl ?_
      refine tt_bipush (v := nI 33) d_Y_sways_19 (by decide) ?_
      refine tn_iald d_Y_sways_21 rfl (by decide) (by omega) (h.1.2.1.1.2.1) ?_
      refine tt_aload_n d_Y_sways_22 rfl ?_
      refine tt_aload_n d_Y_sways_23 rfl ?_
      refine tt_getR d_Y_sways_24 rfl rfl (by decide) rfl rfl ?_
      refine tt_callV (y_promN (d := d) isY_160 ho.1 ho.2.1 h.e.1.2.2.1 h.1.2.1) cw_Y_promised rfl rfl (by decide) rfl (by omega) d_Y_sways_27 rfl rfl (Nat.le_of_ble_eq_true rfl) (Nat.le_of_ble_eq_true rfl) rfl rfl rfl (fun v σ2 q => ?_)
      obtain ⟨rfl, e9⟩ := q
      rw [e9]
      clear e9
      have hal := and_lt8 (a := wV w 0 5) (b := prN (wV w) (eN (wE w))) h5
      have hta := tbN_c (wV w 0 5 &&& prN (wV w) (eN (wE w))) m
      refine tt_iand d_Y_sways_30 ?_
      refine tt_top (and_N _ _) ?_
      refine tt_istore_n (lv2 := [_, _, _, _, _, _]) d_Y_sways_31 (by decide) rfl ?_
      refine tt_iload_n d_Y_sways_32 rfl ?_
      refine tt_i2l d_Y_sways_33 ?_
      refine tt_iload_n d_Y_sways_34 rfl ?_
      refine tt_callS (y_hasN (d := d) (by omega) (by omega)) cw_Y_has rfl (by omega) d_Y_sways_35 rfl rfl (Nat.le_of_ble_eq_true rfl) (Nat.le_of_ble_eq_true rfl) rfl rfl rfl (fun v σ2 q => ?_)
      obtain ⟨rfl, e9⟩ := q
      rw [e9]
      clear e9
      refine tn_if_ne (t := 44) (by omega) d_Y_sways_38 (by decide) (fun c_38 => ?_) (fun c_38 => ?_)
      · rw [if_pos (Decidable.not_not.mp (fun q => c_38 (hta.2.2.mpr q)))]
        refine tt_aload_n d_Y_sways_44 rfl ?_
        refine tt_aload_n d_Y_sways_45 rfl ?_
        refine tt_getR d_Y_sways_46 rfl rfl (by decide) rfl rfl ?_
        refine tt_callV (yq_pulls (d := d) h ho.1 ho.2.1) cw_Y_laysPulls rfl rfl (by decide) rfl (by omega) d_Y_sways_49 rfl rfl (Nat.le_of_ble_eq_true rfl) (Nat.le_of_ble_eq_true rfl) rfl rfl rfl (fun v σ2 q => ?_)
        obtain ⟨rfl, h, hu, hM⟩ := q
        replace hd0 := hd0.un hu
        refine tt_iload_n d_Y_sways_52 rfl ?_
        refine tt_iconst (v := nI 1) d_Y_sways_53 (by decide) ?_
        refine tt_iload_n d_Y_sways_54 rfl ?_
        refine tt_ishl d_Y_sways_55 ?_
        refine tt_top (shl_9 _ (by omega)) ?_
        refine tt_iconst (v := (-1)) d_Y_sways_56 (by decide) ?_
        refine tt_ixor d_Y_sways_57 ?_
        refine tt_iand d_Y_sways_58 ?_
        refine tt_top (an_N _ _) ?_
        refine tt_istore_n (lv2 := [_, _, _, _, _, _]) d_Y_sways_59 (by decide) rfl ?_
        refine tt_iconst (v := nI 0) d_Y_sways_60 (by decide) ?_
        refine tt_istore (lv2 := [_, _, _, _, _, _]) d_Y_sways_61 (by decide) rfl ?_
        refine tt_iconst (v := nI 0) d_Y_sways_63 (by decide) ?_
        refine tt_istore (lv2 := [_, _, _, _, _, _]) d_Y_sways_64 (by decide) rfl ?_
        have e0 : dfN (wV w 0 5 &&& prN (wV w) (eN (wE w))) (2 ^ m) = swO w m := rfl
        rw [e0]
        exact y_sways_l (by omega) ho (swO w m + 1) 0 0 _ rfl (by omega) h hM rfl
      · rw [if_neg (hta.2.2.mp c_38)]
        refine tt_bipush (v := (-2)) d_Y_sways_41 (by decide) ?_
        refine tt_iret rfl d_Y_sways_43 ?_
        exact ⟨rfl, h.none hd0, h.2⟩
    · exact absurd c_10 (by decide)
  · have hqv : q_sways w i = (-1, none) := by unfold q_sways; rw [hq]
    rw [hqv]
    refine tt_aload_n d_Y_sways_0 rfl ?_
    refine tt_iconst (v := nI 0) d_Y_sways_1 (by decide) ?_
    refine tt_putI d_Y_sways_2 rfl rfl (by decide) rfl (xpok_int rfl) rfl ?_
    replace h := h.thr (x := nI 0)
    replace hd0 := hd0.thr (x := nI 0)
    refine tt_aload_n d_Y_sways_5 rfl ?_
    refine tt_iload_n d_Y_sways_6 rfl ?_
    refine tt_callV (y_isFish (d := d) h.e.1.2.2.1 ho.n8) cw_Y_isFish rfl rfl (by decide) rfl (by omega) d_Y_sways_7 rfl rfl (Nat.le_of_ble_eq_true rfl) (Nat.le_of_ble_eq_true rfl) rfl rfl rfl (fun v σ2 q => ?_)
    obtain ⟨rfl, e9⟩ := q
    rw [e9, X_in_none hb]
    clear e9
    refine tn_if_ne (t := 15) (by omega) d_Y_sways_10 (by decide) (fun c_10 => ?_) (fun c_10 => ?_)
    · exact absurd c_10 (by decide)
    · refine tt_iconst (v := (-1)) d_Y_sways_13 (by decide) ?_
      refine tt_iret rfl d_Y_sways_14 ?_
      exact ⟨rfl, h.none hd0, h.2⟩

