/-! Small calls: sign, count. Printed by wip/whole. -/
/-! the signs of a number -/
theorem bv_sg (x : BitVec 32) {s : Nat} (hs : s ≤ 24) : x.sshiftRight s &&& 255#32 = x >>> s &&& 255#32 := by
  apply BitVec.eq_of_getLsbD_eq
  intro j hj
  rw [BitVec.getLsbD_and, BitVec.getLsbD_and]
  by_cases c : j < 8
  · rw [BitVec.getLsbD_sshiftRight, BitVec.getLsbD_ushiftRight, if_pos (by omega), decide_eq_false (by omega : ¬ 32 ≤ j), Bool.not_false, Bool.true_and]
  · have : (255#32).getLsbD j = false := by
      rw [BitVec.getLsbD_ofNat]
      rw [Nat.testBit_lt_two_pow (show 255 < 2 ^ j from Nat.lt_of_lt_of_le (by decide) (Nat.pow_le_pow_right (by decide) (show 8 ≤ j by omega))), Bool.and_false]
    rw [this, Bool.and_false, Bool.and_false]
def byN (v : Int32) (i : Nat) : Nat := v.toBitVec.toNat / 2 ^ (24 - 8 * i) % 256
theorem byN_lt (v : Int32) (i : Nat) : byN v i < 256 := Nat.mod_lt _ (by decide)
theorem bv_sn (x : BitVec 32) (s : Nat) : (x >>> s &&& 255#32) = BitVec.ofNat 32 (x.toNat / 2 ^ s % 256) := by
  apply BitVec.eq_of_toNat_eq
  rw [BitVec.toNat_and, BitVec.toNat_ushiftRight, BitVec.toNat_ofNat, BitVec.toNat_ofNat, Nat.shiftRight_eq_div_pow, show 255 % 2 ^ 32 = 2 ^ 8 - 1 from rfl, Nat.and_two_pow_sub_one_eq_mod]
  have := Nat.mod_lt (x.toNat / 2 ^ s) (show 0 < 256 by decide)
  rw [Nat.mod_eq_of_lt (show x.toNat / 2 ^ s % 256 < 2 ^ 32 by omega)]
theorem by_Y {v : Int32} {i : Nat} (hi : i < 4) : (v >>> ((nI 24 - nI 8 * nI i) &&& 31)) &&& nI 255 = nI (byN v i) := by
  apply Int32.toBitVec_inj.mp
  have e : ((v >>> ((nI 24 - nI 8 * nI i) &&& 31)) &&& nI 255).toBitVec = v.toBitVec.sshiftRight (24 - 8 * i) &&& 255#32 := by
    rcases (show i = 0 ∨ i = 1 ∨ i = 2 ∨ i = 3 by omega) with rfl | rfl | rfl | rfl <;> rfl
  rw [e, bv_sg _ (by omega), bv_sn]
  rfl
theorem by_X {v : Int32} {i : Nat} (hi : i < 4) : X_by v i = nI (byN v i) := by
  apply Int32.toBitVec_inj.mp
  have e : (X_by v i).toBitVec = (v.toBitVec >>> (24 - 8 * i) &&& 255#32) % 65536#32 := by
    rcases (show i = 0 ∨ i = 1 ∨ i = 2 ∨ i = 3 by omega) with rfl | rfl | rfl | rfl <;> rfl
  rw [e, bv_sn]
  apply BitVec.eq_of_toNat_eq
  rw [BitVec.toNat_umod, BitVec.toNat_ofNat, BitVec.toNat_ofNat]
  have := byN_lt v i
  have e2 : v.toBitVec.toNat / 2 ^ (24 - 8 * i) % 256 % 2 ^ 32 = byN v i := Nat.mod_eq_of_lt (by unfold byN at this; omega)
  rw [e2]
  rw [Nat.mod_eq_of_lt (show byN v i < 65536 % 2 ^ 32 from Nat.lt_trans this (by decide))]
  exact (show byN v i % 2 ^ 32 = byN v i from Nat.mod_eq_of_lt (Nat.lt_trans this (by decide))).symm
def sgT (t : Nat × (Nat → Nat)) (v : Int32) : Nat → Nat := fun j => if j < t.1 then t.2 j else byN v (j - t.1)
def a_sign (w : wv) (v : Int32) : Int32 × wv := if 76 < (wX w).1 then (-1, w) else (nI ((wX w).1 + 4), (wE w, wV w, ((wX w).1 + 4, sgT (wX w) v), wD w, wU w, wK w, wS w))
theorem XT_app {σ : xs} {t : Nat × (Nat → Nat)} {v : Int32} (h : XT σ t) : XT (X_app σ t.1 v 4) (t.1 + 4, sgT t v) := by
  refine ⟨rfl, fun i hi => ?_⟩
  have hi' : i < t.1 + 4 := hi
  show (if 2 = 2 then X_apf σ t.1 v 4 else si σ 2) i = nI (sgT t v i)
  rw [if_pos rfl]
  unfold X_apf sgT
  by_cases c : i < t.1
  · rw [if_neg (by omega), if_pos c, h.2 i c]
  · rw [if_pos (by omega), if_neg c, by_X (by omega)]
theorem Fq_app {σ : xs} {n i : Nat} {v : Int32} : Fq (fun c => c = 2) (fun c k => c = 1 ∧ k = 1) (fun _ => False) σ (X_app σ n v i) := Fq.tr (Fq.wA rfl) (Fq.wF ⟨rfl, rfl⟩)
theorem sg_st {τ : xs} {t : Nat × (Nat → Nat)} {v : Int32} {i : Nat} (hi : i < 4) (h : ∀ j, j < t.1 + i → si τ 162 j = nI (sgT t v j)) : ∀ j, j < t.1 + (i + 1) → si (wI τ 162 (t.1 + i) ((v >>> ((nI 24 - nI 8 * nI i) &&& 31)) &&& nI 255)) 162 j = nI (sgT t v j) := fun j hj => by
  rw [si_wI]
  by_cases c : j = t.1 + i
  · rw [if_pos ⟨rfl, c⟩, by_Y hi]
    unfold sgT
    rw [if_neg (by omega), show j - t.1 = i by omega]
  · rw [if_neg (fun q => c q.2)]
    exact h j (by omega)
set_option maxHeartbeats 4000000 in
theorem xc_sign {l : xLa} {d : Nat} {σ : xs} {w : wv} (ho : okQ w) (hw : XW σ w) (hx : (wX w).1 ≤ 80) {n : Int32} : TC l M_X_sign (d + 30) [.ref 0, .int n] σ (fun r τ => r = some (.int (a_sign w n).1) ∧ XW τ (a_sign w n).2 ∧ XF σ τ) := by
  show T l M_X_sign (d + 30) 0 _ [] σ _
  refine T_lv (lv2 := [_, _]) rfl ?_
  have h := XQ.rf hw.v
  have hd0 := hw.2.2.2.1
  have hb0 := ho.fb
  have hb8 := ho.n8
  have hX := hw.2.2.1
  unfold a_sign
  by_cases c9 : 76 < (wX w).1
  · rw [if_pos c9]
    refine tt_aload_n d_X_sign_0 rfl ?_
    refine tt_getR d_X_sign_1 rfl rfl (by decide) rfl rfl ?_
    refine tt_iload_n d_X_sign_4 rfl ?_
    refine tt_callV (x_Text_append (d := d) hX.1 hx) cw_Text_append rfl rfl (by decide) rfl (by omega) d_X_sign_5 rfl rfl (Nat.le_of_ble_eq_true rfl) (Nat.le_of_ble_eq_true rfl) rfl rfl rfl (fun v σ2 q => ?_)
    obtain ⟨rfl, e9⟩ := q
    rw [if_pos (show 80 < (wX w).1 + 4 by omega)] at e9
    rw [e9, if_pos (show 80 < (wX w).1 + 4 by omega)]
    clear e9
    refine tn_if_eq (t := 21) (by omega) d_X_sign_8 (by decide) (fun c_8 => ?_) (fun c_8 => ?_)
    · refine tt_iconst (v := (-1)) d_X_sign_21 (by decide) ?_
      refine tt_iret rfl d_X_sign_22 ?_
      exact ⟨rfl, h.ww hd0, h.2.1⟩
    · exact absurd rfl c_8
  · rw [if_neg c9]
    refine tt_aload_n d_X_sign_0 rfl ?_
    refine tt_getR d_X_sign_1 rfl rfl (by decide) rfl rfl ?_
    refine tt_iload_n d_X_sign_4 rfl ?_
    refine tt_callV (x_Text_append (d := d) hX.1 hx) cw_Text_append rfl rfl (by decide) rfl (by omega) d_X_sign_5 rfl rfl (Nat.le_of_ble_eq_true rfl) (Nat.le_of_ble_eq_true rfl) rfl rfl rfl (fun v σ2 q => ?_)
    obtain ⟨rfl, e9⟩ := q
    rw [if_neg (show ¬ 80 < (wX w).1 + 4 by omega)] at e9
    rw [e9, if_neg (show ¬ 80 < (wX w).1 + 4 by omega)]
    clear e9
    refine tn_if_eq (t := 21) (by omega) d_X_sign_8 (by decide) (fun c_8 => ?_) (fun c_8 => ?_)
    · exact absurd c_8 (by decide)
    · refine tt_aload_n d_X_sign_11 rfl ?_
      refine tt_getR d_X_sign_12 rfl rfl (by decide) rfl rfl ?_
      refine tt_callV (x_Text_length (d := d)) cw_Text_length rfl rfl (by decide) rfl (by omega) d_X_sign_15 rfl rfl (Nat.le_of_ble_eq_true rfl) (Nat.le_of_ble_eq_true rfl) rfl rfl rfl (fun v σ2 q => ?_)
      obtain ⟨rfl, e9⟩ := q
      rw [e9]
      clear e9
      refine tt_goto (t := 22) d_X_sign_18 (by decide) ?_
      refine tt_iret rfl d_X_sign_22 ?_
      have z := hw.putX Fq_app (XT_app (v := n) hX)
      exact ⟨rfl, z.1, z.2⟩

set_option maxHeartbeats 4000000 in
theorem y_sign_l {l : xLa} {d : Nat} {σ : xs} {c : Nat} {w : wv} {v : Int32} {t : Nat × (Nat → Nat)} (ho : okQ w) (hx : t.1 ≤ 76) : ∀ (m : Nat) (i : Nat) (τ : xs), 4 - i = m → i ≤ 4 → Fq (fun c => c = 162) (fun c k => c = 154 ∧ k = 15) (fun _ => False) σ τ → sf τ 154 15 = nI t.1 → (∀ j, j < t.1 + i → si τ 162 j = nI (sgT t v j)) → T l M_Y_sign (d + 150) 18 [some (.ref 154), some (.int v), some (.int (nI i))] [] τ (fun r υ => r = some (.int (nI (t.1 + 4))) ∧ Fq (fun c => c = 162) (fun c k => c = 154 ∧ k = 15) (fun _ => False) σ υ ∧ YT υ (t.1 + 4, sgT t v)) := by
  have hb0 := ho.fb
  have hb8 := ho.n8
  intro m
  induction m using Nat.strongRecOn with
  | ind m ih =>
    intro i τ hm hi hF hn hX
    refine tt_iload_n d_Y_sign_18 rfl ?_
    refine tt_iconst (v := nI 4) d_Y_sign_19 (by decide) ?_
    refine tn_ic_ge (t := 53) (by omega) (by omega) d_Y_sign_20 (by decide) (fun c_20 => ?_) (fun c_20 => ?_)
    · obtain rfl : i = 4 := by omega
      refine tt_aload_n d_Y_sign_53 rfl ?_
      refine tt_dup d_Y_sign_54 rfl ?_
      refine tn_get d_Y_sign_55 rfl rfl (by decide) rfl hn ?_
      refine tt_iconst (v := nI 4) d_Y_sign_58 (by decide) ?_
      refine tn_iadd d_Y_sign_59 ?_
      refine tt_putI d_Y_sign_60 rfl rfl (by decide) rfl (xpok_int rfl) rfl ?_
      refine tt_aload_n d_Y_sign_63 rfl ?_
      refine tn_get d_Y_sign_64 rfl rfl (by decide) rfl (show _ = nI (t.1 + 4) from rfl) ?_
      refine tt_iret rfl d_Y_sign_67 ?_
      exact ⟨rfl, hF.tr (Fq.wF ⟨rfl, rfl⟩), rfl, hX⟩
    · refine tt_aload_n d_Y_sign_23 rfl ?_
      refine tt_getR d_Y_sign_24 rfl rfl (by decide) rfl rfl ?_
      refine tt_aload_n d_Y_sign_27 rfl ?_
      refine tn_get d_Y_sign_28 rfl rfl (by decide) rfl hn ?_
      refine tt_iload_n d_Y_sign_31 rfl ?_
      refine tn_iadd d_Y_sign_32 ?_
      refine tt_iload_n d_Y_sign_33 rfl ?_
      refine tt_bipush (v := nI 24) d_Y_sign_34 (by decide) ?_
      refine tt_bipush (v := nI 8) d_Y_sign_36 (by decide) ?_
      refine tt_iload_n d_Y_sign_38 rfl ?_
      refine tt_imul d_Y_sign_39 ?_
      refine tt_isub d_Y_sign_40 ?_
      refine tt_ishr d_Y_sign_41 ?_
      refine tt_sipush (v := nI 255) d_Y_sign_42 (by decide) ?_
      refine tt_iand d_Y_sign_45 ?_
      refine tn_iast d_Y_sign_46 rfl (by decide) (by omega) ?_
      refine tt_iinc (lv2 := [_, _, _]) d_Y_sign_47 rfl (nI_inc _ 1) (by decide) rfl ?_
      refine tt_goto (t := 18) d_Y_sign_50 (by decide) ?_
      exact ih (4 - (i + 1)) (by omega) (i + 1) _ rfl (by omega) (hF.tr (Fq.wI rfl)) hn (sg_st (by omega) hX)

set_option maxHeartbeats 4000000 in
theorem yc_sign {l : xLa} {d c : Nat} {σ : xs} {w : wv} (ho : okQ w) (hw : YW σ c w) (hx : (wX w).1 ≤ 80) {n : Int32} : TC l M_Y_sign (d + 150) [.ref 154, .int n] σ (fun r τ => r = some (.int (a_sign w n).1) ∧ YW τ c (a_sign w n).2 ∧ YF σ τ) := by
  show T l M_Y_sign (d + 150) 0 _ [] σ _
  refine T_lv (lv2 := [_, _, _]) rfl ?_
  have h := YQ.rf hw.v
  have hd0 := hw.2.2.2.1
  have hb0 := ho.fb
  have hb8 := ho.n8
  have hX := hw.2.2.1
  unfold a_sign
  by_cases c9 : 76 < (wX w).1
  · rw [if_pos c9]
    refine tt_aload_n d_Y_sign_0 rfl ?_
    refine tt_iconst (v := nI 0) d_Y_sign_1 (by decide) ?_
    refine tt_putI d_Y_sign_2 rfl rfl (by decide) rfl (xpok_int rfl) rfl ?_
    replace h := h.thr (x := nI 0)
    replace hd0 := hd0.thr (x := nI 0)
    refine tt_aload_n d_Y_sign_5 rfl ?_
    refine tn_get d_Y_sign_6 rfl rfl (by decide) rfl h.1.2.2.1.1 ?_
    refine tt_bipush (v := nI 76) d_Y_sign_9 (by decide) ?_
    refine tn_ic_le (t := 16) (by omega) (by omega) d_Y_sign_11 (by decide) (fun c_11 => ?_) (fun c_11 => ?_)
    · omega
    · refine tt_iconst (v := (-1)) d_Y_sign_14 (by decide) ?_
      refine tt_iret rfl d_Y_sign_15 ?_
      exact ⟨rfl, h.ww hd0, h.2⟩
  · rw [if_neg c9]
    refine tt_aload_n d_Y_sign_0 rfl ?_
    refine tt_iconst (v := nI 0) d_Y_sign_1 (by decide) ?_
    refine tt_putI d_Y_sign_2 rfl rfl (by decide) rfl (xpok_int rfl) rfl ?_
    replace h := h.thr (x := nI 0)
    replace hd0 := hd0.thr (x := nI 0)
    refine tt_aload_n d_Y_sign_5 rfl ?_
    refine tn_get d_Y_sign_6 rfl rfl (by decide) rfl h.1.2.2.1.1 ?_
    refine tt_bipush (v := nI 76) d_Y_sign_9 (by decide) ?_
    refine tn_ic_le (t := 16) (by omega) (by omega) d_Y_sign_11 (by decide) (fun c_11 => ?_) (fun c_11 => ?_)
    · refine tt_iconst (v := nI 0) d_Y_sign_16 (by decide) ?_
      refine tt_istore_n (lv2 := [_, _, _]) d_Y_sign_17 (by decide) rfl ?_
      refine T.mono (y_sign_l (c := c) (t := wX w) ho (by omega) 4 0 _ rfl (by omega) Fq.rf h.1.2.2.1.1 (fun j hj => ?_)) ?_
      · rw [h.1.2.2.1.2 j (by omega)]
        unfold sgT
        rw [if_pos (by omega)]
      · rintro r υ ⟨rfl, z1, z2⟩
        have z := (h.ww hd0).putX z1 z2
        exact ⟨rfl, z.1, h.2.tr z.2⟩
    · omega

def cnN (w : wv) : Nat → Nat
  | 0 => eR (wE w)
  | 1 => eC (wE w)
  | 2 => eN (wE w)
  | 3 => wV w 0 0
  | 4 => wV w 0 1
  | 5 => wV w 0 2
  | 6 => wV w 0 3
  | 7 => wV w 0 4
  | 8 => eF (wE w) (wV w 0 4 % eL (wE w))
  | 9 => wV w 0 5
  | 10 => (wS w).1
  | 11 => (wU w).length
  | 12 => (wD w).1
  | _ => (wX w).1
def a_count (w : wv) (x : Int32) : Int32 := match rgN x 0 13 with
  | some m => nI (cnN w m)
  | none => -100
theorem s_tab_d {pc t : Nat} {lv : List (Option Value)} {r : List Value} {h : xH} {dflt lo hi : Int} {offs : Array Int} {x : Int32} (hx : x.toInt < lo ∨ hi < x.toInt) (ht : xj pc dflt = some t) : s_tab pc lv (.int x :: r) h dflt lo hi offs = some (t, lv, r, h) := by
  simp only [s_tab, if_pos hx, ht]
set_option maxHeartbeats 4000000 in
theorem xc_count {l : xLa} {d : Nat} {σ : xs} {w : wv} (ho : okQ w) (hw : XW σ w) {n : Int32} : TC l M_X_count (d + 30) [.ref 0, .int n] σ (fun r τ => r = some (.int ((a_count w n, w)).1) ∧ XW τ ((a_count w n, w)).2 ∧ XF σ τ) := by
  show T l M_X_count (d + 30) 0 _ [] σ _
  refine T_lv (lv2 := [_, _]) rfl ?_
  have h := XQ.rf hw.v
  have hd0 := hw.2.2.2.1
  have hb0 := ho.fb
  have hb8 := ho.n8
  have hfg : wV w 0 4 % eL (wE w) < 20 := Nat.lt_of_lt_of_le (Nat.mod_lt _ ho.1.1.2.2.2.2.2.1) ho.1.1.2.2.2.2.2.2
  have hUl : sf σ 35 2 = nI (wU w).length := by obtain ⟨k, hk, e1, e2, e3⟩ := hw.2.2.2.2.1; exact e2
  rcases rgN_c n 0 13 with ⟨m, hm1, hm2, hm3, rfl, hq⟩ | ⟨hq, hb⟩
  · have hqv : a_count w (nI m) = nI (cnN w m) := by unfold a_count; rw [hq]
    rw [hqv]
    refine tt_iload_n d_X_count_0 rfl ?_
    rcases (show m = 0 ∨ m = 1 ∨ m = 2 ∨ m = 3 ∨ m = 4 ∨ m = 5 ∨ m = 6 ∨ m = 7 ∨ m = 8 ∨ m = 9 ∨ m = 10 ∨ m = 11 ∨ m = 12 ∨ m = 13 by omega) with rfl | rfl | rfl | rfl | rfl | rfl | rfl | rfl | rfl | rfl | rfl | rfl | rfl | rfl
    · refine tt_tab (t := 72) d_X_count_1 rfl ?_
      refine tt_aload_n d_X_count_72 rfl ?_
      refine tt_getR d_X_count_73 rfl rfl (by decide) rfl rfl ?_
      refine tn_get d_X_count_76 rfl rfl (by decide) rfl h.r ?_
      refine tt_iret rfl d_X_count_79 ?_
      exact ⟨rfl, h.ww hd0, h.2.1⟩
    · refine tt_tab (t := 80) d_X_count_1 rfl ?_
      refine tt_aload_n d_X_count_80 rfl ?_
      refine tt_getR d_X_count_81 rfl rfl (by decide) rfl rfl ?_
      refine tn_get d_X_count_84 rfl rfl (by decide) rfl h.cl ?_
      refine tt_iret rfl d_X_count_87 ?_
      exact ⟨rfl, h.ww hd0, h.2.1⟩
    · refine tt_tab (t := 88) d_X_count_1 rfl ?_
      refine tt_aload_n d_X_count_88 rfl ?_
      refine tt_getR d_X_count_89 rfl rfl (by decide) rfl rfl ?_
      refine tn_get d_X_count_92 rfl rfl (by decide) rfl h.n ?_
      refine tt_iret rfl d_X_count_95 ?_
      exact ⟨rfl, h.ww hd0, h.2.1⟩
    · refine tt_tab (t := 96) d_X_count_1 rfl ?_
      refine tt_aload_n d_X_count_96 rfl ?_
      refine tt_getR d_X_count_97 rfl rfl (by decide) rfl rfl ?_
      refine tn_get d_X_count_100 rfl rfl (by decide) rfl (h.v 0 (by decide)) ?_
      refine tt_iret rfl d_X_count_103 ?_
      exact ⟨rfl, h.ww hd0, h.2.1⟩
    · refine tt_tab (t := 104) d_X_count_1 rfl ?_
      refine tt_aload_n d_X_count_104 rfl ?_
      refine tt_getR d_X_count_105 rfl rfl (by decide) rfl rfl ?_
      refine tn_get d_X_count_108 rfl rfl (by decide) rfl (h.v 1 (by decide)) ?_
      refine tt_iret rfl d_X_count_111 ?_
      exact ⟨rfl, h.ww hd0, h.2.1⟩
    · refine tt_tab (t := 112) d_X_count_1 rfl ?_
      refine tt_aload_n d_X_count_112 rfl ?_
      refine tt_getR d_X_count_113 rfl rfl (by decide) rfl rfl ?_
      refine tn_get d_X_count_116 rfl rfl (by decide) rfl (h.v 2 (by decide)) ?_
      refine tt_iret rfl d_X_count_119 ?_
      exact ⟨rfl, h.ww hd0, h.2.1⟩
    · refine tt_tab (t := 120) d_X_count_1 rfl ?_
      refine tt_aload_n d_X_count_120 rfl ?_
      refine tt_getR d_X_count_121 rfl rfl (by decide) rfl rfl ?_
      refine tn_get d_X_count_124 rfl rfl (by decide) rfl (h.v 3 (by decide)) ?_
      refine tt_iret rfl d_X_count_127 ?_
      exact ⟨rfl, h.ww hd0, h.2.1⟩
    · refine tt_tab (t := 128) d_X_count_1 rfl ?_
      refine tt_aload_n d_X_count_128 rfl ?_
      refine tt_getR d_X_count_129 rfl rfl (by decide) rfl rfl ?_
      refine tn_get d_X_count_132 rfl rfl (by decide) rfl (h.v 4 (by decide)) ?_
      refine tt_iret rfl d_X_count_135 ?_
      exact ⟨rfl, h.ww hd0, h.2.1⟩
    · refine tt_tab (t := 136) d_X_count_1 rfl ?_
      refine tt_aload_n d_X_count_136 rfl ?_
      refine tt_getR d_X_count_137 rfl rfl (by decide) rfl rfl ?_
      refine tt_aload_n d_X_count_140 rfl ?_
      refine tt_getR d_X_count_141 rfl rfl (by decide) rfl rfl ?_
      refine tn_get d_X_count_144 rfl rfl (by decide) rfl (h.v 4 (by decide)) ?_
      refine tt_callV (x_Fog_in (d := d) h.1.1.1.1.2.2.2 ho.1.1.2.2.2.2.2.1 ho.1.1.2.2.2.2.2.2 (by have := ho.2.2; omega)) cw_Fog_in rfl rfl (by decide) rfl (by omega) d_X_count_147 rfl rfl (Nat.le_of_ble_eq_true rfl) (Nat.le_of_ble_eq_true rfl) rfl rfl rfl (fun v σ2 q => ?_)
      obtain ⟨rfl, e9⟩ := q
      rw [e9, h.1.1.1.2.2.1 _ hfg]
      clear e9
      refine tt_iret rfl d_X_count_150 ?_
      exact ⟨rfl, h.ww hd0, h.2.1⟩
    · refine tt_tab (t := 151) d_X_count_1 rfl ?_
      refine tt_aload_n d_X_count_151 rfl ?_
      refine tt_getR d_X_count_152 rfl rfl (by decide) rfl rfl ?_
      refine tn_get d_X_count_155 rfl rfl (by decide) rfl (h.v 5 (by decide)) ?_
      refine tt_iret rfl d_X_count_158 ?_
      exact ⟨rfl, h.ww hd0, h.2.1⟩
    · refine tt_tab (t := 159) d_X_count_1 rfl ?_
      refine tt_aload_n d_X_count_159 rfl ?_
      refine tt_getR d_X_count_160 rfl rfl (by decide) rfl rfl ?_
      refine tn_get d_X_count_163 rfl rfl (by decide) rfl h.1.2.2.2.2.2.1 ?_
      refine tt_iret rfl d_X_count_166 ?_
      exact ⟨rfl, h.ww hd0, h.2.1⟩
    · refine tt_tab (t := 167) d_X_count_1 rfl ?_
      refine tt_aload_n d_X_count_167 rfl ?_
      refine tt_getR d_X_count_168 rfl rfl (by decide) rfl rfl ?_
      refine tn_get d_X_count_171 rfl rfl (by decide) rfl hUl ?_
      refine tt_iret rfl d_X_count_174 ?_
      exact ⟨rfl, h.ww hd0, h.2.1⟩
    · refine tt_tab (t := 175) d_X_count_1 rfl ?_
      refine tt_aload_n d_X_count_175 rfl ?_
      refine tt_getR d_X_count_176 rfl rfl (by decide) rfl rfl ?_
      refine tn_get d_X_count_179 rfl rfl (by decide) rfl hd0.1 ?_
      refine tt_iret rfl d_X_count_182 ?_
      exact ⟨rfl, h.ww hd0, h.2.1⟩
    · refine tt_tab (t := 183) d_X_count_1 rfl ?_
      refine tt_aload_n d_X_count_183 rfl ?_
      refine tt_getR d_X_count_184 rfl rfl (by decide) rfl rfl ?_
      refine tt_callV (x_Text_length (d := d)) cw_Text_length rfl rfl (by decide) rfl (by omega) d_X_count_187 rfl rfl (Nat.le_of_ble_eq_true rfl) (Nat.le_of_ble_eq_true rfl) rfl rfl rfl (fun v σ2 q => ?_)
      obtain ⟨rfl, e9⟩ := q
      rw [e9, h.1.2.2.1.1]
      clear e9
      refine tt_iret rfl d_X_count_190 ?_
      exact ⟨rfl, h.ww hd0, h.2.1⟩
  · have hqv : a_count w n = -100 := by unfold a_count; rw [hq]
    rw [hqv]
    refine tt_iload_n d_X_count_0 rfl ?_
    skip
    · refine tt_tab (t := 191) d_X_count_1 (s_tab_d hb rfl) ?_
      refine tt_bipush (v := (-100)) d_X_count_191 (by decide) ?_
      refine tt_iret rfl d_X_count_193 ?_
      exact ⟨rfl, h.ww hd0, h.2.1⟩

set_option maxHeartbeats 4000000 in
theorem yc_count {l : xLa} {d c : Nat} {σ : xs} {w : wv} (ho : okQ w) (hw : YW σ c w) {n : Int32} : TC l M_Y_count (d + 150) [.ref 154, .int n] σ (fun r τ => r = some (.int ((a_count w n, w)).1) ∧ YW τ c ((a_count w n, w)).2 ∧ YF σ τ) := by
  show T l M_Y_count (d + 150) 0 _ [] σ _
  refine T_lv (lv2 := [_, _]) rfl ?_
  have h := YQ.rf hw.v
  have hd0 := hw.2.2.2.1
  have hb0 := ho.fb
  have hb8 := ho.n8
  rcases rgN_c n 0 13 with ⟨m, hm1, hm2, hm3, rfl, hq⟩ | ⟨hq, hb⟩
  · have hqv : a_count w (nI m) = nI (cnN w m) := by unfold a_count; rw [hq]
    rw [hqv]
    refine tt_aload_n d_Y_count_0 rfl ?_
    refine tt_iconst (v := nI 0) d_Y_count_1 (by decide) ?_
    refine tt_putI d_Y_count_2 rfl rfl (by decide) rfl (xpok_int rfl) rfl ?_
    replace h := h.thr (x := nI 0)
    replace hd0 := hd0.thr (x := nI 0)
    refine tt_iload_n d_Y_count_5 rfl ?_
    rcases (show m = 0 ∨ m = 1 ∨ m = 2 ∨ m = 3 ∨ m = 4 ∨ m = 5 ∨ m = 6 ∨ m = 7 ∨ m = 8 ∨ m = 9 ∨ m = 10 ∨ m = 11 ∨ m = 12 ∨ m = 13 by omega) with rfl | rfl | rfl | rfl | rfl | rfl | rfl | rfl | rfl | rfl | rfl | rfl | rfl | rfl
    · refine tt_tab (t := 76) d_Y_count_6 rfl ?_
      refine tt_aload_n d_Y_count_76 rfl ?_
      refine tn_get d_Y_count_77 rfl rfl (by decide) rfl h.e.1.1 ?_
      refine tt_iret rfl d_Y_count_80 ?_
      exact ⟨rfl, h.ww hd0, h.2⟩
    · refine tt_tab (t := 81) d_Y_count_6 rfl ?_
      refine tt_aload_n d_Y_count_81 rfl ?_
      refine tn_get d_Y_count_82 rfl rfl (by decide) rfl h.e.1.2.1 ?_
      refine tt_iret rfl d_Y_count_85 ?_
      exact ⟨rfl, h.ww hd0, h.2⟩
    · refine tt_tab (t := 86) d_Y_count_6 rfl ?_
      refine tt_aload_n d_Y_count_86 rfl ?_
      refine tn_get d_Y_count_87 rfl rfl (by decide) rfl h.e.1.2.2.1 ?_
      refine tt_iret rfl d_Y_count_90 ?_
      exact ⟨rfl, h.ww hd0, h.2⟩
    · refine tt_tab (t := 91) d_Y_count_6 rfl ?_
      refine tt_aload_n d_Y_count_91 rfl ?_
      refine tt_getR d_Y_count_92 rfl rfl (by decide) rfl rfl ?_
      refine tt_iconst (v := nI 0) d_Y_count_95 (by decide) ?_
      refine tn_iald d_Y_count_96 rfl (by decide) (by omega) (h.1.2.1.1.1) ?_
      refine tt_iret rfl d_Y_count_97 ?_
      exact ⟨rfl, h.ww hd0, h.2⟩
    · refine tt_tab (t := 98) d_Y_count_6 rfl ?_
      refine tt_aload_n d_Y_count_98 rfl ?_
      refine tt_getR d_Y_count_99 rfl rfl (by decide) rfl rfl ?_
      refine tt_bipush (v := nI 34) d_Y_count_102 (by decide) ?_
      refine tn_iald d_Y_count_104 rfl (by decide) (by omega) (h.1.2.1.1.2.2.1) ?_
      refine tt_iret rfl d_Y_count_105 ?_
      exact ⟨rfl, h.ww hd0, h.2⟩
    · refine tt_tab (t := 106) d_Y_count_6 rfl ?_
      refine tt_aload_n d_Y_count_106 rfl ?_
      refine tt_getR d_Y_count_107 rfl rfl (by decide) rfl rfl ?_
      refine tt_bipush (v := nI 35) d_Y_count_110 (by decide) ?_
      refine tn_iald d_Y_count_112 rfl (by decide) (by omega) (h.1.2.1.1.2.2.2.1) ?_
      refine tt_iret rfl d_Y_count_113 ?_
      exact ⟨rfl, h.ww hd0, h.2⟩
    · refine tt_tab (t := 114) d_Y_count_6 rfl ?_
      refine tt_aload_n d_Y_count_114 rfl ?_
      refine tt_getR d_Y_count_115 rfl rfl (by decide) rfl rfl ?_
      refine tt_bipush (v := nI 36) d_Y_count_118 (by decide) ?_
      refine tn_iald d_Y_count_120 rfl (by decide) (by omega) (h.1.2.1.1.2.2.2.2.1) ?_
      refine tt_iret rfl d_Y_count_121 ?_
      exact ⟨rfl, h.ww hd0, h.2⟩
    · refine tt_tab (t := 122) d_Y_count_6 rfl ?_
      refine tt_aload_n d_Y_count_122 rfl ?_
      refine tt_getR d_Y_count_123 rfl rfl (by decide) rfl rfl ?_
      refine tt_bipush (v := nI 37) d_Y_count_126 (by decide) ?_
      refine tn_iald d_Y_count_128 rfl (by decide) (by omega) (h.1.2.1.1.2.2.2.2.2) ?_
      refine tt_iret rfl d_Y_count_129 ?_
      exact ⟨rfl, h.ww hd0, h.2⟩
    · refine tt_tab (t := 130) d_Y_count_6 rfl ?_
      refine tt_aload_n d_Y_count_130 rfl ?_
      refine tt_aload_n d_Y_count_131 rfl ?_
      refine tt_getR d_Y_count_132 rfl rfl (by decide) rfl rfl ?_
      refine tt_bipush (v := nI 37) d_Y_count_135 (by decide) ?_
      refine tn_iald d_Y_count_137 rfl (by decide) (by omega) (h.1.2.1.1.2.2.2.2.2) ?_
      refine tt_callV (y_fogOn (d := d) (by have := ho.2.2; omega) h.e.1.2.2.2 ho.1.1.2.2.2.2.2.1 ho.1.1.2.2.2.2.2.2 (fun i hi => h.e.2.2.1 i (by have := ho.1.1.2.2.2.2.2.2; omega))) cw_Y_fogOn rfl rfl (by decide) rfl (by omega) d_Y_count_138 rfl rfl (Nat.le_of_ble_eq_true rfl) (Nat.le_of_ble_eq_true rfl) rfl rfl rfl (fun v σ2 q => ?_)
      obtain ⟨rfl, e9⟩ := q
      rw [e9]
      clear e9
      refine tt_iret rfl d_Y_count_141 ?_
      exact ⟨rfl, h.ww hd0, h.2⟩
    · refine tt_tab (t := 142) d_Y_count_6 rfl ?_
      refine tt_aload_n d_Y_count_142 rfl ?_
      refine tt_getR d_Y_count_143 rfl rfl (by decide) rfl rfl ?_
      refine tt_bipush (v := nI 33) d_Y_count_146 (by decide) ?_
      refine tn_iald d_Y_count_148 rfl (by decide) (by omega) (h.1.2.1.1.2.1) ?_
      refine tt_iret rfl d_Y_count_149 ?_
      exact ⟨rfl, h.ww hd0, h.2⟩
    · refine tt_tab (t := 150) d_Y_count_6 rfl ?_
      refine tt_aload_n d_Y_count_150 rfl ?_
      refine tn_get d_Y_count_151 rfl rfl (by decide) rfl h.1.2.2.2.2.2.1 ?_
      refine tt_iret rfl d_Y_count_154 ?_
      exact ⟨rfl, h.ww hd0, h.2⟩
    · refine tt_tab (t := 155) d_Y_count_6 rfl ?_
      refine tt_aload_n d_Y_count_155 rfl ?_
      refine tn_get d_Y_count_156 rfl rfl (by decide) rfl h.1.2.2.2.1.1 ?_
      refine tt_iret rfl d_Y_count_159 ?_
      exact ⟨rfl, h.ww hd0, h.2⟩
    · refine tt_tab (t := 160) d_Y_count_6 rfl ?_
      refine tt_aload_n d_Y_count_160 rfl ?_
      refine tn_get d_Y_count_161 rfl rfl (by decide) rfl hd0.1 ?_
      refine tt_iret rfl d_Y_count_164 ?_
      exact ⟨rfl, h.ww hd0, h.2⟩
    · refine tt_tab (t := 165) d_Y_count_6 rfl ?_
      refine tt_aload_n d_Y_count_165 rfl ?_
      refine tn_get d_Y_count_166 rfl rfl (by decide) rfl h.1.2.2.1.1 ?_
      refine tt_iret rfl d_Y_count_169 ?_
      exact ⟨rfl, h.ww hd0, h.2⟩
  · have hqv : a_count w n = -100 := by unfold a_count; rw [hq]
    rw [hqv]
    refine tt_aload_n d_Y_count_0 rfl ?_
    refine tt_iconst (v := nI 0) d_Y_count_1 (by decide) ?_
    refine tt_putI d_Y_count_2 rfl rfl (by decide) rfl (xpok_int rfl) rfl ?_
    replace h := h.thr (x := nI 0)
    replace hd0 := hd0.thr (x := nI 0)
    refine tt_iload_n d_Y_count_5 rfl ?_
    skip
    · refine tt_tab (t := 170) d_Y_count_6 (s_tab_d hb rfl) ?_
      refine tt_bipush (v := (-100)) d_Y_count_170 (by decide) ?_
      refine tt_iret rfl d_Y_count_172 ?_
      exact ⟨rfl, h.ww hd0, h.2⟩

