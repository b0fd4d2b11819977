/-! Questions over sets: keeps, evens, strongest, sways. Printed by wip/whole. -/
theorem y_flagN {l : xLa} {d : Nat} {σ : xs} {b : Nat} (hb : b ≤ 1) : TE l M_Y_flag (d + 1) [.int (nI b)] σ (some (.int (nI b))) σ := by
  have q := y_flag (l := l) (d := d) (σ := σ) (z := nI b)
  have e : flI (nI b) = nI b := by
    rcases (show b = 0 ∨ b = 1 by omega) with rfl | rfl <;> rfl
  rw [e] at q
  exact q
/-! keeps -/
def kpS (v : sv) (n st : Nat) (b s : Nat) : Nat := if csN v s n ≤ st ∧ (pcN b < pcN s ∨ pcN s = pcN b ∧ csN v s n < csN v b n) then s else b
def kpP (w : wv) : Nat := prN (wV w) (eN (wE w))
def kpF (w : wv) : Nat → Nat := fsN (kpP w) (kpS (wV w) (eN (wE w)) (wV w 0 1)) 0
def q_keeps (w : wv) : Int32 × Option (List Int64) := (nI (pcN (kpF w (kpP w + 1))), some [(nI (kpF w (kpP w + 1))).toInt64, (nI (wV w 0 1) - nI (csN (wV w) (kpF w (kpP w + 1)) (eN (wE w)))).toInt64])
theorem fsN_lt {P : Nat} {f : Nat → Nat → Nat} (hf : ∀ b s, f b s = b ∨ f b s = s) : ∀ s, fsN P f 0 s ≤ P
  | 0 => by show 0 ≤ P; omega
  | s + 1 => by
    show (if dfN s P = 0 then f (fsN P f 0 s) s else fsN P f 0 s) ≤ P
    have ih := fsN_lt (P := P) hf s
    split
    · rename_i c
      rcases hf (fsN P f 0 s) s with q | q <;> rw [q]
      · exact ih
      · exact dfN_le c
    · exact ih
theorem fsN_sub {P : Nat} {f : Nat → Nat → Nat} (hf : ∀ b s, f b s = b ∨ f b s = s) : ∀ s, dfN (fsN P f 0 s) P = 0
  | 0 => dfN_0.mpr (fun j hj => by rw [show fsN P f 0 0 = 0 from rfl, Nat.zero_testBit] at hj; cases hj)
  | s + 1 => by
    have e : fsN P f 0 (s + 1) = if dfN s P = 0 then f (fsN P f 0 s) s else fsN P f 0 s := rfl
    have ih := fsN_sub (P := P) hf s
    by_cases c : dfN s P = 0
    · rw [e, if_pos c]
      rcases hf (fsN P f 0 s) s with q | q <;> rw [q]
      · exact ih
      · exact c
    · rw [e, if_neg c]; exact ih
theorem kpS_or {v : sv} {n st b s : Nat} : kpS v n st b s = b ∨ kpS v n st b s = s := by
  unfold kpS
  split
  · exact Or.inr rfl
  · exact Or.inl rfl
theorem kp_t {v : sv} {n st P a b s : Nat} (hb : b = fsN P (kpS v n st) a s) (h0 : dfN s P = 0) (h : csN v s n ≤ st ∧ (pcN b < pcN s ∨ pcN s = pcN b ∧ csN v s n < csN v b n)) : s = fsN P (kpS v n st) a (s + 1) := by
  rw [← fsN_in h0, ← hb]
  exact (if_pos h).symm
theorem kp_f {v : sv} {n st P a b s : Nat} (hb : b = fsN P (kpS v n st) a s) (h0 : dfN s P = 0) (h : ¬ (csN v s n ≤ st ∧ (pcN b < pcN s ∨ pcN s = pcN b ∧ csN v s n < csN v b n))) : b = fsN P (kpS v n st) a (s + 1) := by
  rw [← fsN_in h0, ← hb]
  exact (if_neg h).symm
theorem kp_o {v : sv} {n st P a b s : Nat} (hb : b = fsN P (kpS v n st) a s) (h0 : ¬ dfN s P = 0) : b = fsN P (kpS v n st) a (s + 1) := by rw [← fsN_out h0]; exact hb
theorem subT {s P j : Nat} {v : sv} {n : Nat} (hP : P = prN v n) (h : dfN s P = 0) (hj : s.testBit j = true) : ¬ v 3 j = 0 := by
  have := dfN_0.mp h j hj
  rw [hP] at this
  exact ((prN_t v n j).mp this).2
set_option maxHeartbeats 4000000 in
theorem x_keeps_l {l : xLa} {d : Nat} {σ : xs} {w : wv} (ho : okQ w) : ∀ (m : Nat) (s b : Nat) (z6 z7 z8 : Option Int32) (τ : xs), 2 ^ eN (wE w) - s = m → 1 ≤ s → s ≤ 2 ^ eN (wE w) → XQ w σ τ → b = kpF w s → T l M_X_keeps (d + 30) 25 [some (.ref 0), some (.int (nI (kpP w))), some (.int (nI b)), some (.int (nI (pcN b))), some (.int (nI (csN (wV w) b (eN (wE w))))), some (.int (nI s)), z6.map Value.int, z7.map Value.int, z8.map Value.int] [] τ (fun r τ => r = some (.int (q_keeps w).1) ∧ XW τ (stD w (q_keeps w).2) ∧ XF σ τ) := by
  have hb0 := ho.fb
  have hb8 := ho.n8
  intro m
  induction m using Nat.strongRecOn with
  | ind m ih =>
    intro s b z6 z7 z8 τ hm h1 hs h hbb
    have hcs := csN_le ho.2.1 ho.1 s
    have hcb := csN_le ho.2.1 ho.1 b
    have hps := pcN_le s
    have hpb := pcN_le b
    have hst := ho.s9
    have hpw := pw8 ho.n8
    have hpl : kpP w < 256 := prN_lt (wV w) ho.n8
    have hbl : b ≤ kpP w := by rw [hbb]; exact fsN_lt (fun _ _ => kpS_or) s
    have hdl := dfN_lt (b := kpP w) (show s < 2 ^ 30 by omega)
    refine tt_iload d_X_keeps_25 rfl ?_
    refine tt_iconst (v := nI 1) d_X_keeps_27 (by decide) ?_
    refine tt_aload_n d_X_keeps_28 rfl ?_
    refine tt_getR d_X_keeps_29 rfl rfl (by decide) rfl rfl ?_
    refine tn_get d_X_keeps_32 rfl rfl (by decide) rfl h.n ?_
    refine tt_ishl d_X_keeps_35 ?_
    refine tt_top (shl_9 _ (by omega)) ?_
    refine tn_ic_ge (t := 135) (by omega) (by omega) d_X_keeps_36 (by decide) (fun c_36 => ?_) (fun c_36 => ?_)
    · obtain rfl : s = 2 ^ eN (wE w) := by omega
      replace hbb : b = kpF w (kpP w + 1) := hbb.trans (fsN_all (prN_lt2 _ _))
      subst hbb
      refine tt_aload_n d_X_keeps_135 rfl ?_
      refine tt_getR d_X_keeps_136 rfl rfl (by decide) rfl rfl ?_
      refine tt_callV (xq_start (d := d) h) cw_Told_start rfl rfl (by decide) rfl (by omega) d_X_keeps_139 rfl rfl (Nat.le_of_ble_eq_true rfl) (Nat.le_of_ble_eq_true rfl) rfl rfl rfl (fun v σ2 q => ?_)
      obtain ⟨rfl, h, hd, hf⟩ := q
      refine tt_aload_n d_X_keeps_142 rfl ?_
      refine tt_getR d_X_keeps_143 rfl rfl (by decide) rfl rfl ?_
      refine tt_iload_n d_X_keeps_146 rfl ?_
      refine tt_i2l d_X_keeps_147 ?_
      refine tt_callV (xq_add (d := d) h hd (Nat.le_of_ble_eq_true rfl)) cw_Told_add rfl rfl (by decide) rfl (by omega) d_X_keeps_148 rfl rfl (Nat.le_of_ble_eq_true rfl) (Nat.le_of_ble_eq_true rfl) rfl rfl rfl (fun v σ2 q => ?_)
      obtain ⟨rfl, h, hd, hf⟩ := q
      refine tt_aload_n d_X_keeps_151 rfl ?_
      refine tt_getR d_X_keeps_152 rfl rfl (by decide) rfl rfl ?_
      refine tt_aload_n d_X_keeps_155 rfl ?_
      refine tt_getR d_X_keeps_156 rfl rfl (by decide) rfl rfl ?_
      refine tn_get d_X_keeps_159 rfl rfl (by decide) rfl (h.v 1 (by decide)) ?_
      refine tt_iload d_X_keeps_162 rfl ?_
      refine tt_isub d_X_keeps_164 ?_
      refine tt_i2l d_X_keeps_165 ?_
      refine tt_callV (xq_add (d := d) h hd (Nat.le_of_ble_eq_true rfl)) cw_Told_add rfl rfl (by decide) rfl (by omega) d_X_keeps_166 rfl rfl (Nat.le_of_ble_eq_true rfl) (Nat.le_of_ble_eq_true rfl) rfl rfl rfl (fun v σ2 q => ?_)
      obtain ⟨rfl, h, hd, hf⟩ := q
      refine tt_iload_n d_X_keeps_169 rfl ?_
      refine tt_iret rfl d_X_keeps_170 ?_
      exact ⟨rfl, h.done hd, h.2.1⟩
    · refine tt_iload d_X_keeps_39 rfl ?_
      refine tt_iload_n d_X_keeps_41 rfl ?_
      refine tt_iconst (v := (-1)) d_X_keeps_42 (by decide) ?_
      refine tt_ixor d_X_keeps_43 ?_
      refine tt_iand d_X_keeps_44 ?_
      refine tt_top (an_N _ _) ?_
      refine tn_if_eq (t := 51) (by omega) d_X_keeps_45 (by decide) (fun c_45 => ?_) (fun c_45 => ?_)
      · refine tt_iload d_X_keeps_51 rfl ?_
        refine tt_callS (x_bitN (d := d) (by omega)) cw_Integer_bitCount rfl (by omega) d_X_keeps_53 rfl rfl (Nat.le_of_ble_eq_true rfl) (Nat.le_of_ble_eq_true rfl) rfl rfl rfl (fun v σ2 q => ?_)
        obtain ⟨rfl, e9⟩ := q
        rw [e9]
        clear e9
        refine tt_istore (lv2 := [_, _, _, _, _, _, _, _, _]) d_X_keeps_56 (by decide) rfl ?_
        refine tt_aload_n d_X_keeps_58 rfl ?_
        refine tt_getR d_X_keeps_59 rfl rfl (by decide) rfl rfl ?_
        refine tt_iload d_X_keeps_62 rfl ?_
        refine tt_aload_n d_X_keeps_64 rfl ?_
        refine tt_getR d_X_keeps_65 rfl rfl (by decide) rfl rfl ?_
        refine tn_get d_X_keeps_68 rfl rfl (by decide) rfl h.n ?_
        refine tt_callV (x_crumN (d := d) isS_20 ho.1 h.1.2.1 (by omega)) cw_State_crumbsOf rfl rfl (by decide) rfl (by omega) d_X_keeps_71 rfl rfl (Nat.le_of_ble_eq_true rfl) (Nat.le_of_ble_eq_true rfl) rfl rfl rfl (fun v σ2 q => ?_)
        obtain ⟨rfl, e9⟩ := q
        rw [e9]
        clear e9
        refine tt_istore (lv2 := [_, _, _, _, _, _, _, _, _]) d_X_keeps_74 (by decide) rfl ?_
        refine tt_iload d_X_keeps_76 rfl ?_
        refine tt_iload_n d_X_keeps_78 rfl ?_
        refine tn_ic_gt (t := 95) (by omega) (by omega) d_X_keeps_79 (by decide) (fun c_79 => ?_) (fun c_79 => ?_)
        · refine tt_iconst (v := nI 1) d_X_keeps_95 (by decide) ?_
          refine tt_goto (t := 100) d_X_keeps_96 (by decide) ?_
          refine tt_istore (lv2 := [_, _, _, _, _, _, _, _, _]) d_X_keeps_100 (by decide) rfl ?_
          refine tt_iload d_X_keeps_102 rfl ?_
          refine tt_aload_n d_X_keeps_104 rfl ?_
          refine tt_getR d_X_keeps_105 rfl rfl (by decide) rfl rfl ?_
          refine tn_get d_X_keeps_108 rfl rfl (by decide) rfl (h.v 1 (by decide)) ?_
          refine tn_ic_gt (t := 129) (by omega) (by omega) d_X_keeps_111 (by decide) (fun c_111 => ?_) (fun c_111 => ?_)
          · refine tt_iinc (lv2 := [_, _, _, _, _, _, _, _, _]) d_X_keeps_129 rfl (nI_inc _ 1) (by decide) rfl ?_
            refine tt_goto (t := 25) d_X_keeps_132 (by decide) ?_
            have hz := kp_f hbb c_45 (fun q => by omega)
            exact ih (2 ^ eN (wE w) - (s + 1)) (by omega) (s + 1) _ (some _) (some _) (some _) _ rfl (by omega) (by omega) h hz
          · refine tt_iload d_X_keeps_114 rfl ?_
            refine tn_if_eq (t := 129) (by omega) d_X_keeps_116 (by decide) (fun c_116 => ?_) (fun c_116 => ?_)
            · omega
            · refine tt_iload d_X_keeps_119 rfl ?_
              refine tt_istore_n (lv2 := [_, _, _, _, _, _, _, _, _]) d_X_keeps_121 (by decide) rfl ?_
              refine tt_iload d_X_keeps_122 rfl ?_
              refine tt_istore_n (lv2 := [_, _, _, _, _, _, _, _, _]) d_X_keeps_124 (by decide) rfl ?_
              refine tt_iload d_X_keeps_125 rfl ?_
              refine tt_istore (lv2 := [_, _, _, _, _, _, _, _, _]) d_X_keeps_127 (by decide) rfl ?_
              refine tt_iinc (lv2 := [_, _, _, _, _, _, _, _, _]) d_X_keeps_129 rfl (nI_inc _ 1) (by decide) rfl ?_
              refine tt_goto (t := 25) d_X_keeps_132 (by decide) ?_
              have hz := kp_t hbb c_45 ⟨by omega, by omega⟩
              exact ih (2 ^ eN (wE w) - (s + 1)) (by omega) (s + 1) _ (some _) (some _) (some _) _ rfl (by omega) (by omega) h hz
        · refine tt_iload d_X_keeps_82 rfl ?_
          refine tt_iload_n d_X_keeps_84 rfl ?_
          refine tn_ic_ne (t := 99) (by omega) (by omega) d_X_keeps_85 (by decide) (fun c_85 => ?_) (fun c_85 => ?_)
          · refine tt_iconst (v := nI 0) d_X_keeps_99 (by decide) ?_
            refine tt_istore (lv2 := [_, _, _, _, _, _, _, _, _]) d_X_keeps_100 (by decide) rfl ?_
            refine tt_iload d_X_keeps_102 rfl ?_
            refine tt_aload_n d_X_keeps_104 rfl ?_
            refine tt_getR d_X_keeps_105 rfl rfl (by decide) rfl rfl ?_
            refine tn_get d_X_keeps_108 rfl rfl (by decide) rfl (h.v 1 (by decide)) ?_
            refine tn_ic_gt (t := 129) (by omega) (by omega) d_X_keeps_111 (by decide) (fun c_111 => ?_) (fun c_111 => ?_)
            · refine tt_iinc (lv2 := [_, _, _, _, _, _, _, _, _]) d_X_keeps_129 rfl (nI_inc _ 1) (by decide) rfl ?_
              refine tt_goto (t := 25) d_X_keeps_132 (by decide) ?_
              have hz := kp_f hbb c_45 (fun q => by omega)
              exact ih (2 ^ eN (wE w) - (s + 1)) (by omega) (s + 1) _ (some _) (some _) (some _) _ rfl (by omega) (by omega) h hz
            · refine tt_iload d_X_keeps_114 rfl ?_
              refine tn_if_eq (t := 129) (by omega) d_X_keeps_116 (by decide) (fun c_116 => ?_) (fun c_116 => ?_)
              · refine tt_iinc (lv2 := [_, _, _, _, _, _, _, _, _]) d_X_keeps_129 rfl (nI_inc _ 1) (by decide) rfl ?_
                refine tt_goto (t := 25) d_X_keeps_132 (by decide) ?_
                have hz := kp_f hbb c_45 (fun q => by omega)
                exact ih (2 ^ eN (wE w) - (s + 1)) (by omega) (s + 1) _ (some _) (some _) (some _) _ rfl (by omega) (by omega) h hz
              · omega
          · refine tt_iload d_X_keeps_88 rfl ?_
            refine tt_iload d_X_keeps_90 rfl ?_
            refine tn_ic_ge (t := 99) (by omega) (by omega) d_X_keeps_92 (by decide) (fun c_92 => ?_) (fun c_92 => ?_)
            · refine tt_iconst (v := nI 0) d_X_keeps_99 (by decide) ?_
              refine tt_istore (lv2 := [_, _, _, _, _, _, _, _, _]) d_X_keeps_100 (by decide) rfl ?_
              refine tt_iload d_X_keeps_102 rfl ?_
              refine tt_aload_n d_X_keeps_104 rfl ?_
              refine tt_getR d_X_keeps_105 rfl rfl (by decide) rfl rfl ?_
              refine tn_get d_X_keeps_108 rfl rfl (by decide) rfl (h.v 1 (by decide)) ?_
              refine tn_ic_gt (t := 129) (by omega) (by omega) d_X_keeps_111 (by decide) (fun c_111 => ?_) (fun c_111 => ?_)
              · refine tt_iinc (lv2 := [_, _, _, _, _, _, _, _, _]) d_X_keeps_129 rfl (nI_inc _ 1) (by decide) rfl ?_
                refine tt_goto (t := 25) d_X_keeps_132 (by decide) ?_
                have hz := kp_f hbb c_45 (fun q => by omega)
                exact ih (2 ^ eN (wE w) - (s + 1)) (by omega) (s + 1) _ (some _) (some _) (some _) _ rfl (by omega) (by omega) h hz
              · refine tt_iload d_X_keeps_114 rfl ?_
                refine tn_if_eq (t := 129) (by omega) d_X_keeps_116 (by decide) (fun c_116 => ?_) (fun c_116 => ?_)
                · refine tt_iinc (lv2 := [_, _, _, _, _, _, _, _, _]) d_X_keeps_129 rfl (nI_inc _ 1) (by decide) rfl ?_
                  refine tt_goto (t := 25) d_X_keeps_132 (by decide) ?_
                  have hz := kp_f hbb c_45 (fun q => by omega)
                  exact ih (2 ^ eN (wE w) - (s + 1)) (by omega) (s + 1) _ (some _) (some _) (some _) _ rfl (by omega) (by omega) h hz
                · omega
            · refine tt_iconst (v := nI 1) d_X_keeps_95 (by decide) ?_
              refine tt_goto (t := 100) d_X_keeps_96 (by decide) ?_
              refine tt_istore (lv2 := [_, _, _, _, _, _, _, _, _]) d_X_keeps_100 (by decide) rfl ?_
              refine tt_iload d_X_keeps_102 rfl ?_
              refine tt_aload_n d_X_keeps_104 rfl ?_
              refine tt_getR d_X_keeps_105 rfl rfl (by decide) rfl rfl ?_
              refine tn_get d_X_keeps_108 rfl rfl (by decide) rfl (h.v 1 (by decide)) ?_
              refine tn_ic_gt (t := 129) (by omega) (by omega) d_X_keeps_111 (by decide) (fun c_111 => ?_) (fun c_111 => ?_)
              · refine tt_iinc (lv2 := [_, _, _, _, _, _, _, _, _]) d_X_keeps_129 rfl (nI_inc _ 1) (by decide) rfl ?_
                refine tt_goto (t := 25) d_X_keeps_132 (by decide) ?_
                have hz := kp_f hbb c_45 (fun q => by omega)
                exact ih (2 ^ eN (wE w) - (s + 1)) (by omega) (s + 1) _ (some _) (some _) (some _) _ rfl (by omega) (by omega) h hz
              · refine tt_iload d_X_keeps_114 rfl ?_
                refine tn_if_eq (t := 129) (by omega) d_X_keeps_116 (by decide) (fun c_116 => ?_) (fun c_116 => ?_)
                · omega
                · refine tt_iload d_X_keeps_119 rfl ?_
                  refine tt_istore_n (lv2 := [_, _, _, _, _, _, _, _, _]) d_X_keeps_121 (by decide) rfl ?_
                  refine tt_iload d_X_keeps_122 rfl ?_
                  refine tt_istore_n (lv2 := [_, _, _, _, _, _, _, _, _]) d_X_keeps_124 (by decide) rfl ?_
                  refine tt_iload d_X_keeps_125 rfl ?_
                  refine tt_istore (lv2 := [_, _, _, _, _, _, _, _, _]) d_X_keeps_127 (by decide) rfl ?_
                  refine tt_iinc (lv2 := [_, _, _, _, _, _, _, _, _]) d_X_keeps_129 rfl (nI_inc _ 1) (by decide) rfl ?_
                  refine tt_goto (t := 25) d_X_keeps_132 (by decide) ?_
                  have hz := kp_t hbb c_45 ⟨by omega, by omega⟩
                  exact ih (2 ^ eN (wE w) - (s + 1)) (by omega) (s + 1) _ (some _) (some _) (some _) _ rfl (by omega) (by omega) h hz
      · refine tt_goto (t := 129) d_X_keeps_48 (by decide) ?_
        refine tt_iinc (lv2 := [_, _, _, _, _, _, _, _, _]) d_X_keeps_129 rfl (nI_inc _ 1) (by decide) rfl ?_
        refine tt_goto (t := 25) d_X_keeps_132 (by decide) ?_
        have hz := kp_o hbb c_45
        exact ih (2 ^ eN (wE w) - (s + 1)) (by omega) (s + 1) _ z6 z7 z8 _ rfl (by omega) (by omega) h hz

set_option maxHeartbeats 4000000 in
theorem xc_keeps {l : xLa} {d : Nat} {σ : xs} {w : wv} (ho : okQ w) (hw : XW σ w)  : TC l M_X_keeps (d + 30) [.ref 0] σ (fun r τ => r = some (.int ((q_keeps w).1)) ∧ XW τ (stD w ((q_keeps w).2)) ∧ XF σ τ) := by
  show T l M_X_keeps (d + 30) 0 _ [] σ _
  refine T_lv (lv2 := [_, _, _, _, _, _, _, _, _]) rfl ?_
  have h := XQ.rf hw.v
  have hd0 := hw.2.2.2.1
  have hb0 := ho.fb
  have hb8 := ho.n8
  have hpw := Nat.two_pow_pos (eN (wE w))
  have hk0 : 0 = kpF w 1 := by
    show 0 = if dfN 0 (kpP w) = 0 then kpS _ _ _ 0 0 else 0
    unfold kpS
    split
    · split <;> rfl
    · rfl
  refine tt_aload_n d_X_keeps_0 rfl ?_
  refine tt_getR d_X_keeps_1 rfl rfl (by decide) rfl rfl ?_
  refine tt_aload_n d_X_keeps_4 rfl ?_
  refine tt_getR d_X_keeps_5 rfl rfl (by decide) rfl rfl ?_
  refine tn_get d_X_keeps_8 rfl rfl (by decide) rfl h.n ?_
  refine tt_callV (x_promN (d := d) isS_20 ho.1 ho.2.1 h.1.2.1) cw_State_promised rfl rfl (by decide) rfl (by omega) d_X_keeps_11 rfl rfl (Nat.le_of_ble_eq_true rfl) (Nat.le_of_ble_eq_true rfl) rfl rfl rfl (fun v σ2 q => ?_)
  obtain ⟨rfl, e9⟩ := q
  rw [e9]
  clear e9
  refine tt_istore_n (lv2 := [_, _, _, _, _, _, _, _, _]) d_X_keeps_14 (by decide) rfl ?_
  refine tt_iconst (v := nI 0) d_X_keeps_15 (by decide) ?_
  refine tt_istore_n (lv2 := [_, _, _, _, _, _, _, _, _]) d_X_keeps_16 (by decide) rfl ?_
  refine tt_iconst (v := nI 0) d_X_keeps_17 (by decide) ?_
  refine tt_istore_n (lv2 := [_, _, _, _, _, _, _, _, _]) d_X_keeps_18 (by decide) rfl ?_
  refine tt_iconst (v := nI 0) d_X_keeps_19 (by decide) ?_
  refine tt_istore (lv2 := [_, _, _, _, _, _, _, _, _]) d_X_keeps_20 (by decide) rfl ?_
  refine tt_iconst (v := nI 1) d_X_keeps_22 (by decide) ?_
  refine tt_istore (lv2 := [_, _, _, _, _, _, _, _, _]) d_X_keeps_23 (by decide) rfl ?_
  have q := x_keeps_l (l := l) (d := d) ho (2 ^ eN (wE w) - 1) 1 0 none none none _ rfl (by omega) (by omega) h hk0
  have e0 : csN (wV w) 0 (eN (wE w)) = 0 := smN_0 _ _
  rw [e0] at q
  exact q

theorem sub_pos {a b : Nat} (ha : a < 2 ^ 30) (hb : b < 2 ^ 30) : 0 < nI a - nI b ↔ b < a := by
  rw [fa_lt', pk_sub_toInt ha hb]
  show (0 : Int) < _ ↔ _
  omega
set_option maxHeartbeats 4000000 in
theorem y_keeps_l {l : xLa} {d : Nat} {σ : xs} {c : Nat} {w : wv} (ho : okQ w) : ∀ (m : Nat) (s b : Nat) (z4 : Option Int32) (τ : xs), kpP w + 1 - s = m → s ≤ kpP w + 1 → YQ c w σ τ → b = kpF w s → T l M_Y_keeps (d + 150) 18 [some (.ref 154), some (.int (nI (kpP w))), some (.int (nI b)), some (.int (nI s)), z4.map Value.int] [] τ (fun r τ => r = some (.int (q_keeps w).1) ∧ YW τ c (stD w (q_keeps w).2) ∧ YF σ τ) := by
  have hb0 := ho.fb
  have hb8 := ho.n8
  intro m
  induction m using Nat.strongRecOn with
  | ind m ih =>
    intro s b z4 τ hm hs h hbb
    have hcs := csN_le ho.2.1 ho.1 s
    have hcb := csN_le ho.2.1 ho.1 b
    have hps := pcN_le s
    have hpb := pcN_le b
    have hst := ho.s9
    have hpl : kpP w < 256 := prN_lt (wV w) ho.n8
    have hbl : b ≤ kpP w := by rw [hbb]; exact fsN_lt (fun _ _ => kpS_or) s
    have hbs : dfN b (kpP w) = 0 := by rw [hbb]; exact fsN_sub (fun _ _ => kpS_or) s
    have hdl := dfN_lt (b := kpP w) (show s < 2 ^ 30 by omega)
    refine tt_iload_n d_Y_keeps_18 rfl ?_
    refine tt_iload_n d_Y_keeps_19 rfl ?_
    refine tn_ic_gt (t := 92) (by omega) (by omega) d_Y_keeps_20 (by decide) (fun c_20 => ?_) (fun c_20 => ?_)
    · obtain rfl : s = kpP w + 1 := by omega
      subst hbb
      refine tt_aload_n d_Y_keeps_92 rfl ?_
      refine tt_iconst (v := nI 0) d_Y_keeps_93 (by decide) ?_
      refine tt_putI d_Y_keeps_94 rfl rfl (by decide) rfl (xpok_int rfl) rfl ?_
      replace h := h.td0
      have hd := YD_0t h
      refine tt_aload_n d_Y_keeps_97 rfl ?_
      refine tt_iload_n d_Y_keeps_98 rfl ?_
      refine tt_i2l d_Y_keeps_99 ?_
      refine tt_callV (yq_add (d := d) h hd (Nat.le_of_ble_eq_true rfl)) cw_Y_enters rfl rfl (by decide) rfl (by omega) d_Y_keeps_100 rfl rfl (Nat.le_of_ble_eq_true rfl) (Nat.le_of_ble_eq_true rfl) rfl rfl rfl (fun v σ2 q => ?_)
      obtain ⟨rfl, h, hd, hf⟩ := q
      refine tt_aload_n d_Y_keeps_103 rfl ?_
      refine tt_aload_n d_Y_keeps_104 rfl ?_
      refine tt_getR d_Y_keeps_105 rfl rfl (by decide) rfl rfl ?_
      refine tt_bipush (v := nI 34) d_Y_keeps_108 (by decide) ?_
      refine tn_iald d_Y_keeps_110 rfl (by decide) (by omega) (h.1.2.1.1.2.2.1) ?_
      refine tt_aload_n d_Y_keeps_111 rfl ?_
      refine tt_iload_n d_Y_keeps_112 rfl ?_
      refine tt_callV (y_crumN (d := d) (by omega) ho.1 h.e.1.2.2.1 h.1.2.1 (fun j hj q => subT rfl hbs q)) cw_Y_crumbsOf rfl rfl (by decide) rfl (by omega) d_Y_keeps_113 rfl rfl (Nat.le_of_ble_eq_true rfl) (Nat.le_of_ble_eq_true rfl) rfl rfl rfl (fun v σ2 q => ?_)
      obtain ⟨rfl, e9⟩ := q
      rw [e9]
      clear e9
      refine tt_isub d_Y_keeps_116 ?_
      refine tt_i2l d_Y_keeps_117 ?_
      refine tt_callV (yq_add (d := d) h hd (Nat.le_of_ble_eq_true rfl)) cw_Y_enters rfl rfl (by decide) rfl (by omega) d_Y_keeps_118 rfl rfl (Nat.le_of_ble_eq_true rfl) (Nat.le_of_ble_eq_true rfl) rfl rfl rfl (fun v σ2 q => ?_)
      obtain ⟨rfl, h, hd, hf⟩ := q
      refine tt_iload_n d_Y_keeps_121 rfl ?_
      refine tt_callS (x_bitN (d := d) (by omega)) cw_Integer_bitCount rfl (by omega) d_Y_keeps_122 rfl rfl (Nat.le_of_ble_eq_true rfl) (Nat.le_of_ble_eq_true rfl) rfl rfl rfl (fun v σ2 q => ?_)
      obtain ⟨rfl, e9⟩ := q
      rw [e9]
      clear e9
      refine tt_iret rfl d_Y_keeps_125 ?_
      exact ⟨rfl, h.done hd, h.2⟩
    · refine tt_iload_n d_Y_keeps_23 rfl ?_
      refine tt_iload_n d_Y_keeps_24 rfl ?_
      refine tt_iconst (v := (-1)) d_Y_keeps_25 (by decide) ?_
      refine tt_ixor d_Y_keeps_26 ?_
      refine tt_iand d_Y_keeps_27 ?_
      refine tt_top (an_N _ _) ?_
      refine tn_if_ne (t := 86) (by omega) d_Y_keeps_28 (by decide) (fun c_28 => ?_) (fun c_28 => ?_)
      · have hz := kp_o hbb c_28
        refine tt_iinc (lv2 := [_, _, _, _, _]) d_Y_keeps_86 rfl (nI_inc _ 1) (by decide) rfl ?_
        refine tt_goto (t := 18) d_Y_keeps_89 (by decide) ?_
        exact ih (kpP w + 1 - (s + 1)) (by omega) (s + 1) _ z4 _ rfl (by omega) h hz
      · refine tt_aload_n d_Y_keeps_31 rfl ?_
        refine tt_iload_n d_Y_keeps_32 rfl ?_
        refine tt_callV (y_crumN (d := d) (by omega) ho.1 h.e.1.2.2.1 h.1.2.1 (fun j hj q => subT rfl c_28 q)) cw_Y_crumbsOf rfl rfl (by decide) rfl (by omega) d_Y_keeps_33 rfl rfl (Nat.le_of_ble_eq_true rfl) (Nat.le_of_ble_eq_true rfl) rfl rfl rfl (fun v σ2 q => ?_)
        obtain ⟨rfl, e9⟩ := q
        rw [e9]
        clear e9
        refine tt_aload_n d_Y_keeps_36 rfl ?_
        refine tt_getR d_Y_keeps_37 rfl rfl (by decide) rfl rfl ?_
        refine tt_bipush (v := nI 34) d_Y_keeps_40 (by decide) ?_
        refine tn_iald d_Y_keeps_42 rfl (by decide) (by omega) (h.1.2.1.1.2.2.1) ?_
        refine tn_ic_gt (t := 86) (by omega) (by omega) d_Y_keeps_43 (by decide) (fun c_43 => ?_) (fun c_43 => ?_)
        · have hz := kp_f hbb c_28 (fun q => by omega)
          refine tt_iinc (lv2 := [_, _, _, _, _]) d_Y_keeps_86 rfl (nI_inc _ 1) (by decide) rfl ?_
          refine tt_goto (t := 18) d_Y_keeps_89 (by decide) ?_
          exact ih (kpP w + 1 - (s + 1)) (by omega) (s + 1) _ z4 _ rfl (by omega) h hz
        · have hsg := nI_sub0 (a := pcN s) (b := pcN b) (by omega) (by omega)
          have hsp : 0 < nI (pcN s) - nI (pcN b) ↔ pcN b < pcN s := sub_pos (by omega) (by omega)
          refine tt_iload_n d_Y_keeps_46 rfl ?_
          refine tt_callS (x_bitN (d := d) (by omega)) cw_Integer_bitCount rfl (by omega) d_Y_keeps_47 rfl rfl (Nat.le_of_ble_eq_true rfl) (Nat.le_of_ble_eq_true rfl) rfl rfl rfl (fun v σ2 q => ?_)
          obtain ⟨rfl, e9⟩ := q
          rw [e9]
          clear e9
          refine tt_iload_n d_Y_keeps_50 rfl ?_
          refine tt_callS (x_bitN (d := d) (by omega)) cw_Integer_bitCount rfl (by omega) d_Y_keeps_51 rfl rfl (Nat.le_of_ble_eq_true rfl) (Nat.le_of_ble_eq_true rfl) rfl rfl rfl (fun v σ2 q => ?_)
          obtain ⟨rfl, e9⟩ := q
          rw [e9]
          clear e9
          refine tt_isub d_Y_keeps_54 ?_
          refine tt_istore (lv2 := [_, _, _, _, _]) d_Y_keeps_55 (by decide) rfl ?_
          refine tt_iload d_Y_keeps_57 rfl ?_
          refine tt_if_gt (t := 80) d_Y_keeps_59 (by decide) (fun c_59 => ?_) (fun c_59 => ?_)
          · have hz := kp_t hbb c_28 ⟨by omega, Or.inl (hsp.mp c_59)⟩
            refine tt_iload_n d_Y_keeps_80 rfl ?_
            refine tt_goto (t := 85) d_Y_keeps_81 (by decide) ?_
            refine tt_istore_n (lv2 := [_, _, _, _, _]) d_Y_keeps_85 (by decide) rfl ?_
            refine tt_iinc (lv2 := [_, _, _, _, _]) d_Y_keeps_86 rfl (nI_inc _ 1) (by decide) rfl ?_
            refine tt_goto (t := 18) d_Y_keeps_89 (by decide) ?_
            exact ih (kpP w + 1 - (s + 1)) (by omega) (s + 1) _ (some _) _ rfl (by omega) h hz
          · refine tt_iload d_Y_keeps_62 rfl ?_
            refine tt_if_ne (t := 84) d_Y_keeps_64 (by decide) (fun c_64 => ?_) (fun c_64 => ?_)
            · have hz := kp_f hbb c_28 (fun q => have g1 : ¬ pcN b < pcN s := fun z => c_59 (hsp.mpr z); have g2 : ¬ pcN s = pcN b := fun z => c_64 (hsg.1.mpr z); by omega)
              refine tt_iload_n d_Y_keeps_84 rfl ?_
              refine tt_istore_n (lv2 := [_, _, _, _, _]) d_Y_keeps_85 (by decide) rfl ?_
              refine tt_iinc (lv2 := [_, _, _, _, _]) d_Y_keeps_86 rfl (nI_inc _ 1) (by decide) rfl ?_
              refine tt_goto (t := 18) d_Y_keeps_89 (by decide) ?_
              exact ih (kpP w + 1 - (s + 1)) (by omega) (s + 1) _ (some _) _ rfl (by omega) h hz
            · refine tt_aload_n d_Y_keeps_67 rfl ?_
              refine tt_iload_n d_Y_keeps_68 rfl ?_
              refine tt_callV (y_crumN (d := d) (by omega) ho.1 h.e.1.2.2.1 h.1.2.1 (fun j hj q => subT rfl c_28 q)) cw_Y_crumbsOf rfl rfl (by decide) rfl (by omega) d_Y_keeps_69 rfl rfl (Nat.le_of_ble_eq_true rfl) (Nat.le_of_ble_eq_true rfl) rfl rfl rfl (fun v σ2 q => ?_)
              obtain ⟨rfl, e9⟩ := q
              rw [e9]
              clear e9
              refine tt_aload_n d_Y_keeps_72 rfl ?_
              refine tt_iload_n d_Y_keeps_73 rfl ?_
              refine tt_callV (y_crumN (d := d) (by omega) ho.1 h.e.1.2.2.1 h.1.2.1 (fun j hj q => subT rfl hbs q)) cw_Y_crumbsOf rfl rfl (by decide) rfl (by omega) d_Y_keeps_74 rfl rfl (Nat.le_of_ble_eq_true rfl) (Nat.le_of_ble_eq_true rfl) rfl rfl rfl (fun v σ2 q => ?_)
              obtain ⟨rfl, e9⟩ := q
              rw [e9]
              clear e9
              refine tn_ic_ge (t := 84) (by omega) (by omega) d_Y_keeps_77 (by decide) (fun c_77 => ?_) (fun c_77 => ?_)
              · have hz := kp_f hbb c_28 (fun q => have g1 : ¬ pcN b < pcN s := fun z => c_59 (hsp.mpr z); by omega)
                refine tt_iload_n d_Y_keeps_84 rfl ?_
                refine tt_istore_n (lv2 := [_, _, _, _, _]) d_Y_keeps_85 (by decide) rfl ?_
                refine tt_iinc (lv2 := [_, _, _, _, _]) d_Y_keeps_86 rfl (nI_inc _ 1) (by decide) rfl ?_
                refine tt_goto (t := 18) d_Y_keeps_89 (by decide) ?_
                exact ih (kpP w + 1 - (s + 1)) (by omega) (s + 1) _ (some _) _ rfl (by omega) h hz
              · have hz := kp_t hbb c_28 ⟨by omega, Or.inr ⟨hsg.1.mp (Decidable.not_not.mp c_64), by omega⟩⟩
                refine tt_iload_n d_Y_keeps_80 rfl ?_
                refine tt_goto (t := 85) d_Y_keeps_81 (by decide) ?_
                refine tt_istore_n (lv2 := [_, _, _, _, _]) d_Y_keeps_85 (by decide) rfl ?_
                refine tt_iinc (lv2 := [_, _, _, _, _]) d_Y_keeps_86 rfl (nI_inc _ 1) (by decide) rfl ?_
                refine tt_goto (t := 18) d_Y_keeps_89 (by decide) ?_
                exact ih (kpP w + 1 - (s + 1)) (by omega) (s + 1) _ (some _) _ rfl (by omega) h hz

set_option maxHeartbeats 4000000 in
theorem yc_keeps {l : xLa} {d c : Nat} {σ : xs} {w : wv} (ho : okQ w) (hw : YW σ c w)  : TC l M_Y_keeps (d + 150) [.ref 154] σ (fun r τ => r = some (.int ((q_keeps w).1)) ∧ YW τ c (stD w ((q_keeps w).2)) ∧ YF σ τ) := by
  show T l M_Y_keeps (d + 150) 0 _ [] σ _
  refine T_lv (lv2 := [_, _, _, _, _]) rfl ?_
  have h := YQ.rf hw.v
  have hd0 := hw.2.2.2.1
  have hb0 := ho.fb
  have hb8 := ho.n8
  refine tt_aload_n d_Y_keeps_0 rfl ?_
  refine tt_iconst (v := nI 0) d_Y_keeps_1 (by decide) ?_
  refine tt_putI d_Y_keeps_2 rfl rfl (by decide) rfl (xpok_int rfl) rfl ?_
  replace h := h.thr (x := nI 0)
  replace hd0 := hd0.thr (x := nI 0)
  refine tt_aload_n d_Y_keeps_5 rfl ?_
  refine tt_aload_n d_Y_keeps_6 rfl ?_
  refine tt_getR d_Y_keeps_7 rfl rfl (by decide) rfl rfl ?_
  refine tt_callV (y_promN (d := d) isY_160 ho.1 ho.2.1 h.e.1.2.2.1 h.1.2.1) cw_Y_promised rfl rfl (by decide) rfl (by omega) d_Y_keeps_10 rfl rfl (Nat.le_of_ble_eq_true rfl) (Nat.le_of_ble_eq_true rfl) rfl rfl rfl (fun v σ2 q => ?_)
  obtain ⟨rfl, e9⟩ := q
  rw [e9]
  clear e9
  refine tt_istore_n (lv2 := [_, _, _, _, _]) d_Y_keeps_13 (by decide) rfl ?_
  refine tt_iconst (v := nI 0) d_Y_keeps_14 (by decide) ?_
  refine tt_istore_n (lv2 := [_, _, _, _, _]) d_Y_keeps_15 (by decide) rfl ?_
  refine tt_iconst (v := nI 0) d_Y_keeps_16 (by decide) ?_
  refine tt_istore_n (lv2 := [_, _, _, _, _]) d_Y_keeps_17 (by decide) rfl ?_
  exact y_keeps_l ho (kpP w + 1) 0 0 none _ rfl (by omega) h rfl

def evP (w : wv) : Nat := puN (wE w) (wV w) (eN (wE w))
def evA (w : wv) (s : Nat) : Nat := psN (wE w) (wV w) s (eN (wE w))
def evD (w : wv) (s : Nat) : Nat := adf (2 * evA w s) (evA w (evP w))
def evS (w : wv) (b s : Nat) : Nat := if evD w s < evD w b then s else b
def evF (w : wv) : Nat → Nat := fsN (evP w) (evS w) 0
def q_evens (w : wv) : Int32 × Option (List Int64) := (nI (evD w (evF w (evP w + 1))), some [(nI (evF w (evP w + 1))).toInt64, (nI (evA w (evF w (evP w + 1)))).toInt64])
theorem evS_or {w : wv} {b s : Nat} : evS w b s = b ∨ evS w b s = s := by
  unfold evS
  split
  · exact Or.inr rfl
  · exact Or.inl rfl
theorem ev_t {w : wv} {P a b s : Nat} (hb : b = fsN P (evS w) a s) (h0 : dfN s P = 0) (h : evD w s < evD w b) : s = fsN P (evS w) a (s + 1) := by
  rw [← fsN_in h0, ← hb]
  exact (if_pos h).symm
theorem ev_f {w : wv} {P a b s : Nat} (hb : b = fsN P (evS w) a s) (h0 : dfN s P = 0) (h : ¬ evD w s < evD w b) : b = fsN P (evS w) a (s + 1) := by
  rw [← fsN_in h0, ← hb]
  exact (if_neg h).symm
theorem ev_o {w : wv} {P a b s : Nat} (hb : b = fsN P (evS w) a s) (h0 : ¬ dfN s P = 0) : b = fsN P (evS w) a (s + 1) := by rw [← fsN_out h0]; exact hb
theorem adf_sy (a b : Nat) : adf a b = adf b a := by unfold adf; omega
theorem evD_le {w : wv} (ho : okQ w) (s : Nat) : evD w s ≤ 216 ∧ evA w s ≤ 72 := by
  have h1 := psN_le (e := wE w) (v := wV w) ho.1 s
  have h2 := psN_le (e := wE w) (v := wV w) ho.1 (evP w)
  refine ⟨?_, h1⟩
  unfold evD evA adf
  omega
theorem ev_0 (w : wv) : 0 = evF w 1 := by
  show 0 = if dfN 0 (evP w) = 0 then evS w 0 0 else 0
  unfold evS
  split
  · split <;> rfl
  · rfl
theorem ev_all (w : wv) : evD w 0 = evA w (evP w) := by
  show adf (2 * psN _ _ 0 _) _ = _
  rw [show psN (wE w) (wV w) 0 (eN (wE w)) = 0 from smN_0 _ _]
  unfold adf
  omega
set_option maxHeartbeats 4000000 in
theorem x_evens_l {l : xLa} {d : Nat} {σ : xs} {w : wv} (ho : okQ w) : ∀ (m : Nat) (s b : Nat) (z6 : Option Int32) (τ : xs), 2 ^ eN (wE w) - s = m → 1 ≤ s → s ≤ 2 ^ eN (wE w) → XQ w σ τ → MS (wE w) (wV w) (eN (wE w)) τ → b = evF w s → T l M_X_evens (d + 30) 40 [some (.ref 0), some (.int (nI (evP w))), some (.int (nI (evA w (evP w)))), some (.int (nI b)), some (.int (nI (evD w b))), some (.int (nI s)), z6.map Value.int] [] τ (fun r τ => r = some (.int (q_evens w).1) ∧ XW τ (stD w (q_evens w).2) ∧ XF σ τ) := by
  have hb0 := ho.fb
  have hb8 := ho.n8
  intro m
  induction m using Nat.strongRecOn with
  | ind m ih =>
    intro s b z6 τ hm h1 hs h hM hbb
    have hpw := pw8 ho.n8
    have hea : evA w s = psN (wE w) (wV w) s (eN (wE w)) := rfl
    have hes := evD_le ho s
    have heb := evD_le ho b
    have hep := evD_le ho (evP w)
    have hpl : evP w < 256 := puN_lt (wE w) (wV w) ho.n8
    have hbl : b ≤ evP w := by rw [hbb]; exact fsN_lt (fun _ _ => evS_or) s
    have hdl := dfN_lt (b := evP w) (show s < 2 ^ 30 by omega)
    refine tt_iload d_X_evens_40 rfl ?_
    refine tt_iconst (v := nI 1) d_X_evens_42 (by decide) ?_
    refine tt_aload_n d_X_evens_43 rfl ?_
    refine tt_getR d_X_evens_44 rfl rfl (by decide) rfl rfl ?_
    refine tn_get d_X_evens_47 rfl rfl (by decide) rfl h.n ?_
    refine tt_ishl d_X_evens_50 ?_
    refine tt_top (shl_9 _ (by omega)) ?_
    refine tn_ic_ge (t := 104) (by omega) (by omega) d_X_evens_51 (by decide) (fun c_51 => ?_) (fun c_51 => ?_)
    · obtain rfl : s = 2 ^ eN (wE w) := by omega
      replace hbb : b = evF w (evP w + 1) := hbb.trans (fsN_all (puN_lt2 _ _ _))
      subst hbb
      refine tt_aload_n d_X_evens_104 rfl ?_
      refine tt_getR d_X_evens_105 rfl rfl (by decide) rfl rfl ?_
      refine tt_callV (xq_start (d := d) h) cw_Told_start rfl rfl (by decide) rfl (by omega) d_X_evens_108 rfl rfl (Nat.le_of_ble_eq_true rfl) (Nat.le_of_ble_eq_true rfl) rfl rfl rfl (fun v σ2 q => ?_)
      obtain ⟨rfl, h, hd, hf⟩ := q
      replace hM := hf.ms hM
      refine tt_aload_n d_X_evens_111 rfl ?_
      refine tt_getR d_X_evens_112 rfl rfl (by decide) rfl rfl ?_
      refine tt_iload_n d_X_evens_115 rfl ?_
      refine tt_i2l d_X_evens_116 ?_
      refine tt_callV (xq_add (d := d) h hd (Nat.le_of_ble_eq_true rfl)) cw_Told_add rfl rfl (by decide) rfl (by omega) d_X_evens_117 rfl rfl (Nat.le_of_ble_eq_true rfl) (Nat.le_of_ble_eq_true rfl) rfl rfl rfl (fun v σ2 q => ?_)
      obtain ⟨rfl, h, hd, hf⟩ := q
      replace hM := hf.ms hM
      refine tt_aload_n d_X_evens_120 rfl ?_
      refine tt_getR d_X_evens_121 rfl rfl (by decide) rfl rfl ?_
      refine tt_aload_n d_X_evens_124 rfl ?_
      refine tt_getR d_X_evens_125 rfl rfl (by decide) rfl rfl ?_
      refine tt_iload_n d_X_evens_128 rfl ?_
      refine tt_callV (x_psmN (d := d) h.n ho.n8 hM (by omega)) cw_Tug_pullOf rfl rfl (by decide) rfl (by omega) d_X_evens_129 rfl rfl (Nat.le_of_ble_eq_true rfl) (Nat.le_of_ble_eq_true rfl) rfl rfl rfl (fun v σ2 q => ?_)
      obtain ⟨rfl, e9⟩ := q
      rw [e9]
      clear e9
      refine tt_i2l d_X_evens_132 ?_
      refine tt_callV (xq_add (d := d) h hd (Nat.le_of_ble_eq_true rfl)) cw_Told_add rfl rfl (by decide) rfl (by omega) d_X_evens_133 rfl rfl (Nat.le_of_ble_eq_true rfl) (Nat.le_of_ble_eq_true rfl) rfl rfl rfl (fun v σ2 q => ?_)
      obtain ⟨rfl, h, hd, hf⟩ := q
      refine tt_iload d_X_evens_136 rfl ?_
      refine tt_iret rfl d_X_evens_138 ?_
      exact ⟨rfl, h.done hd, h.2.1⟩
    · refine tt_iload d_X_evens_54 rfl ?_
      refine tt_iload_n d_X_evens_56 rfl ?_
      refine tt_iconst (v := (-1)) d_X_evens_57 (by decide) ?_
      refine tt_ixor d_X_evens_58 ?_
      refine tt_iand d_X_evens_59 ?_
      refine tt_top (an_N _ _) ?_
      refine tn_if_eq (t := 66) (by omega) d_X_evens_60 (by decide) (fun c_60 => ?_) (fun c_60 => ?_)
      · refine tt_iconst (v := nI 2) d_X_evens_66 (by decide) ?_
        refine tt_aload_n d_X_evens_67 rfl ?_
        refine tt_getR d_X_evens_68 rfl rfl (by decide) rfl rfl ?_
        refine tt_iload d_X_evens_71 rfl ?_
        refine tt_callV (x_psmN (d := d) h.n ho.n8 hM (by omega)) cw_Tug_pullOf rfl rfl (by decide) rfl (by omega) d_X_evens_73 rfl rfl (Nat.le_of_ble_eq_true rfl) (Nat.le_of_ble_eq_true rfl) rfl rfl rfl (fun v σ2 q => ?_)
        obtain ⟨rfl, e9⟩ := q
        rw [e9]
        clear e9
        refine tn_imul d_X_evens_76 ?_
        refine tt_iload_n d_X_evens_77 rfl ?_
        refine tt_isub d_X_evens_78 ?_
        refine tt_abs d_X_evens_79 rfl (Nat.le_of_ble_eq_true rfl) ?_
        refine tt_top (X_abs_adf (b := evA w (evP w)) (by omega) (by omega)) ?_
        refine tt_istore (lv2 := [_, _, _, _, _, _, _]) d_X_evens_82 (by decide) rfl ?_
        refine tt_iload d_X_evens_84 rfl ?_
        refine tt_iload d_X_evens_86 rfl ?_
        have e2 : adf (2 * psN (wE w) (wV w) s (eN (wE w))) (evA w (evP w)) = evD w s := rfl
        rw [e2]
        refine tn_ic_ge (t := 98) (by omega) (by omega) d_X_evens_88 (by decide) (fun c_88 => ?_) (fun c_88 => ?_)
        · have hz := ev_f hbb c_60 (by omega)
          refine tt_iinc (lv2 := [_, _, _, _, _, _, _]) d_X_evens_98 rfl (nI_inc _ 1) (by decide) rfl ?_
          refine tt_goto (t := 40) d_X_evens_101 (by decide) ?_
          exact ih (2 ^ eN (wE w) - (s + 1)) (by omega) (s + 1) _ (some _) _ rfl (by omega) (by omega) h hM hz
        · have hz := ev_t hbb c_60 (by omega)
          refine tt_iload d_X_evens_91 rfl ?_
          refine tt_istore (lv2 := [_, _, _, _, _, _, _]) d_X_evens_93 (by decide) rfl ?_
          refine tt_iload d_X_evens_95 rfl ?_
          refine tt_istore_n (lv2 := [_, _, _, _, _, _, _]) d_X_evens_97 (by decide) rfl ?_
          refine tt_iinc (lv2 := [_, _, _, _, _, _, _]) d_X_evens_98 rfl (nI_inc _ 1) (by decide) rfl ?_
          refine tt_goto (t := 40) d_X_evens_101 (by decide) ?_
          exact ih (2 ^ eN (wE w) - (s + 1)) (by omega) (s + 1) _ (some _) _ rfl (by omega) (by omega) h hM hz
      · have hz := ev_o hbb c_60
        refine tt_goto (t := 98) d_X_evens_63 (by decide) ?_
        refine tt_iinc (lv2 := [_, _, _, _, _, _, _]) d_X_evens_98 rfl (nI_inc _ 1) (by decide) rfl ?_
        refine tt_goto (t := 40) d_X_evens_101 (by decide) ?_
        exact ih (2 ^ eN (wE w) - (s + 1)) (by omega) (s + 1) _ z6 _ rfl (by omega) (by omega) h hM hz

set_option maxHeartbeats 4000000 in
theorem xc_evens {l : xLa} {d : Nat} {σ : xs} {w : wv} (ho : okQ w) (hw : XW σ w)  : TC l M_X_evens (d + 30) [.ref 0] σ (fun r τ => r = some (.int ((q_evens w).1)) ∧ XW τ (stD w ((q_evens w).2)) ∧ XF σ τ) := by
  show T l M_X_evens (d + 30) 0 _ [] σ _
  refine T_lv (lv2 := [_, _, _, _, _, _, _]) rfl ?_
  have h := XQ.rf hw.v
  have hd0 := hw.2.2.2.1
  have hb0 := ho.fb
  have hb8 := ho.n8
  have hpw := Nat.two_pow_pos (eN (wE w))
  have hpl := puN_lt (wE w) (wV w) ho.n8
  refine tt_aload_n d_X_evens_0 rfl ?_
  refine tt_getR d_X_evens_1 rfl rfl (by decide) rfl rfl ?_
  refine tt_aload_n d_X_evens_4 rfl ?_
  refine tt_getR d_X_evens_5 rfl rfl (by decide) rfl rfl ?_
  refine tt_aload_n d_X_evens_8 rfl ?_
  refine tt_getP d_X_evens_9 rfl ?_
  refine tt_callV (xq_measure (d := d) h ho.1 ho.2.1) cw_Tug_measure rfl rfl (by decide) rfl (by omega) d_X_evens_12 rfl rfl (Nat.le_of_ble_eq_true rfl) (Nat.le_of_ble_eq_true rfl) rfl rfl rfl (fun v σ2 q => ?_)
  obtain ⟨rfl, h, hM, hu⟩ := q
  replace hd0 := hd0.tn hu
  refine tt_aload_n d_X_evens_15 rfl ?_
  refine tt_getR d_X_evens_16 rfl rfl (by decide) rfl rfl ?_
  refine tt_callV (x_pusN (d := d) h.n ho.n8 hM) cw_Tug_pullers rfl rfl (by decide) rfl (by omega) d_X_evens_19 rfl rfl (Nat.le_of_ble_eq_true rfl) (Nat.le_of_ble_eq_true rfl) rfl rfl rfl (fun v σ2 q => ?_)
  obtain ⟨rfl, e9⟩ := q
  rw [e9]
  clear e9
  refine tt_istore_n (lv2 := [_, _, _, _, _, _, _]) d_X_evens_22 (by decide) rfl ?_
  refine tt_aload_n d_X_evens_23 rfl ?_
  refine tt_getR d_X_evens_24 rfl rfl (by decide) rfl rfl ?_
  refine tt_iload_n d_X_evens_27 rfl ?_
  refine tt_callV (x_psmN (d := d) h.n ho.n8 hM (by omega)) cw_Tug_pullOf rfl rfl (by decide) rfl (by omega) d_X_evens_28 rfl rfl (Nat.le_of_ble_eq_true rfl) (Nat.le_of_ble_eq_true rfl) rfl rfl rfl (fun v σ2 q => ?_)
  obtain ⟨rfl, e9⟩ := q
  rw [e9]
  clear e9
  refine tt_istore_n (lv2 := [_, _, _, _, _, _, _]) d_X_evens_31 (by decide) rfl ?_
  refine tt_iconst (v := nI 0) d_X_evens_32 (by decide) ?_
  refine tt_istore_n (lv2 := [_, _, _, _, _, _, _]) d_X_evens_33 (by decide) rfl ?_
  refine tt_iload_n d_X_evens_34 rfl ?_
  refine tt_istore (lv2 := [_, _, _, _, _, _, _]) d_X_evens_35 (by decide) rfl ?_
  refine tt_iconst (v := nI 1) d_X_evens_37 (by decide) ?_
  refine tt_istore (lv2 := [_, _, _, _, _, _, _]) d_X_evens_38 (by decide) rfl ?_
  have q := x_evens_l (l := l) (d := d) ho (2 ^ eN (wE w) - 1) 1 0 none _ rfl (by omega) (by omega) h hM (ev_0 w)
  rw [ev_all] at q
  exact q

set_option maxHeartbeats 4000000 in
theorem y_evens_l {l : xLa} {d : Nat} {σ : xs} {c : Nat} {w : wv} (ho : okQ w) : ∀ (m : Nat) (s b : Nat) (z4 : Option Int32) (τ : xs), evP w + 1 - s = m → 1 ≤ s → s ≤ evP w + 1 → YQ c w σ τ → (∀ j, j < eN (wE w) → si τ 169 j = plV (wE w) (wV w) j) → b = evF w s → T l M_Y_evens (d + 150) 22 [some (.ref 154), some (.int (nI (evP w))), some (.int (nI b)), some (.int (nI s)), z4.map Value.int] [] τ (fun r τ => r = some (.int (q_evens w).1) ∧ YW τ c (stD w (q_evens w).2) ∧ YF σ τ) := by
  have hb0 := ho.fb
  have hb8 := ho.n8
  intro m
  induction m using Nat.strongRecOn with
  | ind m ih =>
    intro s b z4 τ hm h1 hs h hM hbb
    have hea : evA w s = psN (wE w) (wV w) s (eN (wE w)) := rfl
    have hes := evD_le ho s
    have heb := evD_le ho b
    have hep := evD_le ho (evP w)
    have hpl : evP w < 256 := puN_lt (wE w) (wV w) ho.n8
    have hbl : b ≤ evP w := by rw [hbb]; exact fsN_lt (fun _ _ => evS_or) s
    have hdl := dfN_lt (b := evP w) (show s < 2 ^ 30 by omega)
    refine tt_iload_n d_Y_evens_22 rfl ?_
    refine tt_iload_n d_Y_evens_23 rfl ?_
    refine tn_ic_gt (t := 94) (by omega) (by omega) d_Y_evens_24 (by decide) (fun c_24 => ?_) (fun c_24 => ?_)
    · obtain rfl : s = evP w + 1 := by omega
      subst hbb
      refine tt_aload_n d_Y_evens_94 rfl ?_
      refine tt_iconst (v := nI 0) d_Y_evens_95 (by decide) ?_
      refine tt_putI d_Y_evens_96 rfl rfl (by decide) rfl (xpok_int rfl) rfl ?_
      replace h := h.td0
      have hd := YD_0t h
      replace hM : ∀ j, j < eN (wE w) → si (wF _ 154 1 (nI 0)) 169 j = plV (wE w) (wV w) j := hM
      refine tt_aload_n d_Y_evens_99 rfl ?_
      refine tt_iload_n d_Y_evens_100 rfl ?_
      refine tt_i2l d_Y_evens_101 ?_
      refine tt_callV (yq_add (d := d) h hd (Nat.le_of_ble_eq_true rfl)) cw_Y_enters rfl rfl (by decide) rfl (by omega) d_Y_evens_102 rfl rfl (Nat.le_of_ble_eq_true rfl) (Nat.le_of_ble_eq_true rfl) rfl rfl rfl (fun v σ2 q => ?_)
      obtain ⟨rfl, h, hd, hf⟩ := q
      replace hM : ∀ j, j < eN (wE w) → si _ 169 j = plV (wE w) (wV w) j := fun j hj => (congrFun (hf.si 169) j).trans (hM j hj)
      refine tt_aload_n d_Y_evens_105 rfl ?_
      refine tt_aload_n d_Y_evens_106 rfl ?_
      refine tt_iload_n d_Y_evens_107 rfl ?_
      refine tt_callV (y_psmN (d := d) (by omega) ho.1 h.e.1.2.2.1 hM) cw_Y_pullOf rfl rfl (by decide) rfl (by omega) d_Y_evens_108 rfl rfl (Nat.le_of_ble_eq_true rfl) (Nat.le_of_ble_eq_true rfl) rfl rfl rfl (fun v σ2 q => ?_)
      obtain ⟨rfl, e9⟩ := q
      rw [e9]
      clear e9
      refine tt_i2l d_Y_evens_111 ?_
      refine tt_callV (yq_add (d := d) h hd (Nat.le_of_ble_eq_true rfl)) cw_Y_enters rfl rfl (by decide) rfl (by omega) d_Y_evens_112 rfl rfl (Nat.le_of_ble_eq_true rfl) (Nat.le_of_ble_eq_true rfl) rfl rfl rfl (fun v σ2 q => ?_)
      obtain ⟨rfl, h, hd, hf⟩ := q
      replace hM : ∀ j, j < eN (wE w) → si _ 169 j = plV (wE w) (wV w) j := fun j hj => (congrFun (hf.si 169) j).trans (hM j hj)
      refine tt_aload_n d_Y_evens_115 rfl ?_
      refine tt_iload_n d_Y_evens_116 rfl ?_
      refine tt_callV (y_psmN (d := d) (by omega) ho.1 h.e.1.2.2.1 hM) cw_Y_pullOf rfl rfl (by decide) rfl (by omega) d_Y_evens_117 rfl rfl (Nat.le_of_ble_eq_true rfl) (Nat.le_of_ble_eq_true rfl) rfl rfl rfl (fun v σ2 q => ?_)
      obtain ⟨rfl, e9⟩ := q
      rw [e9]
      clear e9
      refine tt_iconst (v := nI 2) d_Y_evens_120 (by decide) ?_
      refine tt_aload_n d_Y_evens_121 rfl ?_
      refine tt_iload_n d_Y_evens_122 rfl ?_
      refine tt_callV (y_psmN (d := d) (by omega) ho.1 h.e.1.2.2.1 hM) cw_Y_pullOf rfl rfl (by decide) rfl (by omega) d_Y_evens_123 rfl rfl (Nat.le_of_ble_eq_true rfl) (Nat.le_of_ble_eq_true rfl) rfl rfl rfl (fun v σ2 q => ?_)
      obtain ⟨rfl, e9⟩ := q
      rw [e9]
      clear e9
      refine tn_imul d_Y_evens_126 ?_
      refine tt_isub d_Y_evens_127 ?_
      refine tt_abs d_Y_evens_128 rfl (Nat.le_of_ble_eq_true rfl) ?_
      refine tt_top ((X_abs_adf (a := evA w (evP w)) (b := 2 * evA w (evF w (evP w + 1))) (by omega) (by omega)).trans (congrArg nI (adf_sy _ _))) ?_
      have e2 : adf (2 * evA w (evF w (evP w + 1))) (evA w (evP w)) = evD w (evF w (evP w + 1)) := rfl
      rw [e2]
      refine tt_iret rfl d_Y_evens_131 ?_
      exact ⟨rfl, h.done hd, h.2⟩
    · refine tt_iload_n d_Y_evens_27 rfl ?_
      refine tt_iload_n d_Y_evens_28 rfl ?_
      refine tt_iconst (v := (-1)) d_Y_evens_29 (by decide) ?_
      refine tt_ixor d_Y_evens_30 ?_
      refine tt_iand d_Y_evens_31 ?_
      refine tt_top (an_N _ _) ?_
      refine tn_if_ne (t := 39) (by omega) d_Y_evens_32 (by decide) (fun c_32 => ?_) (fun c_32 => ?_)
      · have hz := ev_o hbb c_32
        refine tt_iconst (v := nI 0) d_Y_evens_39 (by decide) ?_
        refine tt_istore (lv2 := [_, _, _, _, _]) d_Y_evens_40 (by decide) rfl ?_
        refine tt_iload d_Y_evens_42 rfl ?_
        refine tn_if_eq (t := 86) (by omega) d_Y_evens_44 (by decide) (fun c_44 => ?_) (fun c_44 => ?_)
        · refine tt_iload_n d_Y_evens_86 rfl ?_
          refine tt_istore_n (lv2 := [_, _, _, _, _]) d_Y_evens_87 (by decide) rfl ?_
          refine tt_iinc (lv2 := [_, _, _, _, _]) d_Y_evens_88 rfl (nI_inc _ 1) (by decide) rfl ?_
          refine tt_goto (t := 22) d_Y_evens_91 (by decide) ?_
          exact ih (evP w + 1 - (s + 1)) (by omega) (s + 1) _ (some _) _ rfl (by omega) (by omega) h hM hz
        · omega
      · refine tt_iconst (v := nI 1) d_Y_evens_35 (by decide) ?_
        refine tt_goto (t := 40) d_Y_evens_36 (by decide) ?_
        refine tt_istore (lv2 := [_, _, _, _, _]) d_Y_evens_40 (by decide) rfl ?_
        refine tt_iload d_Y_evens_42 rfl ?_
        refine tn_if_eq (t := 86) (by omega) d_Y_evens_44 (by decide) (fun c_44 => ?_) (fun c_44 => ?_)
        · omega
        · refine tt_aload_n d_Y_evens_47 rfl ?_
          refine tt_iload_n d_Y_evens_48 rfl ?_
          refine tt_callV (y_psmN (d := d) (by omega) ho.1 h.e.1.2.2.1 hM) cw_Y_pullOf rfl rfl (by decide) rfl (by omega) d_Y_evens_49 rfl rfl (Nat.le_of_ble_eq_true rfl) (Nat.le_of_ble_eq_true rfl) rfl rfl rfl (fun v σ2 q => ?_)
          obtain ⟨rfl, e9⟩ := q
          rw [e9]
          clear e9
          refine tt_iconst (v := nI 2) d_Y_evens_52 (by decide) ?_
          refine tt_aload_n d_Y_evens_53 rfl ?_
          refine tt_iload_n d_Y_evens_54 rfl ?_
          refine tt_callV (y_psmN (d := d) (by omega) ho.1 h.e.1.2.2.1 hM) cw_Y_pullOf rfl rfl (by decide) rfl (by omega) d_Y_evens_55 rfl rfl (Nat.le_of_ble_eq_true rfl) (Nat.le_of_ble_eq_true rfl) rfl rfl rfl (fun v σ2 q => ?_)
          obtain ⟨rfl, e9⟩ := q
          rw [e9]
          clear e9
          refine tn_imul d_Y_evens_58 ?_
          refine tt_isub d_Y_evens_59 ?_
          refine tt_abs d_Y_evens_60 rfl (Nat.le_of_ble_eq_true rfl) ?_
          refine tt_top ((X_abs_adf (a := evA w (evP w)) (b := 2 * evA w s) (by omega) (by omega)).trans (congrArg nI (adf_sy _ _))) ?_
          have e2 : adf (2 * evA w s) (evA w (evP w)) = evD w s := rfl
          rw [e2]
          refine tt_aload_n d_Y_evens_63 rfl ?_
          refine tt_iload_n d_Y_evens_64 rfl ?_
          refine tt_callV (y_psmN (d := d) (by omega) ho.1 h.e.1.2.2.1 hM) cw_Y_pullOf rfl rfl (by decide) rfl (by omega) d_Y_evens_65 rfl rfl (Nat.le_of_ble_eq_true rfl) (Nat.le_of_ble_eq_true rfl) rfl rfl rfl (fun v σ2 q => ?_)
          obtain ⟨rfl, e9⟩ := q
          rw [e9]
          clear e9
          refine tt_iconst (v := nI 2) d_Y_evens_68 (by decide) ?_
          refine tt_aload_n d_Y_evens_69 rfl ?_
          refine tt_iload_n d_Y_evens_70 rfl ?_
          refine tt_callV (y_psmN (d := d) (by omega) ho.1 h.e.1.2.2.1 hM) cw_Y_pullOf rfl rfl (by decide) rfl (by omega) d_Y_evens_71 rfl rfl (Nat.le_of_ble_eq_true rfl) (Nat.le_of_ble_eq_true rfl) rfl rfl rfl (fun v σ2 q => ?_)
          obtain ⟨rfl, e9⟩ := q
          rw [e9]
          clear e9
          refine tn_imul d_Y_evens_74 ?_
          refine tt_isub d_Y_evens_75 ?_
          refine tt_abs d_Y_evens_76 rfl (Nat.le_of_ble_eq_true rfl) ?_
          refine tt_top ((X_abs_adf (a := evA w (evP w)) (b := 2 * evA w b) (by omega) (by omega)).trans (congrArg nI (adf_sy _ _))) ?_
          have e2 : adf (2 * evA w b) (evA w (evP w)) = evD w b := rfl
          rw [e2]
          refine tn_ic_ge (t := 86) (by omega) (by omega) d_Y_evens_79 (by decide) (fun c_79 => ?_) (fun c_79 => ?_)
          · have hz := ev_f hbb c_32 (by omega)
            refine tt_iload_n d_Y_evens_86 rfl ?_
            refine tt_istore_n (lv2 := [_, _, _, _, _]) d_Y_evens_87 (by decide) rfl ?_
            refine tt_iinc (lv2 := [_, _, _, _, _]) d_Y_evens_88 rfl (nI_inc _ 1) (by decide) rfl ?_
            refine tt_goto (t := 22) d_Y_evens_91 (by decide) ?_
            exact ih (evP w + 1 - (s + 1)) (by omega) (s + 1) _ (some _) _ rfl (by omega) (by omega) h hM hz
          · have hz := ev_t hbb c_32 (by omega)
            refine tt_iload_n d_Y_evens_82 rfl ?_
            refine tt_goto (t := 87) d_Y_evens_83 (by decide) ?_
            refine tt_istore_n (lv2 := [_, _, _, _, _]) d_Y_evens_87 (by decide) rfl ?_
            refine tt_iinc (lv2 := [_, _, _, _, _]) d_Y_evens_88 rfl (nI_inc _ 1) (by decide) rfl ?_
            refine tt_goto (t := 22) d_Y_evens_91 (by decide) ?_
            exact ih (evP w + 1 - (s + 1)) (by omega) (s + 1) _ (some _) _ rfl (by omega) (by omega) h hM hz

set_option maxHeartbeats 4000000 in
theorem yc_evens {l : xLa} {d c : Nat} {σ : xs} {w : wv} (ho : okQ w) (hw : YW σ c w)  : TC l M_Y_evens (d + 150) [.ref 154] σ (fun r τ => r = some (.int ((q_evens w).1)) ∧ YW τ c (stD w ((q_evens w).2)) ∧ YF σ τ) := by
  show T l M_Y_evens (d + 150) 0 _ [] σ _
  refine T_lv (lv2 := [_, _, _, _, _]) rfl ?_
  have h := YQ.rf hw.v
  have hd0 := hw.2.2.2.1
  have hb0 := ho.fb
  have hb8 := ho.n8
  have hpl := puN_lt (wE w) (wV w) ho.n8
  refine tt_aload_n d_Y_evens_0 rfl ?_
  refine tt_iconst (v := nI 0) d_Y_evens_1 (by decide) ?_
  refine tt_putI d_Y_evens_2 rfl rfl (by decide) rfl (xpok_int rfl) rfl ?_
  replace h := h.thr (x := nI 0)
  replace hd0 := hd0.thr (x := nI 0)
  refine tt_aload_n d_Y_evens_5 rfl ?_
  refine tt_aload_n d_Y_evens_6 rfl ?_
  refine tt_getR d_Y_evens_7 rfl rfl (by decide) rfl rfl ?_
  refine tt_callV (yq_pulls (d := d) h ho.1 ho.2.1) cw_Y_laysPulls rfl rfl (by decide) rfl (by omega) d_Y_evens_10 rfl rfl (Nat.le_of_ble_eq_true rfl) (Nat.le_of_ble_eq_true rfl) rfl rfl rfl (fun v σ2 q => ?_)
  obtain ⟨rfl, h, hu, hM⟩ := q
  replace hd0 := hd0.un hu
  refine tt_aload_n d_Y_evens_13 rfl ?_
  refine tt_callV (y_pusN (d := d) ho.1 h.e.1.2.2.1 hM) cw_Y_pulling rfl rfl (by decide) rfl (by omega) d_Y_evens_14 rfl rfl (Nat.le_of_ble_eq_true rfl) (Nat.le_of_ble_eq_true rfl) rfl rfl rfl (fun v σ2 q => ?_)
  obtain ⟨rfl, e9⟩ := q
  rw [e9]
  clear e9
  refine tt_istore_n (lv2 := [_, _, _, _, _]) d_Y_evens_17 (by decide) rfl ?_
  refine tt_iconst (v := nI 0) d_Y_evens_18 (by decide) ?_
  refine tt_istore_n (lv2 := [_, _, _, _, _]) d_Y_evens_19 (by decide) rfl ?_
  refine tt_iconst (v := nI 1) d_Y_evens_20 (by decide) ?_
  refine tt_istore_n (lv2 := [_, _, _, _, _]) d_Y_evens_21 (by decide) rfl ?_
  by_cases hz : evP w = 0
  · exact y_evens_l ho (evP w + 1 - 1) 1 0 none _ rfl (by omega) (by omega) h hM (ev_0 w)
  · exact y_evens_l ho (evP w + 1 - 1) 1 0 none _ rfl (by omega) (by omega) h hM (ev_0 w)

