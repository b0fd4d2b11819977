/-! The law's loop, and the law from its entry. Printed by wip/whole/h_law4.py. -/
theorem and63 (v : Int32) : ∃ n, n < 64 ∧ v &&& 63 = nI n := by
  refine ⟨(v.toBitVec &&& 63#32).toNat, ?_, ?_⟩
  · rw [BitVec.toNat_and]
    exact Nat.lt_of_le_of_lt Nat.and_le_right (by decide)
  · apply Int32.toBitVec_inj.mp
    show v.toBitVec &&& 63#32 = BitVec.ofNat 32 (v.toBitVec &&& 63#32).toNat
    rw [BitVec.ofNat_toNat]
    simp
theorem lm5 {L : Nat} (h : L ≤ 2560) : (nI L - 5).toInt = (L : Int) - 5 := by
  rw [Int32.toInt_sub, nI_toInt (by omega)]
  have e : (5 : Int32).toInt = 5 := by decide
  rw [e]
  apply Int.bmod_eq_of_le <;> omega
section
variable {l : xLa} {M : mT} {d pc uc us i : Nat} {lv lv' : List (Option Value)} {st : List Value} {h : xH} {Q : Option Value → xH → Prop}
theorem oe_icgt {off : Int} {t : Nat} {x y : Int32} (hd : decode (mCd M) pc = .ok (.if_icmp .gt off, 3)) (ht : xj pc off = some t) (k1 : y < x → E l M (d + 1) t lv st h uc us Q) (k2 : ¬ y < x → E l M (d + 1) (pc + 3) lv st h uc us Q) : E l M (d + 1) pc lv (.int y :: .int x :: st) h uc us Q := by
  refine E.step (x := (if y < x then t else pc + 3, lv, st, h)) (Nat.le_add_left 1 d) hd (by show s_ic (fun x y => y < x) 3 pc lv _ h off = _; unfold s_ic; simp only [ht]; rfl) ?_
  dsimp only
  by_cases g : y < x
  · rw [if_pos g]; exact k1 g
  · rw [if_neg g]; exact k2 g
theorem oe_isub {x y : Int32} (hd : decode (mCd M) pc = .ok (.isub, 1)) (k : E l M (d + 1) (pc + 1) lv (.int (x - y) :: st) h uc us Q) : E l M (d + 1) pc lv (.int y :: .int x :: st) h uc us Q := E.step (x := (pc + 1, lv, .int (x - y) :: st, h)) (Nat.le_add_left 1 d) hd rfl k
theorem oe_iand {x y : Int32} (hd : decode (mCd M) pc = .ok (.iand, 1)) (k : E l M (d + 1) (pc + 1) lv (.int (x &&& y) :: st) h uc us Q) : E l M (d + 1) pc lv (.int y :: .int x :: st) h uc us Q := E.step (x := (pc + 1, lv, .int (x &&& y) :: st, h)) (Nat.le_add_left 1 d) hd rfl k
theorem oe_astore {j : Fin 4} {v : Nat} (hd : decode (mCd M) pc = .ok (.astore_n j, 1)) (hi : (j : Nat) < mLo M) (hl : xst1 lv j (.ref v) = lv') (k : E l M (d + 1) (pc + 1) lv' st h uc us Q) : E l M (d + 1) pc lv (.ref v :: st) h uc us Q :=
  E.step (x := (pc + 1, lv', st, h)) (Nat.le_add_left 1 d) hd (by subst hl; show s_st M 1 1 pc lv (.ref v :: st) h 2 j = _; unfold s_st; simp [hi]) k
end
theorem law_l {l : xLa} (hl : l.1.stackTraces = false) (hL : l.2.1 ≤ 2560) : ∀ m k, k + m = 512 → ∀ (w : wv) (c : Nat) (σ : xs) (uc us : Nat), IV k w c σ → uc ≤ 190 + k → us ≤ 8005 + 8 * k → E l M_L_law 2048 23 (LLV (5 * k)) [] (mk σ) uc us (fun r _ => r = some (.int 1)) := by
  intro m
  induction m with
  | zero =>
    intro k hk w c σ uc us hI h1 h2
    obtain rfl : k = 512 := by omega
    refine oe_iload2 d_L_law_23 rfl ?_
    refine oe_aload d_L_law_25 rfl ?_
    refine E.scrlen d_L_law_26 ?_
    refine oe_iconst (v := 5) d_L_law_27 (by decide) ?_
    refine oe_isub d_L_law_28 ?_
    refine oe_icgt (t := 1478) d_L_law_29 (by decide) (fun g => ?_) (fun g => ?_)
    · refine oe_iconst (v := 1) d_L_law_1478 (by decide) ?_
      exact E.zret (ty := .boolean) rfl (by decide) d_L_law_1479 rfl
    · exfalso
      apply g
      rw [Int32.lt_iff_toInt_lt, show Int32.ofNat l.2.1 - 5 = nI l.2.1 - 5 from rfl, lm5 hL, nI_toInt (by decide)]
      omega
  | succ m ih =>
    intro k hk w c σ uc us hI h1 h2
    refine oe_iload2 d_L_law_23 rfl ?_
    refine oe_aload d_L_law_25 rfl ?_
    refine E.scrlen d_L_law_26 ?_
    refine oe_iconst (v := 5) d_L_law_27 (by decide) ?_
    refine oe_isub d_L_law_28 ?_
    refine oe_icgt (t := 1478) d_L_law_29 (by decide) (fun g => ?_) (fun g => ?_)
    · refine oe_iconst (v := 1) d_L_law_1478 (by decide) ?_
      exact E.zret (ty := .boolean) rfl (by decide) d_L_law_1479 rfl
    rw [Int32.lt_iff_toInt_lt, show Int32.ofNat l.2.1 - 5 = nI l.2.1 - 5 from rfl, lm5 hL, nI_toInt (by omega)] at g
    have hi : 5 * k + 5 ≤ l.2.1 := by omega
    have hk5 : k < 512 := by omega
    have K0 : ∀ (w2 : wv) (c2 : Nat) (σ2 : xs) (uc2 us2 : Nat), IV (k + 1) w2 c2 σ2 → uc2 ≤ 190 + (k + 1) → us2 ≤ 8005 + 8 * (k + 1) → E l M_L_law 2048 1472 (LLV (5 * k)) [] (mk σ2) uc2 us2 (fun r _ => r = some (.int 1)) := by
      intro w2 c2 σ2 uc2 us2 hI2 g1 g2
      refine oe_iinc (w := nI (5 * (k + 1))) (lv' := LLV (5 * (k + 1))) d_L_law_1472 rfl ?_ (by decide) rfl ?_
      · show nI (5 * k) + nI 5 = _
        rw [show nI (5 * k) + nI 5 = nI (5 * k + 5) from (Int32.ofNat_add (5 * k) 5).symm, show 5 * (k + 1) = 5 * k + 5 by omega]
      · refine oe_goto (t := 23) d_L_law_1475 (by decide) ?_
        exact ih (k + 1) (by omega) w2 c2 σ2 uc2 us2 hI2 g1 g2
    have K : ∀ (w2 : wv) (c2 : Nat) (σ2 : xs), IV (k + 1) w2 c2 σ2 → E l M_L_law 2048 1472 (LLV (5 * k)) [] (mk σ2) uc us (fun r _ => r = some (.int 1)) := fun w2 c2 σ2 hI2 => K0 w2 c2 σ2 uc us hI2 (by omega) (by omega)
    have KT : ∀ (σ2 : xs), IV (k + 1) w c σ2 → E l M_L_law 2048 1472 (LLV (5 * k)) [] (mk σ2) (uc + 1) (us + 8) (fun r _ => r = some (.int 1)) := fun σ2 hI2 => K0 w c σ2 (uc + 1) (us + 8) hI2 (by omega) (by omega)
    have hb : uc ≤ 190 + 512 ∧ us ≤ 8005 + 8 * 512 := by omega
    refine oe_aload d_L_law_32 rfl ?_
    refine oe_iload2 d_L_law_33 rfl ?_
    refine E.scrld (vp_in_nI (by omega) (by omega)) d_L_law_35 ?_
    refine oe_bipush (v := 63) d_L_law_36 (by decide) ?_
    refine oe_iand d_L_law_38 ?_
    obtain ⟨n, hn, hx⟩ := and63 (l.2.2 (nI (5 * k)).toNatClampNeg)
    rw [hx]
    clear hx
    match n, hn with
    | 0, _ => exact E.step (x := (240, LLV (5 * k), [], mk σ)) (by decide) d_L_law_39 (by rfl) (lc_sign hI hk5 hi hL K)
    | 1, _ => exact E.step (x := (265, LLV (5 * k), [], mk σ)) (by decide) d_L_law_39 (by rfl) (lc_end hI hk5 hi hL K)
    | 2, _ => exact E.step (x := (290, LLV (5 * k), [], mk σ)) (by decide) d_L_law_39 (by rfl) (lc_lake hI hk5 hi hL K)
    | 3, _ => exact E.step (x := (303, LLV (5 * k), [], mk σ)) (by decide) d_L_law_39 (by rfl) (lc_fish hI hk5 hi hL K)
    | 4, _ => exact E.step (x := (316, LLV (5 * k), [], mk σ)) (by decide) d_L_law_39 (by rfl) (lc_oar hI hk5 hi hL K)
    | 5, _ => exact E.step (x := (329, LLV (5 * k), [], mk σ)) (by decide) d_L_law_39 (by rfl) (lc_fog hI hk5 hi hL K)
    | 6, _ => exact E.step (x := (342, LLV (5 * k), [], mk σ)) (by decide) d_L_law_39 (by rfl) (lc_rule hI hk5 hi hL K)
    | 7, _ => exact E.step (x := (355, LLV (5 * k), [], mk σ)) (by decide) d_L_law_39 (by rfl) (lc_one hl hI hk5 hi hL hb KT)
    | 8, _ => exact E.step (x := (423, LLV (5 * k), [], mk σ)) (by decide) d_L_law_39 (by rfl) (lc_field hl hI hk5 hi hL hb KT)
    | 9, _ => exact E.step (x := (491, LLV (5 * k), [], mk σ)) (by decide) d_L_law_39 (by rfl) (lc_sheet hI hk5 hi hL K)
    | 10, _ => exact E.step (x := (552, LLV (5 * k), [], mk σ)) (by decide) d_L_law_39 (by rfl) (lc_hours hI hk5 hi hL K)
    | 11, _ => exact E.step (x := (577, LLV (5 * k), [], mk σ)) (by decide) d_L_law_39 (by rfl) (lc_promise hI hk5 hi hL K)
    | 12, _ => exact E.step (x := (626, LLV (5 * k), [], mk σ)) (by decide) d_L_law_39 (by rfl) (lc_takesBack hI hk5 hi hL K)
    | 13, _ => exact E.step (x := (651, LLV (5 * k), [], mk σ)) (by decide) d_L_law_39 (by rfl) (lc_letsGo hI hk5 hi hL K)
    | 14, _ => exact E.step (x := (676, LLV (5 * k), [], mk σ)) (by decide) d_L_law_39 (by rfl) (lc_buys hI hk5 hi hL K)
    | 15, _ => exact E.step (x := (701, LLV (5 * k), [], mk σ)) (by decide) d_L_law_39 (by rfl) (lc_day hI hk5 hi hL K)
    | 16, _ => exact E.step (x := (714, LLV (5 * k), [], mk σ)) (by decide) d_L_law_39 (by rfl) (lc_undo hI hk5 hi hL K)
    | 17, _ => exact E.step (x := (727, LLV (5 * k), [], mk σ)) (by decide) d_L_law_39 (by rfl) (lc_towed hI hk5 hi hL K)
    | 18, _ => exact E.step (x := (740, LLV (5 * k), [], mk σ)) (by decide) d_L_law_39 (by rfl) (lc_ahead hI hk5 hi hL K)
    | 19, _ => exact E.step (x := (765, LLV (5 * k), [], mk σ)) (by decide) d_L_law_39 (by rfl) (lc_comes hI hk5 hi hL K)
    | 20, _ => exact E.step (x := (790, LLV (5 * k), [], mk σ)) (by decide) d_L_law_39 (by rfl) (lc_sticks hI hk5 hi hL K)
    | 21, _ => exact E.step (x := (803, LLV (5 * k), [], mk σ)) (by decide) d_L_law_39 (by rfl) (lc_track hI hk5 hi hL K)
    | 22, _ => exact E.step (x := (829, LLV (5 * k), [], mk σ)) (by decide) d_L_law_39 (by rfl) (lc_sends hI hk5 hi hL K)
    | 23, _ => exact E.step (x := (878, LLV (5 * k), [], mk σ)) (by decide) d_L_law_39 (by rfl) (lc_cheapest hI hk5 hi hL K)
    | 24, _ => exact E.step (x := (915, LLV (5 * k), [], mk σ)) (by decide) d_L_law_39 (by rfl) (lc_matters hI hk5 hi hL K)
    | 25, _ => exact E.step (x := (940, LLV (5 * k), [], mk σ)) (by decide) d_L_law_39 (by rfl) (lc_keeps hI hk5 hi hL K)
    | 26, _ => exact E.step (x := (953, LLV (5 * k), [], mk σ)) (by decide) d_L_law_39 (by rfl) (lc_owed hI hk5 hi hL K)
    | 27, _ => exact E.step (x := (966, LLV (5 * k), [], mk σ)) (by decide) d_L_law_39 (by rfl) (lc_fates hI hk5 hi hL K)
    | 28, _ => exact E.step (x := (991, LLV (5 * k), [], mk σ)) (by decide) d_L_law_39 (by rfl) (lc_minds hI hk5 hi hL K)
    | 29, _ => exact E.step (x := (1004, LLV (5 * k), [], mk σ)) (by decide) d_L_law_39 (by rfl) (lc_evens hI hk5 hi hL K)
    | 30, _ => exact E.step (x := (1017, LLV (5 * k), [], mk σ)) (by decide) d_L_law_39 (by rfl) (lc_strongest hI hk5 hi hL K)
    | 31, _ => exact E.step (x := (1030, LLV (5 * k), [], mk σ)) (by decide) d_L_law_39 (by rfl) (lc_sways hI hk5 hi hL K)
    | 32, _ => exact E.step (x := (1055, LLV (5 * k), [], mk σ)) (by decide) d_L_law_39 (by rfl) (lc_seen hI hk5 hi hL K)
    | 33, _ => exact E.step (x := (1104, LLV (5 * k), [], mk σ)) (by decide) d_L_law_39 (by rfl) (lc_forget hI hk5 hi hL K)
    | 34, _ => exact E.step (x := (1117, LLV (5 * k), [], mk σ)) (by decide) d_L_law_39 (by rfl) (lc_fits hI hk5 hi hL K)
    | 35, _ => exact E.step (x := (1130, LLV (5 * k), [], mk σ)) (by decide) d_L_law_39 (by rfl) (lc_looks hI hk5 hi hL K)
    | 36, _ => exact E.step (x := (1143, LLV (5 * k), [], mk σ)) (by decide) d_L_law_39 (by rfl) (lc_way hI hk5 hi hL K)
    | 37, _ => exact E.step (x := (1180, LLV (5 * k), [], mk σ)) (by decide) d_L_law_39 (by rfl) (lc_farthest hI hk5 hi hL K)
    | 38, _ => exact E.step (x := (1193, LLV (5 * k), [], mk σ)) (by decide) d_L_law_39 (by rfl) (lc_drifts hI hk5 hi hL K)
    | 39, _ => exact E.step (x := (1230, LLV (5 * k), [], mk σ)) (by decide) d_L_law_39 (by rfl) (lc_game hI hk5 hi hL K)
    | 40, _ => exact E.step (x := (1267, LLV (5 * k), [], mk σ)) (by decide) d_L_law_39 (by rfl) (lc_law hI hk5 hi hL K)
    | 41, _ => exact E.step (x := (1280, LLV (5 * k), [], mk σ)) (by decide) d_L_law_39 (by rfl) (lc_rests hI hk5 hi hL K)
    | 42, _ => exact E.step (x := (1305, LLV (5 * k), [], mk σ)) (by decide) d_L_law_39 (by rfl) (lc_years hI hk5 hi hL K)
    | 43, _ => exact E.step (x := (1342, LLV (5 * k), [], mk σ)) (by decide) d_L_law_39 (by rfl) (lc_keep hI hk5 hi hL K)
    | 44, _ => exact E.step (x := (1367, LLV (5 * k), [], mk σ)) (by decide) d_L_law_39 (by rfl) (lc_again hI hk5 hi hL K)
    | 45, _ => exact E.step (x := (1392, LLV (5 * k), [], mk σ)) (by decide) d_L_law_39 (by rfl) (lc_count hI hk5 hi hL K)
    | 46, _ => exact E.step (x := (1417, LLV (5 * k), [], mk σ)) (by decide) d_L_law_39 (by rfl) (lc_row hl hI hk5 hi hL hb KT)
    | n + 47, hn =>
      refine E.step (x := (1472, LLV (5 * k), [], mk σ)) (by decide) d_L_law_39 ?_ (K w c σ ⟨hI.1, hI.2.1, hI.2.2.1.up, Nat.le_succ_of_le hI.2.2.2⟩)
      show s_tab 39 (LLV (5 * k)) [.int (nI (n + 47))] (mk σ) 1433 0 46 _ = _
      unfold s_tab
      dsimp only
      rw [nI_toInt (by omega), if_pos (Or.inr (by omega))]
      rfl
def hz0 : xH := ([], DF, fun _ _ => 0, fun _ _ => 0, fun _ _ => none)
theorem Fr00 : Fr0 0 hz0 := ⟨rfl, ⟨by show 0 < xB; unfold xB; decide, fun k j hk => absurd hk (Nat.not_lt_zero k), fun k j r hk => absurd hk (Nat.not_lt_zero k)⟩, fun a _ => ⟨rfl, rfl, rfl, rfl⟩⟩
theorem law_E {l : xLa} (hl : l.1.stackTraces = false) (hL : l.2.1 ≤ 2560) : E l M_L_law 2048 0 [some (.ref (xB + 40)), none, none, none, none, none, none, none] [] hz0 0 0 (fun r _ => r = some (.int 1)) := by
  refine o_new (n := 0) Fr00 d_L_law_0 (by rfl) (by decide) (by rfl) (wfk.cl (Or.inr (by decide)) (wfk.cn (wfk.cn (wfk.cn (wfk.cn (wfk.cn (wfk.cn (wfk.cn wfk_nil)))))))) (by decide) (fun y => ?_)
  refine oe_dup d_L_law_3 ?_
  refine E.callI (as := []) (rest := [.ref 0]) (d' := 0 + 5) (i_X_init (d := 0) y ⟨rfl, rfl, rfl, rfl⟩) cw_X_init (by rfl) (by decide) (by decide) d_L_law_4 rfl rfl (Nat.le_of_ble_eq_true rfl) (Nat.le_of_ble_eq_true rfl) (by decide) (by decide) (wfk.cs (okv_r (by decide)) (wfk.cl (Or.inr (by decide)) (wfk.cn (wfk.cn (wfk.cn (wfk.cn (wfk.cn (wfk.cn (wfk.cn wfk_nil))))))))) (fun r h2 q => by rw [q.2.1.len (by decide)]; decide) (fun r h q => ?_)
  obtain ⟨rfl, q⟩ := q
  have x := ALL.first q
  clear q y
  refine oe_astore d_L_law_7 (by decide) (lv' := [some (.ref (xB + 40)), some (.ref 0), none, none, none, none, none, none]) rfl ?_
  refine o_new (n := 154) x.1 d_L_law_8 (by rfl) (by decide) (by rfl) (wfk.cl (Or.inr (by decide)) (wfk.cl (okv_r (by decide)) (wfk.cn (wfk.cn (wfk.cn (wfk.cn (wfk.cn (wfk.cn wfk_nil)))))))) (by decide) (fun y => ?_)
  refine oe_dup d_L_law_11 ?_
  have hl1 := y.len (by decide)
  refine E.callI (as := []) (rest := [.ref 154]) (d' := 0 + 1) (i_Y_init (d := 0) y (x.1.2.2 154 (Nat.le_refl _))) cw_Y_init (by rfl) (by decide) (by decide) d_L_law_12 rfl rfl (Nat.le_of_ble_eq_true rfl) (Nat.le_of_ble_eq_true rfl) (by decide) (by decide) (by rw [hl1]; exact wfk.cs (okv_r (by decide)) (wfk.cl (Or.inr (by decide)) (wfk.cl (okv_r (by decide)) (wfk.cn (wfk.cn (wfk.cn (wfk.cn (wfk.cn (wfk.cn wfk_nil))))))))) (fun r h2 q => by rw [hl1, q.2.1.len (by decide)]; decide) (fun r h2 q => ?_)
  obtain ⟨rfl, q⟩ := q
  replace x := x.next q
  clear q y hl1
  refine oe_astore d_L_law_15 (by decide) (lv' := [some (.ref (xB + 40)), some (.ref 0), some (.ref 154), none, none, none, none, none]) rfl ?_
  refine oe_iconst (v := 1) d_L_law_16 (by decide) ?_
  have hl2 : h2.1.length = 189 := x.1.len (by decide)
  refine E.newl rfl (n := 1) (by decide) (by decide) d_L_law_17 x.1.2.1 (by rw [hl2]; unfold xB; decide) (by rw [hl2]; exact wfk.cl (Or.inr (by decide)) (wfk.cl (okv_r (by decide)) (wfk.cl (okv_r (by decide)) (wfk.cn (wfk.cn (wfk.cn (wfk.cn (wfk.cn wfk_nil)))))))) (by rw [hl2]; exact (x.1.2.2 189 (Nat.le_refl _)).2.2.1) (by decide) ?_
  rw [hl2]
  refine oe_astore d_L_law_19 (by decide) (lv' := [some (.ref (xB + 40)), some (.ref 0), some (.ref 154), some (.ref 189), none, none, none, none]) rfl ?_
  refine oe_iconst (v := nI 0) d_L_law_20 (by decide) ?_
  refine oe_istore2 d_L_law_21 (by decide) (lv' := LLV (5 * 0)) rfl ?_
  refine ALL.ext x.last ?_
  exact law_l hl hL 512 0 rfl w00 0 σ0 _ _ IV00 (by decide) (by decide)
