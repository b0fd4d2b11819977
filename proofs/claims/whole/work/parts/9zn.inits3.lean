/-! FishFerry() and FishFerryModel(). Printed by wip/whole/h_init4.py. -/
def xgR (i : Nat) : Nat → Nat → Option Nat := fun a => if a = 116 then (fun j => if j < i then some (139 + 5 * j) else none) else xrr a
theorem xgR_s {i : Nat} : up2 (xgR i) 116 i (some (139 + 5 * i)) = xgR (i + 1) := by
  funext a j
  unfold up2 xgR
  by_cases ha : a = 116
  · subst ha
    by_cases hj : j = i
    · subst hj; simp
    · by_cases h2 : j < i
      · simp [hj, h2, Nat.lt_succ_of_lt h2]
      · simp [hj, h2, show ¬ j < i + 1 by omega]
  · simp [ha]
theorem xgR_3 : xgR 3 = xrr := by
  funext a j
  unfold xgR
  by_cases ha : a = 116
  · subst ha
    rw [if_pos rfl]
    rcases Nat.lt_or_ge j 3 with hj | hj
    · rw [if_pos hj]
      exact (by decide : ∀ j, j < 3 → some (139 + 5 * j) = xrr 116 j) j hj
    · rw [if_neg (by omega)]
      exact (List.getElem?_eq_none (by simpa using hj)).symm
  · rw [if_neg ha]
theorem xrr_117 : xrr 117 = fun j => if j < 9 then some (117 + 1 + j) else none := by
  funext j
  rcases Nat.lt_or_ge j 9 with hj | hj
  · rw [if_pos hj]
    exact (by decide : ∀ j, j < 9 → xrr 117 j = some (117 + 1 + j)) j hj
  · rw [if_neg (by omega)]
    exact List.getElem?_eq_none (by simpa using hj)
theorem sh_mul : xSh.take 117 ++ ((3, 6, 9) :: List.replicate 9 (1, 0, 21)) = xSh.take 127 := by decide +kernel
theorem Fr0.mul {h : xH} (x : Fr0 117 h) : Fr0 127 ((mlt h 9).1 ++ ((3, 6, 9) :: List.replicate 9 (1, 0, 21)), (mlt h 9).2) := by
  have hl := x.len (by decide)
  obtain ⟨x1, ⟨w0, w1, w2⟩, x3⟩ := x
  have e1 : ((mlt h 9).1 ++ ((3, 6, 9) :: List.replicate 9 (1, 0, 21)), (mlt h 9).2).1 = xSh.take 127 := by
    show h.1 ++ _ = _
    rw [x1]
    exact sh_mul
  have hl2 : ((mlt h 9).1 ++ ((3, 6, 9) :: List.replicate 9 (1, 0, 21)), (mlt h 9).2).1.length = 127 := by rw [e1]; exact sh_n (by decide)
  have eR : ∀ a, hR (mlt h 9) a = if a = 117 then (fun j => if j < 9 then some (117 + 1 + j) else none) else hR h a := by
    intro a
    show (if a = h.1.length then (fun j => if j < 9 then some (h.1.length + 1 + j) else none) else hR h a) = _
    rw [hl]
  refine ⟨e1, ⟨by rw [hl2]; unfold xB; decide, fun k j hk => ?_, fun k j r hk hr => ?_⟩, fun a ha => ⟨(x3 a (by omega)).1, (x3 a (by omega)).2.1, (x3 a (by omega)).2.2.1, ?_⟩⟩
  · rw [hl2] at hk ⊢
    show okv 127 (hF h k j)
    rcases Nat.lt_or_ge k 117 with g | g
    · have := w1 k j (by omega)
      rw [hl] at this
      exact this.up (by decide)
    · rw [(x3 k g).1]; exact DF_ok _ _ _
  · rw [hl2] at hk ⊢
    have hr : hR (mlt h 9) k j = some r := hr
    rw [eR] at hr
    by_cases hk2 : k = 117
    · rw [if_pos hk2] at hr
      split at hr
      · cases hr; omega
      · cases hr
    · rw [if_neg hk2] at hr
      rcases Nat.lt_or_ge k 117 with g | g
      · have := w2 k j r (by omega) hr
        omega
      · rw [(x3 k g).2.2.2] at hr
        cases hr
  · show hR (mlt h 9) a = _
    rw [eR, if_neg (by omega)]
    exact (x3 a (by omega)).2.2.2
theorem OP.mul {b : Nat} {G : Nat → Value} {gI : Nat → Nat → Int32} {gR : Nat → Nat → Option Nat} {h0 h : xH} (x : OP b 117 G gI gR h0 h) (hb : b < 117) (hi : ∀ a, 117 ≤ a → a < 127 → gI a = fun _ => 0) (hr : ∀ a, 117 ≤ a → a < 127 → gR a = if a = 117 then (fun j => if j < 9 then some (117 + 1 + j) else none) else fun _ => none) : OP b 127 G gI gR h0 ((mlt h 9).1 ++ ((3, 6, 9) :: List.replicate 9 (1, 0, 21)), (mlt h 9).2) := by
  have y := x.1.mul
  have hl := x.1.len (by decide)
  have eR : ∀ a, hR (mlt h 9) a = if a = 117 then (fun j => if j < 9 then some (117 + 1 + j) else none) else hR h a := by
    intro a
    show (if a = h.1.length then (fun j => if j < 9 then some (h.1.length + 1 + j) else none) else hR h a) = _
    rw [hl]
  obtain ⟨x1, x2, x3, x4, x5⟩ := x
  refine ⟨y, fun a ha => ⟨(x2 a ha).1, (x2 a ha).2.1, (x2 a ha).2.2.1, ?_⟩, x3, fun a g1 g2 g3 => ?_, fun a g1 g2 => ?_⟩
  · show hR (mlt h 9) a = _
    rw [eR, if_neg (by omega)]
    exact (x2 a ha).2.2.2
  · rcases Nat.lt_or_ge a 117 with g | g
    · exact x4 a g1 g g3
    · exact absurd g3 ((by decide : ∀ a, a < 127 → 117 ≤ a → ¬ (xSh.getD a (1, 0, 0)).1 = 0) a g2 g)
  · show hI h a = _ ∧ hJ h a = _ ∧ hR (mlt h 9) a = _
    rw [eR]
    rcases Nat.lt_or_ge a 117 with g | g
    · rw [if_neg (by omega)]
      exact x5 a g1 g
    · obtain ⟨-, y2, y3, y4⟩ := x1.2.2 a g
      refine ⟨y2.trans (hi a g g2).symm, y3, ?_⟩
      rw [hr a g g2, y4]
theorem xcl_93 : Cond.classLink "FishFerry" 93 "[[I" ∈ xG := by decide +kernel
theorem st_stored : ∀ i, i < 3 → 139 + 5 * i ∈ xStates := by decide
theorem tf_X : (fun j => if j = 16 then .ref 133 else if j = 15 then .ref 127 else if j = 14 then .int 0 else if j = 13 then .ref 117 else if j = 12 then .ref 116 else if j = 11 then .ref 112 else if j = 10 then .ref 35 else if j = 9 then .ref 30 else if j = 8 then .ref 25 else if j = 7 then .ref 20 else if j = 6 then .ref 19 else if j = 5 then .ref 14 else if j = 4 then .ref 12 else if j = 3 then .ref 9 else if j = 2 then .ref 5 else if j = 1 then .ref 3 else if j = 0 then .ref 1 else DF (0) j) = TF 0 := by
  funext j
  rcases Nat.lt_or_ge j 56 with hj | hj
  · exact (by decide +kernel : ∀ j, j < 56 → (if j = 16 then .ref 133 else if j = 15 then .ref 127 else if j = 14 then .int 0 else if j = 13 then .ref 117 else if j = 12 then .ref 116 else if j = 11 then .ref 112 else if j = 10 then .ref 35 else if j = 9 then .ref 30 else if j = 8 then .ref 25 else if j = 7 then .ref 20 else if j = 6 then .ref 19 else if j = 5 then .ref 14 else if j = 4 then .ref 12 else if j = 3 then .ref 9 else if j = 2 then .ref 5 else if j = 1 then .ref 3 else if j = 0 then .ref 1 else DF (0) j) = TF 0 j) j hj
  · rw [if_neg (show ¬ j = 16 by omega), if_neg (show ¬ j = 15 by omega), if_neg (show ¬ j = 14 by omega), if_neg (show ¬ j = 13 by omega), if_neg (show ¬ j = 12 by omega), if_neg (show ¬ j = 11 by omega), if_neg (show ¬ j = 10 by omega), if_neg (show ¬ j = 9 by omega), if_neg (show ¬ j = 8 by omega), if_neg (show ¬ j = 7 by omega), if_neg (show ¬ j = 6 by omega), if_neg (show ¬ j = 5 by omega), if_neg (show ¬ j = 4 by omega), if_neg (show ¬ j = 3 by omega), if_neg (show ¬ j = 2 by omega), if_neg (show ¬ j = 1 by omega), if_neg (show ¬ j = 0 by omega), (row_ge (a := 0) hj).1, (row_ge (a := 0) hj).2]
theorem x_init_l {l : xLa} {d : Nat} {h0 : xH} : ∀ m i, i + m = 3 → ∀ h, OP 0 (139 + 5 * i) (TF 0) si0 (xgR i) h0 h → E l M_X_init (d + 5) 209 [some (.ref 0), some (.int (nI i))] [] h (138 + 5 * i) (5685 + 42 * i) (fun r h2 => r = none ∧ Made 0 154 h0 h2) := by
  intro m
  induction m with
  | zero =>
    intro i hi h x
    obtain rfl : i = 3 := by omega
    refine oe_iload d_X_init_209 rfl ?_
    refine oe_iconst (v := nI 3) d_X_init_210 (by decide) ?_
    refine oe_icge (t := 233) (by decide) (by decide) d_X_init_211 (by decide) (fun c7 => ?_) (fun c7 => by omega)
    refine E.vret rfl d_X_init_233 ⟨rfl, ?_⟩
    rw [xgR_3] at x
    exact x
  | succ m ih =>
    intro i hi h x
    have hb := st_stored i (by omega)
    have hs := st_sh _ hb
    refine oe_iload d_X_init_209 rfl ?_
    refine oe_iconst (v := nI 3) d_X_init_210 (by decide) ?_
    refine oe_icge (t := 233) (by omega) (by decide) d_X_init_211 (by decide) (fun c7 => by omega) (fun c7 => ?_)
    refine oe_aload d_X_init_214 rfl ?_
    refine oe_get d_X_init_215 (by rfl) ((x.1.sh (by omega)).trans rfl) (by decide) (v := .ref 116) (by rw [x.2.2.1]; rfl) ?_
    refine oe_iload d_X_init_218 rfl ?_
    refine o_new x.1 d_X_init_219 (by rfl) (by decide) hs.2.1 (wfk.cs trivial (wfk.cs (okv_r (by omega)) (wfk.cl (okv_r (by omega)) (wfk.cl trivial wfk_nil)))) (by show 138 + 5 * i + 1 ≤ 153 ∧ 5685 + 42 * i + 10 ≤ 5811; omega) (fun y => ?_)
    refine oe_dup d_X_init_222 ?_
    refine o_init (as := []) (m := 5) (d' := d + 1) (rest := [.ref (139 + 5 * i), .int (nI i), .ref 116]) x (by omega) (fun h' y y0 _ => i_State_init hb y y0) cw_State_init (by rfl) (by decide) (by omega) d_X_init_223 rfl rfl (Nat.le_of_ble_eq_true rfl) (Nat.le_of_ble_eq_true rfl) (by show 138 + 5 * i + 1 + 4 ≤ 153 ∧ 5685 + 42 * i + 10 + 32 ≤ 5811; omega) (by decide) (wfk.cs (okv_r (by omega)) (wfk.cs trivial (wfk.cs (okv_r (by omega)) (wfk.cl (okv_r (by omega)) (wfk.cl trivial wfk_nil))))) hs.2.1 (fun a g1 g2 => ⟨rfl, (if_neg (by omega)).symm⟩) (by decide) (by omega) (fun h x => ?_)
    refine oe_aast (ln := 3) (nf := 10) d_X_init_226 ((x.1.sh (by omega)).trans rfl) ((x.1.sh (by omega)).trans hs.2.1) (by omega) (by decide) ?_
    have x2 := x.sR (a := 116) (i := i) (v := 139 + 5 * i) (by omega) (by decide) (by omega) (by omega)
    rw [xgR_s] at x2
    refine oe_iinc (w := nI (i + 1)) d_X_init_227 rfl (nI_succ i).symm (by decide) rfl ?_
    refine oe_goto (t := 209) d_X_init_230 (by decide) ?_
    have e1 : 138 + 5 * i + 1 + mBc M_State_init = 138 + 5 * (i + 1) := by show 138 + 5 * i + 1 + 4 = _; omega
    have e2 : 5685 + 42 * i + xN 6 + mBs M_State_init = 5685 + 42 * (i + 1) := by show 5685 + 42 * i + 10 + 32 = _; omega
    rw [e1, e2]
    exact ih (i + 1) (by omega) _ x2
theorem i_X_init {l : xLa} {d : Nat} {h : xH} (x : Fr0 (0 + 1) h) (x0 : R0 h 0) : Ct l M_X_init (d + 5) [.ref 0] h (fun r h2 => r = none ∧ Made 0 154 h h2) := by
  show E l M_X_init (d + 5) 0 [some (.ref 0), none] [] h 0 0 _
  replace x : OP 0 (0 + 1) (DF 0) si0 (xgR 0) h h := OP.start x x0.1 (x0.2.1.trans (si0_z (by decide)).symm) x0.2.2.1 (x0.2.2.2.trans (show xgR 0 0 = fun _ => none from (if_neg (show ¬ 0 = 116 by decide)).trans (xrr_z (a := 0) (by decide))).symm)
  refine oe_aload d_X_init_0 rfl ?_
  refine oe_obj d_X_init_1 (p0 := 129) (by rfl) (Nat.le_of_ble_eq_true rfl) ?_
  refine oe_aload d_X_init_4 rfl ?_
  refine o_new (n := 1) x.1 d_X_init_5 (by rfl) (by decide) (by rfl) (wfk.cs (okv_r (by decide)) (wfk.cl (okv_r (by decide)) (wfk.cn wfk_nil))) (by decide) (fun y => ?_)
  refine oe_dup d_X_init_8 ?_
  refine o_init (n := 1) (as := []) (m := 2) (d' := d + 1) (rest := [.ref 1, .ref 0]) x (by decide) (fun h' y y0 _ => i_Text_init y y0) cw_Text_init (by rfl) (by decide) (by omega) d_X_init_9 rfl rfl (Nat.le_of_ble_eq_true rfl) (Nat.le_of_ble_eq_true rfl) (by decide) (by decide) (wfk.cs (okv_r (by decide)) (wfk.cs (okv_r (by decide)) (wfk.cl (okv_r (by decide)) (wfk.cn wfk_nil)))) (by rfl) (fun a g1 g2 => ⟨rfl, (if_neg (by omega)).symm⟩) (by decide) (by decide) (fun h x => ?_)
  refine o_put x (by decide) (by decide) d_X_init_12 (by rfl) (by rfl) (by decide) (by decide) (okv_r (r := 1) (by decide)) (xpok_ref (by decide)) (fun h x => ?_)
  refine oe_aload d_X_init_15 rfl ?_
  refine o_new (n := 3) x.1 d_X_init_16 (by rfl) (by decide) (by rfl) (wfk.cs (okv_r (by decide)) (wfk.cl (okv_r (by decide)) (wfk.cn wfk_nil))) (by decide) (fun y => ?_)
  refine oe_dup d_X_init_19 ?_
  refine o_init (n := 3) (as := []) (m := 2) (d' := d + 1) (rest := [.ref 3, .ref 0]) x (by decide) (fun h' y y0 _ => i_Told_init y y0) cw_Told_init (by rfl) (by decide) (by omega) d_X_init_20 rfl rfl (Nat.le_of_ble_eq_true rfl) (Nat.le_of_ble_eq_true rfl) (by decide) (by decide) (wfk.cs (okv_r (by decide)) (wfk.cs (okv_r (by decide)) (wfk.cl (okv_r (by decide)) (wfk.cn wfk_nil)))) (by rfl) (fun a g1 g2 => ⟨rfl, (if_neg (by omega)).symm⟩) (by decide) (by decide) (fun h x => ?_)
  refine o_put x (by decide) (by decide) d_X_init_23 (by rfl) (by rfl) (by decide) (by decide) (okv_r (r := 3) (by decide)) (xpok_ref (by decide)) (fun h x => ?_)
  refine oe_aload d_X_init_26 rfl ?_
  refine o_new (n := 5) x.1 d_X_init_27 (by rfl) (by decide) (by rfl) (wfk.cs (okv_r (by decide)) (wfk.cl (okv_r (by decide)) (wfk.cn wfk_nil))) (by decide) (fun y => ?_)
  refine oe_dup d_X_init_30 ?_
  refine o_init (n := 5) (as := []) (m := 4) (d' := d + 1) (rest := [.ref 5, .ref 0]) x (by decide) (fun h' y y0 _ => i_Lake_init y y0) cw_Lake_init (by rfl) (by decide) (by omega) d_X_init_31 rfl rfl (Nat.le_of_ble_eq_true rfl) (Nat.le_of_ble_eq_true rfl) (by decide) (by decide) (wfk.cs (okv_r (by decide)) (wfk.cs (okv_r (by decide)) (wfk.cl (okv_r (by decide)) (wfk.cn wfk_nil)))) (by rfl) (fun a g1 g2 => ⟨rfl, (if_neg (by omega)).symm⟩) (by decide) (by decide) (fun h x => ?_)
  refine o_put x (by decide) (by decide) d_X_init_34 (by rfl) (by rfl) (by decide) (by decide) (okv_r (r := 5) (by decide)) (xpok_ref (by decide)) (fun h x => ?_)
  refine oe_aload d_X_init_37 rfl ?_
  refine o_new (n := 9) x.1 d_X_init_38 (by rfl) (by decide) (by rfl) (wfk.cs (okv_r (by decide)) (wfk.cl (okv_r (by decide)) (wfk.cn wfk_nil))) (by decide) (fun y => ?_)
  refine oe_dup d_X_init_41 ?_
  refine o_init (n := 9) (as := []) (m := 3) (d' := d + 1) (rest := [.ref 9, .ref 0]) x (by decide) (fun h' y y0 _ => i_School_init y y0) cw_School_init (by rfl) (by decide) (by omega) d_X_init_42 rfl rfl (Nat.le_of_ble_eq_true rfl) (Nat.le_of_ble_eq_true rfl) (by decide) (by decide) (wfk.cs (okv_r (by decide)) (wfk.cs (okv_r (by decide)) (wfk.cl (okv_r (by decide)) (wfk.cn wfk_nil)))) (by rfl) (fun a g1 g2 => ⟨rfl, (if_neg (by omega)).symm⟩) (by decide) (by decide) (fun h x => ?_)
  refine o_put x (by decide) (by decide) d_X_init_45 (by rfl) (by rfl) (by decide) (by decide) (okv_r (r := 9) (by decide)) (xpok_ref (by decide)) (fun h x => ?_)
  refine oe_aload d_X_init_48 rfl ?_
  refine o_new (n := 12) x.1 d_X_init_49 (by rfl) (by decide) (by rfl) (wfk.cs (okv_r (by decide)) (wfk.cl (okv_r (by decide)) (wfk.cn wfk_nil))) (by decide) (fun y => ?_)
  refine oe_dup d_X_init_52 ?_
  refine o_init (n := 12) (as := []) (m := 2) (d' := d + 1) (rest := [.ref 12, .ref 0]) x (by decide) (fun h' y y0 _ => i_Fog_init y y0) cw_Fog_init (by rfl) (by decide) (by omega) d_X_init_53 rfl rfl (Nat.le_of_ble_eq_true rfl) (Nat.le_of_ble_eq_true rfl) (by decide) (by decide) (wfk.cs (okv_r (by decide)) (wfk.cs (okv_r (by decide)) (wfk.cl (okv_r (by decide)) (wfk.cn wfk_nil)))) (by rfl) (fun a g1 g2 => ⟨rfl, (if_neg (by omega)).symm⟩) (by decide) (by decide) (fun h x => ?_)
  refine o_put x (by decide) (by decide) d_X_init_56 (by rfl) (by rfl) (by decide) (by decide) (okv_r (r := 12) (by decide)) (xpok_ref (by decide)) (fun h x => ?_)
  refine oe_aload d_X_init_59 rfl ?_
  refine o_new (n := 14) x.1 d_X_init_60 (by rfl) (by decide) (by rfl) (wfk.cs (okv_r (by decide)) (wfk.cl (okv_r (by decide)) (wfk.cn wfk_nil))) (by decide) (fun y => ?_)
  refine oe_dup d_X_init_63 ?_
  refine oe_aload d_X_init_64 rfl ?_
  refine oe_get d_X_init_65 (by rfl) ((y.sh (by decide)).trans rfl) (by decide) (v := .ref 5) (by show hF h 0 2 = _; rw [x.2.2.1]; rfl) ?_
  refine oe_aload d_X_init_68 rfl ?_
  refine oe_get d_X_init_69 (by rfl) ((y.sh (by decide)).trans rfl) (by decide) (v := .ref 9) (by show hF h 0 3 = _; rw [x.2.2.1]; rfl) ?_
  refine oe_aload d_X_init_72 rfl ?_
  refine oe_get d_X_init_73 (by rfl) ((y.sh (by decide)).trans rfl) (by decide) (v := .ref 12) (by show hF h 0 4 = _; rw [x.2.2.1]; rfl) ?_
  refine o_init (n := 14) (as := [.ref 5, .ref 9, .ref 12]) (m := 5) (d' := d + 1) (rest := [.ref 14, .ref 0]) x (by decide) (fun h' y y0 _ => i_Tug_init y y0) cw_Tug_init (by rfl) (by decide) (by omega) d_X_init_76 rfl rfl (Nat.le_of_ble_eq_true rfl) (Nat.le_of_ble_eq_true rfl) (by decide) (by decide) (wfk.cs (okv_r (by decide)) (wfk.cs (okv_r (by decide)) (wfk.cl (okv_r (by decide)) (wfk.cn wfk_nil)))) (by rfl) (fun a g1 g2 => ⟨rfl, (if_neg (by omega)).symm⟩) (by decide) (by decide) (fun h x => ?_)
  refine o_put x (by decide) (by decide) d_X_init_79 (by rfl) (by rfl) (by decide) (by decide) (okv_r (r := 14) (by decide)) (xpok_ref (by decide)) (fun h x => ?_)
  refine oe_aload d_X_init_82 rfl ?_
  refine o_new (n := 19) x.1 d_X_init_83 (by rfl) (by decide) (by rfl) (wfk.cs (okv_r (by decide)) (wfk.cl (okv_r (by decide)) (wfk.cn wfk_nil))) (by decide) (fun y => ?_)
  refine oe_dup d_X_init_86 ?_
  refine oe_aload d_X_init_87 rfl ?_
  refine oe_get d_X_init_88 (by rfl) ((y.sh (by decide)).trans rfl) (by decide) (v := .ref 5) (by show hF h 0 2 = _; rw [x.2.2.1]; rfl) ?_
  refine oe_aload d_X_init_91 rfl ?_
  refine oe_get d_X_init_92 (by rfl) ((y.sh (by decide)).trans rfl) (by decide) (v := .ref 9) (by show hF h 0 3 = _; rw [x.2.2.1]; rfl) ?_
  refine oe_aload d_X_init_95 rfl ?_
  refine oe_get d_X_init_96 (by rfl) ((y.sh (by decide)).trans rfl) (by decide) (v := .ref 14) (by show hF h 0 5 = _; rw [x.2.2.1]; rfl) ?_
  refine o_init (n := 19) (as := [.ref 5, .ref 9, .ref 14]) (m := 1) (d' := d + 1) (rest := [.ref 19, .ref 0]) x (by decide) (fun h' y y0 _ => i_Trip_init y y0) cw_Trip_init (by rfl) (by decide) (by omega) d_X_init_99 rfl rfl (Nat.le_of_ble_eq_true rfl) (Nat.le_of_ble_eq_true rfl) (by decide) (by decide) (wfk.cs (okv_r (by decide)) (wfk.cs (okv_r (by decide)) (wfk.cl (okv_r (by decide)) (wfk.cn wfk_nil)))) (by rfl) (fun a g1 g2 => ⟨rfl, (if_neg (by omega)).symm⟩) (by decide) (by decide) (fun h x => ?_)
  refine o_put x (by decide) (by decide) d_X_init_102 (by rfl) (by rfl) (by decide) (by decide) (okv_r (r := 19) (by decide)) (xpok_ref (by decide)) (fun h x => ?_)
  refine oe_aload d_X_init_105 rfl ?_
  refine o_new (n := 20) x.1 d_X_init_106 (by rfl) (by decide) (by rfl) (wfk.cs (okv_r (by decide)) (wfk.cl (okv_r (by decide)) (wfk.cn wfk_nil))) (by decide) (fun y => ?_)
  refine oe_dup d_X_init_109 ?_
  refine o_init (n := 20) (as := []) (m := 5) (d' := d + 1) (rest := [.ref 20, .ref 0]) x (by decide) (fun h' y y0 _ => i_State_init (by decide) y y0) cw_State_init (by rfl) (by decide) (by omega) d_X_init_110 rfl rfl (Nat.le_of_ble_eq_true rfl) (Nat.le_of_ble_eq_true rfl) (by decide) (by decide) (wfk.cs (okv_r (by decide)) (wfk.cs (okv_r (by decide)) (wfk.cl (okv_r (by decide)) (wfk.cn wfk_nil)))) (by rfl) (fun a g1 g2 => ⟨rfl, (if_neg (by omega)).symm⟩) (by decide) (by decide) (fun h x => ?_)
  refine o_put x (by decide) (by decide) d_X_init_113 (by rfl) (by rfl) (by decide) (by decide) (okv_r (r := 20) (by decide)) (xpok_ref (by decide)) (fun h x => ?_)
  refine oe_aload d_X_init_116 rfl ?_
  refine o_new (n := 25) x.1 d_X_init_117 (by rfl) (by decide) (by rfl) (wfk.cs (okv_r (by decide)) (wfk.cl (okv_r (by decide)) (wfk.cn wfk_nil))) (by decide) (fun y => ?_)
  refine oe_dup d_X_init_120 ?_
  refine o_init (n := 25) (as := []) (m := 5) (d' := d + 1) (rest := [.ref 25, .ref 0]) x (by decide) (fun h' y y0 _ => i_State_init (by decide) y y0) cw_State_init (by rfl) (by decide) (by omega) d_X_init_121 rfl rfl (Nat.le_of_ble_eq_true rfl) (Nat.le_of_ble_eq_true rfl) (by decide) (by decide) (wfk.cs (okv_r (by decide)) (wfk.cs (okv_r (by decide)) (wfk.cl (okv_r (by decide)) (wfk.cn wfk_nil)))) (by rfl) (fun a g1 g2 => ⟨rfl, (if_neg (by omega)).symm⟩) (by decide) (by decide) (fun h x => ?_)
  refine o_put x (by decide) (by decide) d_X_init_124 (by rfl) (by rfl) (by decide) (by decide) (okv_r (r := 25) (by decide)) (xpok_ref (by decide)) (fun h x => ?_)
  refine oe_aload d_X_init_127 rfl ?_
  refine o_new (n := 30) x.1 d_X_init_128 (by rfl) (by decide) (by rfl) (wfk.cs (okv_r (by decide)) (wfk.cl (okv_r (by decide)) (wfk.cn wfk_nil))) (by decide) (fun y => ?_)
  refine oe_dup d_X_init_131 ?_
  refine o_init (n := 30) (as := []) (m := 5) (d' := d + 1) (rest := [.ref 30, .ref 0]) x (by decide) (fun h' y y0 _ => i_State_init (by decide) y y0) cw_State_init (by rfl) (by decide) (by omega) d_X_init_132 rfl rfl (Nat.le_of_ble_eq_true rfl) (Nat.le_of_ble_eq_true rfl) (by decide) (by decide) (wfk.cs (okv_r (by decide)) (wfk.cs (okv_r (by decide)) (wfk.cl (okv_r (by decide)) (wfk.cn wfk_nil)))) (by rfl) (fun a g1 g2 => ⟨rfl, (if_neg (by omega)).symm⟩) (by decide) (by decide) (fun h x => ?_)
  refine o_put x (by decide) (by decide) d_X_init_135 (by rfl) (by rfl) (by decide) (by decide) (okv_r (r := 30) (by decide)) (xpok_ref (by decide)) (fun h x => ?_)
  refine oe_aload d_X_init_138 rfl ?_
  refine o_new (n := 35) x.1 d_X_init_139 (by rfl) (by decide) (by rfl) (wfk.cs (okv_r (by decide)) (wfk.cl (okv_r (by decide)) (wfk.cn wfk_nil))) (by decide) (fun y => ?_)
  refine oe_dup d_X_init_142 ?_
  refine o_init (n := 35) (as := []) (m := 77) (d' := d + 2) (rest := [.ref 35, .ref 0]) x (by decide) (fun h' y y0 _ => i_Past_init y y0) cw_Past_init (by rfl) (by decide) (by omega) d_X_init_143 rfl rfl (Nat.le_of_ble_eq_true rfl) (Nat.le_of_ble_eq_true rfl) (by decide) (by decide) (wfk.cs (okv_r (by decide)) (wfk.cs (okv_r (by decide)) (wfk.cl (okv_r (by decide)) (wfk.cn wfk_nil)))) (by rfl) (fun a g1 g2 => ⟨rfl, (if_neg (by omega)).symm⟩) (by decide) (by decide) (fun h x => ?_)
  refine o_put x (by decide) (by decide) d_X_init_146 (by rfl) (by rfl) (by decide) (by decide) (okv_r (r := 35) (by decide)) (xpok_ref (by decide)) (fun h x => ?_)
  refine oe_aload d_X_init_149 rfl ?_
  refine o_new (n := 112) x.1 d_X_init_150 (by rfl) (by decide) (by rfl) (wfk.cs (okv_r (by decide)) (wfk.cl (okv_r (by decide)) (wfk.cn wfk_nil))) (by decide) (fun y => ?_)
  refine oe_dup d_X_init_153 ?_
  refine o_init (n := 112) (as := []) (m := 4) (d' := d + 1) (rest := [.ref 112, .ref 0]) x (by decide) (fun h' y y0 _ => i_Sights_init y y0) cw_Sights_init (by rfl) (by decide) (by omega) d_X_init_154 rfl rfl (Nat.le_of_ble_eq_true rfl) (Nat.le_of_ble_eq_true rfl) (by decide) (by decide) (wfk.cs (okv_r (by decide)) (wfk.cs (okv_r (by decide)) (wfk.cl (okv_r (by decide)) (wfk.cn wfk_nil)))) (by rfl) (fun a g1 g2 => ⟨rfl, (if_neg (by omega)).symm⟩) (by decide) (by decide) (fun h x => ?_)
  refine o_put x (by decide) (by decide) d_X_init_157 (by rfl) (by rfl) (by decide) (by decide) (okv_r (r := 112) (by decide)) (xpok_ref (by decide)) (fun h x => ?_)
  refine oe_aload d_X_init_160 rfl ?_
  refine oe_iconst (v := 3) d_X_init_161 (by decide) ?_
  refine o_newq x (by decide) d_X_init_162 (by rfl) (len := 3) (by decide) (by decide) (by rfl) (si0_z (by decide)) (by funext j; simp [xgR]) (wfk.cs (okv_r (by decide)) (wfk.cl (okv_r (by decide)) (wfk.cn wfk_nil))) (by decide) (fun h x => ?_)
  refine o_put x (by decide) (by decide) d_X_init_165 (by rfl) (by rfl) (by decide) (by decide) (okv_r (r := 116) (by decide)) (xpok_ref (by decide)) (fun h x => ?_)
  refine oe_aload d_X_init_168 rfl ?_
  refine oe_bipush (v := 9) d_X_init_169 (by decide) ?_
  refine oe_bipush (v := 21) d_X_init_171 (by decide) ?_
  have hl9 := x.1.len (by decide)
  refine E.multi (n := 9) (k' := 21) xcl_93 (by decide) (by decide) (by decide) (by decide) d_X_init_173 x.1.2.1 (by rw [hl9]; unfold xB; decide) (by rw [hl9]; exact (wfk.cs (okv_r (by decide)) (wfk.cl (okv_r (by decide)) (wfk.cn wfk_nil)))) (fun j hj => (x.1.2.2 _ (by rw [hl9]; omega)).2.1) (by decide) ?_
  replace x := x.mul (by decide) (fun a g1 g2 => si0_z (by omega)) (fun a g1 g2 => by
    by_cases e : a = 117
    · subst e; rw [if_pos rfl]; exact (if_neg (by decide)).trans xrr_117
    · rw [if_neg e]; exact (if_neg (by omega)).trans (xrr_z (by omega)))
  rw [hl9]
  generalize ((mlt h 9).1 ++ ((3, 6, 9) :: List.replicate 9 (1, 0, 21)), (mlt h 9).2) = h at x ⊢
  refine o_put x (by decide) (by decide) d_X_init_177 (by rfl) (by rfl) (by decide) (by decide) (okv_r (r := 117) (by decide)) (xpok_ref (by decide)) (fun h x => ?_)
  refine oe_aload d_X_init_180 rfl ?_
  refine oe_iconst (v := 0) d_X_init_181 (by decide) ?_
  refine o_put x (by decide) (by decide) d_X_init_182 (by rfl) (by rfl) (by decide) (by decide) trivial (by decide) (fun h x => ?_)
  refine oe_aload d_X_init_185 rfl ?_
  refine o_new (n := 127) x.1 d_X_init_186 (by rfl) (by decide) (by rfl) (wfk.cs (okv_r (by decide)) (wfk.cl (okv_r (by decide)) (wfk.cn wfk_nil))) (by decide) (fun y => ?_)
  refine oe_dup d_X_init_189 ?_
  refine o_init (n := 127) (as := []) (m := 6) (d' := d + 3) (rest := [.ref 127, .ref 0]) x (by decide) (fun h' y y0 _ => i_Rule_127 y y0) cw_Rule_init (by rfl) (by decide) (by omega) d_X_init_190 rfl rfl (Nat.le_of_ble_eq_true rfl) (Nat.le_of_ble_eq_true rfl) (by decide) (by decide) (wfk.cs (okv_r (by decide)) (wfk.cs (okv_r (by decide)) (wfk.cl (okv_r (by decide)) (wfk.cn wfk_nil)))) (by rfl) (fun a g1 g2 => ⟨rfl, (if_neg (by omega)).symm⟩) (by decide) (by decide) (fun h x => ?_)
  refine o_put x (by decide) (by decide) d_X_init_193 (by rfl) (by rfl) (by decide) (by decide) (okv_r (r := 127) (by decide)) (xpok_ref (by decide)) (fun h x => ?_)
  refine oe_aload d_X_init_196 rfl ?_
  refine o_new (n := 133) x.1 d_X_init_197 (by rfl) (by decide) (by rfl) (wfk.cs (okv_r (by decide)) (wfk.cl (okv_r (by decide)) (wfk.cn wfk_nil))) (by decide) (fun y => ?_)
  refine oe_dup d_X_init_200 ?_
  refine o_init (n := 133) (as := []) (m := 6) (d' := d + 3) (rest := [.ref 133, .ref 0]) x (by decide) (fun h' y y0 _ => i_Rule_133 y y0) cw_Rule_init (by rfl) (by decide) (by omega) d_X_init_201 rfl rfl (Nat.le_of_ble_eq_true rfl) (Nat.le_of_ble_eq_true rfl) (by decide) (by decide) (wfk.cs (okv_r (by decide)) (wfk.cs (okv_r (by decide)) (wfk.cl (okv_r (by decide)) (wfk.cn wfk_nil)))) (by rfl) (fun a g1 g2 => ⟨rfl, (if_neg (by omega)).symm⟩) (by decide) (by decide) (fun h x => ?_)
  refine o_put x (by decide) (by decide) d_X_init_204 (by rfl) (by rfl) (by decide) (by decide) (okv_r (r := 133) (by decide)) (xpok_ref (by decide)) (fun h x => ?_)
  refine oe_iconst (v := nI 0) d_X_init_207 (by decide) ?_
  refine oe_istore d_X_init_208 (by decide) rfl ?_
  exact x_init_l 3 0 rfl _ (x.to tf_X (fun _ _ _ => rfl) (fun _ _ _ => rfl))
theorem tf_Y : (fun j => if j = 54 then .ref (188) else if j = 53 then .ref (187) else if j = 52 then .ref (186) else if j = 50 then .ref (185) else if j = 49 then .ref (184) else if j = 48 then .ref (183) else if j = 47 then .ref (182) else if j = 46 then .ref (181) else if j = 45 then .ref (180) else if j = 44 then .ref (179) else if j = 43 then .ref (178) else if j = 42 then .ref (177) else if j = 39 then .ref (176) else if j = 38 then .ref (175) else if j = 37 then .ref (174) else if j = 36 then .ref (173) else if j = 35 then .ref (172) else if j = 31 then .ref (171) else if j = 29 then .ref (170) else if j = 28 then .ref (169) else if j = 27 then .ref (168) else if j = 26 then .ref (167) else if j = 23 then .ref (166) else if j = 22 then .ref (165) else if j = 20 then .ref (164) else if j = 19 then .ref (163) else if j = 14 then .ref (162) else if j = 13 then .ref (161) else if j = 12 then .ref (160) else if j = 11 then .ref (159) else if j = 10 then .ref (158) else if j = 9 then .ref (157) else if j = 8 then .ref (156) else if j = 7 then .int 1 else if j = 4 then .int 2 else if j = 3 then .int 2 else if j = 2 then .ref (155) else DF (154) j) = TF 154 := by
  funext j
  rcases Nat.lt_or_ge j 56 with hj | hj
  · exact (by decide +kernel : ∀ j, j < 56 → (if j = 54 then .ref (188) else if j = 53 then .ref (187) else if j = 52 then .ref (186) else if j = 50 then .ref (185) else if j = 49 then .ref (184) else if j = 48 then .ref (183) else if j = 47 then .ref (182) else if j = 46 then .ref (181) else if j = 45 then .ref (180) else if j = 44 then .ref (179) else if j = 43 then .ref (178) else if j = 42 then .ref (177) else if j = 39 then .ref (176) else if j = 38 then .ref (175) else if j = 37 then .ref (174) else if j = 36 then .ref (173) else if j = 35 then .ref (172) else if j = 31 then .ref (171) else if j = 29 then .ref (170) else if j = 28 then .ref (169) else if j = 27 then .ref (168) else if j = 26 then .ref (167) else if j = 23 then .ref (166) else if j = 22 then .ref (165) else if j = 20 then .ref (164) else if j = 19 then .ref (163) else if j = 14 then .ref (162) else if j = 13 then .ref (161) else if j = 12 then .ref (160) else if j = 11 then .ref (159) else if j = 10 then .ref (158) else if j = 9 then .ref (157) else if j = 8 then .ref (156) else if j = 7 then .int 1 else if j = 4 then .int 2 else if j = 3 then .int 2 else if j = 2 then .ref (155) else DF (154) j) = TF 154 j) j hj
  · rw [if_neg (show ¬ j = 54 by omega), if_neg (show ¬ j = 53 by omega), if_neg (show ¬ j = 52 by omega), if_neg (show ¬ j = 50 by omega), if_neg (show ¬ j = 49 by omega), if_neg (show ¬ j = 48 by omega), if_neg (show ¬ j = 47 by omega), if_neg (show ¬ j = 46 by omega), if_neg (show ¬ j = 45 by omega), if_neg (show ¬ j = 44 by omega), if_neg (show ¬ j = 43 by omega), if_neg (show ¬ j = 42 by omega), if_neg (show ¬ j = 39 by omega), if_neg (show ¬ j = 38 by omega), if_neg (show ¬ j = 37 by omega), if_neg (show ¬ j = 36 by omega), if_neg (show ¬ j = 35 by omega), if_neg (show ¬ j = 31 by omega), if_neg (show ¬ j = 29 by omega), if_neg (show ¬ j = 28 by omega), if_neg (show ¬ j = 27 by omega), if_neg (show ¬ j = 26 by omega), if_neg (show ¬ j = 23 by omega), if_neg (show ¬ j = 22 by omega), if_neg (show ¬ j = 20 by omega), if_neg (show ¬ j = 19 by omega), if_neg (show ¬ j = 14 by omega), if_neg (show ¬ j = 13 by omega), if_neg (show ¬ j = 12 by omega), if_neg (show ¬ j = 11 by omega), if_neg (show ¬ j = 10 by omega), if_neg (show ¬ j = 9 by omega), if_neg (show ¬ j = 8 by omega), if_neg (show ¬ j = 7 by omega), if_neg (show ¬ j = 4 by omega), if_neg (show ¬ j = 3 by omega), if_neg (show ¬ j = 2 by omega), (row_ge (a := 154) hj).1, (row_ge (a := 154) hj).2]
def ygI : Nat → Nat → Int32 := fun a => if a = 160 then (fun _ => 0) else si0 a
theorem ygI_z {a : Nat} (h : a ≠ 128 ∧ a ≠ 134 ∧ a ≠ 131 ∧ a ≠ 137) : ygI a = fun _ => 0 := by
  unfold ygI
  by_cases e : a = 160
  · rw [if_pos e]
  · rw [if_neg e]; exact si0_z (by omega)
theorem i_Y_init {l : xLa} {d : Nat} {h : xH} (x : Fr0 (154 + 1) h) (x0 : R0 h 154) : Ct l M_Y_init (d + 1) [.ref 154] h (fun r h2 => r = none ∧ Made 154 35 h h2) := by
  show E l M_Y_init (d + 1) 0 [some (.ref 154)] [] h 0 0 _
  replace x : OP 154 (154 + 1) (DF 154) ygI xrr h h := OP.start x x0.1 (x0.2.1.trans (ygI_z (by decide)).symm) x0.2.2.1 (x0.2.2.2.trans (xrr_z (by decide)).symm)
  refine oe_aload d_Y_init_0 rfl ?_
  refine oe_obj d_Y_init_1 (p0 := 1286) (by rfl) (Nat.le_of_ble_eq_true rfl) ?_
  refine oe_aload d_Y_init_4 rfl ?_
  refine oe_bipush (v := 40) d_Y_init_5 (by decide) ?_
  refine o_newl x (by decide) d_Y_init_7 rfl (len := 40) (by decide) (by decide) (by rfl) (ygI_z (by decide)) (xrr_z (by decide)) (by refine ⟨?_, ?_⟩ <;> simp [okv]) (by decide) (fun h x => ?_)
  refine o_put x (by decide) (by decide) d_Y_init_9 (by rfl) (by rfl) (by decide) (by decide) (okv_r (r := (155)) (by decide)) (xpok_ref (by decide)) (fun h x => ?_)
  refine oe_aload d_Y_init_12 rfl ?_
  refine oe_iconst (v := 2) d_Y_init_13 (by decide) ?_
  refine o_put x (by decide) (by decide) d_Y_init_14 (by rfl) (by rfl) (by decide) (by decide) trivial (by decide) (fun h x => ?_)
  refine oe_aload d_Y_init_17 rfl ?_
  refine oe_iconst (v := 2) d_Y_init_18 (by decide) ?_
  refine o_put x (by decide) (by decide) d_Y_init_19 (by rfl) (by rfl) (by decide) (by decide) trivial (by decide) (fun h x => ?_)
  refine oe_aload d_Y_init_22 rfl ?_
  refine oe_iconst (v := 1) d_Y_init_23 (by decide) ?_
  refine o_put x (by decide) (by decide) d_Y_init_24 (by rfl) (by rfl) (by decide) (by decide) trivial (by decide) (fun h x => ?_)
  refine oe_aload d_Y_init_27 rfl ?_
  refine oe_bipush (v := 36) d_Y_init_28 (by decide) ?_
  refine o_newa x (by decide) d_Y_init_30 (t := 1) (by decide) rfl (len := 36) (by decide) (by decide) (by rfl) (ygI_z (by decide)) (xrr_z (by decide)) (by refine ⟨?_, ?_⟩ <;> simp [okv]) (by decide) (fun h x => ?_)
  refine o_put x (by decide) (by decide) d_Y_init_32 (by rfl) (by rfl) (by decide) (by decide) (okv_r (r := (156)) (by decide)) (xpok_ref (by decide)) (fun h x => ?_)
  refine oe_aload d_Y_init_35 rfl ?_
  refine oe_bipush (v := 20) d_Y_init_36 (by decide) ?_
  refine o_newa x (by decide) d_Y_init_38 (t := 0) (by decide) rfl (len := 20) (by decide) (by decide) (by rfl) (ygI_z (by decide)) (xrr_z (by decide)) (by refine ⟨?_, ?_⟩ <;> simp [okv]) (by decide) (fun h x => ?_)
  refine o_put x (by decide) (by decide) d_Y_init_40 (by rfl) (by rfl) (by decide) (by decide) (okv_r (r := (157)) (by decide)) (xpok_ref (by decide)) (fun h x => ?_)
  refine oe_aload d_Y_init_43 rfl ?_
  refine oe_bipush (v := 8) d_Y_init_44 (by decide) ?_
  refine o_newa x (by decide) d_Y_init_46 (t := 0) (by decide) rfl (len := 8) (by decide) (by decide) (by rfl) (ygI_z (by decide)) (xrr_z (by decide)) (by refine ⟨?_, ?_⟩ <;> simp [okv]) (by decide) (fun h x => ?_)
  refine o_put x (by decide) (by decide) d_Y_init_48 (by rfl) (by rfl) (by decide) (by decide) (okv_r (r := (158)) (by decide)) (xpok_ref (by decide)) (fun h x => ?_)
  refine oe_aload d_Y_init_51 rfl ?_
  refine oe_bipush (v := 8) d_Y_init_52 (by decide) ?_
  refine o_newa x (by decide) d_Y_init_54 (t := 0) (by decide) rfl (len := 8) (by decide) (by decide) (by rfl) (ygI_z (by decide)) (xrr_z (by decide)) (by refine ⟨?_, ?_⟩ <;> simp [okv]) (by decide) (fun h x => ?_)
  refine o_put x (by decide) (by decide) d_Y_init_56 (by rfl) (by rfl) (by decide) (by decide) (okv_r (r := (159)) (by decide)) (xpok_ref (by decide)) (fun h x => ?_)
  refine oe_aload d_Y_init_59 rfl ?_
  refine oe_bipush (v := 38) d_Y_init_60 (by decide) ?_
  refine o_newa x (by decide) d_Y_init_62 (t := 0) (by decide) rfl (len := 38) (by decide) (by decide) (by rfl) (ygI_z (by decide)) (xrr_z (by decide)) (by refine ⟨?_, ?_⟩ <;> simp [okv]) (by decide) (fun h x => ?_)
  refine o_put x (by decide) (by decide) d_Y_init_64 (by rfl) (by rfl) (by decide) (by decide) (okv_r (r := (160)) (by decide)) (xpok_ref (by decide)) (fun h x => ?_)
  refine oe_aload d_Y_init_67 rfl ?_
  refine oe_bipush (v := 38) d_Y_init_68 (by decide) ?_
  refine o_newa x (by decide) d_Y_init_70 (t := 0) (by decide) rfl (len := 38) (by decide) (by decide) (by rfl) (ygI_z (by decide)) (xrr_z (by decide)) (by refine ⟨?_, ?_⟩ <;> simp [okv]) (by decide) (fun h x => ?_)
  refine o_put x (by decide) (by decide) d_Y_init_72 (by rfl) (by rfl) (by decide) (by decide) (okv_r (r := (161)) (by decide)) (xpok_ref (by decide)) (fun h x => ?_)
  refine oe_aload d_Y_init_75 rfl ?_
  refine oe_bipush (v := 80) d_Y_init_76 (by decide) ?_
  refine o_newa x (by decide) d_Y_init_78 (t := 0) (by decide) rfl (len := 80) (by decide) (by decide) (by rfl) (ygI_z (by decide)) (xrr_z (by decide)) (by refine ⟨?_, ?_⟩ <;> simp [okv]) (by decide) (fun h x => ?_)
  refine o_put x (by decide) (by decide) d_Y_init_80 (by rfl) (by rfl) (by decide) (by decide) (okv_r (r := (162)) (by decide)) (xpok_ref (by decide)) (fun h x => ?_)
  refine oe_aload d_Y_init_83 rfl ?_
  refine oe_bipush (v := 36) d_Y_init_84 (by decide) ?_
  refine o_newa x (by decide) d_Y_init_86 (t := 1) (by decide) rfl (len := 36) (by decide) (by decide) (by rfl) (ygI_z (by decide)) (xrr_z (by decide)) (by refine ⟨?_, ?_⟩ <;> simp [okv]) (by decide) (fun h x => ?_)
  refine o_put x (by decide) (by decide) d_Y_init_88 (by rfl) (by rfl) (by decide) (by decide) (okv_r (r := (163)) (by decide)) (xpok_ref (by decide)) (fun h x => ?_)
  refine oe_aload d_Y_init_91 rfl ?_
  refine oe_bipush (v := 36) d_Y_init_92 (by decide) ?_
  refine o_newa x (by decide) d_Y_init_94 (t := 0) (by decide) rfl (len := 36) (by decide) (by decide) (by rfl) (ygI_z (by decide)) (xrr_z (by decide)) (by refine ⟨?_, ?_⟩ <;> simp [okv]) (by decide) (fun h x => ?_)
  refine o_put x (by decide) (by decide) d_Y_init_96 (by rfl) (by rfl) (by decide) (by decide) (okv_r (r := (164)) (by decide)) (xpok_ref (by decide)) (fun h x => ?_)
  refine oe_aload d_Y_init_99 rfl ?_
  refine oe_bipush (v := 80) d_Y_init_100 (by decide) ?_
  refine o_newa x (by decide) d_Y_init_102 (t := 0) (by decide) rfl (len := 80) (by decide) (by decide) (by rfl) (ygI_z (by decide)) (xrr_z (by decide)) (by refine ⟨?_, ?_⟩ <;> simp [okv]) (by decide) (fun h x => ?_)
  refine o_put x (by decide) (by decide) d_Y_init_104 (by rfl) (by rfl) (by decide) (by decide) (okv_r (r := (165)) (by decide)) (xpok_ref (by decide)) (fun h x => ?_)
  refine oe_aload d_Y_init_107 rfl ?_
  refine oe_bipush (v := 80) d_Y_init_108 (by decide) ?_
  refine o_newa x (by decide) d_Y_init_110 (t := 0) (by decide) rfl (len := 80) (by decide) (by decide) (by rfl) (ygI_z (by decide)) (xrr_z (by decide)) (by refine ⟨?_, ?_⟩ <;> simp [okv]) (by decide) (fun h x => ?_)
  refine o_put x (by decide) (by decide) d_Y_init_112 (by rfl) (by rfl) (by decide) (by decide) (okv_r (r := (166)) (by decide)) (xpok_ref (by decide)) (fun h x => ?_)
  refine oe_aload d_Y_init_115 rfl ?_
  refine oe_bipush (v := 80) d_Y_init_116 (by decide) ?_
  refine o_newa x (by decide) d_Y_init_118 (t := 0) (by decide) rfl (len := 80) (by decide) (by decide) (by rfl) (ygI_z (by decide)) (xrr_z (by decide)) (by refine ⟨?_, ?_⟩ <;> simp [okv]) (by decide) (fun h x => ?_)
  refine o_put x (by decide) (by decide) d_Y_init_120 (by rfl) (by rfl) (by decide) (by decide) (okv_r (r := (167)) (by decide)) (xpok_ref (by decide)) (fun h x => ?_)
  refine oe_aload d_Y_init_123 rfl ?_
  refine oe_bipush (v := 8) d_Y_init_124 (by decide) ?_
  refine o_newa x (by decide) d_Y_init_126 (t := 0) (by decide) rfl (len := 8) (by decide) (by decide) (by rfl) (ygI_z (by decide)) (xrr_z (by decide)) (by refine ⟨?_, ?_⟩ <;> simp [okv]) (by decide) (fun h x => ?_)
  refine o_put x (by decide) (by decide) d_Y_init_128 (by rfl) (by rfl) (by decide) (by decide) (okv_r (r := (168)) (by decide)) (xpok_ref (by decide)) (fun h x => ?_)
  refine oe_aload d_Y_init_131 rfl ?_
  refine oe_bipush (v := 8) d_Y_init_132 (by decide) ?_
  refine o_newa x (by decide) d_Y_init_134 (t := 0) (by decide) rfl (len := 8) (by decide) (by decide) (by rfl) (ygI_z (by decide)) (xrr_z (by decide)) (by refine ⟨?_, ?_⟩ <;> simp [okv]) (by decide) (fun h x => ?_)
  refine o_put x (by decide) (by decide) d_Y_init_136 (by rfl) (by rfl) (by decide) (by decide) (okv_r (r := (169)) (by decide)) (xpok_ref (by decide)) (fun h x => ?_)
  refine oe_aload d_Y_init_139 rfl ?_
  refine oe_iconst (v := 4) d_Y_init_140 (by decide) ?_
  refine o_newa x (by decide) d_Y_init_141 (t := 0) (by decide) rfl (len := 4) (by decide) (by decide) (by rfl) (ygI_z (by decide)) (xrr_z (by decide)) (by refine ⟨?_, ?_⟩ <;> simp [okv]) (by decide) (fun h x => ?_)
  refine o_put x (by decide) (by decide) d_Y_init_143 (by rfl) (by rfl) (by decide) (by decide) (okv_r (r := (170)) (by decide)) (xpok_ref (by decide)) (fun h x => ?_)
  refine oe_aload d_Y_init_146 rfl ?_
  refine oe_sipush (v := 608) d_Y_init_147 (by decide) ?_
  refine o_newa x (by decide) d_Y_init_150 (t := 0) (by decide) rfl (len := 608) (by decide) (by decide) (by rfl) (ygI_z (by decide)) (xrr_z (by decide)) (by refine ⟨?_, ?_⟩ <;> simp [okv]) (by decide) (fun h x => ?_)
  refine o_put x (by decide) (by decide) d_Y_init_152 (by rfl) (by rfl) (by decide) (by decide) (okv_r (r := (171)) (by decide)) (xpok_ref (by decide)) (fun h x => ?_)
  refine oe_aload d_Y_init_155 rfl ?_
  refine oe_bipush (v := 60) d_Y_init_156 (by decide) ?_
  refine o_newa x (by decide) d_Y_init_158 (t := 0) (by decide) rfl (len := 60) (by decide) (by decide) (by rfl) (ygI_z (by decide)) (xrr_z (by decide)) (by refine ⟨?_, ?_⟩ <;> simp [okv]) (by decide) (fun h x => ?_)
  refine o_put x (by decide) (by decide) d_Y_init_160 (by rfl) (by rfl) (by decide) (by decide) (okv_r (r := (172)) (by decide)) (xpok_ref (by decide)) (fun h x => ?_)
  refine oe_aload d_Y_init_163 rfl ?_
  refine oe_bipush (v := 60) d_Y_init_164 (by decide) ?_
  refine o_newa x (by decide) d_Y_init_166 (t := 0) (by decide) rfl (len := 60) (by decide) (by decide) (by rfl) (ygI_z (by decide)) (xrr_z (by decide)) (by refine ⟨?_, ?_⟩ <;> simp [okv]) (by decide) (fun h x => ?_)
  refine o_put x (by decide) (by decide) d_Y_init_168 (by rfl) (by rfl) (by decide) (by decide) (okv_r (r := (173)) (by decide)) (xpok_ref (by decide)) (fun h x => ?_)
  refine oe_aload d_Y_init_171 rfl ?_
  refine oe_bipush (v := 60) d_Y_init_172 (by decide) ?_
  refine o_newa x (by decide) d_Y_init_174 (t := 0) (by decide) rfl (len := 60) (by decide) (by decide) (by rfl) (ygI_z (by decide)) (xrr_z (by decide)) (by refine ⟨?_, ?_⟩ <;> simp [okv]) (by decide) (fun h x => ?_)
  refine o_put x (by decide) (by decide) d_Y_init_176 (by rfl) (by rfl) (by decide) (by decide) (okv_r (r := (174)) (by decide)) (xpok_ref (by decide)) (fun h x => ?_)
  refine oe_aload d_Y_init_179 rfl ?_
  refine oe_bipush (v := 60) d_Y_init_180 (by decide) ?_
  refine o_newa x (by decide) d_Y_init_182 (t := 0) (by decide) rfl (len := 60) (by decide) (by decide) (by rfl) (ygI_z (by decide)) (xrr_z (by decide)) (by refine ⟨?_, ?_⟩ <;> simp [okv]) (by decide) (fun h x => ?_)
  refine o_put x (by decide) (by decide) d_Y_init_184 (by rfl) (by rfl) (by decide) (by decide) (okv_r (r := (175)) (by decide)) (xpok_ref (by decide)) (fun h x => ?_)
  refine oe_aload d_Y_init_187 rfl ?_
  refine oe_bipush (v := 60) d_Y_init_188 (by decide) ?_
  refine o_newa x (by decide) d_Y_init_190 (t := 0) (by decide) rfl (len := 60) (by decide) (by decide) (by rfl) (ygI_z (by decide)) (xrr_z (by decide)) (by refine ⟨?_, ?_⟩ <;> simp [okv]) (by decide) (fun h x => ?_)
  refine o_put x (by decide) (by decide) d_Y_init_192 (by rfl) (by rfl) (by decide) (by decide) (okv_r (r := (176)) (by decide)) (xpok_ref (by decide)) (fun h x => ?_)
  refine oe_aload d_Y_init_195 rfl ?_
  refine oe_bipush (v := 10) d_Y_init_196 (by decide) ?_
  refine o_newa x (by decide) d_Y_init_198 (t := 0) (by decide) rfl (len := 10) (by decide) (by decide) (by rfl) (ygI_z (by decide)) (xrr_z (by decide)) (by refine ⟨?_, ?_⟩ <;> simp [okv]) (by decide) (fun h x => ?_)
  refine o_put x (by decide) (by decide) d_Y_init_200 (by rfl) (by rfl) (by decide) (by decide) (okv_r (r := (177)) (by decide)) (xpok_ref (by decide)) (fun h x => ?_)
  refine oe_aload d_Y_init_203 rfl ?_
  refine oe_bipush (v := 10) d_Y_init_204 (by decide) ?_
  refine o_newa x (by decide) d_Y_init_206 (t := 0) (by decide) rfl (len := 10) (by decide) (by decide) (by rfl) (ygI_z (by decide)) (xrr_z (by decide)) (by refine ⟨?_, ?_⟩ <;> simp [okv]) (by decide) (fun h x => ?_)
  refine o_put x (by decide) (by decide) d_Y_init_208 (by rfl) (by rfl) (by decide) (by decide) (okv_r (r := (178)) (by decide)) (xpok_ref (by decide)) (fun h x => ?_)
  refine oe_aload d_Y_init_211 rfl ?_
  refine oe_bipush (v := 10) d_Y_init_212 (by decide) ?_
  refine o_newa x (by decide) d_Y_init_214 (t := 0) (by decide) rfl (len := 10) (by decide) (by decide) (by rfl) (ygI_z (by decide)) (xrr_z (by decide)) (by refine ⟨?_, ?_⟩ <;> simp [okv]) (by decide) (fun h x => ?_)
  refine o_put x (by decide) (by decide) d_Y_init_216 (by rfl) (by rfl) (by decide) (by decide) (okv_r (r := (179)) (by decide)) (xpok_ref (by decide)) (fun h x => ?_)
  refine oe_aload d_Y_init_219 rfl ?_
  refine oe_sipush (v := 189) d_Y_init_220 (by decide) ?_
  refine o_newa x (by decide) d_Y_init_223 (t := 0) (by decide) rfl (len := 189) (by decide) (by decide) (by rfl) (ygI_z (by decide)) (xrr_z (by decide)) (by refine ⟨?_, ?_⟩ <;> simp [okv]) (by decide) (fun h x => ?_)
  refine o_put x (by decide) (by decide) d_Y_init_225 (by rfl) (by rfl) (by decide) (by decide) (okv_r (r := (180)) (by decide)) (xpok_ref (by decide)) (fun h x => ?_)
  refine oe_aload d_Y_init_228 rfl ?_
  refine oe_bipush (v := 36) d_Y_init_229 (by decide) ?_
  refine o_newa x (by decide) d_Y_init_231 (t := 0) (by decide) rfl (len := 36) (by decide) (by decide) (by rfl) (ygI_z (by decide)) (xrr_z (by decide)) (by refine ⟨?_, ?_⟩ <;> simp [okv]) (by decide) (fun h x => ?_)
  refine o_put x (by decide) (by decide) d_Y_init_233 (by rfl) (by rfl) (by decide) (by decide) (okv_r (r := (181)) (by decide)) (xpok_ref (by decide)) (fun h x => ?_)
  refine oe_aload d_Y_init_236 rfl ?_
  refine oe_bipush (v := 36) d_Y_init_237 (by decide) ?_
  refine o_newa x (by decide) d_Y_init_239 (t := 0) (by decide) rfl (len := 36) (by decide) (by decide) (by rfl) (ygI_z (by decide)) (xrr_z (by decide)) (by refine ⟨?_, ?_⟩ <;> simp [okv]) (by decide) (fun h x => ?_)
  refine o_put x (by decide) (by decide) d_Y_init_241 (by rfl) (by rfl) (by decide) (by decide) (okv_r (r := (182)) (by decide)) (xpok_ref (by decide)) (fun h x => ?_)
  refine oe_aload d_Y_init_244 rfl ?_
  refine oe_bipush (v := 61) d_Y_init_245 (by decide) ?_
  refine o_newa x (by decide) d_Y_init_247 (t := 1) (by decide) rfl (len := 61) (by decide) (by decide) (by rfl) (ygI_z (by decide)) (xrr_z (by decide)) (by refine ⟨?_, ?_⟩ <;> simp [okv]) (by decide) (fun h x => ?_)
  refine o_put x (by decide) (by decide) d_Y_init_249 (by rfl) (by rfl) (by decide) (by decide) (okv_r (r := (183)) (by decide)) (xpok_ref (by decide)) (fun h x => ?_)
  refine oe_aload d_Y_init_252 rfl ?_
  refine oe_bipush (v := 61) d_Y_init_253 (by decide) ?_
  refine o_newa x (by decide) d_Y_init_255 (t := 1) (by decide) rfl (len := 61) (by decide) (by decide) (by rfl) (ygI_z (by decide)) (xrr_z (by decide)) (by refine ⟨?_, ?_⟩ <;> simp [okv]) (by decide) (fun h x => ?_)
  refine o_put x (by decide) (by decide) d_Y_init_257 (by rfl) (by rfl) (by decide) (by decide) (okv_r (r := (184)) (by decide)) (xpok_ref (by decide)) (fun h x => ?_)
  refine oe_aload d_Y_init_260 rfl ?_
  refine oe_bipush (v := 80) d_Y_init_261 (by decide) ?_
  refine o_newa x (by decide) d_Y_init_263 (t := 0) (by decide) rfl (len := 80) (by decide) (by decide) (by rfl) (ygI_z (by decide)) (xrr_z (by decide)) (by refine ⟨?_, ?_⟩ <;> simp [okv]) (by decide) (fun h x => ?_)
  refine o_put x (by decide) (by decide) d_Y_init_265 (by rfl) (by rfl) (by decide) (by decide) (okv_r (r := (185)) (by decide)) (xpok_ref (by decide)) (fun h x => ?_)
  refine oe_aload d_Y_init_268 rfl ?_
  refine oe_iconst (v := 3) d_Y_init_269 (by decide) ?_
  refine o_newa x (by decide) d_Y_init_270 (t := 1) (by decide) rfl (len := 3) (by decide) (by decide) (by rfl) (ygI_z (by decide)) (xrr_z (by decide)) (by refine ⟨?_, ?_⟩ <;> simp [okv]) (by decide) (fun h x => ?_)
  refine o_put x (by decide) (by decide) d_Y_init_272 (by rfl) (by rfl) (by decide) (by decide) (okv_r (r := (186)) (by decide)) (xpok_ref (by decide)) (fun h x => ?_)
  refine oe_aload d_Y_init_275 rfl ?_
  refine oe_iconst (v := 3) d_Y_init_276 (by decide) ?_
  refine o_newa x (by decide) d_Y_init_277 (t := 0) (by decide) rfl (len := 3) (by decide) (by decide) (by rfl) (ygI_z (by decide)) (xrr_z (by decide)) (by refine ⟨?_, ?_⟩ <;> simp [okv]) (by decide) (fun h x => ?_)
  refine o_put x (by decide) (by decide) d_Y_init_279 (by rfl) (by rfl) (by decide) (by decide) (okv_r (r := (187)) (by decide)) (xpok_ref (by decide)) (fun h x => ?_)
  refine oe_aload d_Y_init_282 rfl ?_
  refine oe_bipush (v := 114) d_Y_init_283 (by decide) ?_
  refine o_newa x (by decide) d_Y_init_285 (t := 0) (by decide) rfl (len := 114) (by decide) (by decide) (by rfl) (ygI_z (by decide)) (xrr_z (by decide)) (by refine ⟨?_, ?_⟩ <;> simp [okv]) (by decide) (fun h x => ?_)
  refine o_put x (by decide) (by decide) d_Y_init_287 (by rfl) (by rfl) (by decide) (by decide) (okv_r (r := (188)) (by decide)) (xpok_ref (by decide)) (fun h x => ?_)
  refine oe_aload d_Y_init_290 rfl ?_
  refine oe_get d_Y_init_291 (by rfl) ((x.1.sh (by decide)).trans rfl) (by decide) (v := .ref 160) (by rw [x.2.2.1]; rfl) ?_
  refine oe_bipush (v := nI 34) d_Y_init_294 (by decide) ?_
  refine oe_bipush (v := 20) d_Y_init_296 (by decide) ?_
  refine oe_iast (ln := 38) d_Y_init_298 ((x.1.sh (by decide)).trans rfl) (by decide) (by decide) ?_
  have y := x.sI (a := 160) (i := 34) (w := 20) (by decide) (by decide)
  refine E.vret rfl d_Y_init_299 ⟨rfl, y.to tf_Y (fun a g1 g2 => ?_) (fun _ _ _ => rfl)⟩
  funext j
  by_cases e : a = 160
  · subst e
    show (if 160 = 160 ∧ j = 34 then (20 : Int32) else 0) = upd (fun _ => 0) 34 20 j
    unfold upd
    by_cases hj : j = 34 <;> simp [hj]
  · unfold up2
    rw [if_neg (by omega)]
    show (if a = 160 then (fun _ => 0) else si0 a) j = _
    rw [if_neg e]
