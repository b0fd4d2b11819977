/-! Arrays.fill and plain over any heap; Rule(), Past(). Printed by wip/whole/h_init3.py. -/
theorem uA_uI {h : xH} {a i : Nat} {v : Int32} {g : Nat → Int32} : uI (uA h a (cpN (fun _ => v) g i)) a i v = uA h a (cpN (fun _ => v) g (i + 1)) := by
  have e : up2 (hI (uA h a (cpN (fun _ => v) g i))) a i v = fun c => if c = a then cpN (fun _ => v) g (i + 1) else hI h c := by
    funext c j
    show (if c = a ∧ j = i then v else (if c = a then cpN (fun _ => v) g i else hI h c) j) = _
    by_cases hc : c = a
    · subst hc
      rw [if_pos rfl]
      unfold cpN
      by_cases hj : j = i
      · subst hj
        simp
      · by_cases h2 : j < i
        · simp [hj, h2, Nat.lt_succ_of_lt h2]
        · simp [hj, h2, show ¬ j < i + 1 by omega]
    · simp [hc]
  show (h.1, h.2.1, up2 (hI (uA h a (cpN (fun _ => v) g i))) a i v, h.2.2.2) = (h.1, h.2.1, (fun c => if c = a then cpN (fun _ => v) g (i + 1) else hI h c), h.2.2.2)
  rw [e]
theorem uA_0 {h : xH} {a : Nat} {v : Int32} : uA h a (cpN (fun _ => v) (hI h a) 0) = h := by
  have e : (fun c => if c = a then cpN (fun _ => v) (hI h a) 0 else hI h c) = hI h := by
    funext c
    by_cases hc : c = a
    · subst hc; rw [if_pos rfl]; funext j; simp [cpN]
    · rw [if_neg hc]
  show (h.1, h.2.1, (fun c => if c = a then cpN (fun _ => v) (hI h a) 0 else hI h c), h.2.2.2) = h
  rw [e]
  rfl
theorem e_fill_l {l : xLa} {d : Nat} {h : xH} {a n : Nat} {v : Int32} {g : Nat → Int32} (hs : h.1[a]? = some (1, 0, n)) (hn : n < 2 ^ 31) : ∀ (m : Nat) (i : Nat), n - i = m → i ≤ n → E l M_Arrays_fill (d + 1) 5 [some (.ref a), some (.int v), some (.int (nI i)), some (.int (nI n))] [] (uA h a (cpN (fun _ => v) g i)) 0 0 (fun r h2 => r = none ∧ h2 = uA h a (cpN (fun _ => v) g n)) := by
  intro m
  induction m with
  | zero =>
    intro i hm hi
    obtain rfl : i = n := by omega
    refine oe_iload d_Arrays_fill_5 rfl ?_
    refine oe_iload d_Arrays_fill_6 rfl ?_
    refine oe_icge (t := 20) hn hn d_Arrays_fill_7 (by decide) (fun c7 => ?_) (fun c7 => by omega)
    exact E.vret rfl d_Arrays_fill_20 ⟨rfl, rfl⟩
  | succ m ih =>
    intro i hm hi
    refine oe_iload d_Arrays_fill_5 rfl ?_
    refine oe_iload d_Arrays_fill_6 rfl ?_
    refine oe_icge (t := 20) (by omega) hn d_Arrays_fill_7 (by decide) (fun c7 => by omega) (fun c7 => ?_)
    refine oe_aload d_Arrays_fill_10 rfl ?_
    refine oe_iload d_Arrays_fill_11 rfl ?_
    refine oe_iload d_Arrays_fill_12 rfl ?_
    refine oe_iast (ln := n) d_Arrays_fill_13 hs (by omega) hn ?_
    refine oe_iinc (w := nI (i + 1)) d_Arrays_fill_14 rfl (nI_succ i).symm (by decide) rfl ?_
    refine oe_goto (t := 5) d_Arrays_fill_17 (by decide) ?_
    rw [uA_uI]
    exact ih (i + 1) (by omega) (by omega)
theorem e_fill {l : xLa} {d : Nat} {h : xH} {a n : Nat} {v : Int32} (hs : h.1[a]? = some (1, 0, n)) (hn : n < 2 ^ 31) : Ct l M_Arrays_fill (d + 1) [.ref a, .int v] h (fun r h2 => r = none ∧ h2 = uA h a (cpN (fun _ => v) (hI h a) n)) := by
  show E l M_Arrays_fill (d + 1) 0 [some (.ref a), some (.int v), none, none] [] h 0 0 _
  refine oe_iconst (v := nI 0) d_Arrays_fill_0 (by decide) ?_
  refine oe_istore d_Arrays_fill_1 (by decide) rfl ?_
  refine oe_aload d_Arrays_fill_2 rfl ?_
  refine oe_len d_Arrays_fill_3 hs (by decide) (by decide) ?_
  refine oe_istore d_Arrays_fill_4 (by decide) rfl ?_
  have q := e_fill_l (l := l) (d := d) (h := h) (v := v) (g := hI h a) hs hn n 0 (by omega) (by omega)
  rw [uA_0] at q
  exact q
theorem e_plain {l : xLa} {d : Nat} {h : xH} {b : Nat} (h1 : h.1[b]? = some (0, 3, 11)) (h2 : h.1[b + 1]? = some (1, 0, 40)) (h3 : h.1[b + 4]? = some (1, 0, 1024)) (f1 : hF h b 0 = .ref (b + 1)) (f2 : hF h b 9 = .ref (b + 4)) (i1 : hI h (b + 1) = fun _ => 0) (i2 : hI h (b + 4) = fun _ => 0) :
    Ct l M_Rule_plain (d + 2) [.ref b] h (fun r h2 => r = none ∧ h2 = uA (uF (uA h (b + 1) plF) b 1 (.int 7)) (b + 4) nkF) := by
  show E l M_Rule_plain (d + 2) 0 [some (.ref b)] [] h 0 0 _
  refine E.gets (a := 0) rfl xgs_51 d_Rule_plain_0 ?_
  refine oe_iconst (v := 0) d_Rule_plain_3 (by decide) ?_
  refine oe_aload d_Rule_plain_4 rfl ?_
  refine oe_get d_Rule_plain_5 (by rfl) h1 (by decide) f1 ?_
  refine oe_iconst (v := 0) d_Rule_plain_8 (by decide) ?_
  refine E.gets (a := 0) rfl xgs_51 d_Rule_plain_9 ?_
  refine E.slen (a := 0) (v := 7) rfl (by decide) d_Rule_plain_12 ?_
  refine E.copyS (a := 0) (p0 := 407) (by omega) (by rfl) d_Rule_plain_13 rfl h2 (by decide) (by decide) (by decide) (by decide) (by decide) (Nat.le_of_ble_eq_true rfl) ?_
  rw [i1]
  refine oe_aload d_Rule_plain_16 rfl ?_
  refine E.gets (a := 0) rfl xgs_51 d_Rule_plain_17 ?_
  refine E.slen (a := 0) (v := 7) rfl (by decide) d_Rule_plain_20 ?_
  refine E.step (x := (24, [some (.ref b)], [], uF (uA h (b + 1) plF) b 1 (.int 7))) (by omega) d_Rule_plain_21 (stp_put (by rfl) (by decide) (by decide) (by decide) h1) ?_
  refine oe_aload d_Rule_plain_24 rfl ?_
  refine oe_get d_Rule_plain_25 (by rfl) h1 (by decide) (v := .ref (b + 4)) ?_ ?_
  · show up2 (hF h) b 1 (.int 7) b 9 = _
    unfold up2
    rw [if_neg (by omega)]
    exact f2
  refine oe_iconst (v := -1) d_Rule_plain_28 (by decide) ?_
  refine E.callS (as := [.ref (b + 4), .int (-1)]) (rest := []) (e_fill (d := d) (n := 1024) h3 (by decide)) cw_Arrays_fill (by rfl) (by omega) d_Rule_plain_29 rfl rfl (Nat.le_of_ble_eq_true rfl) (Nat.le_of_ble_eq_true rfl) rfl rfl (Or.inl rfl) (fun r h' q => ?_)
  obtain ⟨rfl, rfl⟩ := q
  refine E.vret rfl d_Rule_plain_32 ⟨rfl, ?_⟩
  have e : hI (uF (uA h (b + 1) plF) b 1 (.int 7)) (b + 4) = fun _ => 0 := by
    show (if b + 4 = b + 1 then plF else hI h (b + 4)) = _
    rw [if_neg (by omega)]
    exact i2
  rw [e]
  rfl
theorem tf_Rule_127 : (fun j => if j = 1 then .int 7 else if j = 10 then .ref (132) else if j = 9 then .ref (131) else if j = 8 then .int 1 else if j = 7 then .int 0 else if j = 6 then .int 0 else if j = 5 then .int 0 else if j = 4 then .int 0 else if j = 3 then .ref (130) else if j = 2 then .ref (129) else if j = 1 then .int 0 else if j = 0 then .ref (128) else DF (127) j) = TF 127 := by
  funext j
  rcases Nat.lt_or_ge j 56 with hj | hj
  · exact (by decide +kernel : ∀ j, j < 56 → (if j = 1 then .int 7 else if j = 10 then .ref (132) else if j = 9 then .ref (131) else if j = 8 then .int 1 else if j = 7 then .int 0 else if j = 6 then .int 0 else if j = 5 then .int 0 else if j = 4 then .int 0 else if j = 3 then .ref (130) else if j = 2 then .ref (129) else if j = 1 then .int 0 else if j = 0 then .ref (128) else DF (127) j) = TF 127 j) j hj
  · rw [if_neg (show ¬ j = 1 by omega), if_neg (show ¬ j = 10 by omega), if_neg (show ¬ j = 9 by omega), if_neg (show ¬ j = 8 by omega), if_neg (show ¬ j = 7 by omega), if_neg (show ¬ j = 6 by omega), if_neg (show ¬ j = 5 by omega), if_neg (show ¬ j = 4 by omega), if_neg (show ¬ j = 3 by omega), if_neg (show ¬ j = 2 by omega), if_neg (show ¬ j = 1 by omega), if_neg (show ¬ j = 0 by omega), (row_ge (a := 127) hj).1, (row_ge (a := 127) hj).2]
theorem i_Rule_127 {l : xLa} {d : Nat} {h : xH} (x : Fr0 (127 + 1) h) (x0 : R0 h 127) : Ct l M_Rule_init (d + 3) [.ref 127] h (fun r h2 => r = none ∧ Made 127 6 h h2) := by
  show E l M_Rule_init (d + 3) 0 [some (.ref 127)] [] h 0 0 _
  replace x : OP 127 (127 + 1) (DF 127) (fun _ _ => 0) xrr h h := OP.start x x0.1 x0.2.1 x0.2.2.1 (x0.2.2.2.trans (xrr_z (by decide)).symm)
  refine oe_aload d_Rule_init_0 rfl ?_
  refine oe_obj d_Rule_init_1 (p0 := 400) (by rfl) (Nat.le_of_ble_eq_true rfl) ?_
  refine oe_aload d_Rule_init_4 rfl ?_
  refine oe_bipush (v := 40) d_Rule_init_5 (by decide) ?_
  refine o_newa x (by decide) d_Rule_init_7 (t := 0) (by decide) rfl (len := 40) (by decide) (by decide) (by rfl) rfl (xrr_z (by decide)) (by refine ⟨?_, ?_⟩ <;> simp [okv]) (by decide) (fun h x => ?_)
  refine o_put x (by decide) (by decide) d_Rule_init_9 (by rfl) (by rfl) (by decide) (by decide) (okv_r (r := (128)) (by decide)) (xpok_ref (by decide)) (fun h x => ?_)
  refine oe_aload d_Rule_init_12 rfl ?_
  refine oe_iconst (v := 0) d_Rule_init_13 (by decide) ?_
  refine o_put x (by decide) (by decide) d_Rule_init_14 (by rfl) (by rfl) (by decide) (by decide) trivial (by decide) (fun h x => ?_)
  refine oe_aload d_Rule_init_17 rfl ?_
  refine oe_bipush (v := 40) d_Rule_init_18 (by decide) ?_
  refine o_newa x (by decide) d_Rule_init_20 (t := 0) (by decide) rfl (len := 40) (by decide) (by decide) (by rfl) rfl (xrr_z (by decide)) (by refine ⟨?_, ?_⟩ <;> simp [okv]) (by decide) (fun h x => ?_)
  refine o_put x (by decide) (by decide) d_Rule_init_22 (by rfl) (by rfl) (by decide) (by decide) (okv_r (r := (129)) (by decide)) (xpok_ref (by decide)) (fun h x => ?_)
  refine oe_aload d_Rule_init_25 rfl ?_
  refine oe_bipush (v := 40) d_Rule_init_26 (by decide) ?_
  refine o_newa x (by decide) d_Rule_init_28 (t := 0) (by decide) rfl (len := 40) (by decide) (by decide) (by rfl) rfl (xrr_z (by decide)) (by refine ⟨?_, ?_⟩ <;> simp [okv]) (by decide) (fun h x => ?_)
  refine o_put x (by decide) (by decide) d_Rule_init_30 (by rfl) (by rfl) (by decide) (by decide) (okv_r (r := (130)) (by decide)) (xpok_ref (by decide)) (fun h x => ?_)
  refine oe_aload d_Rule_init_33 rfl ?_
  refine oe_iconst (v := 0) d_Rule_init_34 (by decide) ?_
  refine o_put x (by decide) (by decide) d_Rule_init_35 (by rfl) (by rfl) (by decide) (by decide) trivial (by decide) (fun h x => ?_)
  refine oe_aload d_Rule_init_38 rfl ?_
  refine oe_iconst (v := 0) d_Rule_init_39 (by decide) ?_
  refine o_put x (by decide) (by decide) d_Rule_init_40 (by rfl) (by rfl) (by decide) (by decide) trivial (by decide) (fun h x => ?_)
  refine oe_aload d_Rule_init_43 rfl ?_
  refine oe_iconst (v := 0) d_Rule_init_44 (by decide) ?_
  refine o_put x (by decide) (by decide) d_Rule_init_45 (by rfl) (by rfl) (by decide) (by decide) trivial (by decide) (fun h x => ?_)
  refine oe_aload d_Rule_init_48 rfl ?_
  refine oe_iconst (v := 0) d_Rule_init_49 (by decide) ?_
  refine o_put x (by decide) (by decide) d_Rule_init_50 (by rfl) (by rfl) (by decide) (by decide) trivial (by decide) (fun h x => ?_)
  refine oe_aload d_Rule_init_53 rfl ?_
  refine oe_iconst (v := 1) d_Rule_init_54 (by decide) ?_
  refine o_put x (by decide) (by decide) d_Rule_init_55 (by rfl) (by rfl) (by decide) (by decide) trivial (by decide) (fun h x => ?_)
  refine oe_aload d_Rule_init_58 rfl ?_
  refine oe_sipush (v := 1024) d_Rule_init_59 (by decide) ?_
  refine o_newa x (by decide) d_Rule_init_62 (t := 0) (by decide) rfl (len := 1024) (by decide) (by decide) (by rfl) rfl (xrr_z (by decide)) (by refine ⟨?_, ?_⟩ <;> simp [okv]) (by decide) (fun h x => ?_)
  refine o_put x (by decide) (by decide) d_Rule_init_64 (by rfl) (by rfl) (by decide) (by decide) (okv_r (r := (131)) (by decide)) (xpok_ref (by decide)) (fun h x => ?_)
  refine oe_aload d_Rule_init_67 rfl ?_
  refine oe_sipush (v := 1024) d_Rule_init_68 (by decide) ?_
  refine o_newa x (by decide) d_Rule_init_71 (t := 2) (by decide) rfl (len := 1024) (by decide) (by decide) (by rfl) rfl (xrr_z (by decide)) (by refine ⟨?_, ?_⟩ <;> simp [okv]) (by decide) (fun h x => ?_)
  refine o_put x (by decide) (by decide) d_Rule_init_73 (by rfl) (by rfl) (by decide) (by decide) (okv_r (r := (132)) (by decide)) (xpok_ref (by decide)) (fun h x => ?_)
  refine oe_aload d_Rule_init_76 rfl ?_
  have sh : ∀ a, a < 127 + 6 → h.1[a]? = xSh[a]? := fun a ha => x.1.sh ha
  refine E.callV (as := []) (rest := []) (e_plain (d := d) (b := 127) ((sh 127 (by decide)).trans rfl) ((sh (127 + 1) (by decide)).trans rfl) ((sh (127 + 4) (by decide)).trans rfl) (by rw [x.2.2.1]; rfl) (by rw [x.2.2.1]; rfl) (x.2.2.2.2 (127 + 1) (by decide) (by decide)).1 (x.2.2.2.2 (127 + 4) (by decide) (by decide)).1) cw_Rule_plain (by rfl) ((sh 127 (by decide)).trans rfl) (by decide) (by rfl) (by omega) d_Rule_init_77 rfl rfl (by decide) (by decide) rfl rfl (Or.inr (fun r h2 q => by rw [q.2]; exact Nat.le_refl _)) (fun r h2 q => ?_)
  obtain ⟨rfl, rfl⟩ := q
  have y := ((x.sA (a := 127 + 1) (f := plF) (by decide) (by decide)).put (k := 1) (w := .int 7) (by decide) (by decide) trivial).sA (a := 127 + 4) (f := nkF) (by decide) (by decide)
  refine E.vret rfl d_Rule_init_80 ⟨rfl, y.to tf_Rule_127 (fun a g1 g2 => ?_) (fun _ _ _ => rfl)⟩
  have g2 : a < 127 + 6 := g2
  unfold si0
  by_cases e1 : a = 127 + 4
  · rw [if_pos e1, if_neg (by omega), if_pos (by omega)]
  · rw [if_neg e1]
    by_cases e2 : a = 127 + 1
    · rw [if_pos e2, if_pos (by omega)]
    · rw [if_neg e2, if_neg (by omega), if_neg (by omega), if_neg (by omega)]
theorem tf_Rule_133 : (fun j => if j = 1 then .int 7 else if j = 10 then .ref (138) else if j = 9 then .ref (137) else if j = 8 then .int 1 else if j = 7 then .int 0 else if j = 6 then .int 0 else if j = 5 then .int 0 else if j = 4 then .int 0 else if j = 3 then .ref (136) else if j = 2 then .ref (135) else if j = 1 then .int 0 else if j = 0 then .ref (134) else DF (133) j) = TF 133 := by
  funext j
  rcases Nat.lt_or_ge j 56 with hj | hj
  · exact (by decide +kernel : ∀ j, j < 56 → (if j = 1 then .int 7 else if j = 10 then .ref (138) else if j = 9 then .ref (137) else if j = 8 then .int 1 else if j = 7 then .int 0 else if j = 6 then .int 0 else if j = 5 then .int 0 else if j = 4 then .int 0 else if j = 3 then .ref (136) else if j = 2 then .ref (135) else if j = 1 then .int 0 else if j = 0 then .ref (134) else DF (133) j) = TF 133 j) j hj
  · rw [if_neg (show ¬ j = 1 by omega), if_neg (show ¬ j = 10 by omega), if_neg (show ¬ j = 9 by omega), if_neg (show ¬ j = 8 by omega), if_neg (show ¬ j = 7 by omega), if_neg (show ¬ j = 6 by omega), if_neg (show ¬ j = 5 by omega), if_neg (show ¬ j = 4 by omega), if_neg (show ¬ j = 3 by omega), if_neg (show ¬ j = 2 by omega), if_neg (show ¬ j = 1 by omega), if_neg (show ¬ j = 0 by omega), (row_ge (a := 133) hj).1, (row_ge (a := 133) hj).2]
theorem i_Rule_133 {l : xLa} {d : Nat} {h : xH} (x : Fr0 (133 + 1) h) (x0 : R0 h 133) : Ct l M_Rule_init (d + 3) [.ref 133] h (fun r h2 => r = none ∧ Made 133 6 h h2) := by
  show E l M_Rule_init (d + 3) 0 [some (.ref 133)] [] h 0 0 _
  replace x : OP 133 (133 + 1) (DF 133) (fun _ _ => 0) xrr h h := OP.start x x0.1 x0.2.1 x0.2.2.1 (x0.2.2.2.trans (xrr_z (by decide)).symm)
  refine oe_aload d_Rule_init_0 rfl ?_
  refine oe_obj d_Rule_init_1 (p0 := 400) (by rfl) (Nat.le_of_ble_eq_true rfl) ?_
  refine oe_aload d_Rule_init_4 rfl ?_
  refine oe_bipush (v := 40) d_Rule_init_5 (by decide) ?_
  refine o_newa x (by decide) d_Rule_init_7 (t := 0) (by decide) rfl (len := 40) (by decide) (by decide) (by rfl) rfl (xrr_z (by decide)) (by refine ⟨?_, ?_⟩ <;> simp [okv]) (by decide) (fun h x => ?_)
  refine o_put x (by decide) (by decide) d_Rule_init_9 (by rfl) (by rfl) (by decide) (by decide) (okv_r (r := (134)) (by decide)) (xpok_ref (by decide)) (fun h x => ?_)
  refine oe_aload d_Rule_init_12 rfl ?_
  refine oe_iconst (v := 0) d_Rule_init_13 (by decide) ?_
  refine o_put x (by decide) (by decide) d_Rule_init_14 (by rfl) (by rfl) (by decide) (by decide) trivial (by decide) (fun h x => ?_)
  refine oe_aload d_Rule_init_17 rfl ?_
  refine oe_bipush (v := 40) d_Rule_init_18 (by decide) ?_
  refine o_newa x (by decide) d_Rule_init_20 (t := 0) (by decide) rfl (len := 40) (by decide) (by decide) (by rfl) rfl (xrr_z (by decide)) (by refine ⟨?_, ?_⟩ <;> simp [okv]) (by decide) (fun h x => ?_)
  refine o_put x (by decide) (by decide) d_Rule_init_22 (by rfl) (by rfl) (by decide) (by decide) (okv_r (r := (135)) (by decide)) (xpok_ref (by decide)) (fun h x => ?_)
  refine oe_aload d_Rule_init_25 rfl ?_
  refine oe_bipush (v := 40) d_Rule_init_26 (by decide) ?_
  refine o_newa x (by decide) d_Rule_init_28 (t := 0) (by decide) rfl (len := 40) (by decide) (by decide) (by rfl) rfl (xrr_z (by decide)) (by refine ⟨?_, ?_⟩ <;> simp [okv]) (by decide) (fun h x => ?_)
  refine o_put x (by decide) (by decide) d_Rule_init_30 (by rfl) (by rfl) (by decide) (by decide) (okv_r (r := (136)) (by decide)) (xpok_ref (by decide)) (fun h x => ?_)
  refine oe_aload d_Rule_init_33 rfl ?_
  refine oe_iconst (v := 0) d_Rule_init_34 (by decide) ?_
  refine o_put x (by decide) (by decide) d_Rule_init_35 (by rfl) (by rfl) (by decide) (by decide) trivial (by decide) (fun h x => ?_)
  refine oe_aload d_Rule_init_38 rfl ?_
  refine oe_iconst (v := 0) d_Rule_init_39 (by decide) ?_
  refine o_put x (by decide) (by decide) d_Rule_init_40 (by rfl) (by rfl) (by decide) (by decide) trivial (by decide) (fun h x => ?_)
  refine oe_aload d_Rule_init_43 rfl ?_
  refine oe_iconst (v := 0) d_Rule_init_44 (by decide) ?_
  refine o_put x (by decide) (by decide) d_Rule_init_45 (by rfl) (by rfl) (by decide) (by decide) trivial (by decide) (fun h x => ?_)
  refine oe_aload d_Rule_init_48 rfl ?_
  refine oe_iconst (v := 0) d_Rule_init_49 (by decide) ?_
  refine o_put x (by decide) (by decide) d_Rule_init_50 (by rfl) (by rfl) (by decide) (by decide) trivial (by decide) (fun h x => ?_)
  refine oe_aload d_Rule_init_53 rfl ?_
  refine oe_iconst (v := 1) d_Rule_init_54 (by decide) ?_
  refine o_put x (by decide) (by decide) d_Rule_init_55 (by rfl) (by rfl) (by decide) (by decide) trivial (by decide) (fun h x => ?_)
  refine oe_aload d_Rule_init_58 rfl ?_
  refine oe_sipush (v := 1024) d_Rule_init_59 (by decide) ?_
  refine o_newa x (by decide) d_Rule_init_62 (t := 0) (by decide) rfl (len := 1024) (by decide) (by decide) (by rfl) rfl (xrr_z (by decide)) (by refine ⟨?_, ?_⟩ <;> simp [okv]) (by decide) (fun h x => ?_)
  refine o_put x (by decide) (by decide) d_Rule_init_64 (by rfl) (by rfl) (by decide) (by decide) (okv_r (r := (137)) (by decide)) (xpok_ref (by decide)) (fun h x => ?_)
  refine oe_aload d_Rule_init_67 rfl ?_
  refine oe_sipush (v := 1024) d_Rule_init_68 (by decide) ?_
  refine o_newa x (by decide) d_Rule_init_71 (t := 2) (by decide) rfl (len := 1024) (by decide) (by decide) (by rfl) rfl (xrr_z (by decide)) (by refine ⟨?_, ?_⟩ <;> simp [okv]) (by decide) (fun h x => ?_)
  refine o_put x (by decide) (by decide) d_Rule_init_73 (by rfl) (by rfl) (by decide) (by decide) (okv_r (r := (138)) (by decide)) (xpok_ref (by decide)) (fun h x => ?_)
  refine oe_aload d_Rule_init_76 rfl ?_
  have sh : ∀ a, a < 133 + 6 → h.1[a]? = xSh[a]? := fun a ha => x.1.sh ha
  refine E.callV (as := []) (rest := []) (e_plain (d := d) (b := 133) ((sh 133 (by decide)).trans rfl) ((sh (133 + 1) (by decide)).trans rfl) ((sh (133 + 4) (by decide)).trans rfl) (by rw [x.2.2.1]; rfl) (by rw [x.2.2.1]; rfl) (x.2.2.2.2 (133 + 1) (by decide) (by decide)).1 (x.2.2.2.2 (133 + 4) (by decide) (by decide)).1) cw_Rule_plain (by rfl) ((sh 133 (by decide)).trans rfl) (by decide) (by rfl) (by omega) d_Rule_init_77 rfl rfl (by decide) (by decide) rfl rfl (Or.inr (fun r h2 q => by rw [q.2]; exact Nat.le_refl _)) (fun r h2 q => ?_)
  obtain ⟨rfl, rfl⟩ := q
  have y := ((x.sA (a := 133 + 1) (f := plF) (by decide) (by decide)).put (k := 1) (w := .int 7) (by decide) (by decide) trivial).sA (a := 133 + 4) (f := nkF) (by decide) (by decide)
  refine E.vret rfl d_Rule_init_80 ⟨rfl, y.to tf_Rule_133 (fun a g1 g2 => ?_) (fun _ _ _ => rfl)⟩
  have g2 : a < 133 + 6 := g2
  unfold si0
  by_cases e1 : a = 133 + 4
  · rw [if_pos e1, if_neg (by omega), if_pos (by omega)]
  · rw [if_neg e1]
    by_cases e2 : a = 133 + 1
    · rw [if_pos e2, if_pos (by omega)]
    · rw [if_neg e2, if_neg (by omega), if_neg (by omega), if_neg (by omega)]
theorem tf_Past : (fun j => if j = 2 then .int 0 else if j = 1 then .int 0 else if j = 0 then .ref 36 else DF (35) j) = TF 35 := by
  funext j
  rcases Nat.lt_or_ge j 56 with hj | hj
  · exact (by decide +kernel : ∀ j, j < 56 → (if j = 2 then .int 0 else if j = 1 then .int 0 else if j = 0 then .ref 36 else DF (35) j) = TF 35 j) j hj
  · rw [if_neg (show ¬ j = 2 by omega), if_neg (show ¬ j = 1 by omega), if_neg (show ¬ j = 0 by omega), (row_ge (a := 35) hj).1, (row_ge (a := 35) hj).2]
def pgR (i : Nat) : Nat → Nat → Option Nat := fun a => if a = 36 then (fun j => if j < i then some (37 + 5 * j) else none) else xrr a
theorem pgR_s {i : Nat} : up2 (pgR i) 36 i (some (37 + 5 * i)) = pgR (i + 1) := by
  funext a j
  unfold up2 pgR
  by_cases ha : a = 36
  · subst ha
    by_cases hj : j = i
    · subst hj; simp
    · by_cases h2 : j < i
      · simp [hj, h2, Nat.lt_succ_of_lt h2]
      · simp [hj, h2, show ¬ j < i + 1 by omega]
  · simp [ha]
theorem pgR_15 : pgR 15 = xrr := by
  funext a j
  unfold pgR
  by_cases ha : a = 36
  · subst ha
    rw [if_pos rfl]
    rcases Nat.lt_or_ge j 15 with hj | hj
    · rw [if_pos hj]
      exact (by decide : ∀ j, j < 15 → some (37 + 5 * j) = xrr 36 j) j hj
    · rw [if_neg (by omega)]
      exact (List.getElem?_eq_none (by simpa using hj)).symm
  · rw [if_neg ha]
theorem st_past : ∀ i, i < 15 → 37 + 5 * i ∈ xStates := by decide
theorem past_l {l : xLa} {d : Nat} {h0 : xH} : ∀ m i, i + m = 15 → ∀ h, OP 35 (37 + 5 * i) (TF 35) si0 (pgR i) h0 h → E l M_Past_init (d + 2) 25 [some (.ref 35), some (.int (nI i))] [] h (1 + 5 * i) (15 + 42 * i) (fun r h2 => r = none ∧ Made 35 77 h0 h2) := by
  intro m
  induction m with
  | zero =>
    intro i hi h x
    obtain rfl : i = 15 := by omega
    refine oe_iload d_Past_init_25 rfl ?_
    refine oe_bipush (v := nI 15) d_Past_init_26 (by decide) ?_
    refine oe_icge (t := 50) (by decide) (by decide) d_Past_init_28 (by decide) (fun c7 => ?_) (fun c7 => by omega)
    refine E.vret rfl d_Past_init_50 ⟨rfl, ?_⟩
    rw [pgR_15] at x
    exact x
  | succ m ih =>
    intro i hi h x
    have hb := st_past i (by omega)
    have hs := st_sh _ hb
    refine oe_iload d_Past_init_25 rfl ?_
    refine oe_bipush (v := nI 15) d_Past_init_26 (by decide) ?_
    refine oe_icge (t := 50) (by omega) (by decide) d_Past_init_28 (by decide) (fun c7 => by omega) (fun c7 => ?_)
    refine oe_aload d_Past_init_31 rfl ?_
    refine oe_get d_Past_init_32 (by rfl) ((x.1.sh (by omega)).trans rfl) (by decide) (v := .ref 36) (by rw [x.2.2.1]; rfl) ?_
    refine oe_iload d_Past_init_35 rfl ?_
    refine o_new x.1 d_Past_init_36 (by rfl) (by decide) hs.2.1 (wfk.cs trivial (wfk.cs (okv_r (by omega)) (wfk.cl (okv_r (by omega)) (wfk.cl trivial wfk_nil)))) (by show 1 + 5 * i + 1 ≤ 76 ∧ 15 + 42 * i + 10 ≤ 645; omega) (fun y => ?_)
    refine oe_dup d_Past_init_39 ?_
    refine o_init (as := []) (m := 5) (d' := d + 1) (rest := [.ref (37 + 5 * i), .int (nI i), .ref 36]) x (by omega) (fun h' y y0 _ => i_State_init hb y y0) cw_State_init (by rfl) (by decide) (by omega) d_Past_init_40 rfl rfl (Nat.le_of_ble_eq_true rfl) (Nat.le_of_ble_eq_true rfl) (by show 1 + 5 * i + 1 + 4 ≤ 76 ∧ 15 + 42 * i + 10 + 32 ≤ 645; omega) (by decide) (wfk.cs (okv_r (by omega)) (wfk.cs trivial (wfk.cs (okv_r (by omega)) (wfk.cl (okv_r (by omega)) (wfk.cl trivial wfk_nil))))) hs.2.1 (fun a g1 g2 => ⟨rfl, (if_neg (by omega)).symm⟩) (by decide) (by omega) (fun h x => ?_)
    refine oe_aast (ln := 15) (nf := 10) d_Past_init_43 ((x.1.sh (by omega)).trans rfl) ((x.1.sh (by omega)).trans hs.2.1) (by omega) (by decide) ?_
    have x2 := x.sR (a := 36) (i := i) (v := 37 + 5 * i) (by omega) (by decide) (by omega) (by omega)
    rw [pgR_s] at x2
    refine oe_iinc (w := nI (i + 1)) d_Past_init_44 rfl (nI_succ i).symm (by decide) rfl ?_
    refine oe_goto (t := 25) d_Past_init_47 (by decide) ?_
    have e1 : 1 + 5 * i + 1 + mBc M_State_init = 1 + 5 * (i + 1) := by show 1 + 5 * i + 1 + 4 = _; omega
    have e2 : 15 + 42 * i + xN 6 + mBs M_State_init = 15 + 42 * (i + 1) := by show 15 + 42 * i + 10 + 32 = _; omega
    rw [e1, e2]
    exact ih (i + 1) (by omega) _ x2
theorem i_Past_init {l : xLa} {d : Nat} {h : xH} (x : Fr0 (35 + 1) h) (x0 : R0 h 35) : Ct l M_Past_init (d + 2) [.ref 35] h (fun r h2 => r = none ∧ Made 35 77 h h2) := by
  show E l M_Past_init (d + 2) 0 [some (.ref 35), none] [] h 0 0 _
  replace x : OP 35 (35 + 1) (DF 35) si0 (pgR 0) h h := OP.start x x0.1 (x0.2.1.trans (si0_z (by decide)).symm) x0.2.2.1 (x0.2.2.2.trans (show pgR 0 35 = fun _ => none from (if_neg (show ¬ 35 = 36 by decide)).trans (xrr_z (a := 35) (by decide))).symm)
  refine oe_aload d_Past_init_0 rfl ?_
  refine oe_obj d_Past_init_1 (p0 := 358) (by rfl) (Nat.le_of_ble_eq_true rfl) ?_
  refine oe_aload d_Past_init_4 rfl ?_
  refine oe_bipush (v := 15) d_Past_init_5 (by decide) ?_
  refine o_newq x (by decide) d_Past_init_7 (by rfl) (len := 15) (by decide) (by decide) (by rfl) (si0_z (by decide)) (by funext j; simp [pgR]) (by refine ⟨?_, ?_⟩ <;> simp [okv]) (by decide) (fun h x => ?_)
  refine o_put x (by decide) (by decide) d_Past_init_10 (by rfl) (by rfl) (by decide) (by decide) (okv_r (r := 36) (by decide)) (xpok_ref (by decide)) (fun h x => ?_)
  refine oe_aload d_Past_init_13 rfl ?_
  refine oe_iconst (v := 0) d_Past_init_14 (by decide) ?_
  refine o_put x (by decide) (by decide) d_Past_init_15 (by rfl) (by rfl) (by decide) (by decide) trivial (by decide) (fun h x => ?_)
  refine oe_aload d_Past_init_18 rfl ?_
  refine oe_iconst (v := 0) d_Past_init_19 (by decide) ?_
  refine o_put x (by decide) (by decide) d_Past_init_20 (by rfl) (by rfl) (by decide) (by decide) trivial (by decide) (fun h x => ?_)
  refine oe_iconst (v := nI 0) d_Past_init_23 (by decide) ?_
  refine oe_istore d_Past_init_24 (by decide) rfl ?_
  exact past_l 15 0 rfl _ (x.to tf_Past (fun _ _ _ => rfl) (fun _ _ _ => rfl))
