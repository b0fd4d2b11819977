/-! The small constructors. Printed by wip/whole/h_init2.py. -/
theorem wfk_t {n b : Nat} (h : b < n) : wfk n [some (.ref b)] [.ref b] := by
  refine ⟨fun v hv => ?_, fun v hv => ?_⟩
  · cases List.mem_singleton.mp hv
    exact Or.inl h
  · cases List.mem_singleton.mp hv
    exact Or.inl h
theorem okv_r {n r : Nat} (h : r < n) : okv n (.ref r) := Or.inl h
theorem wfk_nil {n : Nat} : wfk n [] [] := ⟨fun _ h => (nomatch h), fun _ h => (nomatch h)⟩
theorem wfk.cs {n : Nat} {v : Value} {lv : List (Option Value)} {st : List Value} (h : okv n v) (k : wfk n lv st) : wfk n lv (v :: st) := ⟨k.1, fun w hw => (List.mem_cons.mp hw).elim (fun e => e ▸ h) (k.2 w)⟩
theorem wfk.cl {n : Nat} {v : Value} {lv : List (Option Value)} {st : List Value} (h : okv n v) (k : wfk n lv st) : wfk n (some v :: lv) st := ⟨fun w hw => (List.mem_cons.mp hw).elim (fun e => (Option.some.inj e) ▸ h) (k.1 w), k.2⟩
theorem wfk.cn {n : Nat} {lv : List (Option Value)} {st : List Value} (k : wfk n lv st) : wfk n (none :: lv) st := ⟨fun w hw => (List.mem_cons.mp hw).elim (fun e => (nomatch e)) (k.1 w), k.2⟩
theorem si0_z {a : Nat} (h : a ≠ 128 ∧ a ≠ 134 ∧ a ≠ 131 ∧ a ≠ 137 ∧ a ≠ 160) : si0 a = fun _ => 0 := by
  unfold si0
  rw [if_neg (by omega), if_neg (by omega), if_neg (by omega)]
theorem xrr_z {a : Nat} (h : a ≠ 36 ∧ a ≠ 116 ∧ a ≠ 117) : xrr a = fun _ => none := by
  funext i
  unfold xrr
  split
  · exact absurd rfl h.1
  · exact absurd rfl h.2.1
  · exact absurd rfl h.2.2
  · rfl
theorem xrf_len : ∀ r ∈ xrfL, r.length ≤ 55 := by decide +kernel
theorem xrf_ge {a k : Nat} (hk : 55 ≤ k) : xrf a k = none := by
  unfold xrf
  have h : (xrfL.getD a []).length ≤ 55 := by
    rw [List.getD_eq_getElem?_getD]
    cases e : xrfL[a]? with
    | none => decide
    | some r => exact xrf_len r (List.mem_of_getElem? e)
  rw [List.getD_eq_getElem?_getD, List.getElem?_eq_none (by omega)]
  rfl
theorem sf0_ge {a k : Nat} (hk : 9 ≤ k) : sf0 a k = 0 := by
  unfold sf0
  split <;> first | omega | rfl
theorem row_ge {a k : Nat} (hk : 56 ≤ k) : DF a k = .int 0 ∧ TF a k = .int 0 := by
  have h := xrf_ge (a := a) (k := k) (by omega)
  constructor
  · unfold DF
    rw [h, if_neg]
    rintro (⟨-, g⟩ | g)
    · have e1 : kPul = 15 := rfl
      have e2 : kOth = 16 := rfl
      rcases g with g | g <;> omega
    · cases g
  · unfold TF mkF
    have e1 : kPul = 15 := rfl
    have e2 : kOth = 16 := rfl
    rw [h, if_neg (by omega), if_neg (by omega)]
    show Value.int (sf0 a k) = _
    rw [sf0_ge (by omega)]
theorem st_sh : ∀ b ∈ xStates, (b + 5 ≤ 190 ∧ (∀ i, i < 5 → ((b + i ≠ 128 ∧ b + i ≠ 134 ∧ b + i ≠ 131 ∧ b + i ≠ 137 ∧ b + i ≠ 160) ∧ (b + i ≠ 36 ∧ b + i ≠ 116 ∧ b + i ≠ 117)))) ∧ xSh[b]? = some (0, 6, 10) ∧ xSh[b + 1]? = some (1, 0, 8) ∧ xSh[b + 2]? = some (1, 0, 8) ∧ xSh[b + 3]? = some (1, 0, 8) ∧ xSh[b + 4]? = some (1, 0, 8) := by decide +kernel
theorem tf_Text_init : (fun j => if j = 1 then .int 0 else if j = 0 then .ref (2) else DF (1) j) = TF 1 := by
  funext j
  rcases Nat.lt_or_ge j 56 with hj | hj
  · exact (by decide +kernel : ∀ j, j < 56 → (if j = 1 then .int 0 else if j = 0 then .ref (2) else DF (1) j) = TF 1 j) j hj
  · rw [if_neg (show ¬ j = 1 by omega), if_neg (show ¬ j = 0 by omega), (row_ge (a := 1) hj).1, (row_ge (a := 1) hj).2]
theorem i_Text_init {l : xLa} {d : Nat} {h : xH} (x : Fr0 (1 + 1) h) (x0 : R0 h (1)) : Ct l M_Text_init (d + 1) [.ref 1] h (fun r h2 => r = none ∧ Made (1) 2 h h2) := by
  show E l M_Text_init (d + 1) 0 [some (.ref 1)] [] h 0 0 _
  replace x : OP 1 (1 + 1) (DF 1) si0 xrr h h := OP.start x x0.1 (x0.2.1.trans (si0_z (by decide)).symm) x0.2.2.1 (x0.2.2.2.trans (xrr_z (by decide)).symm)
  obtain ⟨h0, e0⟩ : ∃ h0, h0 = h := ⟨_, rfl⟩
  refine oe_aload d_Text_init_0 rfl ?_
  refine oe_obj d_Text_init_1 (p0 := 137) (by rfl) (Nat.le_of_ble_eq_true rfl) ?_
  refine oe_aload d_Text_init_4 rfl ?_
  refine oe_bipush (v := 80) d_Text_init_5 (by decide) ?_
  refine o_newa x (by decide) d_Text_init_7 (t := 3) (by decide) rfl (len := 80) (by decide) (by decide) (by rfl) (si0_z (by decide)) (xrr_z (by decide)) (by refine ⟨?_, ?_⟩ <;> simp [okv]) (by decide) (fun h x => ?_)
  refine o_put x (by decide) (by decide) d_Text_init_9 (by rfl) (by rfl) (by decide) (by decide) (okv_r (r := (2)) (by decide)) (xpok_ref (by decide)) (fun h x => ?_)
  refine oe_aload d_Text_init_12 rfl ?_
  refine oe_iconst (v := 0) d_Text_init_13 (by decide) ?_
  refine o_put x (by decide) (by decide) d_Text_init_14 (by rfl) (by rfl) (by decide) (by decide) trivial (by decide) (fun h x => ?_)
  exact E.vret rfl d_Text_init_17 ⟨rfl, x.to (tf_Text_init) (fun _ _ _ => rfl) (fun _ _ _ => rfl)⟩
theorem tf_Told_init : (fun j => if j = 1 then .int 0 else if j = 0 then .ref (4) else DF (3) j) = TF 3 := by
  funext j
  rcases Nat.lt_or_ge j 56 with hj | hj
  · exact (by decide +kernel : ∀ j, j < 56 → (if j = 1 then .int 0 else if j = 0 then .ref (4) else DF (3) j) = TF 3 j) j hj
  · rw [if_neg (show ¬ j = 1 by omega), if_neg (show ¬ j = 0 by omega), (row_ge (a := 3) hj).1, (row_ge (a := 3) hj).2]
theorem i_Told_init {l : xLa} {d : Nat} {h : xH} (x : Fr0 (3 + 1) h) (x0 : R0 h (3)) : Ct l M_Told_init (d + 1) [.ref 3] h (fun r h2 => r = none ∧ Made (3) 2 h h2) := by
  show E l M_Told_init (d + 1) 0 [some (.ref 3)] [] h 0 0 _
  replace x : OP 3 (3 + 1) (DF 3) si0 xrr h h := OP.start x x0.1 (x0.2.1.trans (si0_z (by decide)).symm) x0.2.2.1 (x0.2.2.2.trans (xrr_z (by decide)).symm)
  obtain ⟨h0, e0⟩ : ∃ h0, h0 = h := ⟨_, rfl⟩
  refine oe_aload d_Told_init_0 rfl ?_
  refine oe_obj d_Told_init_1 (p0 := 151) (by rfl) (Nat.le_of_ble_eq_true rfl) ?_
  refine oe_aload d_Told_init_4 rfl ?_
  refine oe_bipush (v := 37) d_Told_init_5 (by decide) ?_
  refine o_newl x (by decide) d_Told_init_7 rfl (len := 37) (by decide) (by decide) (by rfl) (si0_z (by decide)) (xrr_z (by decide)) (by refine ⟨?_, ?_⟩ <;> simp [okv]) (by decide) (fun h x => ?_)
  refine o_put x (by decide) (by decide) d_Told_init_9 (by rfl) (by rfl) (by decide) (by decide) (okv_r (r := (4)) (by decide)) (xpok_ref (by decide)) (fun h x => ?_)
  refine oe_aload d_Told_init_12 rfl ?_
  refine oe_iconst (v := 0) d_Told_init_13 (by decide) ?_
  refine o_put x (by decide) (by decide) d_Told_init_14 (by rfl) (by rfl) (by decide) (by decide) trivial (by decide) (fun h x => ?_)
  exact E.vret rfl d_Told_init_17 ⟨rfl, x.to (tf_Told_init) (fun _ _ _ => rfl) (fun _ _ _ => rfl)⟩
theorem tf_Lake_init : (fun j => if j = 4 then .ref (8) else if j = 3 then .ref (7) else if j = 2 then .ref (6) else if j = 1 then .int 2 else if j = 0 then .int 2 else DF (5) j) = TF 5 := by
  funext j
  rcases Nat.lt_or_ge j 56 with hj | hj
  · exact (by decide +kernel : ∀ j, j < 56 → (if j = 4 then .ref (8) else if j = 3 then .ref (7) else if j = 2 then .ref (6) else if j = 1 then .int 2 else if j = 0 then .int 2 else DF (5) j) = TF 5 j) j hj
  · rw [if_neg (show ¬ j = 4 by omega), if_neg (show ¬ j = 3 by omega), if_neg (show ¬ j = 2 by omega), if_neg (show ¬ j = 1 by omega), if_neg (show ¬ j = 0 by omega), (row_ge (a := 5) hj).1, (row_ge (a := 5) hj).2]
theorem i_Lake_init {l : xLa} {d : Nat} {h : xH} (x : Fr0 (5 + 1) h) (x0 : R0 h (5)) : Ct l M_Lake_init (d + 1) [.ref 5] h (fun r h2 => r = none ∧ Made (5) 4 h h2) := by
  show E l M_Lake_init (d + 1) 0 [some (.ref 5)] [] h 0 0 _
  replace x : OP 5 (5 + 1) (DF 5) si0 xrr h h := OP.start x x0.1 (x0.2.1.trans (si0_z (by decide)).symm) x0.2.2.1 (x0.2.2.2.trans (xrr_z (by decide)).symm)
  obtain ⟨h0, e0⟩ : ∃ h0, h0 = h := ⟨_, rfl⟩
  refine oe_aload d_Lake_init_0 rfl ?_
  refine oe_obj d_Lake_init_1 (p0 := 167) (by rfl) (Nat.le_of_ble_eq_true rfl) ?_
  refine oe_aload d_Lake_init_4 rfl ?_
  refine oe_iconst (v := 2) d_Lake_init_5 (by decide) ?_
  refine o_put x (by decide) (by decide) d_Lake_init_6 (by rfl) (by rfl) (by decide) (by decide) trivial (by decide) (fun h x => ?_)
  refine oe_aload d_Lake_init_9 rfl ?_
  refine oe_iconst (v := 2) d_Lake_init_10 (by decide) ?_
  refine o_put x (by decide) (by decide) d_Lake_init_11 (by rfl) (by rfl) (by decide) (by decide) trivial (by decide) (fun h x => ?_)
  refine oe_aload d_Lake_init_14 rfl ?_
  refine oe_bipush (v := 36) d_Lake_init_15 (by decide) ?_
  refine o_newa x (by decide) d_Lake_init_17 (t := 1) (by decide) rfl (len := 36) (by decide) (by decide) (by rfl) (si0_z (by decide)) (xrr_z (by decide)) (by refine ⟨?_, ?_⟩ <;> simp [okv]) (by decide) (fun h x => ?_)
  refine o_put x (by decide) (by decide) d_Lake_init_19 (by rfl) (by rfl) (by decide) (by decide) (okv_r (r := (6)) (by decide)) (xpok_ref (by decide)) (fun h x => ?_)
  refine oe_aload d_Lake_init_22 rfl ?_
  refine oe_bipush (v := 36) d_Lake_init_23 (by decide) ?_
  refine o_newa x (by decide) d_Lake_init_25 (t := 0) (by decide) rfl (len := 36) (by decide) (by decide) (by rfl) (si0_z (by decide)) (xrr_z (by decide)) (by refine ⟨?_, ?_⟩ <;> simp [okv]) (by decide) (fun h x => ?_)
  refine o_put x (by decide) (by decide) d_Lake_init_27 (by rfl) (by rfl) (by decide) (by decide) (okv_r (r := (7)) (by decide)) (xpok_ref (by decide)) (fun h x => ?_)
  refine oe_aload d_Lake_init_30 rfl ?_
  refine oe_bipush (v := 36) d_Lake_init_31 (by decide) ?_
  refine o_newa x (by decide) d_Lake_init_33 (t := 0) (by decide) rfl (len := 36) (by decide) (by decide) (by rfl) (si0_z (by decide)) (xrr_z (by decide)) (by refine ⟨?_, ?_⟩ <;> simp [okv]) (by decide) (fun h x => ?_)
  refine o_put x (by decide) (by decide) d_Lake_init_35 (by rfl) (by rfl) (by decide) (by decide) (okv_r (r := (8)) (by decide)) (xpok_ref (by decide)) (fun h x => ?_)
  exact E.vret rfl d_Lake_init_38 ⟨rfl, x.to (tf_Lake_init) (fun _ _ _ => rfl) (fun _ _ _ => rfl)⟩
theorem tf_School_init : (fun j => if j = 2 then .int 0 else if j = 1 then .ref (11) else if j = 0 then .ref (10) else DF (9) j) = TF 9 := by
  funext j
  rcases Nat.lt_or_ge j 56 with hj | hj
  · exact (by decide +kernel : ∀ j, j < 56 → (if j = 2 then .int 0 else if j = 1 then .ref (11) else if j = 0 then .ref (10) else DF (9) j) = TF 9 j) j hj
  · rw [if_neg (show ¬ j = 2 by omega), if_neg (show ¬ j = 1 by omega), if_neg (show ¬ j = 0 by omega), (row_ge (a := 9) hj).1, (row_ge (a := 9) hj).2]
theorem i_School_init {l : xLa} {d : Nat} {h : xH} (x : Fr0 (9 + 1) h) (x0 : R0 h (9)) : Ct l M_School_init (d + 1) [.ref 9] h (fun r h2 => r = none ∧ Made (9) 3 h h2) := by
  show E l M_School_init (d + 1) 0 [some (.ref 9)] [] h 0 0 _
  replace x : OP 9 (9 + 1) (DF 9) si0 xrr h h := OP.start x x0.1 (x0.2.1.trans (si0_z (by decide)).symm) x0.2.2.1 (x0.2.2.2.trans (xrr_z (by decide)).symm)
  obtain ⟨h0, e0⟩ : ∃ h0, h0 = h := ⟨_, rfl⟩
  refine oe_aload d_School_init_0 rfl ?_
  refine oe_obj d_School_init_1 (p0 := 193) (by rfl) (Nat.le_of_ble_eq_true rfl) ?_
  refine oe_aload d_School_init_4 rfl ?_
  refine oe_bipush (v := 8) d_School_init_5 (by decide) ?_
  refine o_newa x (by decide) d_School_init_7 (t := 0) (by decide) rfl (len := 8) (by decide) (by decide) (by rfl) (si0_z (by decide)) (xrr_z (by decide)) (by refine ⟨?_, ?_⟩ <;> simp [okv]) (by decide) (fun h x => ?_)
  refine o_put x (by decide) (by decide) d_School_init_9 (by rfl) (by rfl) (by decide) (by decide) (okv_r (r := (10)) (by decide)) (xpok_ref (by decide)) (fun h x => ?_)
  refine oe_aload d_School_init_12 rfl ?_
  refine oe_bipush (v := 8) d_School_init_13 (by decide) ?_
  refine o_newa x (by decide) d_School_init_15 (t := 0) (by decide) rfl (len := 8) (by decide) (by decide) (by rfl) (si0_z (by decide)) (xrr_z (by decide)) (by refine ⟨?_, ?_⟩ <;> simp [okv]) (by decide) (fun h x => ?_)
  refine o_put x (by decide) (by decide) d_School_init_17 (by rfl) (by rfl) (by decide) (by decide) (okv_r (r := (11)) (by decide)) (xpok_ref (by decide)) (fun h x => ?_)
  refine oe_aload d_School_init_20 rfl ?_
  refine oe_iconst (v := 0) d_School_init_21 (by decide) ?_
  refine o_put x (by decide) (by decide) d_School_init_22 (by rfl) (by rfl) (by decide) (by decide) trivial (by decide) (fun h x => ?_)
  exact E.vret rfl d_School_init_25 ⟨rfl, x.to (tf_School_init) (fun _ _ _ => rfl) (fun _ _ _ => rfl)⟩
theorem tf_Fog_init : (fun j => if j = 1 then .int 1 else if j = 0 then .ref (13) else DF (12) j) = TF 12 := by
  funext j
  rcases Nat.lt_or_ge j 56 with hj | hj
  · exact (by decide +kernel : ∀ j, j < 56 → (if j = 1 then .int 1 else if j = 0 then .ref (13) else DF (12) j) = TF 12 j) j hj
  · rw [if_neg (show ¬ j = 1 by omega), if_neg (show ¬ j = 0 by omega), (row_ge (a := 12) hj).1, (row_ge (a := 12) hj).2]
theorem i_Fog_init {l : xLa} {d : Nat} {h : xH} (x : Fr0 (12 + 1) h) (x0 : R0 h (12)) : Ct l M_Fog_init (d + 1) [.ref 12] h (fun r h2 => r = none ∧ Made (12) 2 h h2) := by
  show E l M_Fog_init (d + 1) 0 [some (.ref 12)] [] h 0 0 _
  replace x : OP 12 (12 + 1) (DF 12) si0 xrr h h := OP.start x x0.1 (x0.2.1.trans (si0_z (by decide)).symm) x0.2.2.1 (x0.2.2.2.trans (xrr_z (by decide)).symm)
  obtain ⟨h0, e0⟩ : ∃ h0, h0 = h := ⟨_, rfl⟩
  refine oe_aload d_Fog_init_0 rfl ?_
  refine oe_obj d_Fog_init_1 (p0 := 216) (by rfl) (Nat.le_of_ble_eq_true rfl) ?_
  refine oe_aload d_Fog_init_4 rfl ?_
  refine oe_bipush (v := 20) d_Fog_init_5 (by decide) ?_
  refine o_newa x (by decide) d_Fog_init_7 (t := 0) (by decide) rfl (len := 20) (by decide) (by decide) (by rfl) (si0_z (by decide)) (xrr_z (by decide)) (by refine ⟨?_, ?_⟩ <;> simp [okv]) (by decide) (fun h x => ?_)
  refine o_put x (by decide) (by decide) d_Fog_init_9 (by rfl) (by rfl) (by decide) (by decide) (okv_r (r := (13)) (by decide)) (xpok_ref (by decide)) (fun h x => ?_)
  refine oe_aload d_Fog_init_12 rfl ?_
  refine oe_iconst (v := 1) d_Fog_init_13 (by decide) ?_
  refine o_put x (by decide) (by decide) d_Fog_init_14 (by rfl) (by rfl) (by decide) (by decide) trivial (by decide) (fun h x => ?_)
  exact E.vret rfl d_Fog_init_17 ⟨rfl, x.to (tf_Fog_init) (fun _ _ _ => rfl) (fun _ _ _ => rfl)⟩
theorem tf_Tug_init : (fun j => if j = 2 then .ref 12 else if j = 1 then .ref 9 else if j = 0 then .ref 5 else if j = 6 then .ref (18) else if j = 5 then .ref (17) else if j = 4 then .ref (16) else if j = 3 then .ref (15) else DF (14) j) = TF 14 := by
  funext j
  rcases Nat.lt_or_ge j 56 with hj | hj
  · exact (by decide +kernel : ∀ j, j < 56 → (if j = 2 then .ref 12 else if j = 1 then .ref 9 else if j = 0 then .ref 5 else if j = 6 then .ref (18) else if j = 5 then .ref (17) else if j = 4 then .ref (16) else if j = 3 then .ref (15) else DF (14) j) = TF 14 j) j hj
  · rw [if_neg (show ¬ j = 2 by omega), if_neg (show ¬ j = 1 by omega), if_neg (show ¬ j = 0 by omega), if_neg (show ¬ j = 6 by omega), if_neg (show ¬ j = 5 by omega), if_neg (show ¬ j = 4 by omega), if_neg (show ¬ j = 3 by omega), (row_ge (a := 14) hj).1, (row_ge (a := 14) hj).2]
theorem i_Tug_init {l : xLa} {d : Nat} {h : xH} (x : Fr0 (14 + 1) h) (x0 : R0 h (14)) : Ct l M_Tug_init (d + 1) [.ref 14, .ref 5, .ref 9, .ref 12] h (fun r h2 => r = none ∧ Made (14) 5 h h2) := by
  show E l M_Tug_init (d + 1) 0 [some (.ref 14), some (.ref 5), some (.ref 9), some (.ref 12)] [] h 0 0 _
  replace x : OP 14 (14 + 1) (DF 14) si0 xrr h h := OP.start x x0.1 (x0.2.1.trans (si0_z (by decide)).symm) x0.2.2.1 (x0.2.2.2.trans (xrr_z (by decide)).symm)
  obtain ⟨h0, e0⟩ : ∃ h0, h0 = h := ⟨_, rfl⟩
  refine oe_aload d_Tug_init_0 rfl ?_
  refine oe_obj d_Tug_init_1 (p0 := 229) (by rfl) (Nat.le_of_ble_eq_true rfl) ?_
  refine oe_aload d_Tug_init_4 rfl ?_
  refine oe_bipush (v := 8) d_Tug_init_5 (by decide) ?_
  refine o_newa x (by decide) d_Tug_init_7 (t := 0) (by decide) rfl (len := 8) (by decide) (by decide) (by rfl) (si0_z (by decide)) (xrr_z (by decide)) (by refine ⟨?_, ?_⟩ <;> simp [okv]) (by decide) (fun h x => ?_)
  refine o_put x (by decide) (by decide) d_Tug_init_9 (by rfl) (by rfl) (by decide) (by decide) (okv_r (r := (15)) (by decide)) (xpok_ref (by decide)) (fun h x => ?_)
  refine oe_aload d_Tug_init_12 rfl ?_
  refine oe_bipush (v := 8) d_Tug_init_13 (by decide) ?_
  refine o_newa x (by decide) d_Tug_init_15 (t := 0) (by decide) rfl (len := 8) (by decide) (by decide) (by rfl) (si0_z (by decide)) (xrr_z (by decide)) (by refine ⟨?_, ?_⟩ <;> simp [okv]) (by decide) (fun h x => ?_)
  refine o_put x (by decide) (by decide) d_Tug_init_17 (by rfl) (by rfl) (by decide) (by decide) (okv_r (r := (16)) (by decide)) (xpok_ref (by decide)) (fun h x => ?_)
  refine oe_aload d_Tug_init_20 rfl ?_
  refine oe_bipush (v := 8) d_Tug_init_21 (by decide) ?_
  refine o_newa x (by decide) d_Tug_init_23 (t := 0) (by decide) rfl (len := 8) (by decide) (by decide) (by rfl) (si0_z (by decide)) (xrr_z (by decide)) (by refine ⟨?_, ?_⟩ <;> simp [okv]) (by decide) (fun h x => ?_)
  refine o_put x (by decide) (by decide) d_Tug_init_25 (by rfl) (by rfl) (by decide) (by decide) (okv_r (r := (17)) (by decide)) (xpok_ref (by decide)) (fun h x => ?_)
  refine oe_aload d_Tug_init_28 rfl ?_
  refine oe_iconst (v := 4) d_Tug_init_29 (by decide) ?_
  refine o_newa x (by decide) d_Tug_init_30 (t := 0) (by decide) rfl (len := 4) (by decide) (by decide) (by rfl) (si0_z (by decide)) (xrr_z (by decide)) (by refine ⟨?_, ?_⟩ <;> simp [okv]) (by decide) (fun h x => ?_)
  refine o_put x (by decide) (by decide) d_Tug_init_32 (by rfl) (by rfl) (by decide) (by decide) (okv_r (r := (18)) (by decide)) (xpok_ref (by decide)) (fun h x => ?_)
  refine oe_aload d_Tug_init_35 rfl ?_
  refine oe_aload d_Tug_init_36 rfl ?_
  refine o_put x (by decide) (by decide) d_Tug_init_37 (by rfl) (by rfl) (by decide) (by decide) (okv_r (r := 5) (by decide)) (xpok_ref (by decide)) (fun h x => ?_)
  refine oe_aload d_Tug_init_40 rfl ?_
  refine oe_aload d_Tug_init_41 rfl ?_
  refine o_put x (by decide) (by decide) d_Tug_init_42 (by rfl) (by rfl) (by decide) (by decide) (okv_r (r := 9) (by decide)) (xpok_ref (by decide)) (fun h x => ?_)
  refine oe_aload d_Tug_init_45 rfl ?_
  refine oe_aload d_Tug_init_46 rfl ?_
  refine o_put x (by decide) (by decide) d_Tug_init_47 (by rfl) (by rfl) (by decide) (by decide) (okv_r (r := 12) (by decide)) (xpok_ref (by decide)) (fun h x => ?_)
  exact E.vret rfl d_Tug_init_50 ⟨rfl, x.to (tf_Tug_init) (fun _ _ _ => rfl) (fun _ _ _ => rfl)⟩
theorem tf_Trip_init : (fun j => if j = 2 then .ref 14 else if j = 1 then .ref 9 else if j = 0 then .ref 5 else if j = 7 then .int 0 else if j = 6 then .int 0 else if j = 5 then .int 0 else if j = 4 then .int 0 else if j = 3 then .int 0 else DF (19) j) = TF 19 := by
  funext j
  rcases Nat.lt_or_ge j 56 with hj | hj
  · exact (by decide +kernel : ∀ j, j < 56 → (if j = 2 then .ref 14 else if j = 1 then .ref 9 else if j = 0 then .ref 5 else if j = 7 then .int 0 else if j = 6 then .int 0 else if j = 5 then .int 0 else if j = 4 then .int 0 else if j = 3 then .int 0 else DF (19) j) = TF 19 j) j hj
  · rw [if_neg (show ¬ j = 2 by omega), if_neg (show ¬ j = 1 by omega), if_neg (show ¬ j = 0 by omega), if_neg (show ¬ j = 7 by omega), if_neg (show ¬ j = 6 by omega), if_neg (show ¬ j = 5 by omega), if_neg (show ¬ j = 4 by omega), if_neg (show ¬ j = 3 by omega), (row_ge (a := 19) hj).1, (row_ge (a := 19) hj).2]
theorem i_Trip_init {l : xLa} {d : Nat} {h : xH} (x : Fr0 (19 + 1) h) (x0 : R0 h (19)) : Ct l M_Trip_init (d + 1) [.ref 19, .ref 5, .ref 9, .ref 14] h (fun r h2 => r = none ∧ Made (19) 1 h h2) := by
  show E l M_Trip_init (d + 1) 0 [some (.ref 19), some (.ref 5), some (.ref 9), some (.ref 14)] [] h 0 0 _
  replace x : OP 19 (19 + 1) (DF 19) si0 xrr h h := OP.start x x0.1 (x0.2.1.trans (si0_z (by decide)).symm) x0.2.2.1 (x0.2.2.2.trans (xrr_z (by decide)).symm)
  obtain ⟨h0, e0⟩ : ∃ h0, h0 = h := ⟨_, rfl⟩
  refine oe_aload d_Trip_init_0 rfl ?_
  refine oe_obj d_Trip_init_1 (p0 := 260) (by rfl) (Nat.le_of_ble_eq_true rfl) ?_
  refine oe_aload d_Trip_init_4 rfl ?_
  refine oe_iconst (v := 0) d_Trip_init_5 (by decide) ?_
  refine o_put x (by decide) (by decide) d_Trip_init_6 (by rfl) (by rfl) (by decide) (by decide) trivial (by decide) (fun h x => ?_)
  refine oe_aload d_Trip_init_9 rfl ?_
  refine oe_iconst (v := 0) d_Trip_init_10 (by decide) ?_
  refine o_put x (by decide) (by decide) d_Trip_init_11 (by rfl) (by rfl) (by decide) (by decide) trivial (by decide) (fun h x => ?_)
  refine oe_aload d_Trip_init_14 rfl ?_
  refine oe_iconst (v := 0) d_Trip_init_15 (by decide) ?_
  refine o_put x (by decide) (by decide) d_Trip_init_16 (by rfl) (by rfl) (by decide) (by decide) trivial (by decide) (fun h x => ?_)
  refine oe_aload d_Trip_init_19 rfl ?_
  refine oe_iconst (v := 0) d_Trip_init_20 (by decide) ?_
  refine o_put x (by decide) (by decide) d_Trip_init_21 (by rfl) (by rfl) (by decide) (by decide) trivial (by decide) (fun h x => ?_)
  refine oe_aload d_Trip_init_24 rfl ?_
  refine oe_iconst (v := 0) d_Trip_init_25 (by decide) ?_
  refine o_put x (by decide) (by decide) d_Trip_init_26 (by rfl) (by rfl) (by decide) (by decide) trivial (by decide) (fun h x => ?_)
  refine oe_aload d_Trip_init_29 rfl ?_
  refine oe_aload d_Trip_init_30 rfl ?_
  refine o_put x (by decide) (by decide) d_Trip_init_31 (by rfl) (by rfl) (by decide) (by decide) (okv_r (r := 5) (by decide)) (xpok_ref (by decide)) (fun h x => ?_)
  refine oe_aload d_Trip_init_34 rfl ?_
  refine oe_aload d_Trip_init_35 rfl ?_
  refine o_put x (by decide) (by decide) d_Trip_init_36 (by rfl) (by rfl) (by decide) (by decide) (okv_r (r := 9) (by decide)) (xpok_ref (by decide)) (fun h x => ?_)
  refine oe_aload d_Trip_init_39 rfl ?_
  refine oe_aload d_Trip_init_40 rfl ?_
  refine o_put x (by decide) (by decide) d_Trip_init_41 (by rfl) (by rfl) (by decide) (by decide) (okv_r (r := 14) (by decide)) (xpok_ref (by decide)) (fun h x => ?_)
  exact E.vret rfl d_Trip_init_44 ⟨rfl, x.to (tf_Trip_init) (fun _ _ _ => rfl) (fun _ _ _ => rfl)⟩
theorem tf_Sights_init : (fun j => if j = 3 then .int 0 else if j = 2 then .ref (115) else if j = 1 then .ref (114) else if j = 0 then .ref (113) else DF (112) j) = TF 112 := by
  funext j
  rcases Nat.lt_or_ge j 56 with hj | hj
  · exact (by decide +kernel : ∀ j, j < 56 → (if j = 3 then .int 0 else if j = 2 then .ref (115) else if j = 1 then .ref (114) else if j = 0 then .ref (113) else DF (112) j) = TF 112 j) j hj
  · rw [if_neg (show ¬ j = 3 by omega), if_neg (show ¬ j = 2 by omega), if_neg (show ¬ j = 1 by omega), if_neg (show ¬ j = 0 by omega), (row_ge (a := 112) hj).1, (row_ge (a := 112) hj).2]
theorem i_Sights_init {l : xLa} {d : Nat} {h : xH} (x : Fr0 (112 + 1) h) (x0 : R0 h (112)) : Ct l M_Sights_init (d + 1) [.ref 112] h (fun r h2 => r = none ∧ Made (112) 4 h h2) := by
  show E l M_Sights_init (d + 1) 0 [some (.ref 112)] [] h 0 0 _
  replace x : OP 112 (112 + 1) (DF 112) si0 xrr h h := OP.start x x0.1 (x0.2.1.trans (si0_z (by decide)).symm) x0.2.2.1 (x0.2.2.2.trans (xrr_z (by decide)).symm)
  obtain ⟨h0, e0⟩ : ∃ h0, h0 = h := ⟨_, rfl⟩
  refine oe_aload d_Sights_init_0 rfl ?_
  refine oe_obj d_Sights_init_1 (p0 := 378) (by rfl) (Nat.le_of_ble_eq_true rfl) ?_
  refine oe_aload d_Sights_init_4 rfl ?_
  refine oe_bipush (v := 10) d_Sights_init_5 (by decide) ?_
  refine o_newa x (by decide) d_Sights_init_7 (t := 0) (by decide) rfl (len := 10) (by decide) (by decide) (by rfl) (si0_z (by decide)) (xrr_z (by decide)) (by refine ⟨?_, ?_⟩ <;> simp [okv]) (by decide) (fun h x => ?_)
  refine o_put x (by decide) (by decide) d_Sights_init_9 (by rfl) (by rfl) (by decide) (by decide) (okv_r (r := (113)) (by decide)) (xpok_ref (by decide)) (fun h x => ?_)
  refine oe_aload d_Sights_init_12 rfl ?_
  refine oe_bipush (v := 10) d_Sights_init_13 (by decide) ?_
  refine o_newa x (by decide) d_Sights_init_15 (t := 0) (by decide) rfl (len := 10) (by decide) (by decide) (by rfl) (si0_z (by decide)) (xrr_z (by decide)) (by refine ⟨?_, ?_⟩ <;> simp [okv]) (by decide) (fun h x => ?_)
  refine o_put x (by decide) (by decide) d_Sights_init_17 (by rfl) (by rfl) (by decide) (by decide) (okv_r (r := (114)) (by decide)) (xpok_ref (by decide)) (fun h x => ?_)
  refine oe_aload d_Sights_init_20 rfl ?_
  refine oe_bipush (v := 10) d_Sights_init_21 (by decide) ?_
  refine o_newa x (by decide) d_Sights_init_23 (t := 1) (by decide) rfl (len := 10) (by decide) (by decide) (by rfl) (si0_z (by decide)) (xrr_z (by decide)) (by refine ⟨?_, ?_⟩ <;> simp [okv]) (by decide) (fun h x => ?_)
  refine o_put x (by decide) (by decide) d_Sights_init_25 (by rfl) (by rfl) (by decide) (by decide) (okv_r (r := (115)) (by decide)) (xpok_ref (by decide)) (fun h x => ?_)
  refine oe_aload d_Sights_init_28 rfl ?_
  refine oe_iconst (v := 0) d_Sights_init_29 (by decide) ?_
  refine o_put x (by decide) (by decide) d_Sights_init_30 (by rfl) (by rfl) (by decide) (by decide) trivial (by decide) (fun h x => ?_)
  exact E.vret rfl d_Sights_init_33 ⟨rfl, x.to (tf_Sights_init) (fun _ _ _ => rfl) (fun _ _ _ => rfl)⟩
theorem tf_State : ∀ b, b ∈ xStates → (fun j => if j = 9 then .ref (b + 4) else if j = 8 then .ref (b + 3) else if j = 7 then .ref (b + 2) else if j = 6 then .ref (b + 1) else if j = 5 then .int 0 else if j = 4 then .int 0 else if j = 3 then .int 0 else if j = 2 then .int 0 else if j = 1 then .int 20 else if j = 0 then .int 0 else DF (b) j) = TF b := by
  intro b hb
  funext j
  rcases Nat.lt_or_ge j 56 with hj | hj
  · exact (by decide +kernel : ∀ b, b ∈ xStates → ∀ j, j < 56 → (if j = 9 then .ref (b + 4) else if j = 8 then .ref (b + 3) else if j = 7 then .ref (b + 2) else if j = 6 then .ref (b + 1) else if j = 5 then .int 0 else if j = 4 then .int 0 else if j = 3 then .int 0 else if j = 2 then .int 0 else if j = 1 then .int 20 else if j = 0 then .int 0 else DF (b) j) = TF b j) b hb j hj
  · rw [if_neg (show ¬ j = 9 by omega), if_neg (show ¬ j = 8 by omega), if_neg (show ¬ j = 7 by omega), if_neg (show ¬ j = 6 by omega), if_neg (show ¬ j = 5 by omega), if_neg (show ¬ j = 4 by omega), if_neg (show ¬ j = 3 by omega), if_neg (show ¬ j = 2 by omega), if_neg (show ¬ j = 1 by omega), if_neg (show ¬ j = 0 by omega), (row_ge (a := b) hj).1, (row_ge (a := b) hj).2]
theorem i_State_init {l : xLa} {d : Nat} {h : xH} {b : Nat} (hb : b ∈ xStates) (x : Fr0 (b + 1) h) (x0 : R0 h (b)) : Ct l M_State_init (d + 1) [.ref b] h (fun r h2 => r = none ∧ Made (b) 5 h h2) := by
  show E l M_State_init (d + 1) 0 [some (.ref b)] [] h 0 0 _
  replace x : OP b (b + 1) (DF b) si0 xrr h h := OP.start x x0.1 (x0.2.1.trans (si0_z ((st_sh b hb).1.2 0 (by decide)).1).symm) x0.2.2.1 (x0.2.2.2.trans (xrr_z ((st_sh b hb).1.2 0 (by decide)).2).symm)
  refine oe_aload d_State_init_0 rfl ?_
  refine oe_obj d_State_init_1 (p0 := 296) (by rfl) (Nat.le_of_ble_eq_true rfl) ?_
  refine oe_aload d_State_init_4 rfl ?_
  refine oe_iconst (v := 0) d_State_init_5 (by decide) ?_
  refine o_put x (by have := (st_sh b hb).1.1; omega) (by omega) d_State_init_6 (by rfl) (st_sh b hb).2.1 (by decide) (by decide) trivial (by decide) (fun h x => ?_)
  refine oe_aload d_State_init_9 rfl ?_
  refine oe_bipush (v := 20) d_State_init_10 (by decide) ?_
  refine o_put x (by have := (st_sh b hb).1.1; omega) (by omega) d_State_init_12 (by rfl) (st_sh b hb).2.1 (by decide) (by decide) trivial (by decide) (fun h x => ?_)
  refine oe_aload d_State_init_15 rfl ?_
  refine oe_iconst (v := 0) d_State_init_16 (by decide) ?_
  refine o_put x (by have := (st_sh b hb).1.1; omega) (by omega) d_State_init_17 (by rfl) (st_sh b hb).2.1 (by decide) (by decide) trivial (by decide) (fun h x => ?_)
  refine oe_aload d_State_init_20 rfl ?_
  refine oe_iconst (v := 0) d_State_init_21 (by decide) ?_
  refine o_put x (by have := (st_sh b hb).1.1; omega) (by omega) d_State_init_22 (by rfl) (st_sh b hb).2.1 (by decide) (by decide) trivial (by decide) (fun h x => ?_)
  refine oe_aload d_State_init_25 rfl ?_
  refine oe_iconst (v := 0) d_State_init_26 (by decide) ?_
  refine o_put x (by have := (st_sh b hb).1.1; omega) (by omega) d_State_init_27 (by rfl) (st_sh b hb).2.1 (by decide) (by decide) trivial (by decide) (fun h x => ?_)
  refine oe_aload d_State_init_30 rfl ?_
  refine oe_iconst (v := 0) d_State_init_31 (by decide) ?_
  refine o_put x (by have := (st_sh b hb).1.1; omega) (by omega) d_State_init_32 (by rfl) (st_sh b hb).2.1 (by decide) (by decide) trivial (by decide) (fun h x => ?_)
  refine oe_aload d_State_init_35 rfl ?_
  refine oe_bipush (v := 8) d_State_init_36 (by decide) ?_
  refine o_newa x (by omega) d_State_init_38 (t := 0) (by decide) rfl (len := 8) (by decide) (by decide) (st_sh b hb).2.2.1 (si0_z ((st_sh b hb).1.2 1 (by decide)).1) (xrr_z ((st_sh b hb).1.2 1 (by decide)).2) (wfk_t (b := b) (by omega)) (by decide) (fun h x => ?_)
  refine o_put x (by have := (st_sh b hb).1.1; omega) (by omega) d_State_init_40 (by rfl) (st_sh b hb).2.1 (by decide) (by decide) (okv_r (r := (b + 1)) (by omega)) (xpok_ref (by decide)) (fun h x => ?_)
  refine oe_aload d_State_init_43 rfl ?_
  refine oe_bipush (v := 8) d_State_init_44 (by decide) ?_
  refine o_newa x (by omega) d_State_init_46 (t := 0) (by decide) rfl (len := 8) (by decide) (by decide) (st_sh b hb).2.2.2.1 (si0_z ((st_sh b hb).1.2 2 (by decide)).1) (xrr_z ((st_sh b hb).1.2 2 (by decide)).2) (wfk_t (b := b) (by omega)) (by decide) (fun h x => ?_)
  refine o_put x (by have := (st_sh b hb).1.1; omega) (by omega) d_State_init_48 (by rfl) (st_sh b hb).2.1 (by decide) (by decide) (okv_r (r := (b + 2)) (by omega)) (xpok_ref (by decide)) (fun h x => ?_)
  refine oe_aload d_State_init_51 rfl ?_
  refine oe_bipush (v := 8) d_State_init_52 (by decide) ?_
  refine o_newa x (by omega) d_State_init_54 (t := 0) (by decide) rfl (len := 8) (by decide) (by decide) (st_sh b hb).2.2.2.2.1 (si0_z ((st_sh b hb).1.2 3 (by decide)).1) (xrr_z ((st_sh b hb).1.2 3 (by decide)).2) (wfk_t (b := b) (by omega)) (by decide) (fun h x => ?_)
  refine o_put x (by have := (st_sh b hb).1.1; omega) (by omega) d_State_init_56 (by rfl) (st_sh b hb).2.1 (by decide) (by decide) (okv_r (r := (b + 3)) (by omega)) (xpok_ref (by decide)) (fun h x => ?_)
  refine oe_aload d_State_init_59 rfl ?_
  refine oe_bipush (v := 8) d_State_init_60 (by decide) ?_
  refine o_newa x (by omega) d_State_init_62 (t := 0) (by decide) rfl (len := 8) (by decide) (by decide) (st_sh b hb).2.2.2.2.2 (si0_z ((st_sh b hb).1.2 4 (by decide)).1) (xrr_z ((st_sh b hb).1.2 4 (by decide)).2) (wfk_t (b := b) (by omega)) (by decide) (fun h x => ?_)
  refine o_put x (by have := (st_sh b hb).1.1; omega) (by omega) d_State_init_64 (by rfl) (st_sh b hb).2.1 (by decide) (by decide) (okv_r (r := (b + 4)) (by omega)) (xpok_ref (by decide)) (fun h x => ?_)
  exact E.vret rfl d_State_init_67 ⟨rfl, x.to (tf_State b hb) (fun _ _ _ => rfl) (fun _ _ _ => rfl)⟩
