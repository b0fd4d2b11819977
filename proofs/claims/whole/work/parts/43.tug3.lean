/-! Tug.measure, addTo, pullers, pullOf. Printed by wip/whole. -/
theorem x_measure {l : xLa} {d : Nat} {σ : xs} {a u : Nat} {e : xe} {v : sv} (ha : isS a) (hu : isR u) (he : okE e) (hv : okV e v) (hS : ST σ a v) (hE : EX σ e u) (hCI : CI σ u (V (eW e) (eM e))) : TC l M_Tug_measure (d + 6) [.ref 14, .ref a, .ref u] σ (fun r τ => r = none ∧ Sc (PM u) σ τ ∧ CI τ u (V (eW e) (eM e)) ∧ MS e v (eN e) τ) := by
  have hE0 := hE
  have he0 := he
  have hv0 := hv
  have hS0 := hS
  obtain ⟨⟨hr, hc, hn, hfl⟩, hks, hfd, hrk, hcd⟩ := hE
  obtain ⟨hsf, hsi⟩ := hS
  obtain ⟨⟨e1, e2, e3, e4, e5, e6, e7⟩, e8, e9x, e10⟩ := he
  obtain ⟨v1, v2, v3, v4, v5, v6, v7⟩ := hv
  have hml : v 0 4 % eL e < 20 := Nat.lt_of_lt_of_le (Nat.mod_lt _ e6) e7
  show T l M_Tug_measure (d + 6) 0 _ [] σ _
  refine tt_aload_n d_Tug_measure_0 rfl ?_
  refine tt_getR d_Tug_measure_1 rfl rfl (by decide) rfl rfl ?_
  refine tt_aload_n d_Tug_measure_4 rfl ?_
  refine tn_get d_Tug_measure_5 rfl (by first | exact xS_sh ha) (by decide) (by first | exact xS_i ha _ (by decide)) (hsf 4 (by decide)) ?_
  refine tt_callV (x_Fog_in (d := d + 3) (h := v 0 4) hfl e6 e7 (by omega)) cw_Fog_in rfl rfl (by decide) rfl (by omega) d_Tug_measure_8 rfl rfl (Nat.le_of_ble_eq_true rfl) (Nat.le_of_ble_eq_true rfl) rfl rfl rfl (fun v σ2 q => ?_)
  obtain ⟨rfl, e9⟩ := q
  rw [e9, hfd _ hml]
  clear e9
  refine tt_bipush (v := nI 16) d_Tug_measure_11 (by decide) ?_
  refine tt_ishl d_Tug_measure_13 ?_
  refine tt_aload_n d_Tug_measure_14 rfl ?_
  refine tn_get d_Tug_measure_15 rfl (by first | exact xS_sh ha) (by decide) (by first | exact xS_i ha _ (by decide)) (hsf 4 (by decide)) ?_
  refine tt_bipush (v := nI 7) d_Tug_measure_18 (by decide) ?_
  refine tt_callS (x_floorMod (d := d + 4) (a := v 0 4) (b := 7) (by omega) (by omega) (by omega)) cw_Math_floorMod rfl (by omega) d_Tug_measure_20 rfl rfl (Nat.le_of_ble_eq_true rfl) (Nat.le_of_ble_eq_true rfl) rfl rfl rfl (fun v σ2 q => ?_)
  obtain ⟨rfl, e9⟩ := q
  rw [e9]
  clear e9
  refine tt_bipush (v := nI 20) d_Tug_measure_23 (by decide) ?_
  refine tt_ishl d_Tug_measure_25 ?_
  refine tt_ior d_Tug_measure_26 ?_
  refine tt_top (y := nI (2 ^ 16 * eF e (v 0 4 % eL e) + 2 ^ 20 * (v 0 4 % 7))) (wth_eq (by have := e9x _ hml; omega) (by omega)) ?_
  refine tt_istore_n d_Tug_measure_27 (by decide) rfl ?_
  refine tt_iconst (v := nI 0) d_Tug_measure_28 (by decide) ?_
  refine tt_istore d_Tug_measure_29 (by decide) rfl ?_
  exact x_measure_l ha hu he0 hv0 hS0 hE0 (eN e) 0 σ none none none none none (by omega) (by omega) Sc.rf hCI (fun j hj => absurd hj (Nat.not_lt_zero j))

def upN (f : Nat → Int32) (k : Nat) (x : Int32) : Nat → Int32 := fun j => if j = k then x else f j
/-- a pull m by way w: w has it, the way against w loses it -/
def addF (f : Nat → Int32) (w : Nat) (m : Int32) : Nat → Int32 := upN (upN f w (f w + m)) ((w + 2) % 4) (upN f w (f w + m) ((w + 2) % 4) - m)
theorem and3 (n : Nat) (h : n < 2 ^ 32) : nI n &&& nI 3 = nI (n % 4) := pk_andN h 2 (by decide)
theorem wA_wA {σ : xs} {a : Nat} {f g : Nat → Int32} : wA (wA σ a f) a g = wA σ a g := by
  have e : (fun b => if b = a then g else si (wA σ a f) b) = (fun b => if b = a then g else si σ b) := by
    funext b
    by_cases h : b = a
    · rw [if_pos h, if_pos h]
    · rw [if_neg h, if_neg h]
      show (if b = a then f else si σ b) = si σ b
      rw [if_neg h]
  show (σ.1, (fun b => if b = a then g else si (wA σ a f) b), σ.2.2) = _
  rw [e]
  rfl
theorem x_addTo {l : xLa} {d : Nat} {σ : xs} {f : Nat → Int32} {w : Nat} {m : Int32} (hw : w < 4) : TE l M_Tug_addTo (d + 1) [.ref 14, .int (nI w), .int m] (wA σ 18 f) none (wA σ 18 (addF f w m)) := by
  show T l M_Tug_addTo (d + 1) 0 _ [] (wA σ 18 f) _
  refine tt_aload_n d_Tug_addTo_0 rfl ?_
  refine tt_getR d_Tug_addTo_1 rfl rfl (by decide) rfl rfl ?_
  refine tt_iload_n d_Tug_addTo_4 rfl ?_
  refine tt_iconst (v := nI 3) d_Tug_addTo_5 (by decide) ?_
  refine tt_iand d_Tug_addTo_6 ?_
  refine tt_top (y := nI w) ((and3 w (by omega)).trans (by rw [Nat.mod_eq_of_lt hw])) ?_
  refine tt_dup2 d_Tug_addTo_7 rfl rfl ?_
  refine tn_iald d_Tug_addTo_8 rfl (by decide) hw (show si (wA σ 18 f) 18 w = f w from rfl) ?_
  refine tt_iload_n d_Tug_addTo_9 rfl ?_
  refine tt_iadd d_Tug_addTo_10 ?_
  refine tn_iast d_Tug_addTo_11 rfl (by decide) hw ?_
  refine tt_aload_n d_Tug_addTo_12 rfl ?_
  refine T_cong wI_wA ?_
  refine tt_getR d_Tug_addTo_13 rfl rfl (by decide) rfl rfl ?_
  refine tt_iload_n d_Tug_addTo_16 rfl ?_
  refine tt_iconst (v := nI 2) d_Tug_addTo_17 (by decide) ?_
  refine tn_iadd d_Tug_addTo_18 ?_
  refine tt_iconst (v := nI 3) d_Tug_addTo_19 (by decide) ?_
  refine tt_iand d_Tug_addTo_20 ?_
  refine tt_top (y := nI ((w + 2) % 4)) (and3 _ (by omega)) ?_
  refine tt_dup2 d_Tug_addTo_21 rfl rfl ?_
  refine tn_iald d_Tug_addTo_22 rfl (by decide) (by omega) (show si (wA σ 18 (upN f w (f w + m))) 18 ((w + 2) % 4) = upN f w (f w + m) ((w + 2) % 4) from rfl) ?_
  refine tt_iload_n d_Tug_addTo_23 rfl ?_
  refine tt_isub d_Tug_addTo_24 ?_
  refine tn_iast d_Tug_addTo_25 rfl (by decide) (by omega) ?_
  refine tt_vret rfl d_Tug_addTo_26 ?_
  exact ⟨rfl, wI_wA⟩

/-- those of the first i that pull, as bits -/
def pusV (e : xe) (v : sv) : Nat → Int32
  | 0 => nI 0
  | i + 1 => pusV e v i ||| (if 0 < plV e v i then (nI 1 <<< (nI i &&& 31)) else nI 0)
/-- the pull of those of the first i that a set has -/
def psmV (e : xe) (v : sv) (z : Int32) : Nat → Int32
  | 0 => nI 0
  | i + 1 => psmV e v z i + (if xbit z (nI i) = nI 1 then plV e v i else nI 0)
theorem x_pullers_l {l : xLa} {d : Nat} {σ : xs} {e : xe} {v : sv} (hn : sf σ 9 2 = nI (eN e)) (hn8 : eN e ≤ 8) (hM : MS e v (eN e) σ) : ∀ (m : Nat) (i : Nat), eN e - i = m → i ≤ eN e → T l M_Tug_pullers (d + 1) 4 [some (.ref 14), some (.int (pusV e v i)), some (.int (nI i))] [] σ (fun r σ' => r = some (.int (pusV e v (eN e))) ∧ σ' = σ) := by
  intro m
  induction m using Nat.strongRecOn with
  | ind m ih =>
    intro i hm hi
    refine tt_iload_n d_Tug_pullers_4 rfl ?_
    refine tt_aload_n d_Tug_pullers_5 rfl ?_
    refine tt_getR d_Tug_pullers_6 rfl rfl (by decide) rfl rfl ?_
    refine tn_get d_Tug_pullers_9 rfl rfl (by decide) rfl hn ?_
    refine tn_ic_ge (t := 40) (by omega) (by omega) d_Tug_pullers_12 (by decide) (fun c_12 => ?_) (fun c_12 => ?_)
    · obtain rfl : i = eN e := by omega
      refine tt_iload_n d_Tug_pullers_40 rfl ?_
      refine tt_iret rfl d_Tug_pullers_41 ?_
      exact ⟨rfl, rfl⟩
    · refine tt_iload_n d_Tug_pullers_15 rfl ?_
      refine tt_aload_n d_Tug_pullers_16 rfl ?_
      refine tt_getR d_Tug_pullers_17 rfl rfl (by decide) rfl rfl ?_
      refine tt_iload_n d_Tug_pullers_20 rfl ?_
      refine tn_iald d_Tug_pullers_21 rfl (by decide) (by omega) (hM i (by omega)).1 ?_
      refine tt_if_le (t := 31) d_Tug_pullers_22 (by decide) (fun c_22 => ?_) (fun c_22 => ?_)
      · refine tt_iconst (v := nI 0) d_Tug_pullers_31 (by decide) ?_
        refine tt_ior d_Tug_pullers_32 ?_
        refine tt_istore_n d_Tug_pullers_33 (by decide) rfl ?_
        refine tt_iinc d_Tug_pullers_34 rfl (nI_inc _ 1) (by decide) rfl ?_
        refine tt_goto (t := 4) d_Tug_pullers_37 (by decide) ?_
        have q := ih (eN e - (i + 1)) (by omega) (i + 1) rfl (by omega)
        have q2 : ∀ w, pusV e v (i + 1) = w → T l M_Tug_pullers (d + 1) 4 [some (.ref 14), some (.int w), some (.int (nI (i + 1)))] [] σ (fun r σ' => r = some (.int (pusV e v (eN e))) ∧ σ' = σ) := fun w e => by rw [← e]; exact q
        first
          | exact q2 _ (congrArg (fun w => pusV e v i ||| w) (if_pos (fa_nle c_22)))
          | exact q2 _ (congrArg (fun w => pusV e v i ||| w) (if_neg (fa_ngt c_22)))
      · refine tt_iconst (v := nI 1) d_Tug_pullers_25 (by decide) ?_
        refine tt_iload_n d_Tug_pullers_26 rfl ?_
        refine tt_ishl d_Tug_pullers_27 ?_
        refine tt_goto (t := 32) d_Tug_pullers_28 (by decide) ?_
        refine tt_ior d_Tug_pullers_32 ?_
        refine tt_istore_n d_Tug_pullers_33 (by decide) rfl ?_
        refine tt_iinc d_Tug_pullers_34 rfl (nI_inc _ 1) (by decide) rfl ?_
        refine tt_goto (t := 4) d_Tug_pullers_37 (by decide) ?_
        have q := ih (eN e - (i + 1)) (by omega) (i + 1) rfl (by omega)
        have q2 : ∀ w, pusV e v (i + 1) = w → T l M_Tug_pullers (d + 1) 4 [some (.ref 14), some (.int w), some (.int (nI (i + 1)))] [] σ (fun r σ' => r = some (.int (pusV e v (eN e))) ∧ σ' = σ) := fun w e => by rw [← e]; exact q
        first
          | exact q2 _ (congrArg (fun w => pusV e v i ||| w) (if_pos (fa_nle c_22)))
          | exact q2 _ (congrArg (fun w => pusV e v i ||| w) (if_neg (fa_ngt c_22)))

theorem x_pullers {l : xLa} {d : Nat} {σ : xs} {e : xe} {v : sv} (hn : sf σ 9 2 = nI (eN e)) (hn8 : eN e ≤ 8) (hM : MS e v (eN e) σ) : TE l M_Tug_pullers (d + 1) [.ref 14] σ (some (.int (pusV e v (eN e)))) (σ) := by
  show T l M_Tug_pullers (d + 1) 0 _ [] σ _
  refine tt_iconst (v := nI 0) d_Tug_pullers_0 (by decide) ?_
  refine tt_istore_n d_Tug_pullers_1 (by decide) rfl ?_
  refine tt_iconst (v := nI 0) d_Tug_pullers_2 (by decide) ?_
  refine tt_istore_n d_Tug_pullers_3 (by decide) rfl ?_
  exact x_pullers_l hn hn8 hM (eN e) 0 (by omega) (by omega)

theorem x_pullOf_l {l : xLa} {d : Nat} {σ : xs} {e : xe} {v : sv} (hn : sf σ 9 2 = nI (eN e)) (hn8 : eN e ≤ 8) (hM : MS e v (eN e) σ) {z : Int32} : ∀ (m : Nat) (i : Nat), eN e - i = m → i ≤ eN e → T l M_Tug_pullOf (d + 1) 4 [some (.ref 14), some (.int z), some (.int (psmV e v z i)), some (.int (nI i))] [] σ (fun r σ' => r = some (.int (psmV e v z (eN e))) ∧ σ' = σ) := by
  intro m
  induction m using Nat.strongRecOn with
  | ind m ih =>
    intro i hm hi
    refine tt_iload_n d_Tug_pullOf_4 rfl ?_
    refine tt_aload_n d_Tug_pullOf_5 rfl ?_
    refine tt_getR d_Tug_pullOf_6 rfl rfl (by decide) rfl rfl ?_
    refine tn_get d_Tug_pullOf_9 rfl rfl (by decide) rfl hn ?_
    refine tn_ic_ge (t := 43) (by omega) (by omega) d_Tug_pullOf_12 (by decide) (fun c_12 => ?_) (fun c_12 => ?_)
    · obtain rfl : i = eN e := by omega
      refine tt_iload_n d_Tug_pullOf_43 rfl ?_
      refine tt_iret rfl d_Tug_pullOf_44 ?_
      exact ⟨rfl, rfl⟩
    · refine tt_iload_n d_Tug_pullOf_15 rfl ?_
      refine tt_iload_n d_Tug_pullOf_16 rfl ?_
      refine tt_iload_n d_Tug_pullOf_17 rfl ?_
      refine tt_iushr d_Tug_pullOf_18 ?_
      refine tt_iconst (v := nI 1) d_Tug_pullOf_19 (by decide) ?_
      refine tt_iand d_Tug_pullOf_20 ?_
      refine tt_iconst (v := nI 1) d_Tug_pullOf_21 (by decide) ?_
      refine tt_ic_ne (t := 34) d_Tug_pullOf_22 (by decide) (fun c_22 => ?_) (fun c_22 => ?_)
      · refine tt_iconst (v := nI 0) d_Tug_pullOf_34 (by decide) ?_
        refine tt_iadd d_Tug_pullOf_35 ?_
        refine tt_istore_n d_Tug_pullOf_36 (by decide) rfl ?_
        refine tt_iinc d_Tug_pullOf_37 rfl (nI_inc _ 1) (by decide) rfl ?_
        refine tt_goto (t := 4) d_Tug_pullOf_40 (by decide) ?_
        have q := ih (eN e - (i + 1)) (by omega) (i + 1) rfl (by omega)
        have q2 : ∀ w, psmV e v z (i + 1) = w → T l M_Tug_pullOf (d + 1) 4 [some (.ref 14), some (.int z), some (.int w), some (.int (nI (i + 1)))] [] σ (fun r σ' => r = some (.int (psmV e v z (eN e))) ∧ σ' = σ) := fun w e => by rw [← e]; exact q
        first
          | exact q2 _ (congrArg (fun w => psmV e v z i + w) (if_neg c_22))
          | exact q2 _ (congrArg (fun w => psmV e v z i + w) (if_pos (Classical.not_not.mp c_22)))
      · refine tt_aload_n d_Tug_pullOf_25 rfl ?_
        refine tt_getR d_Tug_pullOf_26 rfl rfl (by decide) rfl rfl ?_
        refine tt_iload_n d_Tug_pullOf_29 rfl ?_
        refine tn_iald d_Tug_pullOf_30 rfl (by decide) (by omega) (hM i (by omega)).1 ?_
        refine tt_goto (t := 35) d_Tug_pullOf_31 (by decide) ?_
        refine tt_iadd d_Tug_pullOf_35 ?_
        refine tt_istore_n d_Tug_pullOf_36 (by decide) rfl ?_
        refine tt_iinc d_Tug_pullOf_37 rfl (nI_inc _ 1) (by decide) rfl ?_
        refine tt_goto (t := 4) d_Tug_pullOf_40 (by decide) ?_
        have q := ih (eN e - (i + 1)) (by omega) (i + 1) rfl (by omega)
        have q2 : ∀ w, psmV e v z (i + 1) = w → T l M_Tug_pullOf (d + 1) 4 [some (.ref 14), some (.int z), some (.int w), some (.int (nI (i + 1)))] [] σ (fun r σ' => r = some (.int (psmV e v z (eN e))) ∧ σ' = σ) := fun w e => by rw [← e]; exact q
        first
          | exact q2 _ (congrArg (fun w => psmV e v z i + w) (if_neg c_22))
          | exact q2 _ (congrArg (fun w => psmV e v z i + w) (if_pos (Classical.not_not.mp c_22)))

theorem x_pullOf {l : xLa} {d : Nat} {σ : xs} {e : xe} {v : sv} (hn : sf σ 9 2 = nI (eN e)) (hn8 : eN e ≤ 8) (hM : MS e v (eN e) σ) {z : Int32} : TE l M_Tug_pullOf (d + 1) [.ref 14, .int z] σ (some (.int (psmV e v z (eN e)))) (σ) := by
  show T l M_Tug_pullOf (d + 1) 0 _ [] σ _
  refine tt_iconst (v := nI 0) d_Tug_pullOf_0 (by decide) ?_
  refine tt_istore_n d_Tug_pullOf_1 (by decide) rfl ?_
  refine tt_iconst (v := nI 0) d_Tug_pullOf_2 (by decide) ?_
  refine tt_istore_n d_Tug_pullOf_3 (by decide) rfl ?_
  exact x_pullOf_l hn hn8 hM (eN e) 0 (by omega) (by omega)

