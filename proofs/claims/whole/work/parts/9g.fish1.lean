/-! fish: the class. Printed by wip/whole. -/
theorem s_lku_o {pc t : Nat} {lv : List (Option Value)} {r : List Value} {h : xH} {dflt off : Int} {ps : Array (Int × Int)} {x : Int32} (ha : (ps.toList.zip (ps.toList.drop 1)).all (fun (a, next) => a.1 < next.1) = true) (hx : Op.lookupswitch.offset ps.toList dflt x.toInt = off) (ht : xj pc off = some t) : s_lku pc lv (.int x :: r) h dflt ps = some (t, lv, r, h) := by
  simp only [s_lku, if_pos ha, hx, ht]
/-- a kind by its sign plus 1: the kind plus 1 -/
def knN (c : Nat) : Nat := if c = 117 then 1 else if c = 113 then 2 else if c = 102 then 3 else if c = 116 then 4 else 0
def kdN (x : Nat × (Nat → Nat)) (j : Nat) : Nat := knN (atN x j)
theorem kd_le (x : Nat × (Nat → Nat)) (j : Nat) : kdN x j ≤ 4 := by unfold kdN knN; split <;> (try omega); split <;> (try omega); split <;> (try omega); split <;> omega
theorem kn_gI {c : Nat} (hc : c ≤ 256) : (gI c = 116 ↔ c = 117) ∧ (gI c = 112 ↔ c = 113) ∧ (gI c = 101 ↔ c = 102) ∧ (gI c = 115 ↔ c = 116) := ⟨gI_eqN (k := 116) (by omega) (by omega), gI_eqN (k := 112) (by omega) (by omega), gI_eqN (k := 101) (by omega) (by omega), gI_eqN (k := 115) (by omega) (by omega)⟩
/-- the fault in a text of fish, from place p on, with room for k lines: its place plus 1; 0: none -/
def fiF (x : Nat × (Nat → Nat)) : Nat → Nat → Nat
  | 0, p => p + 1
  | k + 1, p => if kdN x p = 0 then p + 1 else if dgN x (p + 1) < 2 then p + 2 else if p + 2 = x.1 then 0 else if 23 ≤ p + 2 ∨ ¬ atN x (p + 2) = 60 then p + 3 else fiF x k (p + 3)
section
variable {x : Nat × (Nat → Nat)} {k q : Nat}
theorem fi_1 (h : kdN x q = 0) : fiF x (k + 1) q = q + 1 := if_pos h
theorem fi_2 (h : ¬ kdN x q = 0) (h2 : dgN x (q + 1) < 2) : fiF x (k + 1) q = q + 2 := (if_neg h).trans (if_pos h2)
theorem fi_3 (h : ¬ kdN x q = 0) (h2 : ¬ dgN x (q + 1) < 2) (h3 : q + 2 = x.1) : fiF x (k + 1) q = 0 := (if_neg h).trans ((if_neg h2).trans (if_pos h3))
theorem fi_4 (h : ¬ kdN x q = 0) (h2 : ¬ dgN x (q + 1) < 2) (h3 : ¬ q + 2 = x.1) (h4 : 23 ≤ q + 2 ∨ ¬ atN x (q + 2) = 60) : fiF x (k + 1) q = q + 3 := (if_neg h).trans ((if_neg h2).trans ((if_neg h3).trans (if_pos h4)))
theorem fi_5 (h : ¬ kdN x q = 0) (h2 : ¬ dgN x (q + 1) < 2) (h3 : ¬ q + 2 = x.1) (h4 : ¬ (23 ≤ q + 2 ∨ ¬ atN x (q + 2) = 60)) : fiF x (k + 1) q = fiF x k (q + 3) := (if_neg h).trans ((if_neg h2).trans ((if_neg h3).trans (if_neg h4)))
theorem fi_le : ∀ k q, fiF x k q ≤ q + 3 * k + 1
  | 0, q => by show q + 1 ≤ _; omega
  | k + 1, q => by
    have ih := fi_le k (q + 3)
    by_cases h : kdN x q = 0
    · rw [fi_1 h]; omega
    · by_cases h2 : dgN x (q + 1) < 2
      · rw [fi_2 h h2]; omega
      · by_cases h3 : q + 2 = x.1
        · rw [fi_3 h h2 h3]; omega
        · by_cases h4 : 23 ≤ q + 2 ∨ ¬ atN x (q + 2) = 60
          · rw [fi_4 h h2 h3 h4]; omega
          · rw [fi_5 h h2 h3 h4]; omega
/-- lines that stand -/
theorem fi_0 : ∀ k q, fiF x k q = 0 → ∃ L, 1 ≤ L ∧ L ≤ k ∧ x.1 + 1 = q + 3 * L ∧ ∀ j, j < L → ¬ kdN x (q + 3 * j) = 0 ∧ 2 ≤ dgN x (q + 3 * j + 1)
  | 0, q, h => by have : q + 1 = 0 := h; omega
  | k + 1, q, h => by
    by_cases h1 : kdN x q = 0
    · rw [fi_1 h1] at h; omega
    · by_cases h2 : dgN x (q + 1) < 2
      · rw [fi_2 h1 h2] at h; omega
      · by_cases h3 : q + 2 = x.1
        · refine ⟨1, by omega, by omega, by omega, fun j hj => ?_⟩
          obtain rfl : j = 0 := by omega
          exact ⟨h1, by rw [Nat.mul_zero, Nat.add_zero]; omega⟩
        · by_cases h4 : 23 ≤ q + 2 ∨ ¬ atN x (q + 2) = 60
          · rw [fi_4 h1 h2 h3 h4] at h; omega
          · rw [fi_5 h1 h2 h3 h4] at h
            obtain ⟨L, a1, a2, a3, a4⟩ := fi_0 k (q + 3) h
            refine ⟨L + 1, by omega, by omega, by omega, fun j hj => ?_⟩
            cases j with
            | zero => exact ⟨h1, by rw [Nat.mul_zero, Nat.add_zero]; omega⟩
            | succ j =>
              have := a4 j (by omega)
              rw [show q + 3 + 3 * j = q + 3 * (j + 1) by omega] at this
              exact this
end
/-- a fish as it comes -/
def wlV (v : sv) (i : Nat) : sv := upv (upv (upv (upv (upv v 1 i 0) 2 i 5) 3 i 0) 4 i 0) 0 5 (v 0 5 ||| 2 ^ i)
def wlN (v : sv) (n : Nat) : Nat → sv
  | 0 => v
  | j + 1 => wlV (wlN v n j) (n + j)
/-- with j fish more -/
def fiE (e : xe) (x : Nat × (Nat → Nat)) (j : Nat) : xe := ((fun k => if k = 2 then eN e + j else e.1 k), (fun i => if eN e ≤ i ∧ i < eN e + j then kdN x (3 * (i - eN e)) - 1 else eK e i), (fun i => if eN e ≤ i ∧ i < eN e + j then dgN x (3 * (i - eN e) + 1) - 1 else eS e i), eF e, eB e, eW e)
def fiJ (w : wv) (j : Nat) : wv := (fiE (wE w) (wX w) j, wlN (wV w) (eN (wE w)) j, wX w, wD w, wU w, wK w, wS w)
def fiL (x : Nat × (Nat → Nat)) : Nat := (x.1 + 1) / 3
def fiW (w : wv) : wv := (fiE (wE w) (wX w) (fiL (wX w)), wlN (wV w) (eN (wE w)) (fiL (wX w)), (0, (wX w).2), wD w, [], (fun _ => none), wS w)
def fiA (w : wv) : Nat := fiF (wX w) (8 - eN (wE w)) 0
def a_fish (w : wv) : Int32 × wv := if (wX w).1 = 0 then (nI 0, txC w) else if fiA w = 0 then (nI (fiL (wX w)), fiW w) else ((-1) - nI (fiA w - 1), txC w)
def nc_fish (w : wv) (c : Nat) : Nat := if (wX w).1 = 0 then c else if fiA w = 0 then c + 1 else c
theorem fiL_c {w : wv} (h8 : eN (wE w) ≤ 8) (h : fiA w = 0) : 1 ≤ fiL (wX w) ∧ fiL (wX w) + eN (wE w) ≤ 8 ∧ (wX w).1 + 1 = 3 * fiL (wX w) ∧ ∀ j, j < fiL (wX w) → ¬ kdN (wX w) (3 * j) = 0 ∧ 2 ≤ dgN (wX w) (3 * j + 1) := by
  obtain ⟨L, a1, a2, a3, a4⟩ := fi_0 _ _ h
  have : fiL (wX w) = L := by unfold fiL; omega
  rw [this]
  refine ⟨a1, by omega, by omega, fun j hj => ?_⟩
  have := a4 j hj
  rw [Nat.zero_add] at this
  exact this
theorem x_kindOf {l : xLa} {d : Nat} {σ : xs} {c : Nat} (hc : c ≤ 256) : TE l M_X_kindOf (d + 1) [.int (gI c)] σ (some (.int (gI (knN c)))) σ := by
  show T l M_X_kindOf (d + 1) 0 _ [] σ _
  refine T_lv (lv2 := [_]) rfl ?_
  refine tt_iload_n d_X_kindOf_0 rfl ?_
  have hk := kn_gI hc
  rcases (show c = 117 ∨ c = 113 ∨ c = 102 ∨ c = 116 ∨ (¬ c = 117 ∧ ¬ c = 113 ∧ ¬ c = 102 ∧ ¬ c = 116) by omega) with rfl | rfl | rfl | rfl | ⟨q1, q2, q3, q4⟩
  · refine tt_lku (t := 44) d_X_kindOf_1 rfl ?_
    refine tt_iconst (v := nI 0) d_X_kindOf_44 (by decide) ?_
    refine tt_iret rfl d_X_kindOf_45 ?_
    exact ⟨rfl, rfl⟩
  · refine tt_lku (t := 46) d_X_kindOf_1 rfl ?_
    refine tt_iconst (v := nI 1) d_X_kindOf_46 (by decide) ?_
    refine tt_iret rfl d_X_kindOf_47 ?_
    exact ⟨rfl, rfl⟩
  · refine tt_lku (t := 48) d_X_kindOf_1 rfl ?_
    refine tt_iconst (v := nI 2) d_X_kindOf_48 (by decide) ?_
    refine tt_iret rfl d_X_kindOf_49 ?_
    exact ⟨rfl, rfl⟩
  · refine tt_lku (t := 50) d_X_kindOf_1 rfl ?_
    refine tt_iconst (v := nI 3) d_X_kindOf_50 (by decide) ?_
    refine tt_iret rfl d_X_kindOf_51 ?_
    exact ⟨rfl, rfl⟩
  · refine tt_lku (t := 52) d_X_kindOf_1 (s_lku_o rfl ((lv_osw (k := 101) (fun z => q3 (hk.2.2.1.mp z)) rfl).trans ((lv_osw (k := 112) (fun z => q2 (hk.2.1.mp z)) rfl).trans ((lv_osw (k := 115) (fun z => q4 (hk.2.2.2.mp z)) rfl).trans ((lv_osw (k := 116) (fun z => q1 (hk.1.mp z)) rfl).trans rfl)))) rfl) ?_
    refine tt_iconst (v := (-1)) d_X_kindOf_52 (by decide) ?_
    refine tt_iret rfl d_X_kindOf_53 ?_
    refine ⟨?_, rfl⟩
    unfold knN
    rw [if_neg q1, if_neg q2, if_neg q3, if_neg q4]
    rfl

set_option maxHeartbeats 4000000 in
theorem x_fishF_l {l : xLa} {d : Nat} {σ : xs} {x : Nat × (Nat → Nat)} (hx : XT σ x) (hX : okX x) : ∀ (m a pp : Nat), 8 - a = m → a ≤ 8 → pp ≤ 3 * a → T l M_X_fishFault (d + 10) 10 [some (.ref 0), some (.int (nI pp)), some (.int (nI a))] [] σ (fun r υ => r = some (.int (gI (fiF x (8 - a) pp))) ∧ υ = σ) := by
  intro m
  induction m using Nat.strongRecOn with
  | ind m ih =>
    intro a pp hm ha hq
    have hx1 := hX.1
    have hal := fun j => atx_lt (j := j) hX
    have hdl := fun j => (dg_le (x := x) (j := j)).1
    have ha0 := hal pp
    have ha2 := hal (pp + 2)
    have hd1 := hdl (pp + 1)
    have hkl := kd_le x pp
    refine tt_iload_n d_X_fishFault_10 rfl ?_
    refine tt_bipush (v := nI 8) d_X_fishFault_11 (by decide) ?_
    refine tn_ic_ge (t := 97) (by omega) (by omega) d_X_fishFault_13 (by decide) (fun c_13 => ?_) (fun c_13 => ?_)
    · obtain rfl : a = 8 := by omega
      refine tt_iload_n d_X_fishFault_97 rfl ?_
      refine tt_iret rfl d_X_fishFault_98 ?_
      exact ⟨rfl, rfl⟩
    · rw [show 8 - a = 8 - (a + 1) + 1 by omega]
      refine tt_aload_n d_X_fishFault_16 rfl ?_
      refine tt_getR d_X_fishFault_17 rfl rfl (by decide) rfl rfl ?_
      refine tt_iload_n d_X_fishFault_20 rfl ?_
      refine tt_callV (x_Text_at (d := d) (n := x.1) (j := pp) hx.1 hX.1 (by omega)) cw_Text_at rfl rfl (by decide) rfl (by omega) d_X_fishFault_21 rfl rfl (Nat.le_of_ble_eq_true rfl) (Nat.le_of_ble_eq_true rfl) rfl rfl rfl (fun v σ2 q => ?_)
      obtain ⟨rfl, e9⟩ := q
      rw [e9, X_at_N hx]
      clear e9
      refine tt_callS (x_kindOf (d := d) ha0) cw_X_kindOf rfl (by omega) d_X_fishFault_24 rfl rfl (Nat.le_of_ble_eq_true rfl) (Nat.le_of_ble_eq_true rfl) rfl rfl rfl (fun v σ2 q => ?_)
      obtain ⟨rfl, e9⟩ := q
      rw [e9]
      clear e9
      rw [show knN (atN x pp) = kdN x pp from rfl]
      refine tt_iconst (v := (-1)) d_X_fishFault_27 (by decide) ?_
      refine tt_ic_ne (t := 33) d_X_fishFault_28 (by decide) (fun c_28 => ?_) (fun c_28 => ?_)
      · have hk0 : ¬ kdN x pp = 0 := fun z => c_28 ((gI_1 (by omega)).mpr z)
        refine tt_aload_n d_X_fishFault_33 rfl ?_
        refine tt_getR d_X_fishFault_34 rfl rfl (by decide) rfl rfl ?_
        refine tt_iload_n d_X_fishFault_37 rfl ?_
        refine tt_iconst (v := nI 1) d_X_fishFault_38 (by decide) ?_
        refine tn_iadd d_X_fishFault_39 ?_
        refine tt_callV (x_Text_digit (d := d) (n := x.1) (j := pp + 1) hx.1 hX.1 (by omega)) cw_Text_digit rfl rfl (by decide) rfl (by omega) d_X_fishFault_40 rfl rfl (Nat.le_of_ble_eq_true rfl) (Nat.le_of_ble_eq_true rfl) rfl rfl rfl (fun v σ2 q => ?_)
        obtain ⟨rfl, e9⟩ := q
        rw [e9, X_dig_N hx hX]
        clear e9
        refine tt_iconst (v := nI 1) d_X_fishFault_43 (by decide) ?_
        refine tt_ic_ge (t := 51) d_X_fishFault_44 (by decide) (fun c_44 => ?_) (fun c_44 => ?_)
        · have hd2 : ¬ dgN x (pp + 1) < 2 := by have := (gI_leN (a := 2) (b := dgN x (pp + 1)) (by omega) (by omega)).mp c_44; omega
          refine tt_iinc (lv2 := [_, _, _]) d_X_fishFault_51 rfl (nI_inc _ 2) (by decide) rfl ?_
          refine tt_iload_n d_X_fishFault_54 rfl ?_
          refine tt_aload_n d_X_fishFault_55 rfl ?_
          refine tt_getR d_X_fishFault_56 rfl rfl (by decide) rfl rfl ?_
          refine tt_callV (x_Text_length (d := d)) cw_Text_length rfl rfl (by decide) rfl (by omega) d_X_fishFault_59 rfl rfl (Nat.le_of_ble_eq_true rfl) (Nat.le_of_ble_eq_true rfl) rfl rfl rfl (fun v σ2 q => ?_)
          obtain ⟨rfl, e9⟩ := q
          rw [e9, hx.1]
          clear e9
          refine tn_ic_ne (t := 67) (by omega) (by omega) d_X_fishFault_62 (by decide) (fun c_62 => ?_) (fun c_62 => ?_)
          · refine tt_iload_n d_X_fishFault_67 rfl ?_
            refine tt_bipush (v := nI 23) d_X_fishFault_68 (by decide) ?_
            refine tn_ic_ge (t := 86) (by omega) (by omega) d_X_fishFault_70 (by decide) (fun c_70 => ?_) (fun c_70 => ?_)
            · rw [fi_4 hk0 hd2 c_62 (Or.inl c_70)]
              refine tt_iload_n d_X_fishFault_86 rfl ?_
              refine tt_iret rfl d_X_fishFault_87 ?_
              exact ⟨rfl, rfl⟩
            · refine tt_aload_n d_X_fishFault_73 rfl ?_
              refine tt_getR d_X_fishFault_74 rfl rfl (by decide) rfl rfl ?_
              refine tt_iload_n d_X_fishFault_77 rfl ?_
              refine tt_callV (x_Text_at (d := d) (n := x.1) (j := pp + 2) hx.1 hX.1 (by omega)) cw_Text_at rfl rfl (by decide) rfl (by omega) d_X_fishFault_78 rfl rfl (Nat.le_of_ble_eq_true rfl) (Nat.le_of_ble_eq_true rfl) rfl rfl rfl (fun v σ2 q => ?_)
              obtain ⟨rfl, e9⟩ := q
              rw [e9, X_at_N hx]
              clear e9
              refine tt_bipush (v := nI 59) d_X_fishFault_81 (by decide) ?_
              refine tt_ic_eq (t := 88) d_X_fishFault_83 (by decide) (fun c_83 => ?_) (fun c_83 => ?_)
              · have ha60 : atN x (pp + 2) = 60 := (gI_eqN (by omega) (by omega)).mp c_83
                rw [fi_5 hk0 hd2 c_62 (by omega)]
                refine tt_iinc (lv2 := [_, _, _]) d_X_fishFault_88 rfl (nI_inc _ 1) (by decide) rfl ?_
                refine tt_iinc (lv2 := [_, _, _]) d_X_fishFault_91 rfl (nI_inc _ 1) (by decide) rfl ?_
                refine tt_goto (t := 10) d_X_fishFault_94 (by decide) ?_
                exact ih (8 - (a + 1)) (by omega) (a + 1) (pp + 2 + 1) rfl (by omega) (by omega)
              · have ha60 : ¬ atN x (pp + 2) = 60 := fun z => c_83 ((gI_eqN (by omega) (by omega)).mpr z)
                rw [fi_4 hk0 hd2 c_62 (Or.inr ha60)]
                refine tt_iload_n d_X_fishFault_86 rfl ?_
                refine tt_iret rfl d_X_fishFault_87 ?_
                exact ⟨rfl, rfl⟩
          · rw [fi_3 hk0 hd2 (by omega)]
            refine tt_iconst (v := (-1)) d_X_fishFault_65 (by decide) ?_
            refine tt_iret rfl d_X_fishFault_66 ?_
            exact ⟨rfl, rfl⟩
        · have hd2 : dgN x (pp + 1) < 2 := Decidable.byContradiction (fun z => c_44 ((gI_leN (a := 2) (b := dgN x (pp + 1)) (by omega) (by omega)).mpr (by omega)))
          rw [fi_2 hk0 hd2]
          refine tt_iload_n d_X_fishFault_47 rfl ?_
          refine tt_iconst (v := nI 1) d_X_fishFault_48 (by decide) ?_
          refine tn_iadd d_X_fishFault_49 ?_
          refine tt_iret rfl d_X_fishFault_50 ?_
          exact ⟨rfl, rfl⟩
      · have hk0 : kdN x pp = 0 := (gI_1 (by omega)).mp (Decidable.not_not.mp c_28)
        rw [fi_1 hk0]
        refine tt_iload_n d_X_fishFault_31 rfl ?_
        refine tt_iret rfl d_X_fishFault_32 ?_
        exact ⟨rfl, rfl⟩

theorem x_fishF {l : xLa} {d : Nat} {σ τ : xs} {w : wv} (h : XQ w σ τ) (ho : okQ w) (hX : okX (wX w)) : TE l M_X_fishFault (d + 10) [.ref 0] τ (some (.int (gI (fiA w)))) τ := by
  have hb8 := ho.n8
  show T l M_X_fishFault (d + 10) 0 _ [] τ _
  refine T_lv (lv2 := [_, _, _]) rfl ?_
  refine tt_iconst (v := nI 0) d_X_fishFault_0 (by decide) ?_
  refine tt_istore_n (lv2 := [_, _, _]) d_X_fishFault_1 (by decide) rfl ?_
  refine tt_aload_n d_X_fishFault_2 rfl ?_
  refine tt_getR d_X_fishFault_3 rfl rfl (by decide) rfl rfl ?_
  refine tn_get d_X_fishFault_6 rfl rfl (by decide) rfl h.n ?_
  refine tt_istore_n (lv2 := [_, _, _]) d_X_fishFault_9 (by decide) rfl ?_
  exact x_fishF_l h.1.2.2.1 hX (8 - eN (wE w)) (eN (wE w)) 0 rfl hb8 (by omega)

theorem or_shl (a : Nat) {j : Nat} (hj : j < 8) : nI a ||| (nI 1 <<< (nI j &&& 31)) = nI (a ||| 2 ^ j) := by
  rw [show nI 1 <<< (nI j &&& 31) = nI (2 ^ j) from shl_9 _ (by omega), or_N]
section
variable {σ : xs} {w : wv}
theorem ST_welc {v : sv} {j : Nat} (h : ST σ 20 v) (hj : j < 8) : ST (X_welc σ 20 j) 20 (wlV v j) := by
  have h1 := ST_w4 (j := j) (x := 0) (ST_w3 (j := j) (x := 0) (ST_w2 (j := j) (x := 5) (ST_w1 (j := j) (x := 0) h)))
  have e : sf (wI (wI (wI (wI σ (20 + 1) j (nI 0)) (20 + 2) j (nI 5)) (20 + 3) j (-1)) (20 + 4) j (nI 0)) 20 5 = nI (v 0 5) := h.1 5 (by decide)
  unfold X_welc
  dsimp only
  rw [e, or_shl _ hj]
  exact ST_wF h1
/-- one fish more -/
theorem XW.fish {j : Nat} (h : XW σ (fiJ w j)) (hj : eN (wE w) + j < 8) (hk : ¬ kdN (wX w) (3 * j) = 0) (hd : 2 ≤ dgN (wX w) (3 * j + 1)) : XW (X_sadd (X_welc σ 20 (eN (wE w) + j)) (eN (wE w) + j) (gI (kdN (wX w) (3 * j))) (gI (dgN (wX w) (3 * j + 1)))) (fiJ w (j + 1)) ∧ XF σ (X_sadd (X_welc σ 20 (eN (wE w) + j)) (eN (wE w) + j) (gI (kdN (wX w) (3 * j))) (gI (dgN (wX w) (3 * j + 1)))) := by
  have hf : Fq (fun c => c = 10 ∨ c = 11 ∨ (21 ≤ c ∧ c ≤ 24)) (fun c k => c = 20 ∨ (c = 9 ∧ k = 2)) (fun _ => False) σ (X_sadd (X_welc σ 20 (eN (wE w) + j)) (eN (wE w) + j) (gI (kdN (wX w) (3 * j))) (gI (dgN (wX w) (3 * j + 1)))) := by
    unfold X_sadd X_welc
    dsimp only
    exact Fq.tr (Fq.tr (Fq.tr (Fq.tr (Fq.tr (Fq.tr (Fq.tr (Fq.wI (by omega)) (Fq.wI (by omega))) (Fq.wI (by omega))) (Fq.wI (by omega))) (Fq.wF (by omega))) (Fq.wI (by omega))) (Fq.wI (by omega))) (Fq.wF (by omega))
  have hkl := kd_le (wX w) (3 * j)
  have hdl := (dg_le (x := wX w) (j := 3 * j + 1)).1
  have hR := h.v.R
  obtain ⟨⟨⟨⟨a1, a2, a3, a4⟩, a5, a6, a7, a8⟩, b1, b2, b3, b4⟩, v, x, d, u, k, s⟩ := h
  have hv := ST_welc v hj
  refine ⟨⟨⟨⟨⟨a1, a2, rfl, a4⟩, fun i hi => ?_, a6, a7, a8.fq hf (by omega) (by omega)⟩, b1, b2, b3, b4.fq hf (by omega) (by omega)⟩, hv, x, d, u.fq hf (fun c h1 h2 => by omega) (fun c k h1 h2 => by omega), k.fq hf (fun c h1 h2 => by omega) (fun c k h1 h2 => by omega) (by omega), s⟩, hf.XF (fun c hc => by omega) (fun c k hc => by omega) (fun c hc => id)⟩
  have q5 := a5 i hi
  show (if 10 = 11 ∧ i = eN (wE w) + j then gI (dgN (wX w) (3 * j + 1)) else if 10 = 10 ∧ i = eN (wE w) + j then gI (kdN (wX w) (3 * j)) else si (X_welc σ 20 (eN (wE w) + j)) 10 i) = nI (if eN (wE w) ≤ i ∧ i < eN (wE w) + (j + 1) then kdN (wX w) (3 * (i - eN (wE w))) - 1 else eK (wE w) i) ∧ (if 11 = 11 ∧ i = eN (wE w) + j then gI (dgN (wX w) (3 * j + 1)) else if 11 = 10 ∧ i = eN (wE w) + j then gI (kdN (wX w) (3 * j)) else si (X_welc σ 20 (eN (wE w) + j)) 11 i) = nI (if eN (wE w) ≤ i ∧ i < eN (wE w) + (j + 1) then dgN (wX w) (3 * (i - eN (wE w)) + 1) - 1 else eS (wE w) i)
  replace q5 : si (X_welc σ 20 (eN (wE w) + j)) 10 i = nI (if eN (wE w) ≤ i ∧ i < eN (wE w) + j then kdN (wX w) (3 * (i - eN (wE w))) - 1 else eK (wE w) i) ∧ si (X_welc σ 20 (eN (wE w) + j)) 11 i = nI (if eN (wE w) ≤ i ∧ i < eN (wE w) + j then dgN (wX w) (3 * (i - eN (wE w)) + 1) - 1 else eS (wE w) i) := q5
  have n1 : ¬ (10 = 11 ∧ i = eN (wE w) + j) := by omega
  have n2 : ¬ (11 = 10 ∧ i = eN (wE w) + j) := by omega
  by_cases c : i = eN (wE w) + j
  · have p1 : eN (wE w) ≤ i ∧ i < eN (wE w) + (j + 1) := by omega
    have e0 : i - eN (wE w) = j := by omega
    rw [if_neg n1, if_pos (⟨rfl, c⟩ : 10 = 10 ∧ i = eN (wE w) + j), if_pos (⟨rfl, c⟩ : 11 = 11 ∧ i = eN (wE w) + j), if_pos p1, if_pos p1, e0]
    exact ⟨(gI_c (by omega)).2 hk, (gI_c (by omega)).2 (by omega)⟩
  · rw [if_neg n1, if_neg n2, if_neg (fun q => c q.2 : ¬ (10 = 10 ∧ i = eN (wE w) + j)), if_neg (fun q => c q.2 : ¬ (11 = 11 ∧ i = eN (wE w) + j)), q5.1, q5.2]
    by_cases z : eN (wE w) ≤ i ∧ i < eN (wE w) + j
    · have p1 : eN (wE w) ≤ i ∧ i < eN (wE w) + (j + 1) := by omega
      rw [if_pos z, if_pos z, if_pos p1, if_pos p1]; exact ⟨rfl, rfl⟩
    · have p1 : ¬ (eN (wE w) ≤ i ∧ i < eN (wE w) + (j + 1)) := by omega
      rw [if_neg z, if_neg z, if_neg p1, if_neg p1]; exact ⟨rfl, rfl⟩
theorem fiJ_0 (h : XW σ w) : XW σ (fiJ w 0) := by
  obtain ⟨⟨⟨⟨a1, a2, a3, a4⟩, a5, a6, a7, a8⟩, b1, b2, b3, b4⟩, v, x, d, u, k, s⟩ := h
  refine ⟨⟨⟨⟨a1, a2, a3, a4⟩, fun i hi => ?_, a6, a7, a8⟩, b1, b2, b3, b4⟩, v, x, d, u, k, s⟩
  show _ = nI (if eN (wE w) ≤ i ∧ i < eN (wE w) + 0 then _ else eK (wE w) i) ∧ _ = nI (if eN (wE w) ≤ i ∧ i < eN (wE w) + 0 then _ else eS (wE w) i)
  rw [if_neg (by omega), if_neg (by omega)]
  exact a5 i hi
/-- all fish have come -/
theorem XW.fishE (h : XW σ (fiJ w (fiL (wX w)))) : XW (wF (wF (wF σ 35 2 (nI 0)) 0 14 (nI 0)) 1 1 (nI 0)) (fiW w) ∧ XF σ (wF (wF (wF σ 35 2 (nI 0)) 0 14 (nI 0)) 1 1 (nI 0)) := by
  have hf : Fq (fun _ => False) (fun c k => (c = 35 ∧ k = 2) ∨ (c = 0 ∧ k = 14) ∨ (c = 1 ∧ k = 1)) (fun _ => False) σ (wF (wF (wF σ 35 2 (nI 0)) 0 14 (nI 0)) 1 1 (nI 0)) := Fq.tr (Fq.tr (Fq.wF (by omega)) (Fq.wF (by omega))) (Fq.wF (by omega))
  obtain ⟨a, v, x, d, u, k, s⟩ := h
  refine ⟨⟨a.fr hf (fun c hc => id) (fun c k hc => by omega), v.fq hf (fun k hk => id) (fun k hk => by omega), ⟨rfl, fun i hi => absurd hi (Nat.not_lt_zero i)⟩, d.fq hf id (by omega), ?_, ⟨0, by omega, rfl, fun i hi => ⟨Nat.zero_testBit i, fun v hv => (by cases hv)⟩⟩, s.fq hf (fun c h1 h2 => id) (by omega)⟩, hf.XF (fun c hc => id) (fun c k hc => by omega) (fun c hc => id)⟩
  obtain ⟨k, hk, e1, e2, e3⟩ := u
  exact ⟨k, hk, e1, rfl, fun j hj => absurd hj (Nat.not_lt_zero j)⟩
end
set_option maxHeartbeats 4000000 in
theorem x_addFish_l {l : xLa} {d : Nat} {σ : xs} {w : wv} (ho : okQ w) (hX : okX (wX w)) (hA : fiA w = 0) : ∀ (m j : Nat) (τ : xs), fiL (wX w) - j = m → j ≤ fiL (wX w) → XW τ (fiJ w j) → XF σ τ → T l M_X_addFish (d + 10) 4 [some (.ref 0), some (.int (nI j)), some (.int (nI (3 * j)))] [] τ (fun r υ => r = some (.int (nI (fiL (wX w)))) ∧ XW υ (fiJ w (fiL (wX w))) ∧ XF σ υ) := by
  have hb8 := ho.n8
  obtain ⟨k1, k2, k3, k4⟩ := fiL_c hb8 hA
  have hx1 := hX.1
  intro m
  induction m using Nat.strongRecOn with
  | ind m ih =>
    intro j τ hm hj hw hF
    have hx : XT τ (wX w) := hw.2.2.1
    have hsz : sf τ 9 2 = nI (eN (wE w) + j) := hw.1.1.1.2.2.1
    refine tt_iload_n d_X_addFish_4 rfl ?_
    refine tt_aload_n d_X_addFish_5 rfl ?_
    refine tt_getR d_X_addFish_6 rfl rfl (by decide) rfl rfl ?_
    refine tt_callV (x_Text_length (d := d)) cw_Text_length rfl rfl (by decide) rfl (by omega) d_X_addFish_9 rfl rfl (Nat.le_of_ble_eq_true rfl) (Nat.le_of_ble_eq_true rfl) rfl rfl rfl (fun v σ2 q => ?_)
    obtain ⟨rfl, e9⟩ := q
    rw [e9, hx.1]
    clear e9
    refine tn_ic_ge (t := 78) (by omega) (by omega) d_X_addFish_12 (by decide) (fun c_12 => ?_) (fun c_12 => ?_)
    · obtain rfl : j = fiL (wX w) := by omega
      refine tt_iload_n d_X_addFish_78 rfl ?_
      refine tt_iret rfl d_X_addFish_79 ?_
      exact ⟨rfl, hw, hF⟩
    · obtain ⟨q1, q2⟩ := k4 j (by omega)
      have hal := atx_lt (j := 3 * j) hX
      refine tt_aload_n d_X_addFish_15 rfl ?_
      refine tt_getR d_X_addFish_16 rfl rfl (by decide) rfl rfl ?_
      refine tn_get d_X_addFish_19 rfl rfl (by decide) rfl hsz ?_
      refine tt_bipush (v := nI 8) d_X_addFish_22 (by decide) ?_
      refine tn_ic_ge (t := 78) (by omega) (by omega) d_X_addFish_24 (by decide) (fun c_24 => ?_) (fun c_24 => ?_)
      · omega
      · refine tt_aload_n d_X_addFish_27 rfl ?_
        refine tt_getR d_X_addFish_28 rfl rfl (by decide) rfl rfl ?_
        refine tt_aload_n d_X_addFish_31 rfl ?_
        refine tt_getR d_X_addFish_32 rfl rfl (by decide) rfl rfl ?_
        refine tn_get d_X_addFish_35 rfl rfl (by decide) rfl hsz ?_
        refine tt_callV (x_State_welcome (d := d) isS_20 (show eN (wE w) + j < 8 by omega)) cw_State_welcome rfl rfl (by decide) rfl (by omega) d_X_addFish_38 rfl rfl (Nat.le_of_ble_eq_true rfl) (Nat.le_of_ble_eq_true rfl) rfl rfl rfl (fun v σ2 q => ?_)
        obtain ⟨rfl, e9⟩ := q
        rw [e9]
        clear e9
        refine tt_aload_n d_X_addFish_41 rfl ?_
        refine tt_getR d_X_addFish_42 rfl rfl (by decide) rfl rfl ?_
        refine tt_aload_n d_X_addFish_45 rfl ?_
        refine tt_getR d_X_addFish_46 rfl rfl (by decide) rfl rfl ?_
        refine tt_iload_n d_X_addFish_49 rfl ?_
        refine tt_callV (x_Text_at (d := d) (n := (wX w).1) (j := 3 * j) hx.1 hX.1 (by omega)) cw_Text_at rfl rfl (by decide) rfl (by omega) d_X_addFish_50 rfl rfl (Nat.le_of_ble_eq_true rfl) (Nat.le_of_ble_eq_true rfl) rfl rfl rfl (fun v σ2 q => ?_)
        obtain ⟨rfl, e9⟩ := q
        rw [e9, show X_at (X_welc τ 20 (eN (wE w) + j)) (wX w).1 (3 * j) = gI (atN (wX w) (3 * j)) from X_at_N hx]
        clear e9
        refine tt_callS (x_kindOf (d := d) hal) cw_X_kindOf rfl (by omega) d_X_addFish_53 rfl rfl (Nat.le_of_ble_eq_true rfl) (Nat.le_of_ble_eq_true rfl) rfl rfl rfl (fun v σ2 q => ?_)
        obtain ⟨rfl, e9⟩ := q
        rw [e9]
        clear e9
        refine tt_aload_n d_X_addFish_56 rfl ?_
        refine tt_getR d_X_addFish_57 rfl rfl (by decide) rfl rfl ?_
        refine tt_iload_n d_X_addFish_60 rfl ?_
        refine tt_iconst (v := nI 1) d_X_addFish_61 (by decide) ?_
        refine tn_iadd d_X_addFish_62 ?_
        refine tt_callV (x_Text_digit (d := d) (n := (wX w).1) (j := 3 * j + 1) hx.1 hX.1 (by omega)) cw_Text_digit rfl rfl (by decide) rfl (by omega) d_X_addFish_63 rfl rfl (Nat.le_of_ble_eq_true rfl) (Nat.le_of_ble_eq_true rfl) rfl rfl rfl (fun v σ2 q => ?_)
        obtain ⟨rfl, e9⟩ := q
        rw [e9, show X_dig (X_welc τ 20 (eN (wE w) + j)) (wX w).1 (3 * j + 1) = gI (dgN (wX w) (3 * j + 1)) from X_dig_N hx hX]
        clear e9
        refine tt_callV (x_School_add (d := d) (n := eN (wE w) + j) hsz (by omega)) cw_School_add rfl rfl (by decide) rfl (by omega) d_X_addFish_66 rfl rfl (Nat.le_of_ble_eq_true rfl) (Nat.le_of_ble_eq_true rfl) rfl rfl rfl (fun v σ2 q => ?_)
        obtain ⟨rfl, e9⟩ := q
        rw [e9]
        clear e9
        have hz := hw.fish (by omega) q1 q2
        refine tt_iinc (lv2 := [_, _, _]) d_X_addFish_69 rfl (nI_inc _ 1) (by decide) rfl ?_
        refine tt_iinc (lv2 := [_, _, _]) d_X_addFish_72 rfl (nI_inc _ 3) (by decide) rfl ?_
        refine tt_goto (t := 4) d_X_addFish_75 (by decide) ?_
        rw [show 3 * j + 3 = 3 * (j + 1) by omega]
        exact ih (fiL (wX w) - (j + 1)) (by omega) (j + 1) _ rfl (by omega) hz.1 (hF.tr hz.2)

theorem x_addFish {l : xLa} {d : Nat} {σ : xs} {w : wv} (ho : okQ w) (hX : okX (wX w)) (hA : fiA w = 0) (hw : XW σ w) : TC l M_X_addFish (d + 10) [.ref 0] σ (fun r υ => r = some (.int (nI (fiL (wX w)))) ∧ XW υ (fiJ w (fiL (wX w))) ∧ XF σ υ) := by
  show T l M_X_addFish (d + 10) 0 _ [] σ _
  refine T_lv (lv2 := [_, _, _]) rfl ?_
  refine tt_iconst (v := nI 0) d_X_addFish_0 (by decide) ?_
  refine tt_istore_n (lv2 := [_, _, _]) d_X_addFish_1 (by decide) rfl ?_
  refine tt_iconst (v := nI 0) d_X_addFish_2 (by decide) ?_
  refine tt_istore_n (lv2 := [_, _, _]) d_X_addFish_3 (by decide) rfl ?_
  exact x_addFish_l ho hX hA _ 0 _ rfl (Nat.zero_le _) (fiJ_0 hw) XF.rf

set_option maxHeartbeats 4000000 in
theorem xc_fish {l : xLa} {d : Nat} {σ : xs} {w : wv} (ho : okQ w) (hw : XW σ w)  (hX : okX (wX w)) : TC l M_X_fish (d + 30) [.ref 0] σ (fun r τ => r = some (.int (a_fish w).1) ∧ XW τ (a_fish w).2 ∧ XF σ τ) := by
  show T l M_X_fish (d + 30) 0 _ [] σ _
  refine T_lv (lv2 := [_, _, _]) rfl ?_
  have h := XQ.rf hw.v
  have hd0 := hw.2.2.2.1
  have hb0 := ho.fb
  have hb8 := ho.n8
  have hx := hw.2.2.1
  have hx1 := hX.1
  have hfl := fi_le (x := wX w) (8 - eN (wE w)) 0
  have hg := gI_1 (g := fiA w) (by unfold fiA; omega)
  unfold a_fish
  by_cases c0 : (wX w).1 = 0
  · rw [if_pos c0]
    refine tt_aload_n d_X_fish_0 rfl ?_
    refine tt_getR d_X_fish_1 rfl rfl (by decide) rfl rfl ?_
    refine tt_callV (x_Text_length (d := d)) cw_Text_length rfl rfl (by decide) rfl (by omega) d_X_fish_4 rfl rfl (Nat.le_of_ble_eq_true rfl) (Nat.le_of_ble_eq_true rfl) rfl rfl rfl (fun v σ2 q => ?_)
    obtain ⟨rfl, e9⟩ := q
    rw [e9, hx.1]
    clear e9
    refine tn_if_ne (t := 12) (by omega) d_X_fish_7 (by decide) (fun c_7 => ?_) (fun c_7 => ?_)
    · omega
    · refine tt_iconst (v := nI 0) d_X_fish_10 (by decide) ?_
      refine tt_iret rfl d_X_fish_11 ?_
      refine ⟨rfl, ?_, XF.rf⟩
      obtain ⟨a, v, x, d, u, k, s⟩ := hw
      exact ⟨a, v, ⟨by rw [x.1, c0]; rfl, fun i hi => absurd hi (Nat.not_lt_zero i)⟩, d, u, k, s⟩
  · rw [if_neg c0]
    by_cases cf : fiA w = 0
    · rw [if_pos cf]
      refine tt_aload_n d_X_fish_0 rfl ?_
      refine tt_getR d_X_fish_1 rfl rfl (by decide) rfl rfl ?_
      refine tt_callV (x_Text_length (d := d)) cw_Text_length rfl rfl (by decide) rfl (by omega) d_X_fish_4 rfl rfl (Nat.le_of_ble_eq_true rfl) (Nat.le_of_ble_eq_true rfl) rfl rfl rfl (fun v σ2 q => ?_)
      obtain ⟨rfl, e9⟩ := q
      rw [e9, hx.1]
      clear e9
      refine tn_if_ne (t := 12) (by omega) d_X_fish_7 (by decide) (fun c_7 => ?_) (fun c_7 => ?_)
      · refine tt_aload_n d_X_fish_12 rfl ?_
        refine tt_callV (x_fishF (d := d) h ho hX) cw_X_fishFault rfl rfl (by decide) rfl (by omega) d_X_fish_13 rfl rfl (Nat.le_of_ble_eq_true rfl) (Nat.le_of_ble_eq_true rfl) rfl rfl rfl (fun v σ2 q => ?_)
        obtain ⟨rfl, e9⟩ := q
        rw [e9]
        clear e9
        refine tt_istore_n (lv2 := [_, _, _]) d_X_fish_16 (by decide) rfl ?_
        refine tt_iconst (v := nI 0) d_X_fish_17 (by decide) ?_
        refine tt_istore_n (lv2 := [_, _, _]) d_X_fish_18 (by decide) rfl ?_
        refine tt_iload_n d_X_fish_19 rfl ?_
        refine tt_iconst (v := (-1)) d_X_fish_20 (by decide) ?_
        refine tt_ic_ne (t := 41) d_X_fish_21 (by decide) (fun c_21 => ?_) (fun c_21 => ?_)
        · exact absurd (hg.mpr cf) c_21
        · refine tt_aload_n d_X_fish_24 rfl ?_
          refine tt_callV (x_addFish (d := d) ho hX cf hw) cw_X_addFish rfl rfl (by decide) rfl (by omega) d_X_fish_25 rfl rfl (Nat.le_of_ble_eq_true rfl) (Nat.le_of_ble_eq_true rfl) rfl rfl rfl (fun v σ2 q => ?_)
          obtain ⟨rfl, hw2, hF⟩ := q
          have hz := hw2.fishE
          refine tt_istore_n (lv2 := [_, _, _]) d_X_fish_28 (by decide) rfl ?_
          refine tt_aload_n d_X_fish_29 rfl ?_
          refine tt_getR d_X_fish_30 rfl rfl (by decide) rfl rfl ?_
          refine tt_callV (x_Past_clear (d := d)) cw_Past_clear rfl rfl (by decide) rfl (by omega) d_X_fish_33 rfl rfl (Nat.le_of_ble_eq_true rfl) (Nat.le_of_ble_eq_true rfl) rfl rfl rfl (fun v σ2 q => ?_)
          obtain ⟨rfl, e9⟩ := q
          rw [e9]
          clear e9
          refine tt_aload_n d_X_fish_36 rfl ?_
          refine tt_iconst (v := nI 0) d_X_fish_37 (by decide) ?_
          refine tt_putI d_X_fish_38 rfl rfl (by decide) rfl (xpok_int rfl) rfl ?_
          refine tt_aload_n d_X_fish_41 rfl ?_
          refine tt_getR d_X_fish_42 rfl rfl (by decide) rfl rfl ?_
          refine tt_callV (x_Text_clear (d := d)) cw_Text_clear rfl rfl (by decide) rfl (by omega) d_X_fish_45 rfl rfl (Nat.le_of_ble_eq_true rfl) (Nat.le_of_ble_eq_true rfl) rfl rfl rfl (fun v σ2 q => ?_)
          obtain ⟨rfl, e9⟩ := q
          rw [e9]
          clear e9
          refine tt_iload_n d_X_fish_48 rfl ?_
          refine tt_iconst (v := (-1)) d_X_fish_49 (by decide) ?_
          refine tt_ic_ne (t := 57) d_X_fish_50 (by decide) (fun c_50 => ?_) (fun c_50 => ?_)
          · exact absurd (hg.mpr cf) c_50
          · refine tt_iload_n d_X_fish_53 rfl ?_
            refine tt_goto (t := 60) d_X_fish_54 (by decide) ?_
            refine tt_iret rfl d_X_fish_60 ?_
            exact ⟨rfl, hz.1, hF.tr hz.2⟩
      · omega
    · rw [if_neg cf]
      refine tt_aload_n d_X_fish_0 rfl ?_
      refine tt_getR d_X_fish_1 rfl rfl (by decide) rfl rfl ?_
      refine tt_callV (x_Text_length (d := d)) cw_Text_length rfl rfl (by decide) rfl (by omega) d_X_fish_4 rfl rfl (Nat.le_of_ble_eq_true rfl) (Nat.le_of_ble_eq_true rfl) rfl rfl rfl (fun v σ2 q => ?_)
      obtain ⟨rfl, e9⟩ := q
      rw [e9, hx.1]
      clear e9
      refine tn_if_ne (t := 12) (by omega) d_X_fish_7 (by decide) (fun c_7 => ?_) (fun c_7 => ?_)
      · refine tt_aload_n d_X_fish_12 rfl ?_
        refine tt_callV (x_fishF (d := d) h ho hX) cw_X_fishFault rfl rfl (by decide) rfl (by omega) d_X_fish_13 rfl rfl (Nat.le_of_ble_eq_true rfl) (Nat.le_of_ble_eq_true rfl) rfl rfl rfl (fun v σ2 q => ?_)
        obtain ⟨rfl, e9⟩ := q
        rw [e9]
        clear e9
        refine tt_istore_n (lv2 := [_, _, _]) d_X_fish_16 (by decide) rfl ?_
        refine tt_iconst (v := nI 0) d_X_fish_17 (by decide) ?_
        refine tt_istore_n (lv2 := [_, _, _]) d_X_fish_18 (by decide) rfl ?_
        refine tt_iload_n d_X_fish_19 rfl ?_
        refine tt_iconst (v := (-1)) d_X_fish_20 (by decide) ?_
        refine tt_ic_ne (t := 41) d_X_fish_21 (by decide) (fun c_21 => ?_) (fun c_21 => ?_)
        · refine tt_aload_n d_X_fish_41 rfl ?_
          refine tt_getR d_X_fish_42 rfl rfl (by decide) rfl rfl ?_
          refine tt_callV (x_Text_clear (d := d)) cw_Text_clear rfl rfl (by decide) rfl (by omega) d_X_fish_45 rfl rfl (Nat.le_of_ble_eq_true rfl) (Nat.le_of_ble_eq_true rfl) rfl rfl rfl (fun v σ2 q => ?_)
          obtain ⟨rfl, e9⟩ := q
          rw [e9]
          clear e9
          refine tt_iload_n d_X_fish_48 rfl ?_
          refine tt_iconst (v := (-1)) d_X_fish_49 (by decide) ?_
          refine tt_ic_ne (t := 57) d_X_fish_50 (by decide) (fun c_50 => ?_) (fun c_50 => ?_)
          · refine tt_iconst (v := (-1)) d_X_fish_57 (by decide) ?_
            refine tt_iload_n d_X_fish_58 rfl ?_
            rw [(gI_c (show fiA w < 2 ^ 31 by unfold fiA; omega)).2 cf]
            refine tt_isub d_X_fish_59 ?_
            refine tt_iret rfl d_X_fish_60 ?_
            exact ⟨rfl, hw.tx⟩
          · exact absurd (hg.mp (Decidable.not_not.mp c_50)) cf
        · exact absurd (hg.mp (Decidable.not_not.mp c_21)) cf
      · omega

