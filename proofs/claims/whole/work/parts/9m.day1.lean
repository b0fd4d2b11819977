/-! day: what an act does. Printed by wip/whole. -/
/-- an act by its sign plus 1 (n t l b p) -/
def acN (c : Nat) : Nat := if c = 111 then 1 else if c = 117 then 2 else if c = 109 then 3 else if c = 99 then 4 else if c = 113 then 5 else 0
def akN (x : Nat × (Nat → Nat)) (q : Nat) : Nat := acN (atN x q)
theorem ac_le (c : Nat) : acN c ≤ 5 := by unfold acN; split <;> (try omega); split <;> (try omega); split <;> (try omega); split <;> (try omega); split <;> omega
/-- signs of an act -/
def alN (k : Nat) : Nat := if k = 5 then 5 else 2
/-- the digits of an act stand -/
def acG (x : Nat × (Nat → Nat)) (q : Nat) : Prop := ¬ akN x q = 0 ∧ (if akN x q = 4 then 2 else 1) ≤ dgN x (q + 1) ∧ (akN x q = 5 → 1 ≤ dgN x (q + 2) ∧ 1 ≤ dgN x (q + 3) ∧ 1 ≤ dgN x (q + 4))
def acP (w : wv) (x : Nat × (Nat → Nat)) (q : Nat) : Int32 × sv := if dgN x (q + 2) ≤ eR (wE w) ∧ dgN x (q + 3) ≤ eC (wE w) then c_prom w (nI (dgN x (q + 1) - 1)) (nI ((dgN x (q + 2) - 1) * eC (wE w) + (dgN x (q + 3) - 1))) (nI (dgN x (q + 4) - 1)) else (-1, wV w)
/-- what the act at place q of a text answers, and the state that it leaves -/
def acC (w : wv) (x : Nat × (Nat → Nat)) (q : Nat) : Int32 × sv := if akN x q = 1 then (nI (hvV w (dgN x (q + 1) - 1) 0 0), hvV w (dgN x (q + 1) - 1)) else if akN x q = 2 then c_takes w (nI (dgN x (q + 1) - 1)) else if akN x q = 3 then c_lets w (nI (dgN x (q + 1) - 1)) else if akN x q = 4 then c_buys w (nI (dgN x (q + 1) - 1)) else acP w x q
section
variable {w : wv} {x : Nat × (Nat → Nat)} {q : Nat}
theorem acC_1 (h : akN x q = 1) : acC w x q = (nI (hvV w (dgN x (q + 1) - 1) 0 0), hvV w (dgN x (q + 1) - 1)) := if_pos h
theorem acC_2 (h : akN x q = 2) : acC w x q = c_takes w (nI (dgN x (q + 1) - 1)) := (if_neg (by omega)).trans (if_pos h)
theorem acC_3 (h : akN x q = 3) : acC w x q = c_lets w (nI (dgN x (q + 1) - 1)) := (if_neg (by omega)).trans ((if_neg (by omega)).trans (if_pos h))
theorem acC_4 (h : akN x q = 4) : acC w x q = c_buys w (nI (dgN x (q + 1) - 1)) := (if_neg (by omega)).trans ((if_neg (by omega)).trans ((if_neg (by omega)).trans (if_pos h)))
theorem acC_5 (h : akN x q = 5) : acC w x q = acP w x q := (if_neg (by omega)).trans ((if_neg (by omega)).trans ((if_neg (by omega)).trans (if_neg (by omega))))
theorem prom_no {i n : Int32} : c_prom w i (-1) n = (-1, wV w) := by
  unfold c_prom
  have e : inN (-1) (eR (wE w) * eC (wE w)) = none := by unfold inN; rw [if_neg (by rw [show (-1 : Int32).toInt = -1 from rfl]; omega)]
  rw [e]
  generalize inN i (eN (wE w)) = a
  generalize rgN n 0 9 = b
  cases a <;> cases b <;> rfl
theorem X_fa_no {R C : Nat} {a b : Nat} (ha : a < 100) (hb : b < 100) (hR : R ≤ 6) (hC : C ≤ 6) (h : ¬ (a < R ∧ b < C)) : X_fa R C (nI a) (nI b) = -1 := by
  unfold X_fa
  rw [if_neg (fun z => h ⟨(nI_ltI (by omega) (by omega)).mp z.2.1, (nI_ltI (by omega) (by omega)).mp z.2.2.2⟩)]
/-- the field that the class makes of row and column -/
theorem acP_X (ho : okQ w) (h2 : 1 ≤ dgN x (q + 2)) (h3 : 1 ≤ dgN x (q + 3)) : acP w x q = c_prom w (nI (dgN x (q + 1) - 1)) (X_fa (eR (wE w)) (eC (wE w)) (nI (dgN x (q + 2) - 1)) (nI (dgN x (q + 3) - 1))) (nI (dgN x (q + 4) - 1)) := by
  have d2 := (dg_le (x := x) (j := q + 2)).1
  have d3 := (dg_le (x := x) (j := q + 3)).1
  have hR := ho.1.1.2.1
  have hC := ho.1.1.2.2.2.1
  unfold acP
  by_cases c : dgN x (q + 2) ≤ eR (wE w) ∧ dgN x (q + 3) ≤ eC (wE w)
  · rw [if_pos c, X_fa_N (by omega) (by omega) hR hC]
  · rw [if_neg c, X_fa_no (by omega) (by omega) hR hC (by omega), prom_no]
end
theorem ac_gI {c : Nat} (hc : c ≤ 256) : (gI c = 110 ↔ c = 111) ∧ (gI c = 116 ↔ c = 117) ∧ (gI c = 108 ↔ c = 109) ∧ (gI c = 98 ↔ c = 99) ∧ (gI c = 112 ↔ c = 113) := ⟨gI_eqN (k := 110) (by omega) (by omega), gI_eqN (k := 116) (by omega) (by omega), gI_eqN (k := 108) (by omega) (by omega), gI_eqN (k := 98) (by omega) (by omega), gI_eqN (k := 112) (by omega) (by omega)⟩
theorem ak_c {x : Nat × (Nat → Nat)} {q : Nat} : (akN x q = 1 ↔ atN x q = 111) ∧ (akN x q = 2 ↔ atN x q = 117) ∧ (akN x q = 3 ↔ atN x q = 109) ∧ (akN x q = 4 ↔ atN x q = 99) ∧ (akN x q = 5 ↔ atN x q = 113) := by
  unfold akN acN
  by_cases c1 : atN x q = 111
  · rw [if_pos c1]; omega
  · rw [if_neg c1]
    by_cases c2 : atN x q = 117
    · rw [if_pos c2]; omega
    · rw [if_neg c2]
      by_cases c3 : atN x q = 109
      · rw [if_pos c3]; omega
      · rw [if_neg c3]
        by_cases c4 : atN x q = 99
        · rw [if_pos c4]; omega
        · rw [if_neg c4]
          by_cases c5 : atN x q = 113
          · rw [if_pos c5]; omega
          · rw [if_neg c5]; omega
set_option maxHeartbeats 4000000 in
theorem x_doAct {l : xLa} {d : Nat} {σ : xs} {w : wv} {pp : Nat} (ho : okQ w) (hX : okX (wX w)) (hw : XW σ w) (hp : pp < 100) (hG : acG (wX w) pp) : TC l M_X_doAct (d + 25) [.ref 0, .int (nI pp)] σ (fun r τ => r = some (.int (acC w (wX w) pp).1) ∧ XW τ (stV w (acC w (wX w) pp).2) ∧ XF σ τ ∧ K25 σ τ) := by
  have hx : XT σ (wX w) := hw.2.2.1
  have hx1 := hX.1
  have h := XQ.rf hw.v
  have hR6 := ho.1.1.2.1
  have hC6 := ho.1.1.2.2.2.1
  have d1 := (dg_le (x := wX w) (j := pp + 1)).1
  have d2 := (dg_le (x := wX w) (j := pp + 2)).1
  have d3 := (dg_le (x := wX w) (j := pp + 3)).1
  have d4 := (dg_le (x := wX w) (j := pp + 4)).1
  have hal := atx_lt (j := pp) hX
  have g1 : 1 ≤ dgN (wX w) (pp + 1) := by have := hG.2.1; split at this <;> omega
  have hk0 := hG.1
  show T l M_X_doAct (d + 25) 0 _ [] σ _
  refine T_lv (lv2 := [_, _, _]) rfl ?_
  refine tt_aload_n d_X_doAct_0 rfl ?_
  refine tt_getR d_X_doAct_1 rfl rfl (by decide) rfl rfl ?_
  refine tt_iload_n d_X_doAct_4 rfl ?_
  refine tt_iconst (v := nI 1) d_X_doAct_5 (by decide) ?_
  refine tn_iadd d_X_doAct_6 ?_
  refine tt_callV (x_Text_digit (d := d) (n := (wX w).1) (j := pp + 1) hx.1 hX.1 (by omega)) cw_Text_digit rfl rfl (by decide) rfl (by omega) d_X_doAct_7 rfl rfl (Nat.le_of_ble_eq_true rfl) (Nat.le_of_ble_eq_true rfl) rfl rfl rfl (fun v σ2 q => ?_)
  obtain ⟨rfl, e9⟩ := q
  rw [e9, X_dig_N hx hX]
  clear e9
  rw [(gI_c (show dgN (wX w) (pp + 1) < 2 ^ 31 by omega)).2 (by omega)]
  refine tt_istore_n (lv2 := [_, _, _]) d_X_doAct_10 (by decide) rfl ?_
  refine tt_aload_n d_X_doAct_11 rfl ?_
  refine tt_getR d_X_doAct_12 rfl rfl (by decide) rfl rfl ?_
  refine tt_iload_n d_X_doAct_15 rfl ?_
  refine tt_callV (x_Text_at (d := d) (n := (wX w).1) (j := pp) hx.1 hX.1 (by omega)) cw_Text_at rfl rfl (by decide) rfl (by omega) d_X_doAct_16 rfl rfl (Nat.le_of_ble_eq_true rfl) (Nat.le_of_ble_eq_true rfl) rfl rfl rfl (fun v σ2 q => ?_)
  obtain ⟨rfl, e9⟩ := q
  rw [e9, X_at_N hx]
  clear e9
  have hcc := ak_c (x := wX w) (q := pp)
  have hkl := ac_le (atN (wX w) pp)
  rw [show acN (atN (wX w) pp) = akN (wX w) pp from rfl] at hkl
  rcases (show akN (wX w) pp = 1 ∨ akN (wX w) pp = 2 ∨ akN (wX w) pp = 3 ∨ akN (wX w) pp = 4 ∨ akN (wX w) pp = 5 by omega) with hk | hk | hk | hk | hk
  · rw [show atN (wX w) pp = 111 from hcc.1.mp hk, acC_1 hk]
    refine tt_lku (t := 68) d_X_doAct_19 rfl ?_
    refine tt_aload_n d_X_doAct_68 rfl ?_
    refine tt_iload_n d_X_doAct_69 rfl ?_
    refine tt_callV (x_passHours (d := d) ho hw (by omega)) cw_X_passHours rfl rfl (by decide) rfl (by omega) d_X_doAct_70 rfl rfl (Nat.le_of_ble_eq_true rfl) (Nat.le_of_ble_eq_true rfl) rfl rfl rfl (fun v σ2 q => ?_)
    obtain ⟨rfl, k1, k2, k3, k4⟩ := q
    refine tt_iret rfl d_X_doAct_73 ?_
    exact ⟨rfl, k1, k2, k3⟩
  · rw [show atN (wX w) pp = 117 from hcc.2.1.mp hk, acC_2 hk]
    refine tt_lku (t := 121) d_X_doAct_19 rfl ?_
    refine tt_aload_n d_X_doAct_121 rfl ?_
    refine tt_iload_n d_X_doAct_122 rfl ?_
    refine tt_callV (x_drop (d := d) ho hw) cw_X_dropPromise rfl rfl (by decide) rfl (by omega) d_X_doAct_123 rfl rfl (Nat.le_of_ble_eq_true rfl) (Nat.le_of_ble_eq_true rfl) rfl rfl rfl (fun v σ2 q => ?_)
    obtain ⟨rfl, k1, k2, k3⟩ := q
    refine tt_iret rfl d_X_doAct_126 ?_
    exact ⟨rfl, k1, k2, k3⟩
  · rw [show atN (wX w) pp = 109 from hcc.2.2.1.mp hk, acC_3 hk]
    refine tt_lku (t := 127) d_X_doAct_19 rfl ?_
    refine tt_aload_n d_X_doAct_127 rfl ?_
    refine tt_aload_n d_X_doAct_128 rfl ?_
    refine tt_getR d_X_doAct_129 rfl rfl (by decide) rfl rfl ?_
    refine tt_iload_n d_X_doAct_132 rfl ?_
    refine tt_callV (x_turnHold (d := d) ho hw) cw_X_turnHold rfl rfl (by decide) rfl (by omega) d_X_doAct_133 rfl rfl (Nat.le_of_ble_eq_true rfl) (Nat.le_of_ble_eq_true rfl) rfl rfl rfl (fun v σ2 q => ?_)
    obtain ⟨rfl, k1, k2, k3⟩ := q
    refine tt_iret rfl d_X_doAct_136 ?_
    exact ⟨rfl, k1, k2, k3⟩
  · rw [show atN (wX w) pp = 99 from hcc.2.2.2.1.mp hk, acC_4 hk]
    refine tt_lku (t := 137) d_X_doAct_19 rfl ?_
    refine tt_aload_n d_X_doAct_137 rfl ?_
    refine tt_iload_n d_X_doAct_138 rfl ?_
    refine tt_callV (x_addCrumbs (d := d) ho hw) cw_X_addCrumbs rfl rfl (by decide) rfl (by omega) d_X_doAct_139 rfl rfl (Nat.le_of_ble_eq_true rfl) (Nat.le_of_ble_eq_true rfl) rfl rfl rfl (fun v σ2 q => ?_)
    obtain ⟨rfl, k1, k2, k3⟩ := q
    refine tt_iret rfl d_X_doAct_142 ?_
    exact ⟨rfl, k1, k2, k3⟩
  · rw [show atN (wX w) pp = 113 from hcc.2.2.2.2.mp hk, acC_5 hk]
    refine tt_lku (t := 74) d_X_doAct_19 rfl ?_
    refine tt_aload_n d_X_doAct_74 rfl ?_
    refine tt_aload_n d_X_doAct_75 rfl ?_
    refine tt_getR d_X_doAct_76 rfl rfl (by decide) rfl rfl ?_
    refine tt_iload_n d_X_doAct_79 rfl ?_
    refine tt_aload_n d_X_doAct_80 rfl ?_
    refine tt_getR d_X_doAct_81 rfl rfl (by decide) rfl rfl ?_
    refine tt_aload_n d_X_doAct_84 rfl ?_
    refine tt_getR d_X_doAct_85 rfl rfl (by decide) rfl rfl ?_
    refine tt_iload_n d_X_doAct_88 rfl ?_
    refine tt_iconst (v := nI 2) d_X_doAct_89 (by decide) ?_
    refine tn_iadd d_X_doAct_90 ?_
    refine tt_callV (x_Text_digit (d := d) (n := (wX w).1) (j := pp + 2) hx.1 hX.1 (by omega)) cw_Text_digit rfl rfl (by decide) rfl (by omega) d_X_doAct_91 rfl rfl (Nat.le_of_ble_eq_true rfl) (Nat.le_of_ble_eq_true rfl) rfl rfl rfl (fun v σ2 q => ?_)
    obtain ⟨rfl, e9⟩ := q
    rw [e9, X_dig_N hx hX]
    clear e9
    obtain ⟨g2, g3, g4⟩ := hG.2.2 hk
    rw [(gI_c (show dgN (wX w) (pp + 2) < 2 ^ 31 by omega)).2 (by omega)]
    refine tt_aload_n d_X_doAct_94 rfl ?_
    refine tt_getR d_X_doAct_95 rfl rfl (by decide) rfl rfl ?_
    refine tt_iload_n d_X_doAct_98 rfl ?_
    refine tt_iconst (v := nI 3) d_X_doAct_99 (by decide) ?_
    refine tn_iadd d_X_doAct_100 ?_
    refine tt_callV (x_Text_digit (d := d) (n := (wX w).1) (j := pp + 3) hx.1 hX.1 (by omega)) cw_Text_digit rfl rfl (by decide) rfl (by omega) d_X_doAct_101 rfl rfl (Nat.le_of_ble_eq_true rfl) (Nat.le_of_ble_eq_true rfl) rfl rfl rfl (fun v σ2 q => ?_)
    obtain ⟨rfl, e9⟩ := q
    rw [e9, X_dig_N hx hX]
    clear e9
    rw [(gI_c (show dgN (wX w) (pp + 3) < 2 ^ 31 by omega)).2 (by omega)]
    refine tt_callV (x_Lake_fieldAt (d := d) h.r h.cl hR6 hC6 ho.cp) cw_Lake_fieldAt rfl rfl (by decide) rfl (by omega) d_X_doAct_104 rfl rfl (Nat.le_of_ble_eq_true rfl) (Nat.le_of_ble_eq_true rfl) rfl rfl rfl (fun v σ2 q => ?_)
    obtain ⟨rfl, e9⟩ := q
    rw [e9]
    clear e9
    refine tt_aload_n d_X_doAct_107 rfl ?_
    refine tt_getR d_X_doAct_108 rfl rfl (by decide) rfl rfl ?_
    refine tt_iload_n d_X_doAct_111 rfl ?_
    refine tt_iconst (v := nI 4) d_X_doAct_112 (by decide) ?_
    refine tn_iadd d_X_doAct_113 ?_
    refine tt_callV (x_Text_digit (d := d) (n := (wX w).1) (j := pp + 4) hx.1 hX.1 (by omega)) cw_Text_digit rfl rfl (by decide) rfl (by omega) d_X_doAct_114 rfl rfl (Nat.le_of_ble_eq_true rfl) (Nat.le_of_ble_eq_true rfl) rfl rfl rfl (fun v σ2 q => ?_)
    obtain ⟨rfl, e9⟩ := q
    rw [e9, X_dig_N hx hX]
    clear e9
    rw [(gI_c (show dgN (wX w) (pp + 4) < 2 ^ 31 by omega)).2 (by omega)]
    refine tt_callV (x_makeP (d := d) ho hw) cw_X_makePromise rfl rfl (by decide) rfl (by omega) d_X_doAct_117 rfl rfl (Nat.le_of_ble_eq_true rfl) (Nat.le_of_ble_eq_true rfl) rfl rfl rfl (fun v σ2 q => ?_)
    rw [← acP_X ho g2 g3] at q
    obtain ⟨rfl, k1, k2, k3⟩ := q
    refine tt_iret rfl d_X_doAct_120 ?_
    exact ⟨rfl, k1, k2, k3⟩

/-- digits behind a sign, plus 1; 0: no act -/
def dbN (k : Nat) : Nat := if k = 0 then 0 else if k = 5 then 5 else 2
theorem x_digitsB {l : xLa} {d : Nat} {σ : xs} {c : Nat} (hc : c ≤ 256) : TE l M_X_digitsBehind (d + 1) [.int (gI c)] σ (some (.int (gI (dbN (acN c))))) σ := by
  show T l M_X_digitsBehind (d + 1) 0 _ [] σ _
  refine T_lv (lv2 := [_]) rfl ?_
  refine tt_iload_n d_X_digitsBehind_0 rfl ?_
  have hk := ac_gI hc
  rcases (show c = 111 ∨ c = 117 ∨ c = 109 ∨ c = 99 ∨ c = 113 ∨ (¬ c = 111 ∧ ¬ c = 117 ∧ ¬ c = 109 ∧ ¬ c = 99 ∧ ¬ c = 113) by omega) with rfl | rfl | rfl | rfl | rfl | ⟨q1, q2, q3, q4, q5⟩
  · refine tt_lku (t := 54) d_X_digitsBehind_1 rfl ?_
    refine tt_iconst (v := nI 1) d_X_digitsBehind_54 (by decide) ?_
    refine tt_iret rfl d_X_digitsBehind_55 ?_
    exact ⟨rfl, rfl⟩
  · refine tt_lku (t := 54) d_X_digitsBehind_1 rfl ?_
    refine tt_iconst (v := nI 1) d_X_digitsBehind_54 (by decide) ?_
    refine tt_iret rfl d_X_digitsBehind_55 ?_
    exact ⟨rfl, rfl⟩
  · refine tt_lku (t := 54) d_X_digitsBehind_1 rfl ?_
    refine tt_iconst (v := nI 1) d_X_digitsBehind_54 (by decide) ?_
    refine tt_iret rfl d_X_digitsBehind_55 ?_
    exact ⟨rfl, rfl⟩
  · refine tt_lku (t := 54) d_X_digitsBehind_1 rfl ?_
    refine tt_iconst (v := nI 1) d_X_digitsBehind_54 (by decide) ?_
    refine tt_iret rfl d_X_digitsBehind_55 ?_
    exact ⟨rfl, rfl⟩
  · refine tt_lku (t := 52) d_X_digitsBehind_1 rfl ?_
    refine tt_iconst (v := nI 4) d_X_digitsBehind_52 (by decide) ?_
    refine tt_iret rfl d_X_digitsBehind_53 ?_
    exact ⟨rfl, rfl⟩
  · refine tt_lku (t := 56) d_X_digitsBehind_1 (s_lku_o rfl ((lv_osw (k := 98) (fun z => q4 (hk.2.2.2.1.mp z)) rfl).trans ((lv_osw (k := 108) (fun z => q3 (hk.2.2.1.mp z)) rfl).trans ((lv_osw (k := 110) (fun z => q1 (hk.1.mp z)) rfl).trans ((lv_osw (k := 112) (fun z => q5 (hk.2.2.2.2.mp z)) rfl).trans ((lv_osw (k := 116) (fun z => q2 (hk.2.1.mp z)) rfl).trans rfl))))) rfl) ?_
    refine tt_iconst (v := (-1)) d_X_digitsBehind_56 (by decide) ?_
    refine tt_iret rfl d_X_digitsBehind_57 ?_
    refine ⟨?_, rfl⟩
    unfold acN
    rw [if_neg q1, if_neg q2, if_neg q3, if_neg q4, if_neg q5]
    rfl

