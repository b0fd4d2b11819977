/-! Fog.take, School.strengthen, Text.append, Sights.agreeWith. Printed by wip/whole. -/
theorem cpN_g {σ : xs} {a i : Nat} {f g : Nat → Int32} : wI (wA σ a (cpN f g i)) a i (f i) = wA σ a (cpN f g (i + 1)) := by
  show (σ.1, up2 (si (wA σ a (cpN f g i))) a i (f i), σ.2.2) = _
  have : up2 (si (wA σ a (cpN f g i))) a i (f i) = si (wA σ a (cpN f g (i + 1))) := by
    funext b j
    rw [up2_at, si_wA, si_wA]
    unfold cpN
    by_cases hb : b = a
    · by_cases hj : j = i
      · simp [hb, hj]
      · simp only [hb, hj, and_false, if_false, if_true]
        by_cases h : j < i
        · rw [if_pos h, if_pos (by omega)]
        · rw [if_neg h, if_neg (by omega)]
    · simp [hb]
  rw [this]
  rfl
theorem wA_g {σ : xs} {a : Nat} {f : Nat → Int32} : wA σ a (cpN f (si σ a) 0) = σ := by
  show (σ.1, (fun b => if b = a then cpN f (si σ a) 0 else si σ b), σ.2.2) = σ
  have : (fun b => if b = a then cpN f (si σ a) 0 else si σ b) = si σ := by
    funext b
    by_cases h : b = a
    · rw [if_pos h, h]; funext j; simp [cpN]
    · rw [if_neg h]
  rw [this]
  rfl
theorem X_at_c {σ τ : xs} {n j : Nat} (h : si τ 2 = si σ 2) : X_at τ n j = X_at σ n j := by unfold X_at; rw [h]
theorem X_dig_c {σ τ : xs} {n j : Nat} (h : si τ 2 = si σ 2) : X_dig τ n j = X_dig σ n j := by unfold X_dig; rw [X_at_c h]
/-- FOG read: i digits laid -/
def X_ft (σ : xs) (n i : Nat) : xs := wA (wF σ 12 1 (nI (max 1 (min 20 n)))) 13 (cpN (fun j => X_dig σ n j) (si σ 13) i)
theorem x_Fog_take_l {l : xLa} {d : Nat} {σ : xs} {n : Nat} (hn : sf σ 1 1 = nI n) (hz : n ≤ 80) : ∀ (m : Nat) (i : Nat), 20 - i = m → i ≤ max 1 (min 20 n) → T l M_Fog_take (d + 3) 19 [some (.ref 12), some (.ref 1), some (.int (nI i))] [] (X_ft σ n i) (fun r σ' => r = none ∧ σ' = X_ft σ n (max 1 (min 20 n))) := by
  intro m
  induction m using Nat.strongRecOn with
  | ind m ih =>
    intro i hm hi
    refine tt_iload_n d_Fog_take_19 rfl ?_
    refine tt_aload_n d_Fog_take_20 rfl ?_
    refine tn_get d_Fog_take_21 rfl rfl (by decide) rfl (show sf (X_ft σ n i) 12 1 = nI (max 1 (min 20 n)) from rfl) ?_
    refine tn_ic_ge (t := 44) (by omega) (by omega) d_Fog_take_24 (by decide) (fun c_24 => ?_) (fun c_24 => ?_)
    · refine tt_vret rfl d_Fog_take_44 ?_
      exact ⟨rfl, by rw [show i = max 1 (min 20 n) by omega]⟩
    · refine tt_aload_n d_Fog_take_27 rfl ?_
      refine tt_getR d_Fog_take_28 rfl rfl (by decide) rfl rfl ?_
      refine tt_iload_n d_Fog_take_31 rfl ?_
      refine tt_aload_n d_Fog_take_32 rfl ?_
      refine tt_iload_n d_Fog_take_33 rfl ?_
      refine tt_callV (x_Text_digit (σ := X_ft σ n i) (d := d) (n := n) (j := i) hn hz (by omega)) cw_Text_digit rfl rfl (by decide) rfl (by omega) d_Fog_take_34 rfl rfl (Nat.le_of_ble_eq_true rfl) (Nat.le_of_ble_eq_true rfl) rfl rfl rfl (fun v σ2 q => ?_)
      obtain ⟨rfl, e9⟩ := q
      rw [e9, X_dig_c (σ := σ) (τ := X_ft σ n i) rfl]
      clear e9
      refine tn_iast d_Fog_take_37 rfl (by decide) (by omega) ?_
      refine tt_iinc d_Fog_take_38 rfl (nI_inc _ 1) (by decide) rfl ?_
      refine tt_goto (t := 19) d_Fog_take_41 (by decide) ?_
      rw [show wI (X_ft σ n i) 13 i (X_dig σ n i) = X_ft σ n (i + 1) from cpN_g]
      exact ih (20 - (i + 1)) (by omega) (i + 1) rfl (by omega)

theorem x_Fog_take {l : xLa} {d : Nat} {σ : xs} {n : Nat} (hn : sf σ 1 1 = nI n) (hz : n ≤ 80) : TE l M_Fog_take (d + 3) [.ref 12, .ref 1] σ (none) (X_ft σ n (max 1 (min 20 n))) := by
  show T l M_Fog_take (d + 3) 0 _ [] σ _
  refine tt_aload_n d_Fog_take_0 rfl ?_
  refine tt_iconst (v := nI 1) d_Fog_take_1 (by decide) ?_
  refine tt_bipush (v := nI 20) d_Fog_take_2 (by decide) ?_
  refine tt_aload_n d_Fog_take_4 rfl ?_
  refine tt_callV (x_Text_length (d := d + 1)) cw_Text_length rfl rfl (by decide) rfl (by omega) d_Fog_take_5 rfl rfl (Nat.le_of_ble_eq_true rfl) (Nat.le_of_ble_eq_true rfl) rfl rfl rfl (fun v σ2 q => ?_)
  obtain ⟨rfl, e9⟩ := q
  rw [e9, hn]
  clear e9
  refine tn_min (by omega) (by omega) d_Fog_take_8 rfl (Nat.le_of_ble_eq_true rfl) ?_
  refine tn_max (by omega) (by omega) d_Fog_take_11 rfl (Nat.le_of_ble_eq_true rfl) ?_
  refine tt_putI d_Fog_take_14 rfl rfl (by decide) rfl (xpok_int rfl) rfl ?_
  refine tt_iconst (v := nI 0) d_Fog_take_17 (by decide) ?_
  refine tt_istore_n d_Fog_take_18 (by decide) rfl ?_
  have q := x_Fog_take_l (l := l) (d := d) (σ := σ) hn hz 20 0 (by omega) (by omega)
  rw [show X_ft σ n 0 = wF σ 12 1 (nI (max 1 (min 20 n))) from wA_g] at q
  exact q

/-- an entry of a sheet -/
def X_se (f step : Int32) : Nat → Int32
  | 0 => f
  | i + 1 => X_se f step i + step
def X_cv (kind e : Int32) : Int32 := if kind = 0 then e.toInt8.toInt32 else if kind = nI 1 then e.toInt16.toInt32 else e
def X_sv (n : Nat) (kind f step : Int32) (i : Nat) : Int32 := if i < n then (let m := (if X_cv kind (X_se f step i) < nI 9 then X_cv kind (X_se f step i) else nI 9); if nI 1 < m then m else nI 1) else nI 1
def X_ss (n : Nat) (kind f step : Int32) : Nat → Int32
  | 0 => nI 0
  | i + 1 => X_ss n kind f step i + X_sv n kind f step i
def X_str (σ : xs) (n : Nat) (kind f step : Int32) (i : Nat) : xs := wA σ 11 (cpN (X_sv n kind f step) (si σ 11) i)
theorem T_cong {l : xLa} {M : mT} {d pc : Nat} {lv : List (Option Value)} {st : List Value} {σ τ : xs} {Q : Option Value → xs → Prop} (h : σ = τ) (k : T l M d pc lv st τ Q) : T l M d pc lv st σ Q := by rw [h]; exact k
theorem X_sv_lt {n i : Nat} {kind f step c : Int32} (h : i < n) (e : X_cv kind (X_se f step i) = c) : (if nI 1 < (if c < nI 9 then c else nI 9) then (if c < nI 9 then c else nI 9) else nI 1) = X_sv n kind f step i := by
  unfold X_sv
  rw [if_pos h, e]
theorem tt_top {l : xLa} {M : mT} {d pc : Nat} {lv : List (Option Value)} {r : List Value} {σ : xs} {Q : Option Value → xs → Prop} {x y : Int32} (h : x = y) (k : T l M d pc lv (.int y :: r) σ Q) : T l M d pc lv (.int x :: r) σ Q := by rw [h]; exact k
theorem x_School_str_l {l : xLa} {d : Nat} {σ : xs} {n s : Nat} {kind f step : Int32} (hs : sf σ 9 2 = nI s) (hs8 : s ≤ 8) (hn : n ≤ 8) : ∀ (m : Nat) (i : Nat) (w : Option Int32), s - i = m → i ≤ s → T l M_School_strengthen (d + 1) 9 [some (.ref 9), some (.int (nI n)), some (.int kind), some (.int f), some (.int step), some (.int (X_ss n kind f step i)), some (.int (X_se f step i)), some (.int (nI i)), w.elim none (fun y => some (.int y))] [] (X_str σ n kind f step i) (fun r σ' => r = some (.int (X_ss n kind f step s)) ∧ σ' = X_str σ n kind f step s) := by
  intro m
  induction m using Nat.strongRecOn with
  | ind m ih =>
    intro i w hm hi
    refine tt_iload d_School_strengthen_9 rfl ?_
    refine tt_aload_n d_School_strengthen_11 rfl ?_
    refine tn_get d_School_strengthen_12 rfl rfl (by decide) rfl (show sf (X_str σ n kind f step i) 9 2 = nI s from hs) ?_
    refine tn_ic_ge (t := 96) (by omega) (by omega) d_School_strengthen_15 (by decide) (fun c_15 => ?_) (fun c_15 => ?_)
    · obtain rfl : i = s := by omega
      refine tt_iload d_School_strengthen_96 rfl ?_
      refine tt_iret rfl d_School_strengthen_98 ?_
      exact ⟨rfl, rfl⟩
    · refine tt_iload_n d_School_strengthen_18 rfl ?_
      refine tt_if_ne (t := 28) d_School_strengthen_19 (by decide) (fun c_19 => ?_) (fun c_19 => ?_)
      · refine tt_iload_n d_School_strengthen_28 rfl ?_
        refine tt_iconst (v := nI 1) d_School_strengthen_29 (by decide) ?_
        refine tt_ic_ne (t := 39) d_School_strengthen_30 (by decide) (fun c_30 => ?_) (fun c_30 => ?_)
        · refine tt_iload d_School_strengthen_39 rfl ?_
          refine tt_istore d_School_strengthen_41 (by decide) rfl ?_
          refine tt_aload_n d_School_strengthen_43 rfl ?_
          refine tt_getR d_School_strengthen_44 rfl rfl (by decide) rfl rfl ?_
          refine tt_iload d_School_strengthen_47 rfl ?_
          refine tt_iload d_School_strengthen_49 rfl ?_
          refine tt_iload_n d_School_strengthen_51 rfl ?_
          refine tn_ic_ge (t := 69) (by omega) (by omega) d_School_strengthen_52 (by decide) (fun c_52 => ?_) (fun c_52 => ?_)
          · refine tt_iconst (v := nI 1) d_School_strengthen_69 (by decide) ?_
            refine tt_top (y := X_sv n kind f step i) (by first | exact X_sv_lt c_52 (if_pos (Classical.not_not.mp c_19)) | exact X_sv_lt c_52 ((if_neg c_19).trans (if_pos (Classical.not_not.mp c_30))) | exact X_sv_lt c_52 ((if_neg c_19).trans (if_neg c_30)) | exact (if_neg (by omega)).symm) ?_
            refine tn_iast d_School_strengthen_70 rfl (by decide) (by omega) ?_
            refine tt_iload d_School_strengthen_71 rfl ?_
            refine tt_aload_n d_School_strengthen_73 rfl ?_
            rw [show wI (X_str σ n kind f step i) 11 i (X_sv n kind f step i) = X_str σ n kind f step (i + 1) from cpN_g]
            refine tt_getR d_School_strengthen_74 rfl rfl (by decide) rfl rfl ?_
            refine tt_iload d_School_strengthen_77 rfl ?_
            refine tn_iald d_School_strengthen_79 rfl (by decide) (by omega) (show si (X_str σ n kind f step (i + 1)) 11 i = X_sv n kind f step i by rw [show si (X_str σ n kind f step (i + 1)) 11 i = if 11 = 11 then cpN (X_sv n kind f step) (si σ 11) (i + 1) i else si σ 11 i from si_wA _ _ _ _ _]; simp [cpN]) ?_
            refine tt_iadd d_School_strengthen_80 ?_
            refine tt_istore d_School_strengthen_81 (by decide) rfl ?_
            refine tt_iload d_School_strengthen_83 rfl ?_
            refine tt_iload d_School_strengthen_85 rfl ?_
            refine tt_iadd d_School_strengthen_87 ?_
            refine tt_istore d_School_strengthen_88 (by decide) rfl ?_
            refine tt_iinc d_School_strengthen_90 rfl (nI_inc _ 1) (by decide) rfl ?_
            refine tt_goto (t := 9) d_School_strengthen_93 (by decide) ?_
            exact ih (s - (i + 1)) (by omega) (i + 1) (some _) rfl (by omega)
          · refine tt_iconst (v := nI 1) d_School_strengthen_55 (by decide) ?_
            refine tt_bipush (v := nI 9) d_School_strengthen_56 (by decide) ?_
            refine tt_iload d_School_strengthen_58 rfl ?_
            refine tt_min d_School_strengthen_60 rfl (Nat.le_of_ble_eq_true rfl) ?_
            refine tt_max d_School_strengthen_63 rfl (Nat.le_of_ble_eq_true rfl) ?_
            refine tt_goto (t := 70) d_School_strengthen_66 (by decide) ?_
            refine tt_top (y := X_sv n kind f step i) (by first | exact X_sv_lt c_52 (if_pos (Classical.not_not.mp c_19)) | exact X_sv_lt c_52 ((if_neg c_19).trans (if_pos (Classical.not_not.mp c_30))) | exact X_sv_lt c_52 ((if_neg c_19).trans (if_neg c_30)) | exact (if_neg (by omega)).symm) ?_
            refine tn_iast d_School_strengthen_70 rfl (by decide) (by omega) ?_
            refine tt_iload d_School_strengthen_71 rfl ?_
            refine tt_aload_n d_School_strengthen_73 rfl ?_
            rw [show wI (X_str σ n kind f step i) 11 i (X_sv n kind f step i) = X_str σ n kind f step (i + 1) from cpN_g]
            refine tt_getR d_School_strengthen_74 rfl rfl (by decide) rfl rfl ?_
            refine tt_iload d_School_strengthen_77 rfl ?_
            refine tn_iald d_School_strengthen_79 rfl (by decide) (by omega) (show si (X_str σ n kind f step (i + 1)) 11 i = X_sv n kind f step i by rw [show si (X_str σ n kind f step (i + 1)) 11 i = if 11 = 11 then cpN (X_sv n kind f step) (si σ 11) (i + 1) i else si σ 11 i from si_wA _ _ _ _ _]; simp [cpN]) ?_
            refine tt_iadd d_School_strengthen_80 ?_
            refine tt_istore d_School_strengthen_81 (by decide) rfl ?_
            refine tt_iload d_School_strengthen_83 rfl ?_
            refine tt_iload d_School_strengthen_85 rfl ?_
            refine tt_iadd d_School_strengthen_87 ?_
            refine tt_istore d_School_strengthen_88 (by decide) rfl ?_
            refine tt_iinc d_School_strengthen_90 rfl (nI_inc _ 1) (by decide) rfl ?_
            refine tt_goto (t := 9) d_School_strengthen_93 (by decide) ?_
            exact ih (s - (i + 1)) (by omega) (i + 1) (some _) rfl (by omega)
        · refine tt_iload d_School_strengthen_33 rfl ?_
          refine tt_i2s d_School_strengthen_35 ?_
          refine tt_goto (t := 41) d_School_strengthen_36 (by decide) ?_
          refine tt_istore d_School_strengthen_41 (by decide) rfl ?_
          refine tt_aload_n d_School_strengthen_43 rfl ?_
          refine tt_getR d_School_strengthen_44 rfl rfl (by decide) rfl rfl ?_
          refine tt_iload d_School_strengthen_47 rfl ?_
          refine tt_iload d_School_strengthen_49 rfl ?_
          refine tt_iload_n d_School_strengthen_51 rfl ?_
          refine tn_ic_ge (t := 69) (by omega) (by omega) d_School_strengthen_52 (by decide) (fun c_52 => ?_) (fun c_52 => ?_)
          · refine tt_iconst (v := nI 1) d_School_strengthen_69 (by decide) ?_
            refine tt_top (y := X_sv n kind f step i) (by first | exact X_sv_lt c_52 (if_pos (Classical.not_not.mp c_19)) | exact X_sv_lt c_52 ((if_neg c_19).trans (if_pos (Classical.not_not.mp c_30))) | exact X_sv_lt c_52 ((if_neg c_19).trans (if_neg c_30)) | exact (if_neg (by omega)).symm) ?_
            refine tn_iast d_School_strengthen_70 rfl (by decide) (by omega) ?_
            refine tt_iload d_School_strengthen_71 rfl ?_
            refine tt_aload_n d_School_strengthen_73 rfl ?_
            rw [show wI (X_str σ n kind f step i) 11 i (X_sv n kind f step i) = X_str σ n kind f step (i + 1) from cpN_g]
            refine tt_getR d_School_strengthen_74 rfl rfl (by decide) rfl rfl ?_
            refine tt_iload d_School_strengthen_77 rfl ?_
            refine tn_iald d_School_strengthen_79 rfl (by decide) (by omega) (show si (X_str σ n kind f step (i + 1)) 11 i = X_sv n kind f step i by rw [show si (X_str σ n kind f step (i + 1)) 11 i = if 11 = 11 then cpN (X_sv n kind f step) (si σ 11) (i + 1) i else si σ 11 i from si_wA _ _ _ _ _]; simp [cpN]) ?_
            refine tt_iadd d_School_strengthen_80 ?_
            refine tt_istore d_School_strengthen_81 (by decide) rfl ?_
            refine tt_iload d_School_strengthen_83 rfl ?_
            refine tt_iload d_School_strengthen_85 rfl ?_
            refine tt_iadd d_School_strengthen_87 ?_
            refine tt_istore d_School_strengthen_88 (by decide) rfl ?_
            refine tt_iinc d_School_strengthen_90 rfl (nI_inc _ 1) (by decide) rfl ?_
            refine tt_goto (t := 9) d_School_strengthen_93 (by decide) ?_
            exact ih (s - (i + 1)) (by omega) (i + 1) (some _) rfl (by omega)
          · refine tt_iconst (v := nI 1) d_School_strengthen_55 (by decide) ?_
            refine tt_bipush (v := nI 9) d_School_strengthen_56 (by decide) ?_
            refine tt_iload d_School_strengthen_58 rfl ?_
            refine tt_min d_School_strengthen_60 rfl (Nat.le_of_ble_eq_true rfl) ?_
            refine tt_max d_School_strengthen_63 rfl (Nat.le_of_ble_eq_true rfl) ?_
            refine tt_goto (t := 70) d_School_strengthen_66 (by decide) ?_
            refine tt_top (y := X_sv n kind f step i) (by first | exact X_sv_lt c_52 (if_pos (Classical.not_not.mp c_19)) | exact X_sv_lt c_52 ((if_neg c_19).trans (if_pos (Classical.not_not.mp c_30))) | exact X_sv_lt c_52 ((if_neg c_19).trans (if_neg c_30)) | exact (if_neg (by omega)).symm) ?_
            refine tn_iast d_School_strengthen_70 rfl (by decide) (by omega) ?_
            refine tt_iload d_School_strengthen_71 rfl ?_
            refine tt_aload_n d_School_strengthen_73 rfl ?_
            rw [show wI (X_str σ n kind f step i) 11 i (X_sv n kind f step i) = X_str σ n kind f step (i + 1) from cpN_g]
            refine tt_getR d_School_strengthen_74 rfl rfl (by decide) rfl rfl ?_
            refine tt_iload d_School_strengthen_77 rfl ?_
            refine tn_iald d_School_strengthen_79 rfl (by decide) (by omega) (show si (X_str σ n kind f step (i + 1)) 11 i = X_sv n kind f step i by rw [show si (X_str σ n kind f step (i + 1)) 11 i = if 11 = 11 then cpN (X_sv n kind f step) (si σ 11) (i + 1) i else si σ 11 i from si_wA _ _ _ _ _]; simp [cpN]) ?_
            refine tt_iadd d_School_strengthen_80 ?_
            refine tt_istore d_School_strengthen_81 (by decide) rfl ?_
            refine tt_iload d_School_strengthen_83 rfl ?_
            refine tt_iload d_School_strengthen_85 rfl ?_
            refine tt_iadd d_School_strengthen_87 ?_
            refine tt_istore d_School_strengthen_88 (by decide) rfl ?_
            refine tt_iinc d_School_strengthen_90 rfl (nI_inc _ 1) (by decide) rfl ?_
            refine tt_goto (t := 9) d_School_strengthen_93 (by decide) ?_
            exact ih (s - (i + 1)) (by omega) (i + 1) (some _) rfl (by omega)
      · refine tt_iload d_School_strengthen_22 rfl ?_
        refine tt_i2b d_School_strengthen_24 ?_
        refine tt_goto (t := 41) d_School_strengthen_25 (by decide) ?_
        refine tt_istore d_School_strengthen_41 (by decide) rfl ?_
        refine tt_aload_n d_School_strengthen_43 rfl ?_
        refine tt_getR d_School_strengthen_44 rfl rfl (by decide) rfl rfl ?_
        refine tt_iload d_School_strengthen_47 rfl ?_
        refine tt_iload d_School_strengthen_49 rfl ?_
        refine tt_iload_n d_School_strengthen_51 rfl ?_
        refine tn_ic_ge (t := 69) (by omega) (by omega) d_School_strengthen_52 (by decide) (fun c_52 => ?_) (fun c_52 => ?_)
        · refine tt_iconst (v := nI 1) d_School_strengthen_69 (by decide) ?_
          refine tt_top (y := X_sv n kind f step i) (by first | exact X_sv_lt c_52 (if_pos (Classical.not_not.mp c_19)) | exact X_sv_lt c_52 ((if_neg c_19).trans (if_pos (Classical.not_not.mp c_30))) | exact X_sv_lt c_52 ((if_neg c_19).trans (if_neg c_30)) | exact (if_neg (by omega)).symm) ?_
          refine tn_iast d_School_strengthen_70 rfl (by decide) (by omega) ?_
          refine tt_iload d_School_strengthen_71 rfl ?_
          refine tt_aload_n d_School_strengthen_73 rfl ?_
          rw [show wI (X_str σ n kind f step i) 11 i (X_sv n kind f step i) = X_str σ n kind f step (i + 1) from cpN_g]
          refine tt_getR d_School_strengthen_74 rfl rfl (by decide) rfl rfl ?_
          refine tt_iload d_School_strengthen_77 rfl ?_
          refine tn_iald d_School_strengthen_79 rfl (by decide) (by omega) (show si (X_str σ n kind f step (i + 1)) 11 i = X_sv n kind f step i by rw [show si (X_str σ n kind f step (i + 1)) 11 i = if 11 = 11 then cpN (X_sv n kind f step) (si σ 11) (i + 1) i else si σ 11 i from si_wA _ _ _ _ _]; simp [cpN]) ?_
          refine tt_iadd d_School_strengthen_80 ?_
          refine tt_istore d_School_strengthen_81 (by decide) rfl ?_
          refine tt_iload d_School_strengthen_83 rfl ?_
          refine tt_iload d_School_strengthen_85 rfl ?_
          refine tt_iadd d_School_strengthen_87 ?_
          refine tt_istore d_School_strengthen_88 (by decide) rfl ?_
          refine tt_iinc d_School_strengthen_90 rfl (nI_inc _ 1) (by decide) rfl ?_
          refine tt_goto (t := 9) d_School_strengthen_93 (by decide) ?_
          exact ih (s - (i + 1)) (by omega) (i + 1) (some _) rfl (by omega)
        · refine tt_iconst (v := nI 1) d_School_strengthen_55 (by decide) ?_
          refine tt_bipush (v := nI 9) d_School_strengthen_56 (by decide) ?_
          refine tt_iload d_School_strengthen_58 rfl ?_
          refine tt_min d_School_strengthen_60 rfl (Nat.le_of_ble_eq_true rfl) ?_
          refine tt_max d_School_strengthen_63 rfl (Nat.le_of_ble_eq_true rfl) ?_
          refine tt_goto (t := 70) d_School_strengthen_66 (by decide) ?_
          refine tt_top (y := X_sv n kind f step i) (by first | exact X_sv_lt c_52 (if_pos (Classical.not_not.mp c_19)) | exact X_sv_lt c_52 ((if_neg c_19).trans (if_pos (Classical.not_not.mp c_30))) | exact X_sv_lt c_52 ((if_neg c_19).trans (if_neg c_30)) | exact (if_neg (by omega)).symm) ?_
          refine tn_iast d_School_strengthen_70 rfl (by decide) (by omega) ?_
          refine tt_iload d_School_strengthen_71 rfl ?_
          refine tt_aload_n d_School_strengthen_73 rfl ?_
          rw [show wI (X_str σ n kind f step i) 11 i (X_sv n kind f step i) = X_str σ n kind f step (i + 1) from cpN_g]
          refine tt_getR d_School_strengthen_74 rfl rfl (by decide) rfl rfl ?_
          refine tt_iload d_School_strengthen_77 rfl ?_
          refine tn_iald d_School_strengthen_79 rfl (by decide) (by omega) (show si (X_str σ n kind f step (i + 1)) 11 i = X_sv n kind f step i by rw [show si (X_str σ n kind f step (i + 1)) 11 i = if 11 = 11 then cpN (X_sv n kind f step) (si σ 11) (i + 1) i else si σ 11 i from si_wA _ _ _ _ _]; simp [cpN]) ?_
          refine tt_iadd d_School_strengthen_80 ?_
          refine tt_istore d_School_strengthen_81 (by decide) rfl ?_
          refine tt_iload d_School_strengthen_83 rfl ?_
          refine tt_iload d_School_strengthen_85 rfl ?_
          refine tt_iadd d_School_strengthen_87 ?_
          refine tt_istore d_School_strengthen_88 (by decide) rfl ?_
          refine tt_iinc d_School_strengthen_90 rfl (nI_inc _ 1) (by decide) rfl ?_
          refine tt_goto (t := 9) d_School_strengthen_93 (by decide) ?_
          exact ih (s - (i + 1)) (by omega) (i + 1) (some _) rfl (by omega)

theorem x_School_str {l : xLa} {d : Nat} {σ : xs} {n s : Nat} {kind f step : Int32} (hs : sf σ 9 2 = nI s) (hs8 : s ≤ 8) (hn : n ≤ 8) : TE l M_School_strengthen (d + 1) [.ref 9, .int (nI n), .int kind, .int f, .int step] σ (some (.int (X_ss n kind f step s))) (X_str σ n kind f step s) := by
  show T l M_School_strengthen (d + 1) 0 _ [] σ _
  refine tt_iconst (v := nI 0) d_School_strengthen_0 (by decide) ?_
  refine tt_istore d_School_strengthen_1 (by decide) rfl ?_
  refine tt_iload_n d_School_strengthen_3 rfl ?_
  refine tt_istore d_School_strengthen_4 (by decide) rfl ?_
  refine tt_iconst (v := nI 0) d_School_strengthen_6 (by decide) ?_
  refine tt_istore d_School_strengthen_7 (by decide) rfl ?_
  have q := x_School_str_l (l := l) (d := d) (σ := σ) (kind := kind) (f := f) (step := step) hs hs8 hn s 0 none (by omega) (by omega)
  rw [show X_str σ n kind f step 0 = σ from wA_g] at q
  exact q

/-- the shift of the i-th sign -/
def X_sh (i : Nat) : Int32 := Int32.ofInt (24 - 8 * (i : Int))
theorem X_sh_s (i : Nat) : X_sh i + Int32.ofInt (-8) = X_sh (i + 1) := by
  unfold X_sh
  rw [← Int32.ofInt_add]
  congr 1
  omega
/-- the i-th sign of v -/
def X_by (v : Int32) (i : Nat) : Int32 := ((ush v (X_sh i) &&& nI 255).toUInt32 % 65536).toInt32
def X_apf (σ : xs) (n : Nat) (v : Int32) (i : Nat) : Nat → Int32 := fun j => if n ≤ j ∧ j < n + i then X_by v (j - n) else si σ 2 j
def X_app (σ : xs) (n : Nat) (v : Int32) (i : Nat) : xs := wF (wA σ 2 (X_apf σ n v i)) 1 1 (nI (n + i))
theorem X_app_s {σ : xs} {n i : Nat} {v : Int32} : wF (wI (X_app σ n v i) 2 (n + i) (X_by v i)) 1 1 (nI (n + i + 1)) = X_app σ n v (i + 1) := by
  have e1 : up2 (up2 (sf σ) 1 1 (nI (n + i))) 1 1 (nI (n + i + 1)) = up2 (sf σ) 1 1 (nI (n + (i + 1))) := by
    funext a b
    simp only [up2_at]
    by_cases h : a = 1 ∧ b = 1
    · rw [if_pos h, if_pos h, Nat.add_assoc]
    · rw [if_neg h, if_neg h, if_neg h]
  have e2 : up2 (si (wA σ 2 (X_apf σ n v i))) 2 (n + i) (X_by v i) = si (wA σ 2 (X_apf σ n v (i + 1))) := by
    funext a b
    rw [up2_at, si_wA, si_wA]
    unfold X_apf
    by_cases ha : a = 2
    · by_cases hb : b = n + i
      · rw [if_pos ⟨ha, hb⟩, if_pos ha, if_pos (by omega), hb, show n + i - n = i by omega]
      · rw [if_neg (fun q => hb q.2), if_pos ha, if_pos ha]
        by_cases h : n ≤ b ∧ b < n + i
        · rw [if_pos h, if_pos (by omega)]
        · rw [if_neg h, if_neg (by omega)]
    · rw [if_neg (fun q => ha q.1), if_neg ha, if_neg ha]
  show (up2 (up2 (sf σ) 1 1 (nI (n + i))) 1 1 (nI (n + i + 1)), up2 (si (wA σ 2 (X_apf σ n v i))) 2 (n + i) (X_by v i), σ.2.2) = _
  rw [e1, e2]
  rfl
theorem X_app_0 {σ : xs} {n : Nat} {v : Int32} (hn : sf σ 1 1 = nI n) : X_app σ n v 0 = σ := by
  have e1 : up2 (sf σ) 1 1 (nI (n + 0)) = sf σ := by
    funext a b
    rw [up2_at]
    by_cases h : a = 1 ∧ b = 1
    · rw [if_pos h, h.1, h.2, hn, Nat.add_zero]
    · rw [if_neg h]
  have e2 : (fun a => if a = 2 then X_apf σ n v 0 else si σ a) = si σ := by
    funext a
    by_cases h : a = 2
    · rw [if_pos h, h]; funext j; unfold X_apf; rw [if_neg (by omega)]
    · rw [if_neg h]
  show (up2 (sf σ) 1 1 (nI (n + 0)), (fun a => if a = 2 then X_apf σ n v 0 else si σ a), σ.2.2) = σ
  rw [e1, e2]
  rfl
theorem x_Text_append_l {l : xLa} {d : Nat} {σ : xs} {n : Nat} {v : Int32} (hz : n + 4 ≤ 80) : ∀ (m : Nat) (i : Nat), 4 - i = m → i ≤ 4 → T l M_Text_append (d + 1) 16 [some (.ref 1), some (.int v), some (.int (X_sh i))] [] (X_app σ n v i) (fun r σ' => r = some (.int (nI 1)) ∧ σ' = X_app σ n v 4) := by
  intro m
  induction m using Nat.strongRecOn with
  | ind m ih =>
    intro i hm hi
    refine tt_iload_n d_Text_append_16 rfl ?_
    refine tt_if_lt (t := 53) d_Text_append_17 (by decide) (fun c_17 => ?_) (fun c_17 => ?_)
    · obtain rfl : i = 4 := by
        rcases (show i = 0 ∨ i = 1 ∨ i = 2 ∨ i = 3 ∨ i = 4 by omega) with rfl | rfl | rfl | rfl | rfl
        all_goals first | rfl | exact absurd c_17 (by decide)
      refine tt_iconst (v := nI 1) d_Text_append_53 (by decide) ?_
      refine tt_zret rfl rfl d_Text_append_54 ?_
      exact ⟨rfl, rfl⟩
    · have hi4 : i < 4 := by
        rcases (show i = 4 ∨ i < 4 by omega) with rfl | h
        · exact absurd (by decide) c_17
        · exact h
      refine tt_aload_n d_Text_append_20 rfl ?_
      refine tt_getR d_Text_append_21 rfl rfl (by decide) rfl rfl ?_
      refine tt_aload_n d_Text_append_24 rfl ?_
      refine tn_get d_Text_append_25 rfl rfl (by decide) rfl (by first | exact (show sf (X_app σ n v i) 1 1 = nI (n + i) from rfl) | rfl) ?_
      refine tt_iload_n d_Text_append_28 rfl ?_
      refine tt_iload_n d_Text_append_29 rfl ?_
      refine tt_iushr d_Text_append_30 ?_
      refine tt_sipush (v := nI 255) d_Text_append_31 (by decide) ?_
      refine tt_iand d_Text_append_34 ?_
      refine tt_i2c d_Text_append_35 ?_
      refine tn_cast d_Text_append_36 rfl (by decide) (by omega) (pk_vc _) ?_
      refine tt_aload_n d_Text_append_37 rfl ?_
      refine tt_dup d_Text_append_38 rfl ?_
      refine tn_get d_Text_append_39 rfl rfl (by decide) rfl (by first | exact (show sf (X_app σ n v i) 1 1 = nI (n + i) from rfl) | rfl) ?_
      refine tt_iconst (v := nI 1) d_Text_append_42 (by decide) ?_
      refine tn_iadd d_Text_append_43 ?_
      refine tt_putI d_Text_append_44 rfl rfl (by decide) rfl (xpok_int rfl) rfl ?_
      refine tt_iinc d_Text_append_47 rfl (X_sh_s i) (by decide) rfl ?_
      refine tt_goto (t := 16) d_Text_append_50 (by decide) ?_
      refine T_cong X_app_s ?_
      exact ih (4 - (i + 1)) (by omega) (i + 1) rfl (by omega)

theorem x_Text_append {l : xLa} {d : Nat} {σ : xs} {n : Nat} {v : Int32} (hn : sf σ 1 1 = nI n) (hz : n ≤ 80) : TE l M_Text_append (d + 1) [.ref 1, .int v] σ (some (.int (if 80 < n + 4 then nI 0 else nI 1))) (if 80 < n + 4 then σ else X_app σ n v 4) := by
  show T l M_Text_append (d + 1) 0 _ [] σ _
  refine tt_aload_n d_Text_append_0 rfl ?_
  refine tn_get d_Text_append_1 rfl rfl (by decide) rfl hn ?_
  refine tt_iconst (v := nI 4) d_Text_append_4 (by decide) ?_
  refine tn_iadd d_Text_append_5 ?_
  refine tt_bipush (v := nI 80) d_Text_append_6 (by decide) ?_
  refine tn_ic_le (t := 13) (by omega) (by omega) d_Text_append_8 (by decide) (fun c_8 => ?_) (fun c_8 => ?_)
  · refine tt_bipush (v := nI 24) d_Text_append_13 (by decide) ?_
    refine tt_istore_n d_Text_append_15 (by decide) rfl ?_
    rw [if_neg (show ¬ 80 < n + 4 by omega), if_neg (show ¬ 80 < n + 4 by omega)]
    have q := x_Text_append_l (l := l) (d := d) (σ := σ) (n := n) (v := v) (by omega) 4 0 (by omega) (by omega)
    rw [X_app_0 hn] at q
    exact q
  · refine tt_iconst (v := nI 0) d_Text_append_11 (by decide) ?_
    refine tt_zret rfl rfl d_Text_append_12 ?_
    rw [if_pos c_8, if_pos c_8]
    exact ⟨rfl, rfl⟩

