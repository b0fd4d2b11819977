/-! FishFerry$Past, Sights.agreeWith, Fog, School.strengthen, Text.append. Printed by wip/whole. -/
theorem sf_copy (σ : xs) (a b c j : Nat) : sf (X_copy σ a b) c j = if c = a ∧ j < 6 then sf σ b j else sf σ c j := by
  unfold X_copy
  simp only [sf_wA, sf_wF]
  by_cases hc : c = a
  · subst hc
    by_cases hb : b = c
    · subst hb
      rcases (show j = 0 ∨ j = 1 ∨ j = 2 ∨ j = 3 ∨ j = 4 ∨ j = 5 ∨ 6 ≤ j by omega) with h | h | h | h | h | h | h
      all_goals first | (subst h; simp) | (have : ¬ j < 6 := by omega
                                           simp [this, show j ≠ 0 by omega, show j ≠ 1 by omega, show j ≠ 2 by omega, show j ≠ 3 by omega, show j ≠ 4 by omega, show j ≠ 5 by omega])
    · rcases (show j = 0 ∨ j = 1 ∨ j = 2 ∨ j = 3 ∨ j = 4 ∨ j = 5 ∨ 6 ≤ j by omega) with h | h | h | h | h | h | h
      all_goals first | (subst h; simp [hb]) | (have : ¬ j < 6 := by omega
                                                simp [this, show j ≠ 0 by omega, show j ≠ 1 by omega, show j ≠ 2 by omega, show j ≠ 3 by omega, show j ≠ 4 by omega, show j ≠ 5 by omega])
  · simp [hc]
theorem sj_copy (σ : xs) (a b : Nat) : sj (X_copy σ a b) = sj σ := rfl
theorem sp_copy (σ : xs) (a b : Nat) : sp (X_copy σ a b) = sp σ := rfl
theorem so_copy (σ : xs) (a b : Nat) : so (X_copy σ a b) = so σ := rfl
/-- an array of a state behind copy -/
theorem si_copy {σ : xs} {a b : Nat} (hab : a = b ∨ a + 5 ≤ b ∨ b + 5 ≤ a) (c j : Nat) : si (X_copy σ a b) c j = if (a + 1 ≤ c ∧ c ≤ a + 4) ∧ j < 8 then si σ (b + (c - a)) j else si σ c j := by
  unfold X_copy
  simp only [si_wA, si_wF]
  rcases (show c = a + 1 ∨ c = a + 2 ∨ c = a + 3 ∨ c = a + 4 ∨ ¬ (a + 1 ≤ c ∧ c ≤ a + 4) by omega) with h | h | h | h | h
  · subst h
    rw [if_neg (by omega), if_neg (by omega), if_neg (by omega), if_pos rfl, show a + 1 - a = 1 by omega]
    unfold cpN
    by_cases hj : j < 8
    · rw [if_pos hj, if_pos ⟨by omega, hj⟩]
    · rw [if_neg hj, if_neg (fun q => hj q.2)]
  · subst h
    rw [if_neg (by omega), if_neg (by omega), if_pos rfl, show a + 2 - a = 2 by omega]
    unfold cpN
    by_cases hj : j < 8
    · rw [if_pos hj, if_pos ⟨by omega, hj⟩, si_wA, if_neg (by omega)]
      rfl
    · rw [if_neg hj, if_neg (fun q => hj q.2), si_wA, if_neg (by omega)]
      rfl
  · subst h
    rw [if_neg (by omega), if_pos rfl, show a + 3 - a = 3 by omega]
    unfold cpN
    by_cases hj : j < 8
    · rw [if_pos hj, if_pos ⟨by omega, hj⟩, si_wA, if_neg (by omega), si_wA, if_neg (by omega)]
      rfl
    · rw [if_neg hj, if_neg (fun q => hj q.2), si_wA, if_neg (by omega), si_wA, if_neg (by omega)]
      rfl
  · subst h
    rw [if_pos rfl, show a + 4 - a = 4 by omega]
    unfold cpN
    by_cases hj : j < 8
    · rw [if_pos hj, if_pos ⟨by omega, hj⟩, si_wA, if_neg (by omega), si_wA, if_neg (by omega), si_wA, if_neg (by omega)]
      rfl
    · rw [if_neg hj, if_neg (fun q => hj q.2), si_wA, if_neg (by omega), si_wA, if_neg (by omega), si_wA, if_neg (by omega)]
      rfl
  · rw [if_neg (by omega), if_neg (by omega), if_neg (by omega), if_neg (by omega), if_neg (fun q => h q.1)]
theorem xP_st : ∀ k, k < 15 → xrr 36 k = some (37 + 5 * k) ∧ 37 + 5 * k ∈ xStates := by decide +kernel
def X_push (σ : xs) (b k s : Nat) : xs := wF (wF (X_copy σ (37 + 5 * k) b) 35 1 (nI ((k + 1) % 15))) 35 2 (nI (min 15 (s + 1)))
def X_pop (σ : xs) (a k s : Nat) : xs := X_copy (wF (wF σ 35 1 (nI ((k + 15 - 1) % 15))) 35 2 (nI (s - 1))) a (37 + 5 * ((k + 15 - 1) % 15))
theorem x_Past_push {l : xLa} {d : Nat} {σ : xs} {b k s : Nat} (hb : isS b) (hk : sf σ 35 1 = nI k) (hk5 : k < 15) (hs : sf σ 35 2 = nI s) (hs5 : s ≤ 15) : TE l M_Past_push (d + 2) [.ref 35, .ref b] σ (none) (X_push σ b k s) := by
  show T l M_Past_push (d + 2) 0 _ [] σ _
  refine tt_aload_n d_Past_push_0 rfl ?_
  refine tt_getR d_Past_push_1 rfl rfl (by decide) rfl rfl ?_
  refine tt_aload_n d_Past_push_4 rfl ?_
  refine tn_get d_Past_push_5 rfl rfl (by decide) rfl (by first | exact hk | exact (sf_copy σ (37 + 5 * k) b 35 1).trans ((if_neg (by omega)).trans hk)) ?_
  refine tn_aald d_Past_push_8 rfl (by decide) (by decide) (by omega) (xP_st k hk5).1 ?_
  refine tt_aload_n d_Past_push_9 rfl ?_
  refine tt_callV (x_State_copy (d := d) (xP_st k hk5).2 hb) cw_State_copy rfl (xS_sh (xP_st k hk5).2) (by decide) rfl (by omega) d_Past_push_10 rfl rfl (Nat.le_of_ble_eq_true rfl) (Nat.le_of_ble_eq_true rfl) rfl rfl rfl (fun v σ2 q => ?_)
  obtain ⟨rfl, e9⟩ := q
  rw [e9]
  clear e9
  refine tt_aload_n d_Past_push_13 rfl ?_
  refine tt_aload_n d_Past_push_14 rfl ?_
  refine tn_get d_Past_push_15 rfl rfl (by decide) rfl (by first | exact hk | exact (sf_copy σ (37 + 5 * k) b 35 1).trans ((if_neg (by omega)).trans hk)) ?_
  refine tt_iconst (v := nI 1) d_Past_push_18 (by decide) ?_
  refine tn_iadd d_Past_push_19 ?_
  refine tt_bipush (v := nI 15) d_Past_push_20 (by decide) ?_
  refine tn_irem (by omega) (by omega) (by omega) d_Past_push_22 ?_
  refine tt_putI d_Past_push_23 rfl rfl (by decide) rfl (xpok_int rfl) rfl ?_
  refine tt_aload_n d_Past_push_26 rfl ?_
  refine tt_bipush (v := nI 15) d_Past_push_27 (by decide) ?_
  refine tt_aload_n d_Past_push_29 rfl ?_
  refine tn_get d_Past_push_30 rfl rfl (by decide) rfl (by first | exact hs | exact (sf_copy σ (37 + 5 * k) b 35 2).trans ((if_neg (by omega)).trans hs)) ?_
  refine tt_iconst (v := nI 1) d_Past_push_33 (by decide) ?_
  refine tn_iadd d_Past_push_34 ?_
  refine tn_min (by omega) (by omega) d_Past_push_35 rfl (Nat.le_of_ble_eq_true rfl) ?_
  refine tt_putI d_Past_push_38 rfl rfl (by decide) rfl (xpok_int rfl) rfl ?_
  refine tt_vret rfl d_Past_push_41 ?_
  exact ⟨rfl, rfl⟩

theorem x_Past_pop {l : xLa} {d : Nat} {σ : xs} {a k s : Nat} (ha : isS a) (hk : sf σ 35 1 = nI k) (hk5 : k < 15) (hs : sf σ 35 2 = nI s) (hs5 : s ≤ 15) : TE l M_Past_pop (d + 2) [.ref 35, .ref a] σ (some (.int (if s = 0 then nI 0 else nI 1))) (if s = 0 then σ else X_pop σ a k s) := by
  show T l M_Past_pop (d + 2) 0 _ [] σ _
  refine tt_aload_n d_Past_pop_0 rfl ?_
  refine tn_get d_Past_pop_1 rfl rfl (by decide) rfl (by exact hs) ?_
  refine tn_if_ne (t := 9) (by omega) d_Past_pop_4 (by decide) (fun c_4 => ?_) (fun c_4 => ?_)
  · refine tt_aload_n d_Past_pop_9 rfl ?_
    refine tt_aload_n d_Past_pop_10 rfl ?_
    refine tn_get d_Past_pop_11 rfl rfl (by decide) rfl (by first | exact hk | rfl) ?_
    refine tt_bipush (v := nI 15) d_Past_pop_14 (by decide) ?_
    refine tn_iadd d_Past_pop_16 ?_
    refine tt_iconst (v := nI 1) d_Past_pop_17 (by decide) ?_
    refine tn_isub (by omega) d_Past_pop_18 ?_
    refine tt_bipush (v := nI 15) d_Past_pop_19 (by decide) ?_
    refine tn_irem (by omega) (by omega) (by omega) d_Past_pop_21 ?_
    refine tt_putI d_Past_pop_22 rfl rfl (by decide) rfl (xpok_int rfl) rfl ?_
    refine tt_aload_n d_Past_pop_25 rfl ?_
    refine tt_dup d_Past_pop_26 rfl ?_
    refine tn_get d_Past_pop_27 rfl rfl (by decide) rfl (by exact hs) ?_
    refine tt_iconst (v := nI 1) d_Past_pop_30 (by decide) ?_
    refine tn_isub (by omega) d_Past_pop_31 ?_
    refine tt_putI d_Past_pop_32 rfl rfl (by decide) rfl (xpok_int rfl) rfl ?_
    refine tt_aload_n d_Past_pop_35 rfl ?_
    refine tt_aload_n d_Past_pop_36 rfl ?_
    refine tt_getR d_Past_pop_37 rfl rfl (by decide) rfl rfl ?_
    refine tt_aload_n d_Past_pop_40 rfl ?_
    refine tn_get d_Past_pop_41 rfl rfl (by decide) rfl (by first | exact hk | rfl) ?_
    refine tn_aald d_Past_pop_44 rfl (by decide) (by decide) (by omega) (xP_st _ (by omega)).1 ?_
    refine tt_callV (x_State_copy (d := d) ha (xP_st ((k + 15 - 1) % 15) (by omega)).2) cw_State_copy rfl (xS_sh ha) (by decide) rfl (by omega) d_Past_pop_45 rfl rfl (Nat.le_of_ble_eq_true rfl) (Nat.le_of_ble_eq_true rfl) rfl rfl rfl (fun v σ2 q => ?_)
    obtain ⟨rfl, e9⟩ := q
    rw [e9]
    clear e9
    refine tt_iconst (v := nI 1) d_Past_pop_48 (by decide) ?_
    refine tt_zret rfl rfl d_Past_pop_49 ?_
    rw [if_neg c_4, if_neg c_4]
    exact ⟨rfl, rfl⟩
  · refine tt_iconst (v := nI 0) d_Past_pop_7 (by decide) ?_
    refine tt_zret rfl rfl d_Past_pop_8 ?_
    rw [if_pos c_4, if_pos c_4]
    exact ⟨rfl, rfl⟩

theorem x_Fog_in {l : xLa} {d : Nat} {σ : xs} {n h : Nat} (hn : sf σ 12 1 = nI n) (h1 : 0 < n) (hz : n ≤ 20) (hh : h < 2 ^ 31) : TE l M_Fog_in (d + 2) [.ref 12, .int (nI h)] σ (some (.int (si σ 13 (h % n)))) (σ) := by
  show T l M_Fog_in (d + 2) 0 _ [] σ _
  refine tt_aload_n d_Fog_in_0 rfl ?_
  refine tn_get d_Fog_in_1 rfl rfl (by decide) rfl hn ?_
  refine tn_if_le (t := 23) (by omega) d_Fog_in_4 (by decide) (fun c_4 => ?_) (fun c_4 => ?_)
  · omega
  · refine tt_aload_n d_Fog_in_7 rfl ?_
    refine tt_getR d_Fog_in_8 rfl rfl (by decide) rfl rfl ?_
    refine tt_iload_n d_Fog_in_11 rfl ?_
    refine tt_aload_n d_Fog_in_12 rfl ?_
    refine tn_get d_Fog_in_13 rfl rfl (by decide) rfl hn ?_
    refine tt_callS (x_floorMod (d := d) hh h1 (by omega)) cw_Math_floorMod rfl (by omega) d_Fog_in_16 rfl rfl (Nat.le_of_ble_eq_true rfl) (Nat.le_of_ble_eq_true rfl) rfl rfl rfl (fun v σ2 q => ?_)
    obtain ⟨rfl, e9⟩ := q
    rw [e9]
    clear e9
    refine tn_iald d_Fog_in_19 rfl (by decide) (Nat.lt_of_lt_of_le (Nat.mod_lt h h1) hz) rfl ?_
    refine tt_goto (t := 24) d_Fog_in_20 (by decide) ?_
    refine tt_iret rfl d_Fog_in_24 ?_
    exact ⟨rfl, rfl⟩

/-- the first place below min 20 (max 1 n) whose sign is no digit; else 20 for a text that is too long, else -1 -/
def X_ff (σ : xs) (n : Nat) : Nat → Nat → Int32
  | 0, _ => if n ≤ 20 then -1 else nI 20
  | k + 1, i => if 20 ≤ i ∨ (¬ i = 0 ∧ n ≤ i) then (if n ≤ 20 then -1 else nI 20) else if X_dig σ n i = -1 then nI i else X_ff σ n k (i + 1)
theorem X_ff_end {σ : xs} {n k i : Nat} (h : 20 ≤ i ∨ (¬ i = 0 ∧ n ≤ i)) : X_ff σ n k i = if n ≤ 20 then -1 else nI 20 := by
  cases k with
  | zero => rfl
  | succ k => exact if_pos h
theorem x_Fog_fault_l {l : xLa} {d : Nat} {σ : xs} {n : Nat} (hn : sf σ 1 1 = nI n) (hz : n ≤ 80) : ∀ (m : Nat) (i : Nat), 20 - i = m → i ≤ 20 → T l M_Fog_faultIn (d + 3) 2 [some (.ref 12), some (.ref 1), some (.int (nI i))] [] σ (fun r σ' => r = some (.int (X_ff σ n (20 - i) i)) ∧ σ' = σ) := by
  intro m
  induction m using Nat.strongRecOn with
  | ind m ih =>
    intro i hm hi
    refine tt_iload_n d_Fog_faultIn_2 rfl ?_
    refine tt_bipush (v := nI 20) d_Fog_faultIn_3 (by decide) ?_
    refine tn_ic_ge (t := 37) (by omega) (by omega) d_Fog_faultIn_5 (by decide) (fun c_5 => ?_) (fun c_5 => ?_)
    · refine tt_aload_n d_Fog_faultIn_37 rfl ?_
      refine tt_callV (x_Text_length (d := d + 1)) cw_Text_length rfl rfl (by decide) rfl (by omega) d_Fog_faultIn_38 rfl rfl (Nat.le_of_ble_eq_true rfl) (Nat.le_of_ble_eq_true rfl) rfl rfl rfl (fun v σ2 q => ?_)
      obtain ⟨rfl, e9⟩ := q
      rw [e9, hn]
      clear e9
      refine tt_bipush (v := nI 20) d_Fog_faultIn_41 (by decide) ?_
      refine tn_ic_le (t := 51) (by omega) (by omega) d_Fog_faultIn_43 (by decide) (fun c_43 => ?_) (fun c_43 => ?_)
      · refine tt_iconst (v := (-1)) d_Fog_faultIn_51 (by decide) ?_
        refine tt_iret rfl d_Fog_faultIn_52 ?_
        refine ⟨congrArg (fun w => some (Value.int w)) ?_, rfl⟩
        rw [X_ff_end (by omega)]
        first | exact (if_pos c_43).symm | exact (if_neg (by omega)).symm
      · refine tt_bipush (v := nI 20) d_Fog_faultIn_46 (by decide) ?_
        refine tt_goto (t := 52) d_Fog_faultIn_48 (by decide) ?_
        refine tt_iret rfl d_Fog_faultIn_52 ?_
        refine ⟨congrArg (fun w => some (Value.int w)) ?_, rfl⟩
        rw [X_ff_end (by omega)]
        first | exact (if_pos c_43).symm | exact (if_neg (by omega)).symm
    · refine tt_iload_n d_Fog_faultIn_8 rfl ?_
      refine tn_if_eq (t := 20) (by omega) d_Fog_faultIn_9 (by decide) (fun c_9 => ?_) (fun c_9 => ?_)
      · refine tt_aload_n d_Fog_faultIn_20 rfl ?_
        refine tt_iload_n d_Fog_faultIn_21 rfl ?_
        refine tt_callV (x_Text_digit (d := d) (n := n) (j := i) hn hz (by omega)) cw_Text_digit rfl rfl (by decide) rfl (by omega) d_Fog_faultIn_22 rfl rfl (Nat.le_of_ble_eq_true rfl) (Nat.le_of_ble_eq_true rfl) rfl rfl rfl (fun v σ2 q => ?_)
        obtain ⟨rfl, e9⟩ := q
        rw [e9]
        clear e9
        refine tt_iconst (v := (-1)) d_Fog_faultIn_25 (by decide) ?_
        refine tt_ic_ne (t := 31) d_Fog_faultIn_26 (by decide) (fun c_26 => ?_) (fun c_26 => ?_)
        · refine tt_iinc d_Fog_faultIn_31 rfl (nI_inc _ 1) (by decide) rfl ?_
          refine tt_goto (t := 2) d_Fog_faultIn_34 (by decide) ?_
          have q := ih (20 - (i + 1)) (by omega) (i + 1) rfl (by omega)
          rw [show X_ff σ n (20 - i) i = X_ff σ n (20 - (i + 1)) (i + 1) by rw [show 20 - i = (20 - (i + 1)) + 1 by omega]; exact (if_neg (by omega)).trans (if_neg c_26)]
          exact q
        · refine tt_iload_n d_Fog_faultIn_29 rfl ?_
          refine tt_iret rfl d_Fog_faultIn_30 ?_
          refine ⟨congrArg (fun w => some (Value.int w)) ?_, rfl⟩
          rw [show 20 - i = (20 - (i + 1)) + 1 by omega]
          exact ((if_neg (by omega)).trans (if_pos (Classical.not_not.mp c_26))).symm
      · refine tt_iload_n d_Fog_faultIn_12 rfl ?_
        refine tt_aload_n d_Fog_faultIn_13 rfl ?_
        refine tt_callV (x_Text_length (d := d + 1)) cw_Text_length rfl rfl (by decide) rfl (by omega) d_Fog_faultIn_14 rfl rfl (Nat.le_of_ble_eq_true rfl) (Nat.le_of_ble_eq_true rfl) rfl rfl rfl (fun v σ2 q => ?_)
        obtain ⟨rfl, e9⟩ := q
        rw [e9, hn]
        clear e9
        refine tn_ic_ge (t := 37) (by omega) (by omega) d_Fog_faultIn_17 (by decide) (fun c_17 => ?_) (fun c_17 => ?_)
        · refine tt_aload_n d_Fog_faultIn_37 rfl ?_
          refine tt_callV (x_Text_length (d := d + 1)) cw_Text_length rfl rfl (by decide) rfl (by omega) d_Fog_faultIn_38 rfl rfl (Nat.le_of_ble_eq_true rfl) (Nat.le_of_ble_eq_true rfl) rfl rfl rfl (fun v σ2 q => ?_)
          obtain ⟨rfl, e9⟩ := q
          rw [e9, hn]
          clear e9
          refine tt_bipush (v := nI 20) d_Fog_faultIn_41 (by decide) ?_
          refine tn_ic_le (t := 51) (by omega) (by omega) d_Fog_faultIn_43 (by decide) (fun c_43 => ?_) (fun c_43 => ?_)
          · refine tt_iconst (v := (-1)) d_Fog_faultIn_51 (by decide) ?_
            refine tt_iret rfl d_Fog_faultIn_52 ?_
            refine ⟨congrArg (fun w => some (Value.int w)) ?_, rfl⟩
            rw [X_ff_end (by omega)]
            first | exact (if_pos c_43).symm | exact (if_neg (by omega)).symm
          · refine tt_bipush (v := nI 20) d_Fog_faultIn_46 (by decide) ?_
            refine tt_goto (t := 52) d_Fog_faultIn_48 (by decide) ?_
            refine tt_iret rfl d_Fog_faultIn_52 ?_
            refine ⟨congrArg (fun w => some (Value.int w)) ?_, rfl⟩
            rw [X_ff_end (by omega)]
            first | exact (if_pos c_43).symm | exact (if_neg (by omega)).symm
        · refine tt_aload_n d_Fog_faultIn_20 rfl ?_
          refine tt_iload_n d_Fog_faultIn_21 rfl ?_
          refine tt_callV (x_Text_digit (d := d) (n := n) (j := i) hn hz (by omega)) cw_Text_digit rfl rfl (by decide) rfl (by omega) d_Fog_faultIn_22 rfl rfl (Nat.le_of_ble_eq_true rfl) (Nat.le_of_ble_eq_true rfl) rfl rfl rfl (fun v σ2 q => ?_)
          obtain ⟨rfl, e9⟩ := q
          rw [e9]
          clear e9
          refine tt_iconst (v := (-1)) d_Fog_faultIn_25 (by decide) ?_
          refine tt_ic_ne (t := 31) d_Fog_faultIn_26 (by decide) (fun c_26 => ?_) (fun c_26 => ?_)
          · refine tt_iinc d_Fog_faultIn_31 rfl (nI_inc _ 1) (by decide) rfl ?_
            refine tt_goto (t := 2) d_Fog_faultIn_34 (by decide) ?_
            have q := ih (20 - (i + 1)) (by omega) (i + 1) rfl (by omega)
            rw [show X_ff σ n (20 - i) i = X_ff σ n (20 - (i + 1)) (i + 1) by rw [show 20 - i = (20 - (i + 1)) + 1 by omega]; exact (if_neg (by omega)).trans (if_neg c_26)]
            exact q
          · refine tt_iload_n d_Fog_faultIn_29 rfl ?_
            refine tt_iret rfl d_Fog_faultIn_30 ?_
            refine ⟨congrArg (fun w => some (Value.int w)) ?_, rfl⟩
            rw [show 20 - i = (20 - (i + 1)) + 1 by omega]
            exact ((if_neg (by omega)).trans (if_pos (Classical.not_not.mp c_26))).symm

theorem x_Fog_fault {l : xLa} {d : Nat} {σ : xs} {n : Nat} (hn : sf σ 1 1 = nI n) (hz : n ≤ 80) : TE l M_Fog_faultIn (d + 3) [.ref 12, .ref 1] σ (some (.int (X_ff σ n 20 0))) (σ) := by
  show T l M_Fog_faultIn (d + 3) 0 _ [] σ _
  refine tt_iconst (v := nI 0) d_Fog_faultIn_0 (by decide) ?_
  refine tt_istore_n d_Fog_faultIn_1 (by decide) rfl ?_
  exact x_Fog_fault_l hn hz 20 0 (by omega) (by omega)

