/-! FishFerry$Text: cell 1, its signs are cell 2. Printed by wip/whole/m_text.py. -/
theorem x_Text_length {l : xLa} {d : Nat} {σ : xs}  : TE l M_Text_length (d + 1) [.ref 1] σ (some (.int (sf σ 1 1))) (σ) := by
  show T l M_Text_length (d + 1) 0 _ [] σ _
  refine tt_aload_n d_Text_length_0 rfl ?_
  refine tt_getI d_Text_length_1 rfl rfl (by decide) rfl ?_
  refine tt_iret rfl d_Text_length_4 ?_
  exact ⟨rfl, rfl⟩

theorem x_Text_clear {l : xLa} {d : Nat} {σ : xs}  : TE l M_Text_clear (d + 1) [.ref 1] σ (none) (wF σ 1 1 (nI 0)) := by
  show T l M_Text_clear (d + 1) 0 _ [] σ _
  refine tt_aload_n d_Text_clear_0 rfl ?_
  refine tt_iconst (v := nI 0) d_Text_clear_1 (by decide) ?_
  refine tt_putI d_Text_clear_2 rfl rfl (by decide) rfl (xpok_int rfl) rfl ?_
  refine tt_vret rfl d_Text_clear_5 ?_
  exact ⟨rfl, rfl⟩

theorem x_Text_shorten {l : xLa} {d : Nat} {σ : xs} {n : Int32} : TE l M_Text_shorten (d + 1) [.ref 1, .int n] σ (some (.int (if n < 0 ∨ sf σ 1 1 < n then 0 else 1))) (if n < 0 ∨ sf σ 1 1 < n then σ else wF σ 1 1 n) := by
  show T l M_Text_shorten (d + 1) 0 _ [] σ _
  refine tt_iload_n d_Text_shorten_0 rfl ?_
  refine tt_if_lt (t := 12) d_Text_shorten_1 (by decide) (fun c_1 => ?_) (fun c_1 => ?_)
  · refine tt_iconst (v := nI 0) d_Text_shorten_12 (by decide) ?_
    refine tt_zret rfl rfl d_Text_shorten_13 ?_
    have hc : n < 0 ∨ sf σ 1 1 < n := by first | exact Or.inl c_1 | exact Or.inr (fa_nle c_9)
    rw [if_pos hc, if_pos hc]
    exact ⟨rfl, rfl⟩
  · refine tt_iload_n d_Text_shorten_4 rfl ?_
    refine tt_aload_n d_Text_shorten_5 rfl ?_
    refine tt_getI d_Text_shorten_6 rfl rfl (by decide) rfl ?_
    refine tt_ic_le (t := 14) d_Text_shorten_9 (by decide) (fun c_9 => ?_) (fun c_9 => ?_)
    · refine tt_aload_n d_Text_shorten_14 rfl ?_
      refine tt_iload_n d_Text_shorten_15 rfl ?_
      refine tt_putI d_Text_shorten_16 rfl rfl (by decide) rfl (xpok_int rfl) rfl ?_
      refine tt_iconst (v := nI 1) d_Text_shorten_19 (by decide) ?_
      refine tt_zret rfl rfl d_Text_shorten_20 ?_
      have hc : ¬ (n < 0 ∨ sf σ 1 1 < n) := fun q => q.elim c_1 (fun z => fa_nlt2 z c_9)
      rw [if_neg hc, if_neg hc]
      exact ⟨rfl, rfl⟩
    · refine tt_iconst (v := nI 0) d_Text_shorten_12 (by decide) ?_
      refine tt_zret rfl rfl d_Text_shorten_13 ?_
      have hc : n < 0 ∨ sf σ 1 1 < n := by first | exact Or.inl c_1 | exact Or.inr (fa_nle c_9)
      rw [if_pos hc, if_pos hc]
      exact ⟨rfl, rfl⟩

/-- the sign at a place, -1 behind the end, of n signs -/
def X_at (σ : xs) (n j : Nat) : Int32 := if j < n then si σ 2 j else -1
theorem x_Text_at {l : xLa} {d : Nat} {σ : xs} {n j : Nat} (hn : sf σ 1 1 = nI n) (hz : n ≤ 80) (hj : j ≤ 1000) : TE l M_Text_at (d + 1) [.ref 1, .int (nI j)] σ (some (.int (X_at σ n j))) (σ) := by
  show T l M_Text_at (d + 1) 0 _ [] σ _
  refine tt_iload_n d_Text_at_0 rfl ?_
  refine tn_if_lt (t := 21) (by omega) d_Text_at_1 (by decide) ?_
  refine tt_iload_n d_Text_at_4 rfl ?_
  refine tt_aload_n d_Text_at_5 rfl ?_
  refine tn_get d_Text_at_6 rfl rfl (by decide) rfl hn ?_
  refine tn_ic_ge (t := 21) (by omega) (by omega) d_Text_at_9 (by decide) (fun c_9 => ?_) (fun c_9 => ?_)
  · refine tt_iconst (v := (-1)) d_Text_at_21 (by decide) ?_
    refine tt_iret rfl d_Text_at_22 ?_
    exact ⟨by unfold X_at; first | rw [if_pos c_9] | rw [if_neg (Nat.not_lt.mpr c_9)], rfl⟩
  · refine tt_aload_n d_Text_at_12 rfl ?_
    refine tt_getR d_Text_at_13 rfl rfl (by decide) rfl rfl ?_
    refine tt_iload_n d_Text_at_16 rfl ?_
    refine tn_cald d_Text_at_17 rfl (by decide) (by omega) rfl ?_
    refine tt_goto (t := 22) d_Text_at_18 (by decide) ?_
    refine tt_iret rfl d_Text_at_22 ?_
    exact ⟨by unfold X_at; first | rw [if_pos c_9] | rw [if_neg (Nat.not_lt.mpr c_9)], rfl⟩

def X_dig (σ : xs) (n j : Nat) : Int32 := if 48 ≤ X_at σ n j ∧ X_at σ n j ≤ 57 then X_at σ n j - 48 else -1
theorem x_Text_digit {l : xLa} {d : Nat} {σ : xs} {n j : Nat} (hn : sf σ 1 1 = nI n) (hz : n ≤ 80) (hj : j ≤ 1000) : TE l M_Text_digit (d + 2) [.ref 1, .int (nI j)] σ (some (.int (X_dig σ n j))) (σ) := by
  show T l M_Text_digit (d + 2) 0 _ [] σ _
  refine tt_aload_n d_Text_digit_0 rfl ?_
  refine tt_iload_n d_Text_digit_1 rfl ?_
  refine tt_callV (x_Text_at (d := d) (n := n) (j := j) hn hz hj) cw_Text_at rfl rfl (by decide) rfl (by omega) d_Text_digit_2 rfl rfl (Nat.le_of_ble_eq_true rfl) (Nat.le_of_ble_eq_true rfl) rfl rfl rfl (fun v σ2 q => ?_)
  obtain ⟨rfl, e9⟩ := q
  rw [e9]
  clear e9
  refine tt_istore_n d_Text_digit_5 (by decide) rfl ?_
  refine tt_iload_n d_Text_digit_6 rfl ?_
  refine tt_bipush (v := nI 48) d_Text_digit_7 (by decide) ?_
  refine tt_ic_lt (t := 25) d_Text_digit_9 (by decide) (fun c_9 => ?_) (fun c_9 => ?_)
  · refine tt_iconst (v := (-1)) d_Text_digit_25 (by decide) ?_
    refine tt_iret rfl d_Text_digit_26 ?_
    exact ⟨by unfold X_dig; first | (rw [if_pos ⟨fa_nlt c_9, fa_nlt c_15⟩]; rfl) | rw [if_neg (fun q => fa_nlt2 c_9 q.1)] | rw [if_neg (fun q => fa_nlt2 c_15 q.2)], rfl⟩
  · refine tt_iload_n d_Text_digit_12 rfl ?_
    refine tt_bipush (v := nI 57) d_Text_digit_13 (by decide) ?_
    refine tt_ic_gt (t := 25) d_Text_digit_15 (by decide) (fun c_15 => ?_) (fun c_15 => ?_)
    · refine tt_iconst (v := (-1)) d_Text_digit_25 (by decide) ?_
      refine tt_iret rfl d_Text_digit_26 ?_
      exact ⟨by unfold X_dig; first | (rw [if_pos ⟨fa_nlt c_9, fa_nlt c_15⟩]; rfl) | rw [if_neg (fun q => fa_nlt2 c_9 q.1)] | rw [if_neg (fun q => fa_nlt2 c_15 q.2)], rfl⟩
    · refine tt_iload_n d_Text_digit_18 rfl ?_
      refine tt_bipush (v := nI 48) d_Text_digit_19 (by decide) ?_
      refine tt_isub d_Text_digit_21 ?_
      refine tt_goto (t := 26) d_Text_digit_22 (by decide) ?_
      refine tt_iret rfl d_Text_digit_26 ?_
      exact ⟨by unfold X_dig; first | (rw [if_pos ⟨fa_nlt c_9, fa_nlt c_15⟩]; rfl) | rw [if_neg (fun q => fa_nlt2 c_9 q.1)] | rw [if_neg (fun q => fa_nlt2 c_15 q.2)], rfl⟩

