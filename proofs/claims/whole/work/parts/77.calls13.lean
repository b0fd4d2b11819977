/-! Questions: drifts. Printed by wip/whole. -/
theorem x_power_l {l : xLa} {d : Nat} {σ : xs} {b e : Nat} (hb : b < 2 ^ 31) (he : e < 2 ^ 31) : ∀ (m : Nat) (i : Nat), e - i = m → i ≤ e → T l M_X_power (d + 1) 5 [some (.int (nI b)), some (.int (nI e)), some (.long (lN (b ^ i))), none, some (.int (nI i))] [] σ (fun r τ => r = some (.long (lN (b ^ e))) ∧ τ = σ) := by
  intro m
  induction m using Nat.strongRecOn with
  | ind m ih =>
    intro i hm hi
    refine tt_iload d_X_power_5 rfl ?_
    refine tt_iload_n d_X_power_7 rfl ?_
    refine tn_ic_ge (t := 22) (by omega) (by omega) d_X_power_8 (by decide) (fun c_8 => ?_) (fun c_8 => ?_)
    · obtain rfl : i = e := by omega
      refine tt_lload_n d_X_power_22 rfl ?_
      refine tt_lret rfl d_X_power_23 ?_
      exact ⟨rfl, rfl⟩
    · refine tt_lload_n d_X_power_11 rfl ?_
      refine tt_iload_n d_X_power_12 rfl ?_
      refine tt_i2l d_X_power_13 ?_
      refine tt_topL (nI_l hb) ?_
      refine tt_lmul d_X_power_14 ?_
      refine tt_topL (lN_mul _ _) ?_
      rw [← Nat.pow_succ]
      refine tt_lstore_n (lv2 := [_, _, _, _, _]) d_X_power_15 (by decide) rfl ?_
      refine tt_iinc (lv2 := [_, _, _, _, _]) d_X_power_16 rfl (nI_inc _ 1) (by decide) rfl ?_
      refine tt_goto (t := 5) d_X_power_19 (by decide) ?_
      exact ih (e - (i + 1)) (by omega) (i + 1) rfl (by omega)

theorem x_power {l : xLa} {d : Nat} {σ : xs} {b e : Nat} (hb : b < 2 ^ 31) (he : e < 2 ^ 31) : TE l M_X_power (d + 1) [.int (nI b), .int (nI e)] σ (some (.long (lN (b ^ e)))) (σ) := by
  show T l M_X_power (d + 1) 0 _ [] σ _
  refine tt_lconst (v := lN 1) d_X_power_0 (by decide) ?_
  refine tt_lstore_n (lv2 := [_, _, _, _, _]) d_X_power_1 (by decide) rfl ?_
  refine tt_iconst (v := nI 0) d_X_power_2 (by decide) ?_
  refine tt_istore (lv2 := [_, _, _, _, _]) d_X_power_3 (by decide) rfl ?_
  exact x_power_l hb he e 0 rfl (by omega)

theorem lN_c0 {x : Nat} (h : x < 2 ^ 63) : (lg_cmp (lN x) 0 = 0 ↔ x = 0) ∧ (lg_cmp (lN x) 0 ≤ 0 ↔ x = 0) := by
  have e0 : (0 : Int64) = lN 0 := rfl
  have h1 : lg_cmp (lN x) 0 = 0 ↔ x = 0 := by rw [lg_eq, e0, pk_lEQ h (by decide)]
  refine ⟨h1, ?_⟩
  have h2 : 0 < lg_cmp (lN x) 0 ↔ 0 < x := by rw [lg_gt, e0, pk_lLT (by decide) h]
  constructor
  · intro q
    exact Decidable.byContradiction (fun z => fa_nlt2 (h2.mpr (by omega)) q)
  · intro q
    rw [h1.mpr q]; decide
theorem lN_ne {x : Nat} (h : x < 2 ^ 63) (h0 : ¬ x = 0) : ¬ lN x = 0 := fun q => h0 ((pk_lEQ h (by decide)).mp (show lN x = lN 0 from q))
theorem mod2 {x y : Nat} (h0 : 0 < x) (h : x < y) : 2 * (y % x) < y := by
  have h1 := Nat.mod_lt y h0
  have h2 := Nat.div_add_mod y x
  have h3 : 1 ≤ y / x := (Nat.one_le_div_iff h0).mpr (by omega)
  have h4 : x * 1 ≤ x * (y / x) := Nat.mul_le_mul_left x h3
  omega
/-- how long the rests go on -/
def gcJ (i x y : Nat) : Prop := ∃ n, (x < 2 ^ n ∧ i + 2 * n ≤ 140) ∨ (x < y ∧ y < 2 ^ n ∧ i + 2 * n ≤ 141)
theorem gcJ_s {i x y : Nat} (h : gcJ i x y) (h0 : 0 < x) : gcJ (i + 1) (y % x) x := by
  have hm := Nat.mod_lt y h0
  obtain ⟨n, ⟨h1, h2⟩ | ⟨h1, h2, h3⟩⟩ := h
  · exact ⟨n, Or.inr ⟨hm, h1, by omega⟩⟩
  · have h4 := mod2 h0 h1
    cases n with
    | zero => rw [Nat.pow_zero] at h2; omega
    | succ n => exact ⟨n, Or.inl ⟨by rw [Nat.pow_succ] at h2; omega, by omega⟩⟩
theorem gcJ_i {i x y : Nat} (h : gcJ i x y) : i ≤ 141 := by
  obtain ⟨n, h | h⟩ := h <;> omega
theorem x_shared_l {l : xLa} {d : Nat} {σ : xs} {A B : Int64} {g : Nat} (hg0 : 0 < g) (hg : g < 2 ^ 63) : ∀ (m : Nat) (i x y : Nat) (z : Option Int64), 200 - i = m → gcJ i x y → x < 2 ^ 63 → y < 2 ^ 63 → Nat.gcd x y = g → T l M_X_sharedDivisor (d + 1) 9 [some (.long A), none, some (.long B), none, some (.long (lN x)), none, some (.long (lN y)), none, some (.int (nI i)), z.map Value.long, none] [] σ (fun r τ => r = some (.long (lN g)) ∧ τ = σ) := by
  intro m
  induction m using Nat.strongRecOn with
  | ind m ih =>
    intro i x y z hm hj hx hy hxy
    have hi := gcJ_i hj
    have hc := lN_c0 hx
    have hcy := lN_c0 hy
    refine tt_iload d_X_sharedDivisor_9 rfl ?_
    refine tt_sipush (v := nI 200) d_X_sharedDivisor_11 (by decide) ?_
    refine tn_ic_ge (t := 45) (by omega) (by omega) d_X_sharedDivisor_14 (by decide) (fun c_14 => ?_) (fun c_14 => ?_)
    · omega
    · refine tt_lload d_X_sharedDivisor_17 rfl ?_
      refine tt_lconst (v := 0) d_X_sharedDivisor_19 (by decide) ?_
      refine tt_lcmp d_X_sharedDivisor_20 ?_
      refine tt_if_eq (t := 45) d_X_sharedDivisor_21 (by decide) (fun c_21 => ?_) (fun c_21 => ?_)
      · obtain rfl : x = 0 := hc.1.mp c_21
        rw [Nat.gcd_zero_left] at hxy
        subst hxy
        refine tt_lload d_X_sharedDivisor_45 rfl ?_
        refine tt_lconst (v := 0) d_X_sharedDivisor_47 (by decide) ?_
        refine tt_lcmp d_X_sharedDivisor_48 ?_
        refine tt_if_le (t := 57) d_X_sharedDivisor_49 (by decide) (fun c_49 => ?_) (fun c_49 => ?_)
        · exact absurd (hcy.2.mp c_49) (by omega)
        · refine tt_lload d_X_sharedDivisor_52 rfl ?_
          refine tt_goto (t := 58) d_X_sharedDivisor_54 (by decide) ?_
          refine tt_lret rfl d_X_sharedDivisor_58 ?_
          exact ⟨rfl, rfl⟩
      · have hx0 : ¬ x = 0 := fun q => c_21 (hc.1.mpr q)
        refine tt_lload d_X_sharedDivisor_24 rfl ?_
        refine tt_lload d_X_sharedDivisor_26 rfl ?_
        refine tt_lrem d_X_sharedDivisor_28 (lN_ne hx hx0) ?_
        refine tt_topL (pk_lRem hy (by omega) hx) ?_
        refine tt_lstore (lv2 := [_, _, _, _, _, _, _, _, _, _, _]) d_X_sharedDivisor_29 (by decide) rfl ?_
        refine tt_lload d_X_sharedDivisor_31 rfl ?_
        refine tt_lstore (lv2 := [_, _, _, _, _, _, _, _, _, _, _]) d_X_sharedDivisor_33 (by decide) rfl ?_
        refine tt_lload d_X_sharedDivisor_35 rfl ?_
        refine tt_lstore (lv2 := [_, _, _, _, _, _, _, _, _, _, _]) d_X_sharedDivisor_37 (by decide) rfl ?_
        refine tt_iinc (lv2 := [_, _, _, _, _, _, _, _, _, _, _]) d_X_sharedDivisor_39 rfl (nI_inc _ 1) (by decide) rfl ?_
        refine tt_goto (t := 9) d_X_sharedDivisor_42 (by decide) ?_
        exact ih (200 - (i + 1)) (by omega) (i + 1) _ _ (some _) rfl (gcJ_s hj (by omega)) (Nat.lt_trans (Nat.mod_lt y (by omega)) hx) hx (by rw [← Nat.gcd_rec]; exact hxy)

theorem x_shared {l : xLa} {d : Nat} {σ : xs} {a b : Nat} (ha : a < 2 ^ 62) (hb0 : 0 < b) (hb : b < 2 ^ 62) : TE l M_X_sharedDivisor (d + 1) [.long (lN a), .long (lN b)] σ (some (.long (lN (Nat.gcd a b)))) σ := by
  have hg0 : 0 < Nat.gcd a b := Nat.gcd_pos_of_pos_right a hb0
  have hg : Nat.gcd a b < 2 ^ 63 := Nat.lt_of_le_of_lt (Nat.gcd_le_right a hb0) (by omega)
  show T l M_X_sharedDivisor (d + 1) 0 _ [] σ _
  refine tt_lload_n d_X_sharedDivisor_0 rfl ?_
  refine tt_lstore (lv2 := [_, _, _, _, _, _, _, _, _, _, _]) d_X_sharedDivisor_1 (by decide) rfl ?_
  refine tt_lload_n d_X_sharedDivisor_3 rfl ?_
  refine tt_lstore (lv2 := [_, _, _, _, _, _, _, _, _, _, _]) d_X_sharedDivisor_4 (by decide) rfl ?_
  refine tt_iconst (v := nI 0) d_X_sharedDivisor_6 (by decide) ?_
  refine tt_istore (lv2 := [_, _, _, _, _, _, _, _, _, _, _]) d_X_sharedDivisor_7 (by decide) rfl ?_
  exact x_shared_l hg0 hg 200 0 a b none rfl ⟨62, Or.inl ⟨ha, by omega⟩⟩ (by omega) (by omega) rfl

theorem y_common {l : xLa} {σ : xs} {d : Nat} : ∀ (n a b : Nat), a < 2 ^ 63 → b < 2 ^ 63 → (b < 2 ^ n → TE l M_Y_common (d + 2 * n + 1) [.long (lN a), .long (lN b)] σ (some (.long (lN (Nat.gcd b a)))) σ) ∧ (b < a → a < 2 ^ n → TE l M_Y_common (d + 2 * n) [.long (lN a), .long (lN b)] σ (some (.long (lN (Nat.gcd b a)))) σ) := by
  intro n
  induction n with
  | zero =>
    intro a b ha hb
    have hc := lN_c0 hb
    refine ⟨fun h => ?_, fun h1 h2 => by rw [Nat.pow_zero] at h2; omega⟩
    rw [Nat.pow_zero] at h
    show T l M_Y_common (d + 2 * 0 + 1) 0 _ [] σ _
    refine tt_lload_n d_Y_common_0 rfl ?_
    refine tt_lconst (v := 0) d_Y_common_1 (by decide) ?_
    refine tt_lcmp d_Y_common_2 ?_
    refine tt_if_ne (t := 10) d_Y_common_3 (by decide) (fun c_3 => ?_) (fun c_3 => ?_)
    · have hb0 : ¬ b = 0 := fun q => c_3 (hc.1.mpr q)
      rw [Nat.gcd_rec]
      refine tt_lload_n d_Y_common_10 rfl ?_
      refine tt_lload_n d_Y_common_11 rfl ?_
      refine tt_lload_n d_Y_common_12 rfl ?_
      refine tt_lrem d_Y_common_13 (lN_ne hb hb0) ?_
      refine tt_topL (pk_lRem ha (by omega) hb) ?_
      exact absurd (show b = 0 by omega) hb0
    · obtain rfl : b = 0 := hc.1.mp (Decidable.not_not.mp c_3)
      rw [Nat.gcd_zero_left]
      refine tt_lload_n d_Y_common_6 rfl ?_
      refine tt_goto (t := 17) d_Y_common_7 (by decide) ?_
      refine tt_lret rfl d_Y_common_17 ?_
      exact ⟨rfl, rfl⟩
  | succ n ih =>
    intro a b ha hb
    have hc := lN_c0 hb
    have hB : b < a → a < 2 ^ (n + 1) → TE l M_Y_common (d + 2 * (n + 1)) [.long (lN a), .long (lN b)] σ (some (.long (lN (Nat.gcd b a)))) σ := fun h1 h2 => by
      show T l M_Y_common (d + 2 * n + 1 + 1) 0 _ [] σ _
      refine tt_lload_n d_Y_common_0 rfl ?_
      refine tt_lconst (v := 0) d_Y_common_1 (by decide) ?_
      refine tt_lcmp d_Y_common_2 ?_
      refine tt_if_ne (t := 10) d_Y_common_3 (by decide) (fun c_3 => ?_) (fun c_3 => ?_)
      · have hb0 : ¬ b = 0 := fun q => c_3 (hc.1.mpr q)
        rw [Nat.gcd_rec]
        refine tt_lload_n d_Y_common_10 rfl ?_
        refine tt_lload_n d_Y_common_11 rfl ?_
        refine tt_lload_n d_Y_common_12 rfl ?_
        refine tt_lrem d_Y_common_13 (lN_ne hb hb0) ?_
        refine tt_topL (pk_lRem ha (by omega) hb) ?_
        refine tt_callS ((ih b (a % b) hb (Nat.lt_trans (Nat.mod_lt a (by omega)) hb)).1 (by have := mod2 (show 0 < b by omega) h1; rw [Nat.pow_succ] at h2; omega)) cw_Y_common rfl (by omega) d_Y_common_14 rfl rfl (Nat.le_of_ble_eq_true rfl) (Nat.le_of_ble_eq_true rfl) rfl rfl rfl (fun v σ2 q => ?_)
        obtain ⟨rfl, e9⟩ := q
        rw [e9]
        clear e9
        refine tt_lret rfl d_Y_common_17 ?_
        exact ⟨rfl, rfl⟩
      · obtain rfl : b = 0 := hc.1.mp (Decidable.not_not.mp c_3)
        rw [Nat.gcd_zero_left]
        refine tt_lload_n d_Y_common_6 rfl ?_
        refine tt_goto (t := 17) d_Y_common_7 (by decide) ?_
        refine tt_lret rfl d_Y_common_17 ?_
        exact ⟨rfl, rfl⟩
    refine ⟨fun h => ?_, hB⟩
    have hB2 : ¬ b = 0 → TE l M_Y_common (d + 2 * (n + 1)) [.long (lN b), .long (lN (a % b))] σ (some (.long (lN (Nat.gcd (a % b) b)))) σ := fun hb0 => by
      have hm := Nat.mod_lt a (show 0 < b by omega)
      have hc2 := lN_c0 (show a % b < 2 ^ 63 by omega)
      show T l M_Y_common (d + 2 * n + 1 + 1) 0 _ [] σ _
      refine tt_lload_n d_Y_common_0 rfl ?_
      refine tt_lconst (v := 0) d_Y_common_1 (by decide) ?_
      refine tt_lcmp d_Y_common_2 ?_
      refine tt_if_ne (t := 10) d_Y_common_3 (by decide) (fun c_3 => ?_) (fun c_3 => ?_)
      · have hb1 : ¬ a % b = 0 := fun q => c_3 (hc2.1.mpr q)
        rw [Nat.gcd_rec]
        refine tt_lload_n d_Y_common_10 rfl ?_
        refine tt_lload_n d_Y_common_11 rfl ?_
        refine tt_lload_n d_Y_common_12 rfl ?_
        refine tt_lrem d_Y_common_13 (lN_ne (show a % b < 2 ^ 63 by omega) hb1) ?_
        refine tt_topL (pk_lRem hb (by omega) (show a % b < 2 ^ 63 by omega)) ?_
        refine tt_callS ((ih (a % b) (b % (a % b)) (by omega) (Nat.lt_trans (Nat.mod_lt b (by omega)) (by omega))).1 (by have := mod2 (show 0 < a % b by omega) hm; rw [Nat.pow_succ] at h; omega)) cw_Y_common rfl (by omega) d_Y_common_14 rfl rfl (Nat.le_of_ble_eq_true rfl) (Nat.le_of_ble_eq_true rfl) rfl rfl rfl (fun v σ2 q => ?_)
        obtain ⟨rfl, e9⟩ := q
        rw [e9]
        clear e9
        refine tt_lret rfl d_Y_common_17 ?_
        exact ⟨rfl, rfl⟩
      · have hz : a % b = 0 := hc2.1.mp (Decidable.not_not.mp c_3)
        rw [hz, Nat.gcd_zero_left]
        refine tt_lload_n d_Y_common_6 rfl ?_
        refine tt_goto (t := 17) d_Y_common_7 (by decide) ?_
        refine tt_lret rfl d_Y_common_17 ?_
        exact ⟨rfl, rfl⟩
    show T l M_Y_common (d + 2 * (n + 1) + 1) 0 _ [] σ _
    refine tt_lload_n d_Y_common_0 rfl ?_
    refine tt_lconst (v := 0) d_Y_common_1 (by decide) ?_
    refine tt_lcmp d_Y_common_2 ?_
    refine tt_if_ne (t := 10) d_Y_common_3 (by decide) (fun c_3 => ?_) (fun c_3 => ?_)
    · have hb0 : ¬ b = 0 := fun q => c_3 (hc.1.mpr q)
      rw [Nat.gcd_rec]
      refine tt_lload_n d_Y_common_10 rfl ?_
      refine tt_lload_n d_Y_common_11 rfl ?_
      refine tt_lload_n d_Y_common_12 rfl ?_
      refine tt_lrem d_Y_common_13 (lN_ne hb hb0) ?_
      refine tt_topL (pk_lRem ha (by omega) hb) ?_
      refine tt_callS (hB2 hb0) cw_Y_common rfl (by omega) d_Y_common_14 rfl rfl (Nat.le_of_ble_eq_true rfl) (Nat.le_of_ble_eq_true rfl) rfl rfl rfl (fun v σ2 q => ?_)
      obtain ⟨rfl, e9⟩ := q
      rw [e9]
      clear e9
      refine tt_lret rfl d_Y_common_17 ?_
      exact ⟨rfl, rfl⟩
    · obtain rfl : b = 0 := hc.1.mp (Decidable.not_not.mp c_3)
      rw [Nat.gcd_zero_left]
      refine tt_lload_n d_Y_common_6 rfl ?_
      refine tt_goto (t := 17) d_Y_common_7 (by decide) ?_
      refine tt_lret rfl d_Y_common_17 ?_
      exact ⟨rfl, rfl⟩

/-! how likely -/
def drT (w : wv) (p s : Nat) : Nat := p ^ pcN (dfN (puN (wE w) (wV w) (eN (wE w))) s) * (10 - p) ^ pcN s
def drS (w : wv) (wy p : Nat) (a s : Nat) : Nat := a + (if g4 (goV (wE w) (wV w) (nI s)) = wy then drT w p s else 0)
def drP (w : wv) : Nat := puN (wE w) (wV w) (eN (wE w))
def drF (w : wv) (wy p : Nat) : Nat → Nat := fsN (drP w) (drS w wy p) 0
def drL (w : wv) : Nat := 10 ^ pcN (drP w)
def drU (w : wv) (wy p : Nat) : Nat := drF w wy p (drP w + 1)
def q_drifts (w : wv) (a b : Int32) : Int32 × Option (List Int64) := match rgN a 0 4, rgN b 0 10 with
  | some wy, some p => (nI 0, some [lN (drU w wy p / Nat.gcd (drU w wy p) (drL w)), lN (drL w / Nat.gcd (drU w wy p) (drL w))])
  | _, _ => (-1, none)
theorem drT_le {w : wv} {p s : Nat} (hp : p ≤ 10) : drT w p s ≤ 10000000000000000 := by
  have h1 : p ^ pcN (dfN (puN (wE w) (wV w) (eN (wE w))) s) ≤ 10 ^ 8 := Nat.le_trans (Nat.pow_le_pow_left hp _) (Nat.pow_le_pow_right (by decide) (pcN_le _))
  have h2 : (10 - p) ^ pcN s ≤ 10 ^ 8 := Nat.le_trans (Nat.pow_le_pow_left (by omega) _) (Nat.pow_le_pow_right (by decide) (pcN_le _))
  exact Nat.le_trans (Nat.mul_le_mul h1 h2) (by decide)
theorem drF_le0 {w : wv} {wy p D : Nat} (hD : ∀ s, drT w p s ≤ D) : ∀ s, drF w wy p s ≤ s * D
  | 0 => by show 0 ≤ _; omega
  | s + 1 => by
    have ih := drF_le0 (w := w) (wy := wy) hD s
    have ht := hD s
    rw [Nat.succ_mul]
    show (if dfN s (drP w) = 0 then drS w wy p (drF w wy p s) s else drF w wy p s) ≤ _
    unfold drS
    split
    · split <;> omega
    · omega
theorem drF_le {w : wv} {wy p : Nat} (hp : p ≤ 10) (s : Nat) : drF w wy p s ≤ s * 10000000000000000 := drF_le0 (fun _ => drT_le hp) s
theorem dr_t {w : wv} {wy p s n : Nat} (hb : n = drF w wy p s) (h0 : dfN s (drP w) = 0) (h : g4 (goV (wE w) (wV w) (nI s)) = wy) : n + drT w p s = drF w wy p (s + 1) := by
  show _ = if dfN s (drP w) = 0 then drS w wy p (drF w wy p s) s else drF w wy p s
  rw [if_pos h0, ← hb]
  show _ = n + _
  rw [if_pos h]
theorem dr_f {w : wv} {wy p s n : Nat} (hb : n = drF w wy p s) (h : dfN s (drP w) = 0 → ¬ g4 (goV (wE w) (wV w) (nI s)) = wy) : n = drF w wy p (s + 1) := by
  show _ = if dfN s (drP w) = 0 then drS w wy p (drF w wy p s) s else drF w wy p s
  rw [← hb]
  split
  · rename_i c
    show n = n + _
    rw [if_neg (h c), Nat.add_zero]
  · rfl
theorem wy_eq : ∀ g, g < 5 → ∀ y, y < 5 → (b2I g = (if y = 4 then -2 else nI y) ↔ g4 g = y) := by decide
theorem drL_c (w : wv) : 0 < drL w ∧ drL w ≤ 100000000 := ⟨Nat.pow_pos (by decide), Nat.pow_le_pow_right (by decide) (pcN_le _)⟩
set_option maxHeartbeats 4000000 in
theorem x_drifts_l {l : xLa} {d : Nat} {σ : xs} {w : wv} {wy pp : Nat} (hw4 : wy ≤ 4) (hp : 0 ≤ pp ∧ pp ≤ 10) (ho : okQ w) : ∀ (m : Nat) (s n : Nat) (z : Option Int32) (τ : xs), 2 ^ eN (wE w) - s = m → s ≤ 2 ^ eN (wE w) → XQ w σ τ → MS (wE w) (wV w) (eN (wE w)) τ → n = drF w wy pp s → T l M_X_drifts (d + 30) 74 [some (.ref 0), some (.int (nI wy)), some (.int (nI pp)), some (.int (nI (drP w))), some (.int (if wy = 4 then -2 else nI wy)), some (.long (lN n)), none, some (.long (lN (drL w))), none, some (.int (nI s)), z.map Value.int] [] τ (fun r τ => r = some (.int (nI 0)) ∧ XW τ (stD w (some [lN (drU w wy pp / Nat.gcd (drU w wy pp) (drL w)), lN (drL w / Nat.gcd (drU w wy pp) (drL w))])) ∧ XF σ τ) := by
  have hb0 := ho.fb
  have hb8 := ho.n8
  intro m
  induction m using Nat.strongRecOn with
  | ind m ih =>
    intro s n z τ hm hs h hM hbb
    have hpw := pw8 ho.n8
    have hpl : drP w < 256 := puN_lt (wE w) (wV w) ho.n8
    have hdl := dfN_lt (b := drP w) (show s < 2 ^ 30 by have := pw8 ho.n8; omega)
    have hup := drF_le (w := w) (wy := wy) hp.2 s
    rw [← hbb] at hup
    have hlc := drL_c w
    have hgl := goV_lt (e := wE w) (v := wV w) (z := nI s)
    refine tt_iload d_X_drifts_74 rfl ?_
    refine tt_iconst (v := nI 1) d_X_drifts_76 (by decide) ?_
    refine tt_aload_n d_X_drifts_77 rfl ?_
    refine tt_getR d_X_drifts_78 rfl rfl (by decide) rfl rfl ?_
    refine tn_get d_X_drifts_81 rfl rfl (by decide) rfl h.n ?_
    refine tt_ishl d_X_drifts_84 ?_
    refine tt_top (shl_9 _ (by omega)) ?_
    refine tn_ic_ge (t := 149) (by omega) (by omega) d_X_drifts_85 (by decide) (fun c_85 => ?_) (fun c_85 => ?_)
    · obtain rfl : s = 2 ^ eN (wE w) := by omega
      replace hbb : n = drU w wy pp := hbb.trans (fsN_all (puN_lt2 _ _ _))
      have hg0 : 0 < Nat.gcd n (drL w) := Nat.gcd_pos_of_pos_right n (by omega)
      have hgl2 : Nat.gcd n (drL w) ≤ drL w := Nat.gcd_le_right n (by omega)
      rw [← hbb]
      refine tt_lload d_X_drifts_149 rfl ?_
      refine tt_lload d_X_drifts_151 rfl ?_
      refine tt_callS (x_shared (d := d) (by omega) (by omega) (by omega)) cw_X_sharedDivisor rfl (by omega) d_X_drifts_153 rfl rfl (Nat.le_of_ble_eq_true rfl) (Nat.le_of_ble_eq_true rfl) rfl rfl rfl (fun v σ2 q => ?_)
      obtain ⟨rfl, e9⟩ := q
      rw [e9]
      clear e9
      refine tt_lstore (lv2 := [_, _, _, _, _, _, _, _, _, _, _]) d_X_drifts_156 (by decide) rfl ?_
      refine tt_aload_n d_X_drifts_158 rfl ?_
      refine tt_getR d_X_drifts_159 rfl rfl (by decide) rfl rfl ?_
      refine tt_callV (xq_start (d := d) h) cw_Told_start rfl rfl (by decide) rfl (by omega) d_X_drifts_162 rfl rfl (Nat.le_of_ble_eq_true rfl) (Nat.le_of_ble_eq_true rfl) rfl rfl rfl (fun v σ2 q => ?_)
      obtain ⟨rfl, h, hd, hf⟩ := q
      refine tt_aload_n d_X_drifts_165 rfl ?_
      refine tt_getR d_X_drifts_166 rfl rfl (by decide) rfl rfl ?_
      refine tt_lload d_X_drifts_169 rfl ?_
      refine tt_lload d_X_drifts_171 rfl ?_
      refine tt_ldiv d_X_drifts_173 (lN_ne (by omega) (by omega)) ?_
      refine tt_topL (pk_lDiv (by omega) (by omega) (by omega)) ?_
      refine tt_callV (xq_add (d := d) h hd (Nat.le_of_ble_eq_true rfl)) cw_Told_add rfl rfl (by decide) rfl (by omega) d_X_drifts_174 rfl rfl (Nat.le_of_ble_eq_true rfl) (Nat.le_of_ble_eq_true rfl) rfl rfl rfl (fun v σ2 q => ?_)
      obtain ⟨rfl, h, hd, hf⟩ := q
      refine tt_aload_n d_X_drifts_177 rfl ?_
      refine tt_getR d_X_drifts_178 rfl rfl (by decide) rfl rfl ?_
      refine tt_lload d_X_drifts_181 rfl ?_
      refine tt_lload d_X_drifts_183 rfl ?_
      refine tt_ldiv d_X_drifts_185 (lN_ne (by omega) (by omega)) ?_
      refine tt_topL (pk_lDiv (by omega) (by omega) (by omega)) ?_
      refine tt_callV (xq_add (d := d) h hd (Nat.le_of_ble_eq_true rfl)) cw_Told_add rfl rfl (by decide) rfl (by omega) d_X_drifts_186 rfl rfl (Nat.le_of_ble_eq_true rfl) (Nat.le_of_ble_eq_true rfl) rfl rfl rfl (fun v σ2 q => ?_)
      obtain ⟨rfl, h, hd, hf⟩ := q
      refine tt_iconst (v := nI 0) d_X_drifts_189 (by decide) ?_
      refine tt_iret rfl d_X_drifts_190 ?_
      exact ⟨rfl, h.done hd, h.2.1⟩
    · have hpb := pcN_le (dfN (drP w) s)
      have hps := pcN_le s
      have hdp : dfN (drP w) s < 256 := dfN_lt (n := 8) hpl
      refine tt_iload d_X_drifts_88 rfl ?_
      refine tt_iload_n d_X_drifts_90 rfl ?_
      refine tt_iconst (v := (-1)) d_X_drifts_91 (by decide) ?_
      refine tt_ixor d_X_drifts_92 ?_
      refine tt_iand d_X_drifts_93 ?_
      refine tt_top (an_N _ _) ?_
      refine tn_if_ne (t := 143) (by omega) d_X_drifts_94 (by decide) (fun c_94 => ?_) (fun c_94 => ?_)
      · have hz := dr_f hbb (fun q => absurd q c_94)
        refine tt_iinc (lv2 := [_, _, _, _, _, _, _, _, _, _, _]) d_X_drifts_143 rfl (nI_inc _ 1) (by decide) rfl ?_
        refine tt_goto (t := 74) d_X_drifts_146 (by decide) ?_
        exact ih (2 ^ eN (wE w) - (s + 1)) (by omega) (s + 1) _ z _ rfl (by omega) h hM hz
      · refine tt_aload_n d_X_drifts_97 rfl ?_
        refine tt_iload d_X_drifts_98 rfl ?_
        refine tt_callV (xq_goesWith (d := d) (s := s) h ho hM) cw_X_goesWith rfl rfl (by decide) rfl (by omega) d_X_drifts_100 rfl rfl (Nat.le_of_ble_eq_true rfl) (Nat.le_of_ble_eq_true rfl) rfl rfl rfl (fun v σ2 q => ?_)
        obtain ⟨rfl, h, hM, hu⟩ := q
        refine tt_iload d_X_drifts_103 rfl ?_
        refine tt_ic_ne (t := 143) d_X_drifts_105 (by decide) (fun c_105 => ?_) (fun c_105 => ?_)
        · have hz := dr_f hbb (fun _ q => c_105 ((wy_eq _ (by omega) _ (by omega)).mpr q))
          refine tt_iinc (lv2 := [_, _, _, _, _, _, _, _, _, _, _]) d_X_drifts_143 rfl (nI_inc _ 1) (by decide) rfl ?_
          refine tt_goto (t := 74) d_X_drifts_146 (by decide) ?_
          exact ih (2 ^ eN (wE w) - (s + 1)) (by omega) (s + 1) _ z _ rfl (by omega) h hM hz
        · have hz := dr_t hbb c_94 ((wy_eq _ (by omega) _ (by omega)).mp (Decidable.not_not.mp c_105))
          refine tt_iload_n d_X_drifts_108 rfl ?_
          refine tt_iload d_X_drifts_109 rfl ?_
          refine tt_iconst (v := (-1)) d_X_drifts_111 (by decide) ?_
          refine tt_ixor d_X_drifts_112 ?_
          refine tt_iand d_X_drifts_113 ?_
          refine tt_top (an_N _ _) ?_
          refine tt_callS (x_bitN (d := d) (by omega)) cw_Integer_bitCount rfl (by omega) d_X_drifts_114 rfl rfl (Nat.le_of_ble_eq_true rfl) (Nat.le_of_ble_eq_true rfl) rfl rfl rfl (fun v σ2 q => ?_)
          obtain ⟨rfl, e9⟩ := q
          rw [e9]
          clear e9
          refine tt_istore (lv2 := [_, _, _, _, _, _, _, _, _, _, _]) d_X_drifts_117 (by decide) rfl ?_
          refine tt_lload d_X_drifts_119 rfl ?_
          refine tt_iload_n d_X_drifts_121 rfl ?_
          refine tt_iload d_X_drifts_122 rfl ?_
          refine tt_callS (x_power (d := d) (by omega) (by omega)) cw_X_power rfl (by omega) d_X_drifts_124 rfl rfl (Nat.le_of_ble_eq_true rfl) (Nat.le_of_ble_eq_true rfl) rfl rfl rfl (fun v σ2 q => ?_)
          obtain ⟨rfl, e9⟩ := q
          rw [e9]
          clear e9
          refine tt_bipush (v := nI 10) d_X_drifts_127 (by decide) ?_
          refine tt_iload_n d_X_drifts_129 rfl ?_
          refine tn_isub (by omega) d_X_drifts_130 ?_
          refine tt_iload d_X_drifts_131 rfl ?_
          refine tt_callS (x_bitN (d := d) (by omega)) cw_Integer_bitCount rfl (by omega) d_X_drifts_133 rfl rfl (Nat.le_of_ble_eq_true rfl) (Nat.le_of_ble_eq_true rfl) rfl rfl rfl (fun v σ2 q => ?_)
          obtain ⟨rfl, e9⟩ := q
          rw [e9]
          clear e9
          refine tt_callS (x_power (d := d) (by omega) (by omega)) cw_X_power rfl (by omega) d_X_drifts_136 rfl rfl (Nat.le_of_ble_eq_true rfl) (Nat.le_of_ble_eq_true rfl) rfl rfl rfl (fun v σ2 q => ?_)
          obtain ⟨rfl, e9⟩ := q
          rw [e9]
          clear e9
          refine tt_lmul d_X_drifts_139 ?_
          refine tt_topL (lN_mul _ _) ?_
          refine tt_ladd d_X_drifts_140 ?_
          refine tt_topL (lN_add _ _) ?_
          have e1 : pp ^ pcN (dfN (drP w) s) * (10 - pp) ^ pcN s = drT w pp s := rfl
          rw [e1]
          refine tt_lstore (lv2 := [_, _, _, _, _, _, _, _, _, _, _]) d_X_drifts_141 (by decide) rfl ?_
          refine tt_iinc (lv2 := [_, _, _, _, _, _, _, _, _, _, _]) d_X_drifts_143 rfl (nI_inc _ 1) (by decide) rfl ?_
          refine tt_goto (t := 74) d_X_drifts_146 (by decide) ?_
          exact ih (2 ^ eN (wE w) - (s + 1)) (by omega) (s + 1) _ (some _) _ rfl (by omega) h hM hz

set_option maxHeartbeats 4000000 in
theorem xc_drifts {l : xLa} {d : Nat} {σ : xs} {w : wv} (ho : okQ w) (hw : XW σ w) {a b : Int32} : TC l M_X_drifts (d + 30) [.ref 0, .int a, .int b] σ (fun r τ => r = some (.int ((q_drifts w a b).1)) ∧ XW τ (stD w ((q_drifts w a b).2)) ∧ XF σ τ) := by
  show T l M_X_drifts (d + 30) 0 _ [] σ _
  refine T_lv (lv2 := [_, _, _, _, _, _, _, _, _, _, _]) rfl ?_
  have h := XQ.rf hw.v
  have hd0 := hw.2.2.2.1
  have hb0 := ho.fb
  have hb8 := ho.n8
  rcases rgN_c a 0 4 with ⟨n, hn1, hn2, hn3, rfl, hq1⟩ | ⟨hq1, hb1⟩
  · rcases rgN_c b 0 10 with ⟨k, hk1, hk2, hk3, rfl, hq2⟩ | ⟨hq2, hb2⟩
    · unfold q_drifts
      rw [hq1, hq2]
      dsimp only
      refine tt_iload_n d_X_drifts_0 rfl ?_
      refine tn_if_lt (t := 19) (by omega) d_X_drifts_1 (by decide) ?_
      refine tt_iload_n d_X_drifts_4 rfl ?_
      refine tt_iconst (v := nI 4) d_X_drifts_5 (by decide) ?_
      refine tn_ic_gt (t := 19) (by omega) (by omega) d_X_drifts_6 (by decide) (fun c_6 => ?_) (fun c_6 => ?_)
      · omega
      · refine tt_iload_n d_X_drifts_9 rfl ?_
        refine tn_if_lt (t := 19) (by omega) d_X_drifts_10 (by decide) ?_
        refine tt_iload_n d_X_drifts_13 rfl ?_
        refine tt_bipush (v := nI 10) d_X_drifts_14 (by decide) ?_
        refine tn_ic_le (t := 21) (by omega) (by omega) d_X_drifts_16 (by decide) (fun c_16 => ?_) (fun c_16 => ?_)
        · refine tt_aload_n d_X_drifts_21 rfl ?_
          refine tt_getR d_X_drifts_22 rfl rfl (by decide) rfl rfl ?_
          refine tt_aload_n d_X_drifts_25 rfl ?_
          refine tt_getR d_X_drifts_26 rfl rfl (by decide) rfl rfl ?_
          refine tt_aload_n d_X_drifts_29 rfl ?_
          refine tt_getP d_X_drifts_30 rfl ?_
          refine tt_callV (xq_measure (d := d) h ho.1 ho.2.1) cw_Tug_measure rfl rfl (by decide) rfl (by omega) d_X_drifts_33 rfl rfl (Nat.le_of_ble_eq_true rfl) (Nat.le_of_ble_eq_true rfl) rfl rfl rfl (fun v σ2 q => ?_)
          obtain ⟨rfl, h, hM, hu⟩ := q
          replace hd0 := hd0.tn hu
          refine tt_aload_n d_X_drifts_36 rfl ?_
          refine tt_getR d_X_drifts_37 rfl rfl (by decide) rfl rfl ?_
          refine tt_callV (x_pusN (d := d) h.n ho.n8 hM) cw_Tug_pullers rfl rfl (by decide) rfl (by omega) d_X_drifts_40 rfl rfl (Nat.le_of_ble_eq_true rfl) (Nat.le_of_ble_eq_true rfl) rfl rfl rfl (fun v σ2 q => ?_)
          obtain ⟨rfl, e9⟩ := q
          rw [e9]
          clear e9
          have hpl := puN_lt (wE w) (wV w) ho.n8
          have hpb := pcN_le (puN (wE w) (wV w) (eN (wE w)))
          refine tt_istore_n (lv2 := [_, _, _, _, _, _, _, _, _, _, _]) d_X_drifts_43 (by decide) rfl ?_
          refine tt_iload_n d_X_drifts_44 rfl ?_
          refine tt_iconst (v := nI 4) d_X_drifts_45 (by decide) ?_
          refine tn_ic_ne (t := 54) (by omega) (by omega) d_X_drifts_46 (by decide) (fun c_46 => ?_) (fun c_46 => ?_)
          · have e4 : (if n = 4 then -2 else nI n) = nI n := if_neg c_46
            refine tt_iload_n d_X_drifts_54 rfl ?_
            refine tt_istore (lv2 := [_, _, _, _, _, _, _, _, _, _, _]) d_X_drifts_55 (by decide) rfl ?_
            refine tt_lconst (v := lN 0) d_X_drifts_57 (by decide) ?_
            refine tt_lstore (lv2 := [_, _, _, _, _, _, _, _, _, _, _]) d_X_drifts_58 (by decide) rfl ?_
            refine tt_bipush (v := nI 10) d_X_drifts_60 (by decide) ?_
            refine tt_iload_n d_X_drifts_62 rfl ?_
            refine tt_callS (x_bitN (d := d) (by omega)) cw_Integer_bitCount rfl (by omega) d_X_drifts_63 rfl rfl (Nat.le_of_ble_eq_true rfl) (Nat.le_of_ble_eq_true rfl) rfl rfl rfl (fun v σ2 q => ?_)
            obtain ⟨rfl, e9⟩ := q
            rw [e9]
            clear e9
            refine tt_callS (x_power (d := d) (by omega) (by omega)) cw_X_power rfl (by omega) d_X_drifts_66 rfl rfl (Nat.le_of_ble_eq_true rfl) (Nat.le_of_ble_eq_true rfl) rfl rfl rfl (fun v σ2 q => ?_)
            obtain ⟨rfl, e9⟩ := q
            rw [e9]
            clear e9
            refine tt_lstore (lv2 := [_, _, _, _, _, _, _, _, _, _, _]) d_X_drifts_69 (by decide) rfl ?_
            refine tt_iconst (v := nI 0) d_X_drifts_71 (by decide) ?_
            refine tt_istore (lv2 := [_, _, _, _, _, _, _, _, _, _, _]) d_X_drifts_72 (by decide) rfl ?_
            have q := x_drifts_l (l := l) (d := d) hn2 ⟨hk1, hk2⟩ ho (2 ^ eN (wE w)) 0 0 none _ rfl (Nat.zero_le _) h hM rfl
            rw [e4] at q
            exact q
          · have e4 : (if n = 4 then -2 else nI n) = (-2 : Int32) := if_pos c_46
            refine tt_bipush (v := (-2)) d_X_drifts_49 (by decide) ?_
            refine tt_goto (t := 55) d_X_drifts_51 (by decide) ?_
            refine tt_istore (lv2 := [_, _, _, _, _, _, _, _, _, _, _]) d_X_drifts_55 (by decide) rfl ?_
            refine tt_lconst (v := lN 0) d_X_drifts_57 (by decide) ?_
            refine tt_lstore (lv2 := [_, _, _, _, _, _, _, _, _, _, _]) d_X_drifts_58 (by decide) rfl ?_
            refine tt_bipush (v := nI 10) d_X_drifts_60 (by decide) ?_
            refine tt_iload_n d_X_drifts_62 rfl ?_
            refine tt_callS (x_bitN (d := d) (by omega)) cw_Integer_bitCount rfl (by omega) d_X_drifts_63 rfl rfl (Nat.le_of_ble_eq_true rfl) (Nat.le_of_ble_eq_true rfl) rfl rfl rfl (fun v σ2 q => ?_)
            obtain ⟨rfl, e9⟩ := q
            rw [e9]
            clear e9
            refine tt_callS (x_power (d := d) (by omega) (by omega)) cw_X_power rfl (by omega) d_X_drifts_66 rfl rfl (Nat.le_of_ble_eq_true rfl) (Nat.le_of_ble_eq_true rfl) rfl rfl rfl (fun v σ2 q => ?_)
            obtain ⟨rfl, e9⟩ := q
            rw [e9]
            clear e9
            refine tt_lstore (lv2 := [_, _, _, _, _, _, _, _, _, _, _]) d_X_drifts_69 (by decide) rfl ?_
            refine tt_iconst (v := nI 0) d_X_drifts_71 (by decide) ?_
            refine tt_istore (lv2 := [_, _, _, _, _, _, _, _, _, _, _]) d_X_drifts_72 (by decide) rfl ?_
            have q := x_drifts_l (l := l) (d := d) hn2 ⟨hk1, hk2⟩ ho (2 ^ eN (wE w)) 0 0 none _ rfl (Nat.zero_le _) h hM rfl
            rw [e4] at q
            exact q
        · omega
    · have hqv : q_drifts w (nI n) b = (-1, none) := by unfold q_drifts; rw [hq1, hq2]
      rw [hqv]
      refine tt_iload_n d_X_drifts_0 rfl ?_
      refine tn_if_lt (t := 19) (by omega) d_X_drifts_1 (by decide) ?_
      refine tt_iload_n d_X_drifts_4 rfl ?_
      refine tt_iconst (v := nI 4) d_X_drifts_5 (by decide) ?_
      refine tn_ic_gt (t := 19) (by omega) (by omega) d_X_drifts_6 (by decide) (fun c_6 => ?_) (fun c_6 => ?_)
      · omega
      · refine tt_iload_n d_X_drifts_9 rfl ?_
        refine tt_if_lt (t := 19) d_X_drifts_10 (by decide) (fun c_10 => ?_) (fun c_10 => ?_)
        · refine tt_iconst (v := (-1)) d_X_drifts_19 (by decide) ?_
          refine tt_iret rfl d_X_drifts_20 ?_
          exact ⟨rfl, h.none hd0, h.2.1⟩
        · refine tt_iload_n d_X_drifts_13 rfl ?_
          refine tt_bipush (v := nI 10) d_X_drifts_14 (by decide) ?_
          refine tt_ic_le (t := 21) d_X_drifts_16 (by decide) (fun c_16 => ?_) (fun c_16 => ?_)
          · exact (rg_f (a := 0) (b := 10) (by decide) (by decide) hb2 (by rw [nI_0]; exact c_10) c_16).elim
          · refine tt_iconst (v := (-1)) d_X_drifts_19 (by decide) ?_
            refine tt_iret rfl d_X_drifts_20 ?_
            exact ⟨rfl, h.none hd0, h.2.1⟩
  · have hqv : q_drifts w a b = (-1, none) := by unfold q_drifts; rw [hq1]
    rw [hqv]
    refine tt_iload_n d_X_drifts_0 rfl ?_
    refine tt_if_lt (t := 19) d_X_drifts_1 (by decide) (fun c_1 => ?_) (fun c_1 => ?_)
    · refine tt_iconst (v := (-1)) d_X_drifts_19 (by decide) ?_
      refine tt_iret rfl d_X_drifts_20 ?_
      exact ⟨rfl, h.none hd0, h.2.1⟩
    · refine tt_iload_n d_X_drifts_4 rfl ?_
      refine tt_iconst (v := nI 4) d_X_drifts_5 (by decide) ?_
      refine tt_ic_gt (t := 19) d_X_drifts_6 (by decide) (fun c_6 => ?_) (fun c_6 => ?_)
      · refine tt_iconst (v := (-1)) d_X_drifts_19 (by decide) ?_
        refine tt_iret rfl d_X_drifts_20 ?_
        exact ⟨rfl, h.none hd0, h.2.1⟩
      · exact (rg_f (a := 0) (b := 4) (by decide) (by decide) hb1 (by rw [nI_0]; exact c_1) (fa_nlt c_6)).elim

def cnT (m : Nat) : Nat → Nat := cnF (fun j => m.testBit j)
theorem bN_tb (m i : Nat) : bN (m.testBit i) = tbN m i := rfl
theorem pc_cn (m : Nat) : pcN m = cnT m 8 := by
  show tbN m 0 + tbN m 1 + tbN m 2 + tbN m 3 + tbN m 4 + tbN m 5 + tbN m 6 + tbN m 7 = 0 + tbN m 0 + tbN m 1 + tbN m 2 + tbN m 3 + tbN m 4 + tbN m 5 + tbN m 6 + tbN m 7
  omega
theorem cn_hi {m n : Nat} (h : m < 2 ^ n) : ∀ k, cnT m (n + k) = cnT m n
  | 0 => rfl
  | k + 1 => by
    show cnT m (n + k) + bN (m.testBit (n + k)) = _
    rw [cn_hi h k, Nat.testBit_lt_two_pow (Nat.lt_of_lt_of_le h (Nat.pow_le_pow_right (by decide) (by omega)))]; rfl
theorem pc_n {m n : Nat} (h : m < 2 ^ n) (hn : n ≤ 8) : pcN m = cnT m n := by
  rw [pc_cn, show 8 = n + (8 - n) by omega]; exact cn_hi h _
/-- the product over the fish, as the reference makes it -/
def drQ (P s p : Nat) : Nat → Nat
  | 0 => 1
  | k + 1 => drQ P s p k * (if P.testBit k = true then (if s.testBit k = true then 10 - p else p) else 1)
theorem drQ_e {P s p : Nat} (h : dfN s P = 0) : ∀ k, drQ P s p k = p ^ cnT (dfN P s) k * (10 - p) ^ cnT s k
  | 0 => rfl
  | k + 1 => by
    have hs := dfN_0.mp h k
    show drQ P s p k * _ = p ^ (cnT (dfN P s) k + bN ((dfN P s).testBit k)) * (10 - p) ^ (cnT s k + bN (s.testBit k))
    rw [drQ_e h k, dfN_t]
    by_cases c : s.testBit k = true
    · rw [hs c, c, if_pos rfl, if_pos rfl]
      show _ = p ^ (cnT (dfN P s) k + 0) * (10 - p) ^ (cnT s k + 1)
      rw [Nat.add_zero, Nat.pow_succ, Nat.mul_assoc]
    · rw [Bool.eq_false_iff.mpr c]
      by_cases e : P.testBit k = true
      · rw [e, if_pos rfl, if_neg (by decide)]
        show _ = p ^ (cnT (dfN P s) k + 1) * (10 - p) ^ (cnT s k + 0)
        rw [Nat.pow_succ, Nat.mul_right_comm, Nat.add_zero]
      · rw [Bool.eq_false_iff.mpr e, if_neg (by decide)]
        show _ = p ^ (cnT (dfN P s) k + 0) * (10 - p) ^ (cnT s k + 0)
        rw [Nat.add_zero, Nat.add_zero, Nat.mul_one]
theorem drQ_T {w : wv} {p s : Nat} (ho : okQ w) (h : dfN s (drP w) = 0) : drQ (drP w) s p (eN (wE w)) = drT w p s := by
  have h1 : drP w < 2 ^ eN (wE w) := puN_lt2 _ _ _
  have h2 := dfN_le h
  have h3 : dfN (drP w) s < 2 ^ eN (wE w) := dfN_lt h1
  rw [drQ_e h]
  show _ = p ^ pcN (dfN (drP w) s) * (10 - p) ^ pcN s
  rw [pc_n h3 ho.n8, pc_n (show s < 2 ^ eN (wE w) by omega) ho.n8]
set_option maxHeartbeats 4000000 in
theorem y_dr2 {l : xLa} {d : Nat} {σ : xs} {c : Nat} {w : wv} {wy pp s n f : Nat} (hs : s < 256) (hp : pp ≤ 10) (ho : okQ w) : ∀ (m : Nat) (k q : Nat) (τ : xs), eN (wE w) - k = m → k ≤ eN (wE w) → YQ c w σ τ → (∀ j, j < eN (wE w) → si τ 169 j = plV (wE w) (wV w) j) → q = f * drQ (drP w) s pp k → (∀ τ, YQ c w σ τ → (∀ j, j < eN (wE w) → si τ 169 j = plV (wE w) (wV w) j) → T l M_Y_drifts (d + 150) 176 [some (.ref 154), some (.int (nI wy)), some (.int (nI pp)), some (.int (nI (drP w))), some (.long (lN n)), none, some (.long (lN (drL w))), none, some (.int (nI s)), some (.long (lN (f * drQ (drP w) s pp (eN (wE w))))), none, some (.int (nI (eN (wE w))))] [] τ (fun r τ => r = some (.int (nI 0)) ∧ YW τ c (stD w (some [lN (drU w wy pp / Nat.gcd (drU w wy pp) (drL w)), lN (drL w / Nat.gcd (drU w wy pp) (drL w))])) ∧ YF σ τ)) → T l M_Y_drifts (d + 150) 121 [some (.ref 154), some (.int (nI wy)), some (.int (nI pp)), some (.int (nI (drP w))), some (.long (lN n)), none, some (.long (lN (drL w))), none, some (.int (nI s)), some (.long (lN q)), none, some (.int (nI k))] [] τ (fun r τ => r = some (.int (nI 0)) ∧ YW τ c (stD w (some [lN (drU w wy pp / Nat.gcd (drU w wy pp) (drL w)), lN (drL w / Nat.gcd (drU w wy pp) (drL w))])) ∧ YF σ τ) := by
  have hb0 := ho.fb
  have hb8 := ho.n8
  intro m
  induction m using Nat.strongRecOn with
  | ind m ih =>
    intro k q τ hm hk0 h hM hq hk
    have hpl : drP w < 256 := puN_lt (wE w) (wV w) ho.n8
    have ht1 := tbN_c (drP w) k
    have ht2 := tbN_c s k
    have hqs : drQ (drP w) s pp (k + 1) = drQ (drP w) s pp k * (if (drP w).testBit k = true then (if s.testBit k = true then 10 - pp else pp) else 1) := rfl
    refine tt_iload d_Y_drifts_121 rfl ?_
    refine tt_aload_n d_Y_drifts_123 rfl ?_
    refine tn_get d_Y_drifts_124 rfl rfl (by decide) rfl h.e.1.2.2.1 ?_
    refine tn_ic_ge (t := 176) (by omega) (by omega) d_Y_drifts_127 (by decide) (fun c_127 => ?_) (fun c_127 => ?_)
    · obtain rfl : k = eN (wE w) := by omega
      subst hq
      exact hk _ h hM
    · refine tt_lload d_Y_drifts_130 rfl ?_
      refine tt_iload_n d_Y_drifts_132 rfl ?_
      refine tt_i2l d_Y_drifts_133 ?_
      refine tt_iload d_Y_drifts_134 rfl ?_
      refine tt_callS (y_hasN (d := d) (by omega) (by omega)) cw_Y_has rfl (by omega) d_Y_drifts_136 rfl rfl (Nat.le_of_ble_eq_true rfl) (Nat.le_of_ble_eq_true rfl) rfl rfl rfl (fun v σ2 q => ?_)
      obtain ⟨rfl, e9⟩ := q
      rw [e9]
      clear e9
      refine tn_if_ne (t := 146) (by omega) d_Y_drifts_139 (by decide) (fun c_139 => ?_) (fun c_139 => ?_)
      · have hP := ht1.2.1.mp (by omega)
        refine tt_iload d_Y_drifts_146 rfl ?_
        refine tt_i2l d_Y_drifts_148 ?_
        refine tt_iload d_Y_drifts_149 rfl ?_
        refine tt_callS (y_hasN (d := d) (by omega) (by omega)) cw_Y_has rfl (by omega) d_Y_drifts_151 rfl rfl (Nat.le_of_ble_eq_true rfl) (Nat.le_of_ble_eq_true rfl) rfl rfl rfl (fun v σ2 q => ?_)
        obtain ⟨rfl, e9⟩ := q
        rw [e9]
        clear e9
        refine tn_if_eq (t := 165) (by omega) d_Y_drifts_154 (by decide) (fun c_154 => ?_) (fun c_154 => ?_)
        · have hz : q * pp = f * drQ (drP w) s pp (k + 1) := by rw [hqs, if_pos hP, if_neg (ht2.2.2.mp c_154), hq, Nat.mul_assoc]
          refine tt_iload_n d_Y_drifts_165 rfl ?_
          refine tt_i2l d_Y_drifts_166 ?_
          refine tt_topL (nI_l (by omega)) ?_
          refine tt_lmul d_Y_drifts_167 ?_
          refine tt_topL (lN_mul _ _) ?_
          refine tt_lstore (lv2 := [_, _, _, _, _, _, _, _, _, _, _, _]) d_Y_drifts_168 (by decide) rfl ?_
          refine tt_iinc (lv2 := [_, _, _, _, _, _, _, _, _, _, _, _]) d_Y_drifts_170 rfl (nI_inc _ 1) (by decide) rfl ?_
          refine tt_goto (t := 121) d_Y_drifts_173 (by decide) ?_
          exact ih (eN (wE w) - (k + 1)) (by omega) (k + 1) _ _ rfl (by omega) h hM hz hk
        · have hz : q * (10 - pp) = f * drQ (drP w) s pp (k + 1) := by rw [hqs, if_pos hP, if_pos (ht2.2.1.mp (by omega)), hq, Nat.mul_assoc]
          refine tt_bipush (v := nI 10) d_Y_drifts_157 (by decide) ?_
          refine tt_iload_n d_Y_drifts_159 rfl ?_
          refine tn_isub (by omega) d_Y_drifts_160 ?_
          refine tt_i2l d_Y_drifts_161 ?_
          refine tt_topL (nI_l (by omega)) ?_
          refine tt_goto (t := 167) d_Y_drifts_162 (by decide) ?_
          refine tt_lmul d_Y_drifts_167 ?_
          refine tt_topL (lN_mul _ _) ?_
          refine tt_lstore (lv2 := [_, _, _, _, _, _, _, _, _, _, _, _]) d_Y_drifts_168 (by decide) rfl ?_
          refine tt_iinc (lv2 := [_, _, _, _, _, _, _, _, _, _, _, _]) d_Y_drifts_170 rfl (nI_inc _ 1) (by decide) rfl ?_
          refine tt_goto (t := 121) d_Y_drifts_173 (by decide) ?_
          exact ih (eN (wE w) - (k + 1)) (by omega) (k + 1) _ _ rfl (by omega) h hM hz hk
      · have hz : q * 1 = f * drQ (drP w) s pp (k + 1) := by rw [hqs, if_neg (ht1.2.2.mp c_139), hq, Nat.mul_one, Nat.mul_one]
        refine tt_lconst (v := lN 1) d_Y_drifts_142 (by decide) ?_
        refine tt_goto (t := 167) d_Y_drifts_143 (by decide) ?_
        refine tt_lmul d_Y_drifts_167 ?_
        refine tt_topL (lN_mul _ _) ?_
        refine tt_lstore (lv2 := [_, _, _, _, _, _, _, _, _, _, _, _]) d_Y_drifts_168 (by decide) rfl ?_
        refine tt_iinc (lv2 := [_, _, _, _, _, _, _, _, _, _, _, _]) d_Y_drifts_170 rfl (nI_inc _ 1) (by decide) rfl ?_
        refine tt_goto (t := 121) d_Y_drifts_173 (by decide) ?_
        exact ih (eN (wE w) - (k + 1)) (by omega) (k + 1) _ _ rfl (by omega) h hM hz hk

theorem yq_tells {l : xLa} {d c : Nat} {σ τ : xs} {w : wv} {a b : Nat} (h : YQ c w σ τ) (ha : a < 2 ^ 62) (hb0 : 0 < b) (hb : b < 2 ^ 62) : TC l M_Y_tellsFraction (d + 130) [.ref 154, .long (lN a), .long (lN b)] τ (fun r υ => r = none ∧ YQ c w σ υ ∧ YD υ (dL [lN (a / Nat.gcd a b), lN (b / Nat.gcd a b)])) := by
  have hg0 : 0 < Nat.gcd a b := Nat.gcd_pos_of_pos_right a hb0
  have hg : Nat.gcd a b ≤ b := Nat.gcd_le_right a hb0
  show T l M_Y_tellsFraction (d + 130) 0 _ [] τ _
  refine tt_lload_n d_Y_tellsFraction_0 rfl ?_
  refine tt_lload_n d_Y_tellsFraction_1 rfl ?_
  refine tt_callS ((y_common (d := d) 62 a b (by omega) (by omega)).1 hb) cw_Y_common rfl (by omega) d_Y_tellsFraction_2 rfl rfl (Nat.le_of_ble_eq_true rfl) (Nat.le_of_ble_eq_true rfl) rfl rfl rfl (fun v σ2 q => ?_)
  obtain ⟨rfl, e9⟩ := q
  rw [e9, Nat.gcd_comm]
  clear e9
  refine tt_lstore (lv2 := [_, _, _, _, _, _, _]) d_Y_tellsFraction_5 (by decide) rfl ?_
  refine tt_aload_n d_Y_tellsFraction_7 rfl ?_
  refine tt_iconst (v := nI 0) d_Y_tellsFraction_8 (by decide) ?_
  refine tt_putI d_Y_tellsFraction_9 rfl rfl (by decide) rfl (xpok_int rfl) rfl ?_
  replace h := h.td0
  have hd := YD_0t h
  refine tt_aload_n d_Y_tellsFraction_12 rfl ?_
  refine tt_lload_n d_Y_tellsFraction_13 rfl ?_
  refine tt_lload d_Y_tellsFraction_14 rfl ?_
  refine tt_ldiv d_Y_tellsFraction_16 (lN_ne (by omega) (by omega)) ?_
  refine tt_topL (pk_lDiv (by omega) (by omega) (by omega)) ?_
  refine tt_callV (yq_add (d := d) h hd (Nat.le_of_ble_eq_true rfl)) cw_Y_enters rfl rfl (by decide) rfl (by omega) d_Y_tellsFraction_17 rfl rfl (Nat.le_of_ble_eq_true rfl) (Nat.le_of_ble_eq_true rfl) rfl rfl rfl (fun v σ2 q => ?_)
  obtain ⟨rfl, h, hd, hf⟩ := q
  refine tt_aload_n d_Y_tellsFraction_20 rfl ?_
  refine tt_lload_n d_Y_tellsFraction_21 rfl ?_
  refine tt_lload d_Y_tellsFraction_22 rfl ?_
  refine tt_ldiv d_Y_tellsFraction_24 (lN_ne (by omega) (by omega)) ?_
  refine tt_topL (pk_lDiv (by omega) (by omega) (by omega)) ?_
  refine tt_callV (yq_add (d := d) h hd (Nat.le_of_ble_eq_true rfl)) cw_Y_enters rfl rfl (by decide) rfl (by omega) d_Y_tellsFraction_25 rfl rfl (Nat.le_of_ble_eq_true rfl) (Nat.le_of_ble_eq_true rfl) rfl rfl rfl (fun v σ2 q => ?_)
  obtain ⟨rfl, h, hd, hf⟩ := q
  refine tt_vret rfl d_Y_tellsFraction_28 ?_
  exact ⟨rfl, h, hd⟩

set_option maxHeartbeats 4000000 in
theorem y_dr1 {l : xLa} {d : Nat} {σ : xs} {c : Nat} {w : wv} {wy pp : Nat} (hw4 : wy ≤ 4) (hp : pp ≤ 10) (ho : okQ w) : ∀ (m : Nat) (s n : Nat) (z9 : Option Int64) (z11 : Option Int32) (τ : xs), drP w + 1 - s = m → s ≤ drP w + 1 → YQ c w σ τ → (∀ j, j < eN (wE w) → si τ 169 j = plV (wE w) (wV w) j) → n = drF w wy pp s → T l M_Y_drifts (d + 150) 78 [some (.ref 154), some (.int (nI wy)), some (.int (nI pp)), some (.int (nI (drP w))), some (.long (lN n)), none, some (.long (lN (drL w))), none, some (.int (nI s)), z9.map Value.long, none, z11.map Value.int] [] τ (fun r τ => r = some (.int (nI 0)) ∧ YW τ c (stD w (some [lN (drU w wy pp / Nat.gcd (drU w wy pp) (drL w)), lN (drL w / Nat.gcd (drU w wy pp) (drL w))])) ∧ YF σ τ) := by
  have hb0 := ho.fb
  have hb8 := ho.n8
  intro m
  induction m using Nat.strongRecOn with
  | ind m ih =>
    intro s n z9 z11 τ hm hs h hM hbb
    have hpl : drP w < 256 := puN_lt (wE w) (wV w) ho.n8
    have hdl := dfN_lt (b := drP w) (show s < 2 ^ 30 by omega)
    have hg4 := g4_c (goV_lt (e := wE w) (v := wV w) (z := nI s))
    have hup := drF_le (w := w) (wy := wy) hp s
    rw [← hbb] at hup
    have hlc := drL_c w
    refine tt_iload d_Y_drifts_78 rfl ?_
    refine tt_iload_n d_Y_drifts_80 rfl ?_
    refine tn_ic_gt (t := 189) (by omega) (by omega) d_Y_drifts_81 (by decide) (fun c_81 => ?_) (fun c_81 => ?_)
    · obtain rfl : s = drP w + 1 := by omega
      replace hbb : n = drU w wy pp := hbb
      rw [← hbb]
      refine tt_aload_n d_Y_drifts_189 rfl ?_
      refine tt_lload d_Y_drifts_190 rfl ?_
      refine tt_lload d_Y_drifts_192 rfl ?_
      refine tt_callV (yq_tells (d := d) h (by omega) (by omega) (by omega)) cw_Y_tellsFraction rfl rfl (by decide) rfl (by omega) d_Y_drifts_194 rfl rfl (Nat.le_of_ble_eq_true rfl) (Nat.le_of_ble_eq_true rfl) rfl rfl rfl (fun v σ2 q => ?_)
      obtain ⟨rfl, h, hd⟩ := q
      refine tt_iconst (v := nI 0) d_Y_drifts_197 (by decide) ?_
      refine tt_iret rfl d_Y_drifts_198 ?_
      exact ⟨rfl, h.done hd, h.2⟩
    · refine tt_iload d_Y_drifts_84 rfl ?_
      refine tt_iload_n d_Y_drifts_86 rfl ?_
      refine tt_iconst (v := (-1)) d_Y_drifts_87 (by decide) ?_
      refine tt_ixor d_Y_drifts_88 ?_
      refine tt_iand d_Y_drifts_89 ?_
      refine tt_top (an_N _ _) ?_
      refine tn_if_ne (t := 111) (by omega) d_Y_drifts_90 (by decide) (fun c_90 => ?_) (fun c_90 => ?_)
      · have hz := dr_f hbb (fun q => absurd q c_90)
        refine tt_iconst (v := nI 0) d_Y_drifts_111 (by decide) ?_
        refine tt_callS (y_flagN (d := d) (by omega)) cw_Y_flag rfl (by omega) d_Y_drifts_112 rfl rfl (Nat.le_of_ble_eq_true rfl) (Nat.le_of_ble_eq_true rfl) rfl rfl rfl (fun v σ2 q => ?_)
        obtain ⟨rfl, e9⟩ := q
        rw [e9]
        clear e9
        refine tt_i2l d_Y_drifts_115 ?_
        refine tt_topL (nI_l (by omega)) ?_
        refine tt_lstore (lv2 := [_, _, _, _, _, _, _, _, _, _, _, _]) d_Y_drifts_116 (by decide) rfl ?_
        refine tt_iconst (v := nI 0) d_Y_drifts_118 (by decide) ?_
        refine tt_istore (lv2 := [_, _, _, _, _, _, _, _, _, _, _, _]) d_Y_drifts_119 (by decide) rfl ?_
        refine y_dr2 (f := 0) (by omega) hp ho (eN (wE w)) 0 _ _ rfl (by omega) h hM (by show 0 = 0 * 1; omega) (fun τ h hM => ?_)
        refine tt_lload d_Y_drifts_176 rfl ?_
        refine tt_lload d_Y_drifts_178 rfl ?_
        refine tt_ladd d_Y_drifts_180 ?_
        refine tt_topL (lN_add _ _) ?_
        rw [Nat.zero_mul, Nat.add_zero]
        refine tt_lstore (lv2 := [_, _, _, _, _, _, _, _, _, _, _, _]) d_Y_drifts_181 (by decide) rfl ?_
        refine tt_iinc (lv2 := [_, _, _, _, _, _, _, _, _, _, _, _]) d_Y_drifts_183 rfl (nI_inc _ 1) (by decide) rfl ?_
        refine tt_goto (t := 78) d_Y_drifts_186 (by decide) ?_
        exact ih (drP w + 1 - (s + 1)) (by omega) (s + 1) _ (some _) (some _) _ rfl (by omega) h hM hz
      · refine tt_aload_n d_Y_drifts_93 rfl ?_
        refine tt_aload_n d_Y_drifts_94 rfl ?_
        refine tt_getR d_Y_drifts_95 rfl rfl (by decide) rfl rfl ?_
        refine tt_iload d_Y_drifts_98 rfl ?_
        refine tt_callV (yq_goesBy (d := d) (ms := s) h (by omega) ho.1 ho.2.1 hM) cw_Y_goesBy rfl rfl (by decide) rfl (by omega) d_Y_drifts_100 rfl rfl (Nat.le_of_ble_eq_true rfl) (Nat.le_of_ble_eq_true rfl) rfl rfl rfl (fun v σ2 q => ?_)
        obtain ⟨rfl, h, hu, hM, -⟩ := q
        refine tt_iload_n d_Y_drifts_103 rfl ?_
        refine tn_ic_ne (t := 111) (by omega) (by omega) d_Y_drifts_104 (by decide) (fun c_104 => ?_) (fun c_104 => ?_)
        · have hz := dr_f hbb (fun _ q => c_104 q)
          refine tt_iconst (v := nI 0) d_Y_drifts_111 (by decide) ?_
          refine tt_callS (y_flagN (d := d) (by omega)) cw_Y_flag rfl (by omega) d_Y_drifts_112 rfl rfl (Nat.le_of_ble_eq_true rfl) (Nat.le_of_ble_eq_true rfl) rfl rfl rfl (fun v σ2 q => ?_)
          obtain ⟨rfl, e9⟩ := q
          rw [e9]
          clear e9
          refine tt_i2l d_Y_drifts_115 ?_
          refine tt_topL (nI_l (by omega)) ?_
          refine tt_lstore (lv2 := [_, _, _, _, _, _, _, _, _, _, _, _]) d_Y_drifts_116 (by decide) rfl ?_
          refine tt_iconst (v := nI 0) d_Y_drifts_118 (by decide) ?_
          refine tt_istore (lv2 := [_, _, _, _, _, _, _, _, _, _, _, _]) d_Y_drifts_119 (by decide) rfl ?_
          refine y_dr2 (f := 0) (by omega) hp ho (eN (wE w)) 0 _ _ rfl (by omega) h hM (by show 0 = 0 * 1; omega) (fun τ h hM => ?_)
          refine tt_lload d_Y_drifts_176 rfl ?_
          refine tt_lload d_Y_drifts_178 rfl ?_
          refine tt_ladd d_Y_drifts_180 ?_
          refine tt_topL (lN_add _ _) ?_
          rw [Nat.zero_mul, Nat.add_zero]
          refine tt_lstore (lv2 := [_, _, _, _, _, _, _, _, _, _, _, _]) d_Y_drifts_181 (by decide) rfl ?_
          refine tt_iinc (lv2 := [_, _, _, _, _, _, _, _, _, _, _, _]) d_Y_drifts_183 rfl (nI_inc _ 1) (by decide) rfl ?_
          refine tt_goto (t := 78) d_Y_drifts_186 (by decide) ?_
          exact ih (drP w + 1 - (s + 1)) (by omega) (s + 1) _ (some _) (some _) _ rfl (by omega) h hM hz
        · have hz := dr_t hbb c_90 c_104
          rw [← drQ_T ho c_90] at hz
          refine tt_iconst (v := nI 1) d_Y_drifts_107 (by decide) ?_
          refine tt_goto (t := 112) d_Y_drifts_108 (by decide) ?_
          refine tt_callS (y_flagN (d := d) (by omega)) cw_Y_flag rfl (by omega) d_Y_drifts_112 rfl rfl (Nat.le_of_ble_eq_true rfl) (Nat.le_of_ble_eq_true rfl) rfl rfl rfl (fun v σ2 q => ?_)
          obtain ⟨rfl, e9⟩ := q
          rw [e9]
          clear e9
          refine tt_i2l d_Y_drifts_115 ?_
          refine tt_topL (nI_l (by omega)) ?_
          refine tt_lstore (lv2 := [_, _, _, _, _, _, _, _, _, _, _, _]) d_Y_drifts_116 (by decide) rfl ?_
          refine tt_iconst (v := nI 0) d_Y_drifts_118 (by decide) ?_
          refine tt_istore (lv2 := [_, _, _, _, _, _, _, _, _, _, _, _]) d_Y_drifts_119 (by decide) rfl ?_
          refine y_dr2 (f := 1) (by omega) hp ho (eN (wE w)) 0 _ _ rfl (by omega) h hM (by show 1 = 1 * 1; omega) (fun τ h hM => ?_)
          refine tt_lload d_Y_drifts_176 rfl ?_
          refine tt_lload d_Y_drifts_178 rfl ?_
          refine tt_ladd d_Y_drifts_180 ?_
          refine tt_topL (lN_add _ _) ?_
          rw [Nat.one_mul]
          refine tt_lstore (lv2 := [_, _, _, _, _, _, _, _, _, _, _, _]) d_Y_drifts_181 (by decide) rfl ?_
          refine tt_iinc (lv2 := [_, _, _, _, _, _, _, _, _, _, _, _]) d_Y_drifts_183 rfl (nI_inc _ 1) (by decide) rfl ?_
          refine tt_goto (t := 78) d_Y_drifts_186 (by decide) ?_
          exact ih (drP w + 1 - (s + 1)) (by omega) (s + 1) _ (some _) (some _) _ rfl (by omega) h hM hz

theorem dec1 {k : Nat} (h : 0 < k) : nI k + Int32.ofInt (-1) = nI (k - 1) := by
  obtain ⟨j, rfl⟩ : ∃ j, k = j + 1 := ⟨k - 1, by omega⟩
  exact pk_m1 j
set_option maxHeartbeats 4000000 in
theorem y_dr0 {l : xLa} {d : Nat} {σ : xs} {c : Nat} {w : wv} {wy pp : Nat} (hw4 : wy ≤ 4) (hp : pp ≤ 10) (ho : okQ w) : ∀ (m : Nat) (k n : Nat) (τ : xs), k = m → k ≤ pcN (drP w) → YQ c w σ τ → (∀ j, j < eN (wE w) → si τ 169 j = plV (wE w) (wV w) j) → n = 10 ^ (pcN (drP w) - k) → T l M_Y_drifts (d + 150) 56 [some (.ref 154), some (.int (nI wy)), some (.int (nI pp)), some (.int (nI (drP w))), some (.long (lN 0)), none, some (.long (lN n)), none, some (.int (nI k)), none, none, none] [] τ (fun r τ => r = some (.int (nI 0)) ∧ YW τ c (stD w (some [lN (drU w wy pp / Nat.gcd (drU w wy pp) (drL w)), lN (drL w / Nat.gcd (drU w wy pp) (drL w))])) ∧ YF σ τ) := by
  have hb0 := ho.fb
  have hb8 := ho.n8
  intro m
  induction m using Nat.strongRecOn with
  | ind m ih =>
    intro k n τ hm hk h hM hn
    have hpc := pcN_le (drP w)
    refine tt_iload d_Y_drifts_56 rfl ?_
    refine tn_if_le (t := 75) (by omega) d_Y_drifts_58 (by decide) (fun c_58 => ?_) (fun c_58 => ?_)
    · have hn2 : n = drL w := by rw [hn, c_58]; rfl
      subst hn2
      refine tt_iconst (v := nI 0) d_Y_drifts_75 (by decide) ?_
      refine tt_istore (lv2 := [_, _, _, _, _, _, _, _, _, _, _, _]) d_Y_drifts_76 (by decide) rfl ?_
      exact y_dr1 hw4 hp ho (drP w + 1) 0 0 none none _ rfl (by omega) h hM rfl
    · have hz : n * 10 = 10 ^ (pcN (drP w) - (k - 1)) := by rw [hn, show pcN (drP w) - (k - 1) = (pcN (drP w) - k) + 1 by omega, Nat.pow_succ]
      refine tt_lload d_Y_drifts_61 rfl ?_
      refine tt_ldc2_w d_Y_drifts_63 rfl ?_
      refine tt_topL (y := lN 10) rfl ?_
      refine tt_lmul d_Y_drifts_66 ?_
      refine tt_topL (lN_mul _ _) ?_
      refine tt_lstore (lv2 := [_, _, _, _, _, _, _, _, _, _, _, _]) d_Y_drifts_67 (by decide) rfl ?_
      refine tt_iinc (lv2 := [_, _, _, _, _, _, _, _, _, _, _, _]) d_Y_drifts_69 rfl (dec1 (by omega)) (by decide) rfl ?_
      refine tt_goto (t := 56) d_Y_drifts_72 (by decide) ?_
      exact ih (k - 1) (by omega) (k - 1) _ _ rfl (by omega) h hM hz

set_option maxHeartbeats 4000000 in
theorem yc_drifts {l : xLa} {d c : Nat} {σ : xs} {w : wv} (ho : okQ w) (hw : YW σ c w) {a b : Int32} : TC l M_Y_drifts (d + 150) [.ref 154, .int a, .int b] σ (fun r τ => r = some (.int ((q_drifts w a b).1)) ∧ YW τ c (stD w ((q_drifts w a b).2)) ∧ YF σ τ) := by
  show T l M_Y_drifts (d + 150) 0 _ [] σ _
  refine T_lv (lv2 := [_, _, _, _, _, _, _, _, _, _, _, _]) rfl ?_
  have h := YQ.rf hw.v
  have hd0 := hw.2.2.2.1
  have hb0 := ho.fb
  have hb8 := ho.n8
  rcases rgN_c a 0 4 with ⟨n, hn1, hn2, hn3, rfl, hq1⟩ | ⟨hq1, hb1⟩
  · rcases rgN_c b 0 10 with ⟨k, hk1, hk2, hk3, rfl, hq2⟩ | ⟨hq2, hb2⟩
    · unfold q_drifts
      rw [hq1, hq2]
      dsimp only
      refine tt_aload_n d_Y_drifts_0 rfl ?_
      refine tt_iconst (v := nI 0) d_Y_drifts_1 (by decide) ?_
      refine tt_putI d_Y_drifts_2 rfl rfl (by decide) rfl (xpok_int rfl) rfl ?_
      replace h := h.thr (x := nI 0)
      replace hd0 := hd0.thr (x := nI 0)
      refine tt_iload_n d_Y_drifts_5 rfl ?_
      refine tt_i2l d_Y_drifts_6 ?_
      refine tt_lconst (v := 0) d_Y_drifts_7 (by decide) ?_
      refine tt_ldc2_w d_Y_drifts_8 rfl ?_
      refine tt_callS (y_in (d := d)) cw_Y_in rfl (by omega) d_Y_drifts_11 rfl rfl (Nat.le_of_ble_eq_true rfl) (Nat.le_of_ble_eq_true rfl) rfl rfl rfl (fun v σ2 q => ?_)
      obtain ⟨rfl, e9⟩ := q
      rw [e9, show Yin (nI n).toInt64 0 4 = nI 1 from Yin_t (a := 0) (b := 4) rfl rfl (by omega) (by omega) (by decide)]
      clear e9
      refine tn_if_eq (t := 29) (by omega) d_Y_drifts_14 (by decide) (fun c_14 => ?_) (fun c_14 => ?_)
      · exact absurd c_14 (by decide)
      · refine tt_iload_n d_Y_drifts_17 rfl ?_
        refine tt_i2l d_Y_drifts_18 ?_
        refine tt_lconst (v := 0) d_Y_drifts_19 (by decide) ?_
        refine tt_ldc2_w d_Y_drifts_20 rfl ?_
        refine tt_callS (y_in (d := d)) cw_Y_in rfl (by omega) d_Y_drifts_23 rfl rfl (Nat.le_of_ble_eq_true rfl) (Nat.le_of_ble_eq_true rfl) rfl rfl rfl (fun v σ2 q => ?_)
        obtain ⟨rfl, e9⟩ := q
        rw [e9, show Yin (nI k).toInt64 0 10 = nI 1 from Yin_t (a := 0) (b := 10) rfl rfl (by omega) (by omega) (by decide)]
        clear e9
        refine tn_if_ne (t := 31) (by omega) d_Y_drifts_26 (by decide) (fun c_26 => ?_) (fun c_26 => ?_)
        · refine tt_aload_n d_Y_drifts_31 rfl ?_
          refine tt_aload_n d_Y_drifts_32 rfl ?_
          refine tt_getR d_Y_drifts_33 rfl rfl (by decide) rfl rfl ?_
          refine tt_callV (yq_pulls (d := d) h ho.1 ho.2.1) cw_Y_laysPulls rfl rfl (by decide) rfl (by omega) d_Y_drifts_36 rfl rfl (Nat.le_of_ble_eq_true rfl) (Nat.le_of_ble_eq_true rfl) rfl rfl rfl (fun v σ2 q => ?_)
          obtain ⟨rfl, h, hu, hM⟩ := q
          replace hd0 := hd0.un hu
          refine tt_aload_n d_Y_drifts_39 rfl ?_
          refine tt_callV (y_pusN (d := d) ho.1 h.e.1.2.2.1 hM) cw_Y_pulling rfl rfl (by decide) rfl (by omega) d_Y_drifts_40 rfl rfl (Nat.le_of_ble_eq_true rfl) (Nat.le_of_ble_eq_true rfl) rfl rfl rfl (fun v σ2 q => ?_)
          obtain ⟨rfl, e9⟩ := q
          rw [e9]
          clear e9
          have hpl := puN_lt (wE w) (wV w) ho.n8
          refine tt_istore_n (lv2 := [_, _, _, _, _, _, _, _, _, _, _, _]) d_Y_drifts_43 (by decide) rfl ?_
          refine tt_lconst (v := lN 0) d_Y_drifts_44 (by decide) ?_
          refine tt_lstore (lv2 := [_, _, _, _, _, _, _, _, _, _, _, _]) d_Y_drifts_45 (by decide) rfl ?_
          refine tt_lconst (v := lN 1) d_Y_drifts_47 (by decide) ?_
          refine tt_lstore (lv2 := [_, _, _, _, _, _, _, _, _, _, _, _]) d_Y_drifts_48 (by decide) rfl ?_
          refine tt_iload_n d_Y_drifts_50 rfl ?_
          refine tt_callS (x_bitN (d := d) (by omega)) cw_Integer_bitCount rfl (by omega) d_Y_drifts_51 rfl rfl (Nat.le_of_ble_eq_true rfl) (Nat.le_of_ble_eq_true rfl) rfl rfl rfl (fun v σ2 q => ?_)
          obtain ⟨rfl, e9⟩ := q
          rw [e9]
          clear e9
          refine tt_istore (lv2 := [_, _, _, _, _, _, _, _, _, _, _, _]) d_Y_drifts_54 (by decide) rfl ?_
          exact y_dr0 hn2 hk2 ho (pcN (drP w)) _ 1 _ rfl (Nat.le_refl _) h hM (by show 1 = 10 ^ (pcN (drP w) - pcN (drP w)); rw [Nat.sub_self, Nat.pow_zero])
        · exact absurd c_26 (by decide)
    · have hqv : q_drifts w (nI n) b = (-1, none) := by unfold q_drifts; rw [hq1, hq2]
      rw [hqv]
      refine tt_aload_n d_Y_drifts_0 rfl ?_
      refine tt_iconst (v := nI 0) d_Y_drifts_1 (by decide) ?_
      refine tt_putI d_Y_drifts_2 rfl rfl (by decide) rfl (xpok_int rfl) rfl ?_
      replace h := h.thr (x := nI 0)
      replace hd0 := hd0.thr (x := nI 0)
      refine tt_iload_n d_Y_drifts_5 rfl ?_
      refine tt_i2l d_Y_drifts_6 ?_
      refine tt_lconst (v := 0) d_Y_drifts_7 (by decide) ?_
      refine tt_ldc2_w d_Y_drifts_8 rfl ?_
      refine tt_callS (y_in (d := d)) cw_Y_in rfl (by omega) d_Y_drifts_11 rfl rfl (Nat.le_of_ble_eq_true rfl) (Nat.le_of_ble_eq_true rfl) rfl rfl rfl (fun v σ2 q => ?_)
      obtain ⟨rfl, e9⟩ := q
      rw [e9, show Yin (nI n).toInt64 0 4 = nI 1 from Yin_t (a := 0) (b := 4) rfl rfl (by omega) (by omega) (by decide)]
      clear e9
      refine tn_if_eq (t := 29) (by omega) d_Y_drifts_14 (by decide) (fun c_14 => ?_) (fun c_14 => ?_)
      · exact absurd c_14 (by decide)
      · refine tt_iload_n d_Y_drifts_17 rfl ?_
        refine tt_i2l d_Y_drifts_18 ?_
        refine tt_lconst (v := 0) d_Y_drifts_19 (by decide) ?_
        refine tt_ldc2_w d_Y_drifts_20 rfl ?_
        refine tt_callS (y_in (d := d)) cw_Y_in rfl (by omega) d_Y_drifts_23 rfl rfl (Nat.le_of_ble_eq_true rfl) (Nat.le_of_ble_eq_true rfl) rfl rfl rfl (fun v σ2 q => ?_)
        obtain ⟨rfl, e9⟩ := q
        rw [e9, show Yin b.toInt64 0 10 = nI 0 from Yin_f (a := 0) (b := 10) rfl rfl (by decide) (by decide) hb2]
        clear e9
        refine tn_if_ne (t := 31) (by omega) d_Y_drifts_26 (by decide) (fun c_26 => ?_) (fun c_26 => ?_)
        · exact absurd c_26 (by decide)
        · refine tt_iconst (v := (-1)) d_Y_drifts_29 (by decide) ?_
          refine tt_iret rfl d_Y_drifts_30 ?_
          exact ⟨rfl, h.none hd0, h.2⟩
  · have hqv : q_drifts w a b = (-1, none) := by unfold q_drifts; rw [hq1]
    rw [hqv]
    refine tt_aload_n d_Y_drifts_0 rfl ?_
    refine tt_iconst (v := nI 0) d_Y_drifts_1 (by decide) ?_
    refine tt_putI d_Y_drifts_2 rfl rfl (by decide) rfl (xpok_int rfl) rfl ?_
    replace h := h.thr (x := nI 0)
    replace hd0 := hd0.thr (x := nI 0)
    refine tt_iload_n d_Y_drifts_5 rfl ?_
    refine tt_i2l d_Y_drifts_6 ?_
    refine tt_lconst (v := 0) d_Y_drifts_7 (by decide) ?_
    refine tt_ldc2_w d_Y_drifts_8 rfl ?_
    refine tt_callS (y_in (d := d)) cw_Y_in rfl (by omega) d_Y_drifts_11 rfl rfl (Nat.le_of_ble_eq_true rfl) (Nat.le_of_ble_eq_true rfl) rfl rfl rfl (fun v σ2 q => ?_)
    obtain ⟨rfl, e9⟩ := q
    rw [e9, show Yin a.toInt64 0 4 = nI 0 from Yin_f (a := 0) (b := 4) rfl rfl (by decide) (by decide) hb1]
    clear e9
    refine tn_if_eq (t := 29) (by omega) d_Y_drifts_14 (by decide) (fun c_14 => ?_) (fun c_14 => ?_)
    · refine tt_iconst (v := (-1)) d_Y_drifts_29 (by decide) ?_
      refine tt_iret rfl d_Y_drifts_30 ?_
      exact ⟨rfl, h.none hd0, h.2⟩
    · exact absurd rfl c_14

