/-! Small things of the JDK; FishFerry$Told, School, Past, Sights, Fog. Printed by wip/whole. -/
def ush (x y : Int32) : Int32 := (x.toUInt32 >>> (y.toUInt32 &&& Int32.toUInt32 31)).toInt32
/-- Integer.bitCount, as it is reckoned -/
def xpc (x : Int32) : Int32 :=
  let i := x - (ush x (nI 1) &&& 1431655765)
  let i := (i &&& 858993459) + (ush i (nI 2) &&& 858993459)
  let i := (i + ush i (nI 4)) &&& 252645135
  let i := i + ush i (nI 8)
  let i := i + ush i (nI 16)
  i &&& nI 63
theorem xor_pos {a b : Nat} (ha : a < 2 ^ 31) (hb : b < 2 ^ 31) : 0 ≤ nI a ^^^ nI b := by
  have e : nI a ^^^ nI b = nI (a ^^^ b) := by
    apply Int32.toBitVec_inj.mp
    show (Int32.ofNat a).toBitVec ^^^ (Int32.ofNat b).toBitVec = (Int32.ofNat (a ^^^ b)).toBitVec
    simp only [Int32.toBitVec_ofNat']
    apply BitVec.eq_of_toNat_eq
    rw [BitVec.toNat_xor, BitVec.toNat_ofNat, BitVec.toNat_ofNat, BitVec.toNat_ofNat, Nat.mod_eq_of_lt (by omega), Nat.mod_eq_of_lt (by omega), Nat.mod_eq_of_lt (Nat.lt_trans (Nat.xor_lt_two_pow ha hb) (by decide))]
  rw [e]
  exact nI_pos' (Nat.xor_lt_two_pow ha hb)
theorem x_bitCount {l : xLa} {d : Nat} {σ : xs} {x : Int32} : TE l M_Integer_bitCount (d + 1) [.int x] σ (some (.int (xpc x))) (σ) := by
  show T l M_Integer_bitCount (d + 1) 0 _ [] σ _
  refine tt_iload_n d_Integer_bitCount_0 rfl ?_
  refine tt_iload_n d_Integer_bitCount_1 rfl ?_
  refine tt_iconst (v := nI 1) d_Integer_bitCount_2 (by decide) ?_
  refine tt_iushr d_Integer_bitCount_3 ?_
  refine tt_ldc_w d_Integer_bitCount_4 rfl ?_
  refine tt_iand d_Integer_bitCount_7 ?_
  refine tt_isub d_Integer_bitCount_8 ?_
  refine tt_istore_n d_Integer_bitCount_9 (by decide) rfl ?_
  refine tt_iload_n d_Integer_bitCount_10 rfl ?_
  refine tt_ldc_w d_Integer_bitCount_11 rfl ?_
  refine tt_iand d_Integer_bitCount_14 ?_
  refine tt_iload_n d_Integer_bitCount_15 rfl ?_
  refine tt_iconst (v := nI 2) d_Integer_bitCount_16 (by decide) ?_
  refine tt_iushr d_Integer_bitCount_17 ?_
  refine tt_ldc_w d_Integer_bitCount_18 rfl ?_
  refine tt_iand d_Integer_bitCount_21 ?_
  refine tt_iadd d_Integer_bitCount_22 ?_
  refine tt_istore_n d_Integer_bitCount_23 (by decide) rfl ?_
  refine tt_iload_n d_Integer_bitCount_24 rfl ?_
  refine tt_iload_n d_Integer_bitCount_25 rfl ?_
  refine tt_iconst (v := nI 4) d_Integer_bitCount_26 (by decide) ?_
  refine tt_iushr d_Integer_bitCount_27 ?_
  refine tt_iadd d_Integer_bitCount_28 ?_
  refine tt_ldc_w d_Integer_bitCount_29 rfl ?_
  refine tt_iand d_Integer_bitCount_32 ?_
  refine tt_istore_n d_Integer_bitCount_33 (by decide) rfl ?_
  refine tt_iload_n d_Integer_bitCount_34 rfl ?_
  refine tt_iload_n d_Integer_bitCount_35 rfl ?_
  refine tt_bipush (v := nI 8) d_Integer_bitCount_36 (by decide) ?_
  refine tt_iushr d_Integer_bitCount_38 ?_
  refine tt_iadd d_Integer_bitCount_39 ?_
  refine tt_istore_n d_Integer_bitCount_40 (by decide) rfl ?_
  refine tt_iload_n d_Integer_bitCount_41 rfl ?_
  refine tt_iload_n d_Integer_bitCount_42 rfl ?_
  refine tt_bipush (v := nI 16) d_Integer_bitCount_43 (by decide) ?_
  refine tt_iushr d_Integer_bitCount_45 ?_
  refine tt_iadd d_Integer_bitCount_46 ?_
  refine tt_istore_n d_Integer_bitCount_47 (by decide) rfl ?_
  refine tt_iload_n d_Integer_bitCount_48 rfl ?_
  refine tt_bipush (v := nI 63) d_Integer_bitCount_49 (by decide) ?_
  refine tt_iand d_Integer_bitCount_51 ?_
  refine tt_iret rfl d_Integer_bitCount_52 ?_
  exact ⟨rfl, rfl⟩

theorem x_floorMod {l : xLa} {d : Nat} {σ : xs} {a b : Nat} (ha : a < 2 ^ 31) (h0 : 0 < b) (hb : b < 2 ^ 31) : TE l M_Math_floorMod (d + 1) [.int (nI a), .int (nI b)] σ (some (.int (nI (a % b)))) (σ) := by
  show T l M_Math_floorMod (d + 1) 0 _ [] σ _
  refine tt_iload_n d_Math_floorMod_0 rfl ?_
  refine tt_iload_n d_Math_floorMod_1 rfl ?_
  refine tn_irem (by omega) (by omega) (by omega) d_Math_floorMod_2 ?_
  refine tt_istore_n d_Math_floorMod_3 (by decide) rfl ?_
  refine tt_iload_n d_Math_floorMod_4 rfl ?_
  refine tt_iload_n d_Math_floorMod_5 rfl ?_
  refine tt_ixor d_Math_floorMod_6 ?_
  refine tt_if_ge (t := 18) d_Math_floorMod_7 (by decide) (fun c_7 => ?_) (fun c_7 => ?_)
  · refine tt_iload_n d_Math_floorMod_18 rfl ?_
    refine tt_iret rfl d_Math_floorMod_19 ?_
    exact ⟨rfl, rfl⟩
  · exact absurd (xor_pos ha hb) c_7

theorem cpN_s {σ : xs} {a i : Nat} {v : Int32} {g : Nat → Int32} : wI (wA σ a (cpN (fun _ => v) g i)) a i v = wA σ a (cpN (fun _ => v) g (i + 1)) := by
  show (σ.1, up2 (si (wA σ a (cpN (fun _ => v) g i))) a i v, σ.2.2) = _
  have : up2 (si (wA σ a (cpN (fun _ => v) g i))) a i v = si (wA σ a (cpN (fun _ => v) g (i + 1))) := by
    funext b j
    rw [up2_at, si_wA, si_wA]
    unfold cpN
    by_cases hb : b = a
    · by_cases hj : j = i
      · simp [hb, hj]
      · simp only [hb, hj, and_false, if_false, if_true]
        by_cases h : j < i
        · rw [if_pos h, if_pos (by omega)]
        · rw [if_neg h, if_neg (by omega)]
    · simp [hb]
  rw [this]
  rfl
theorem wA_0 {σ : xs} {a : Nat} {v : Int32} : wA σ a (cpN (fun _ => v) (si σ a) 0) = σ := by
  show (σ.1, (fun b => if b = a then cpN (fun _ => v) (si σ a) 0 else si σ b), σ.2.2) = σ
  have : (fun b => if b = a then cpN (fun _ => v) (si σ a) 0 else si σ b) = si σ := by
    funext b
    by_cases h : b = a
    · rw [if_pos h, h]; funext j; simp [cpN]
    · rw [if_neg h]
  rw [this]
  rfl
theorem x_fill_l {l : xLa} {d : Nat} {σ : xs} {a n : Nat} {v : Int32} (hs : xSh[a]? = some (1, 0, n)) (hn : n < 2 ^ 31) : ∀ (m : Nat) (i : Nat), n - i = m → i ≤ n → T l M_Arrays_fill (d + 1) 5 [some (.ref a), some (.int v), some (.int (nI i)), some (.int (nI n))] [] (wA σ a (cpN (fun _ => v) (si σ a) i)) (fun r σ' => r = none ∧ σ' = wA σ a (cpN (fun _ => v) (si σ a) n)) := by
  intro m
  induction m using Nat.strongRecOn with
  | ind m ih =>
    intro i hm hi
    refine tt_iload_n d_Arrays_fill_5 rfl ?_
    refine tt_iload_n d_Arrays_fill_6 rfl ?_
    refine tn_ic_ge (t := 20) (by omega) (by omega) d_Arrays_fill_7 (by decide) (fun c_7 => ?_) (fun c_7 => ?_)
    · obtain rfl : i = n := by omega
      refine tt_vret rfl d_Arrays_fill_20 ?_
      exact ⟨rfl, rfl⟩
    · refine tt_aload_n d_Arrays_fill_10 rfl ?_
      refine tt_iload_n d_Arrays_fill_11 rfl ?_
      refine tt_iload_n d_Arrays_fill_12 rfl ?_
      refine tn_iast d_Arrays_fill_13 hs hn (by omega) ?_
      refine tt_iinc d_Arrays_fill_14 rfl (nI_inc _ 1) (by decide) rfl ?_
      refine tt_goto (t := 5) d_Arrays_fill_17 (by decide) ?_
      rw [cpN_s]
      exact ih (n - (i + 1)) (by omega) (i + 1) rfl (by omega)

theorem x_fill {l : xLa} {d : Nat} {σ : xs} {a n : Nat} {v : Int32} (hs : xSh[a]? = some (1, 0, n)) (hn : n < 2 ^ 31) : TE l M_Arrays_fill (d + 1) [.ref a, .int v] σ (none) (wA σ a (cpN (fun _ => v) (si σ a) n)) := by
  show T l M_Arrays_fill (d + 1) 0 _ [] σ _
  refine tt_iconst (v := nI 0) d_Arrays_fill_0 (by decide) ?_
  refine tt_istore_n d_Arrays_fill_1 (by decide) rfl ?_
  refine tt_aload_n d_Arrays_fill_2 rfl ?_
  refine tt_len d_Arrays_fill_3 hs (by decide) (by decide) (show Int32.ofNat n = nI n from rfl) ?_
  refine tt_istore_n d_Arrays_fill_4 (by decide) rfl ?_
  have q := x_fill_l (l := l) (d := d) (σ := σ) (v := v) hs hn n 0 (by omega) (by omega)
  rw [wA_0] at q
  exact q

theorem x_Told_start {l : xLa} {d : Nat} {σ : xs}  : TE l M_Told_start (d + 1) [.ref 3] σ (none) (wF σ 3 1 (nI 0)) := by
  show T l M_Told_start (d + 1) 0 _ [] σ _
  refine tt_aload_n d_Told_start_0 rfl ?_
  refine tt_iconst (v := nI 0) d_Told_start_1 (by decide) ?_
  refine tt_putI d_Told_start_2 rfl rfl (by decide) rfl (xpok_int rfl) rfl ?_
  refine tt_vret rfl d_Told_start_5 ?_
  exact ⟨rfl, rfl⟩

def X_tadd (σ : xs) (n : Nat) (x : Int64) : xs := if n < 37 then wF (wJ σ 4 n x) 3 1 (nI (n + 1)) else σ
theorem x_Told_add {l : xLa} {d : Nat} {σ : xs} {n : Nat} {x : Int64} (hn : sf σ 3 1 = nI n) (hz : n ≤ 37) : TE l M_Told_add (d + 1) [.ref 3, .long x] σ (none) (X_tadd σ n x) := by
  show T l M_Told_add (d + 1) 0 _ [] σ _
  refine tt_aload_n d_Told_add_0 rfl ?_
  refine tn_get d_Told_add_1 rfl rfl (by decide) rfl (by first | exact hn | exact (show sf (wJ σ 4 n x) 3 1 = nI n from hn)) ?_
  refine tt_aload_n d_Told_add_4 rfl ?_
  refine tt_getR d_Told_add_5 rfl rfl (by decide) rfl rfl ?_
  refine tt_len d_Told_add_8 rfl (by decide) (by decide) (show Int32.ofNat 37 = nI 37 from rfl) ?_
  refine tn_ic_ge (t := 32) (by omega) (by omega) d_Told_add_9 (by decide) (fun c_9 => ?_) (fun c_9 => ?_)
  · refine tt_vret rfl d_Told_add_32 ?_
    refine ⟨rfl, ?_⟩
    unfold X_tadd
    first | rw [if_pos (by omega)] | rw [if_neg (by omega)]
  · refine tt_aload_n d_Told_add_12 rfl ?_
    refine tt_getR d_Told_add_13 rfl rfl (by decide) rfl rfl ?_
    refine tt_aload_n d_Told_add_16 rfl ?_
    refine tn_get d_Told_add_17 rfl rfl (by decide) rfl (by first | exact hn | exact (show sf (wJ σ 4 n x) 3 1 = nI n from hn)) ?_
    refine tt_lload_n d_Told_add_20 rfl ?_
    refine tn_last d_Told_add_21 rfl (by decide) (by omega) ?_
    refine tt_aload_n d_Told_add_22 rfl ?_
    refine tt_dup d_Told_add_23 rfl ?_
    refine tn_get d_Told_add_24 rfl rfl (by decide) rfl (by first | exact hn | exact (show sf (wJ σ 4 n x) 3 1 = nI n from hn)) ?_
    refine tt_iconst (v := nI 1) d_Told_add_27 (by decide) ?_
    refine tn_iadd d_Told_add_28 ?_
    refine tt_putI d_Told_add_29 rfl rfl (by decide) rfl (xpok_int rfl) rfl ?_
    refine tt_vret rfl d_Told_add_32 ?_
    refine ⟨rfl, ?_⟩
    unfold X_tadd
    first | rw [if_pos (by omega)] | rw [if_neg (by omega)]

/-- is i a number below n? as the class answers -/
def X_in (i : Int32) (n : Nat) : Int32 := if 0 ≤ i.toInt ∧ i.toInt < n then nI 1 else nI 0
theorem x_School_has {l : xLa} {d : Nat} {σ : xs} {n : Nat} {i : Int32} (hn : sf σ 9 2 = nI n) (hz : n ≤ 8) : TE l M_School_has (d + 1) [.ref 9, .int i] σ (some (.int (X_in i n))) (σ) := by
  show T l M_School_has (d + 1) 0 _ [] σ _
  refine tt_iload_n d_School_has_0 rfl ?_
  refine tt_if_lt (t := 22) d_School_has_1 (by decide) (fun c_1 => ?_) (fun c_1 => ?_)
  · refine tt_iconst (v := nI 0) d_School_has_22 (by decide) ?_
    refine tt_zret rfl rfl d_School_has_23 ?_
    refine ⟨congrArg (fun w => some (Value.int w)) ?_, rfl⟩
    unfold X_in
    first
      | (rw [if_pos]; rw [fa_lt', Int32.toInt_zero] at c_1; rw [fa_le', nI_toInt (by omega)] at c_9; omega)
      | (rw [if_neg]; simp only [fa_lt', fa_le', Int32.toInt_zero, nI_toInt (show n < 2 ^ 31 by omega), nI_toInt (show 8 < 2 ^ 31 by omega)] at *; omega)
  · refine tt_iload_n d_School_has_4 rfl ?_
    refine tt_aload_n d_School_has_5 rfl ?_
    refine tn_get d_School_has_6 rfl rfl (by decide) rfl hn ?_
    refine tt_ic_ge (t := 22) d_School_has_9 (by decide) (fun c_9 => ?_) (fun c_9 => ?_)
    · refine tt_iconst (v := nI 0) d_School_has_22 (by decide) ?_
      refine tt_zret rfl rfl d_School_has_23 ?_
      refine ⟨congrArg (fun w => some (Value.int w)) ?_, rfl⟩
      unfold X_in
      first
        | (rw [if_pos]; rw [fa_lt', Int32.toInt_zero] at c_1; rw [fa_le', nI_toInt (by omega)] at c_9; omega)
        | (rw [if_neg]; simp only [fa_lt', fa_le', Int32.toInt_zero, nI_toInt (show n < 2 ^ 31 by omega), nI_toInt (show 8 < 2 ^ 31 by omega)] at *; omega)
    · refine tt_iload_n d_School_has_12 rfl ?_
      refine tt_bipush (v := nI 8) d_School_has_13 (by decide) ?_
      refine tt_ic_ge (t := 22) d_School_has_15 (by decide) (fun c_15 => ?_) (fun c_15 => ?_)
      · refine tt_iconst (v := nI 0) d_School_has_22 (by decide) ?_
        refine tt_zret rfl rfl d_School_has_23 ?_
        refine ⟨congrArg (fun w => some (Value.int w)) ?_, rfl⟩
        unfold X_in
        first
          | (rw [if_pos]; rw [fa_lt', Int32.toInt_zero] at c_1; rw [fa_le', nI_toInt (by omega)] at c_9; omega)
          | (rw [if_neg]; simp only [fa_lt', fa_le', Int32.toInt_zero, nI_toInt (show n < 2 ^ 31 by omega), nI_toInt (show 8 < 2 ^ 31 by omega)] at *; omega)
      · refine tt_iconst (v := nI 1) d_School_has_18 (by decide) ?_
        refine tt_goto (t := 23) d_School_has_19 (by decide) ?_
        refine tt_zret rfl rfl d_School_has_23 ?_
        refine ⟨congrArg (fun w => some (Value.int w)) ?_, rfl⟩
        unfold X_in
        first
          | (rw [if_pos]; rw [fa_lt', Int32.toInt_zero] at c_1; rw [fa_le', nI_toInt (by omega)] at c_9; omega)
          | (rw [if_neg]; simp only [fa_lt', fa_le', Int32.toInt_zero, nI_toInt (show n < 2 ^ 31 by omega), nI_toInt (show 8 < 2 ^ 31 by omega)] at *; omega)

def X_sadd (σ : xs) (n : Nat) (k s : Int32) : xs := wF (wI (wI σ 10 n k) 11 n s) 9 2 (nI (n + 1))
theorem x_School_add {l : xLa} {d : Nat} {σ : xs} {n : Nat} {k s : Int32} (hn : sf σ 9 2 = nI n) (hz : n < 8) : TE l M_School_add (d + 1) [.ref 9, .int k, .int s] σ (none) (X_sadd σ n k s) := by
  show T l M_School_add (d + 1) 0 _ [] σ _
  refine tt_aload_n d_School_add_0 rfl ?_
  refine tn_get d_School_add_1 rfl rfl (by decide) rfl (by exact hn) ?_
  refine tt_bipush (v := nI 8) d_School_add_4 (by decide) ?_
  refine tn_ic_ge (t := 39) (by omega) (by omega) d_School_add_6 (by decide) (fun c_6 => ?_) (fun c_6 => ?_)
  · omega
  · refine tt_aload_n d_School_add_9 rfl ?_
    refine tt_getR d_School_add_10 rfl rfl (by decide) rfl rfl ?_
    refine tt_aload_n d_School_add_13 rfl ?_
    refine tn_get d_School_add_14 rfl rfl (by decide) rfl (by exact hn) ?_
    refine tt_iload_n d_School_add_17 rfl ?_
    refine tn_iast d_School_add_18 rfl (by decide) (by omega) ?_
    refine tt_aload_n d_School_add_19 rfl ?_
    refine tt_getR d_School_add_20 rfl rfl (by decide) rfl rfl ?_
    refine tt_aload_n d_School_add_23 rfl ?_
    refine tn_get d_School_add_24 rfl rfl (by decide) rfl (by exact hn) ?_
    refine tt_iload_n d_School_add_27 rfl ?_
    refine tn_iast d_School_add_28 rfl (by decide) (by omega) ?_
    refine tt_aload_n d_School_add_29 rfl ?_
    refine tt_dup d_School_add_30 rfl ?_
    refine tn_get d_School_add_31 rfl rfl (by decide) rfl (by exact hn) ?_
    refine tt_iconst (v := nI 1) d_School_add_34 (by decide) ?_
    refine tn_iadd d_School_add_35 ?_
    refine tt_putI d_School_add_36 rfl rfl (by decide) rfl (xpok_int rfl) rfl ?_
    refine tt_vret rfl d_School_add_39 ?_
    exact ⟨rfl, rfl⟩

theorem x_Past_clear {l : xLa} {d : Nat} {σ : xs}  : TE l M_Past_clear (d + 1) [.ref 35] σ (none) (wF σ 35 2 (nI 0)) := by
  show T l M_Past_clear (d + 1) 0 _ [] σ _
  refine tt_aload_n d_Past_clear_0 rfl ?_
  refine tt_iconst (v := nI 0) d_Past_clear_1 (by decide) ?_
  refine tt_putI d_Past_clear_2 rfl rfl (by decide) rfl (xpok_int rfl) rfl ?_
  refine tt_vret rfl d_Past_clear_5 ?_
  exact ⟨rfl, rfl⟩

theorem x_Sights_clear {l : xLa} {d : Nat} {σ : xs}  : TE l M_Sights_clear (d + 1) [.ref 112] σ (none) (wF σ 112 3 (nI 0)) := by
  show T l M_Sights_clear (d + 1) 0 _ [] σ _
  refine tt_aload_n d_Sights_clear_0 rfl ?_
  refine tt_iconst (v := nI 0) d_Sights_clear_1 (by decide) ?_
  refine tt_putI d_Sights_clear_2 rfl rfl (by decide) rfl (xpok_int rfl) rfl ?_
  refine tt_vret rfl d_Sights_clear_5 ?_
  exact ⟨rfl, rfl⟩

def X_gadd (σ : xs) (n : Nat) (a b c : Int32) : xs := wF (wI (wI (wI σ 113 n a) 114 n b) 115 n c) 112 3 (nI (n + 1))
theorem x_Sights_add {l : xLa} {d : Nat} {σ : xs} {n : Nat} {a b c : Int32} (hn : sf σ 112 3 = nI n) (hz : n ≤ 10) (hc : vp_nar .boolean c = c) : TE l M_Sights_add (d + 1) [.ref 112, .int a, .int b, .int c] σ (some (.int (if n < 10 then nI 1 else nI 0))) (if n < 10 then X_gadd σ n a b c else σ) := by
  show T l M_Sights_add (d + 1) 0 _ [] σ _
  refine tt_aload_n d_Sights_add_0 rfl ?_
  refine tn_get d_Sights_add_1 rfl rfl (by decide) rfl (by exact hn) ?_
  refine tt_bipush (v := nI 10) d_Sights_add_4 (by decide) ?_
  refine tn_ic_lt (t := 11) (by omega) (by omega) d_Sights_add_6 (by decide) (fun c_6 => ?_) (fun c_6 => ?_)
  · refine tt_aload_n d_Sights_add_11 rfl ?_
    refine tt_getR d_Sights_add_12 rfl rfl (by decide) rfl rfl ?_
    refine tt_aload_n d_Sights_add_15 rfl ?_
    refine tn_get d_Sights_add_16 rfl rfl (by decide) rfl (by exact hn) ?_
    refine tt_iload_n d_Sights_add_19 rfl ?_
    refine tn_iast d_Sights_add_20 rfl (by decide) (by omega) ?_
    refine tt_aload_n d_Sights_add_21 rfl ?_
    refine tt_getR d_Sights_add_22 rfl rfl (by decide) rfl rfl ?_
    refine tt_aload_n d_Sights_add_25 rfl ?_
    refine tn_get d_Sights_add_26 rfl rfl (by decide) rfl (by exact hn) ?_
    refine tt_iload_n d_Sights_add_29 rfl ?_
    refine tn_iast d_Sights_add_30 rfl (by decide) (by omega) ?_
    refine tt_aload_n d_Sights_add_31 rfl ?_
    refine tt_getR d_Sights_add_32 rfl rfl (by decide) rfl rfl ?_
    refine tt_aload_n d_Sights_add_35 rfl ?_
    refine tn_get d_Sights_add_36 rfl rfl (by decide) rfl (by exact hn) ?_
    refine tt_iload_n d_Sights_add_39 rfl ?_
    refine tn_zast d_Sights_add_40 rfl (by decide) (by omega) hc ?_
    refine tt_aload_n d_Sights_add_41 rfl ?_
    refine tt_dup d_Sights_add_42 rfl ?_
    refine tn_get d_Sights_add_43 rfl rfl (by decide) rfl (by exact hn) ?_
    refine tt_iconst (v := nI 1) d_Sights_add_46 (by decide) ?_
    refine tn_iadd d_Sights_add_47 ?_
    refine tt_putI d_Sights_add_48 rfl rfl (by decide) rfl (xpok_int rfl) rfl ?_
    refine tt_iconst (v := nI 1) d_Sights_add_51 (by decide) ?_
    refine tt_zret rfl rfl d_Sights_add_52 ?_
    rw [if_pos (by omega), if_pos (by omega)]
    exact ⟨rfl, rfl⟩
  · refine tt_iconst (v := nI 0) d_Sights_add_9 (by decide) ?_
    refine tt_zret rfl rfl d_Sights_add_10 ?_
    rw [if_neg (by omega), if_neg (by omega)]
    exact ⟨rfl, rfl⟩

