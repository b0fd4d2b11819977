/-! Sets as bits, over naturals. Printed by wip/whole. -/
theorem shl_9 : ∀ j, j ≤ 8 → nI 1 <<< (nI j &&& 31) = nI (2 ^ j) := by decide +kernel
def bsN (P : Nat → Bool) : Nat → Nat
  | 0 => 0
  | i + 1 => bsN P i ||| (if P i = true then 2 ^ i else 0)
theorem tb_pow (i j : Nat) : (2 ^ i).testBit j = decide (i = j) := Nat.testBit_two_pow
theorem bsN_t (P : Nat → Bool) (j : Nat) : ∀ n, (bsN P n).testBit j = (decide (j < n) && P j)
  | 0 => by show (0 : Nat).testBit j = _; rw [Nat.zero_testBit]; simp
  | n + 1 => by
    show (bsN P n ||| (if P n = true then 2 ^ n else 0)).testBit j = _
    rw [Nat.testBit_or, bsN_t P j n]
    by_cases c : j = n
    · subst c
      by_cases h : P j = true
      · rw [if_pos h, tb_pow]; simp [h]
      · rw [if_neg h, Nat.zero_testBit]; simp [h]
    · have e : (if P n = true then 2 ^ n else 0).testBit j = false := by
        split
        · rw [tb_pow]; simp; omega
        · exact Nat.zero_testBit j
      rw [e, Bool.or_false]
      by_cases d : j < n
      · rw [decide_eq_true d, decide_eq_true (show j < n + 1 by omega)]
      · rw [decide_eq_false d, decide_eq_false (show ¬ j < n + 1 by omega)]
theorem bsN_lt (P : Nat → Bool) : ∀ n, bsN P n < 2 ^ n
  | 0 => by show 0 < 1; omega
  | n + 1 => by
    have h := bsN_lt P n
    refine Nat.or_lt_two_pow ?_ ?_
    · rw [Nat.pow_succ]; omega
    · have : 0 < 2 ^ n := Nat.two_pow_pos n
      split <;> rw [Nat.pow_succ] <;> omega
theorem bsN_256 (P : Nat → Bool) {n : Nat} (hn : n ≤ 8) : bsN P n < 256 := Nat.lt_of_lt_of_le (bsN_lt P n) (Nat.pow_le_pow_right (by decide) hn)
theorem bsN_c {P Q : Nat → Bool} : ∀ n, (∀ i, i < n → P i = Q i) → bsN P n = bsN Q n
  | 0, _ => rfl
  | n + 1, h => by
    show bsN P n ||| _ = bsN Q n ||| _
    rw [bsN_c n (fun i hi => h i (by omega)), h n (by omega)]
theorem and_N (a b : Nat) : nI a &&& nI b = nI (a &&& b) := by
  apply Int32.toBitVec_inj.mp
  show (Int32.ofNat a).toBitVec &&& (Int32.ofNat b).toBitVec = (Int32.ofNat (a &&& b)).toBitVec
  simp only [Int32.toBitVec_ofNat']
  rw [BitVec.ofNat_and]
theorem xor_N (a b : Nat) : nI a ^^^ nI b = nI (a ^^^ b) := by
  apply Int32.toBitVec_inj.mp
  show (Int32.ofNat a).toBitVec ^^^ (Int32.ofNat b).toBitVec = (Int32.ofNat (a ^^^ b)).toBitVec
  simp only [Int32.toBitVec_ofNat']
  rw [BitVec.ofNat_xor]
/-- bits of a that b has not -/
def dfN (a b : Nat) : Nat := a ^^^ (a &&& b)
theorem an_bv (x y : BitVec 32) : x &&& (y ^^^ BitVec.allOnes 32) = x ^^^ (x &&& y) := by
  apply BitVec.eq_of_getLsbD_eq
  intro i hi
  simp only [BitVec.getLsbD_and, BitVec.getLsbD_xor, BitVec.getLsbD_allOnes, hi, decide_true]
  cases x.getLsbD i <;> cases y.getLsbD i <;> rfl
theorem an_N (a b : Nat) : nI a &&& (nI b ^^^ -1) = nI (dfN a b) := by
  unfold dfN
  rw [← xor_N, ← and_N]
  apply Int32.toBitVec_inj.mp
  exact an_bv (nI a).toBitVec (nI b).toBitVec
theorem dfN_t (a b j : Nat) : (dfN a b).testBit j = (a.testBit j && !b.testBit j) := by
  unfold dfN
  rw [Nat.testBit_xor, Nat.testBit_and]
  cases a.testBit j <;> cases b.testBit j <;> rfl
theorem dfN_lt {a b n : Nat} (h : a < 2 ^ n) : dfN a b < 2 ^ n := Nat.xor_lt_two_pow h (Nat.lt_of_le_of_lt Nat.and_le_left h)
theorem dfN_0 {a b : Nat} : dfN a b = 0 ↔ ∀ j, a.testBit j = true → b.testBit j = true := by
  constructor
  · intro h j ha
    have := dfN_t a b j
    rw [h, Nat.zero_testBit, ha] at this
    cases hb : b.testBit j with
    | true => rfl
    | false => rw [hb] at this; cases this
  · intro h
    apply Nat.eq_of_testBit_eq
    intro j
    rw [dfN_t, Nat.zero_testBit]
    cases ha : a.testBit j with
    | false => rfl
    | true => rw [h j ha]; rfl
theorem dfN_le {a b : Nat} (h : dfN a b = 0) : a ≤ b := by
  have h := dfN_0.mp h
  have e : a &&& b = a := by
    apply Nat.eq_of_testBit_eq
    intro j
    rw [Nat.testBit_and]
    cases ha : a.testBit j with
    | false => rfl
    | true => rw [h j ha]; rfl
  rw [← e]; exact Nat.and_le_right
def tbN (m i : Nat) : Nat := if m.testBit i = true then 1 else 0
theorem tbN_c (m i : Nat) : tbN m i ≤ 1 ∧ (tbN m i = 1 ↔ m.testBit i = true) ∧ (tbN m i = 0 ↔ ¬ m.testBit i = true) := by
  unfold tbN
  by_cases c : m.testBit i = true
  · rw [if_pos c]; exact ⟨by omega, ⟨fun _ => c, fun _ => rfl⟩, ⟨fun q => by omega, fun q => absurd c q⟩⟩
  · rw [if_neg c]; exact ⟨by omega, ⟨fun q => by omega, fun q => absurd q c⟩, ⟨fun _ => c, fun _ => rfl⟩⟩
theorem xbit_n0 : ∀ m, m < 256 → ∀ i, i < 8 → xbit (nI m) (nI i) = nI (tbN m i) := by decide +kernel
theorem xbit_N {m i : Nat} (hm : m < 256) (hi : i < 8) : ((nI m).toUInt32 >>> ((nI i).toUInt32 &&& Int32.toUInt32 31)).toInt32 &&& nI 1 = nI (tbN m i) := xbit_n0 m hm i hi
theorem tbI_N (m i : Nat) : tbI m i = nI (tbN m i) := by
  unfold tbI tbN
  split <;> rfl
def pcN (m : Nat) : Nat := tbN m 0 + tbN m 1 + tbN m 2 + tbN m 3 + tbN m 4 + tbN m 5 + tbN m 6 + tbN m 7
theorem xpc_N : ∀ m, m < 256 → xpc (nI m) = nI (pcN m) := by decide +kernel
theorem pcN_le (m : Nat) : pcN m ≤ 8 := by
  have h0 := (tbN_c m 0).1
  have h1 := (tbN_c m 1).1
  have h2 := (tbN_c m 2).1
  have h3 := (tbN_c m 3).1
  have h4 := (tbN_c m 4).1
  have h5 := (tbN_c m 5).1
  have h6 := (tbN_c m 6).1
  have h7 := (tbN_c m 7).1
  unfold pcN
  omega
theorem x_bitN {l : xLa} {d : Nat} {σ : xs} {m : Nat} (h : m < 256) : TE l M_Integer_bitCount (d + 1) [.int (nI m)] σ (some (.int (nI (pcN m)))) σ := by
  have q := x_bitCount (l := l) (d := d) (σ := σ) (x := nI m)
  rw [xpc_N m h] at q
  exact q
/-! promises that stand, as a set -/
def prN (v : sv) (n : Nat) : Nat := bsN (fun i => decide (¬ v 3 i = 0)) n
theorem prN_lt (v : sv) {n : Nat} (h : n ≤ 8) : prN v n < 256 := bsN_256 _ h
theorem prN_t (v : sv) (n j : Nat) : (prN v n).testBit j = true ↔ j < n ∧ ¬ v 3 j = 0 := by
  unfold prN
  rw [bsN_t]
  simp
theorem prom_N {σ : xs} {a : Nat} {v : sv} (hS : ST σ a v) : ∀ n, n ≤ 8 → (∀ i, i < n → v 3 i < 2 ^ 31) → X_prom σ a n = nI (prN v n)
  | 0, _, _ => rfl
  | n + 1, hn, hb => by
    have ih := prom_N hS n (by omega) (fun i hi => hb i (by omega))
    show X_prom σ a n ||| (if si σ (a + 3) n = -1 then _ else _) = nI (prN v n ||| (if decide (¬ v 3 n = 0) = true then 2 ^ n else 0))
    rw [ih, (hS.2 n (by omega)).2.2.1]
    have hg := gI_c (hb n (by omega))
    by_cases c : v 3 n = 0
    · rw [if_pos (hg.1.mpr c), if_neg (by simp [c])]
      exact or_N _ _
    · rw [if_neg (fun q => c (hg.1.mp q)), if_pos (by simp [c]), shl_1 n (by omega)]
      exact or_N _ _
theorem okV_3 {e : xe} {v : sv} (he : okE e) (hv : okV e v) : ∀ i, i < eN e → v 3 i < 2 ^ 20 := fun i hi => by
  have h1 := (hv.2.2.2.2.2.2 i hi).2.2.1
  have h2 : eR e * eC e ≤ 36 := Nat.mul_le_mul he.1.2.1 he.1.2.2.2.1
  omega
theorem x_promN {l : xLa} {d : Nat} {σ : xs} {a : Nat} {e : xe} {v : sv} (ha : isS a) (he : okE e) (hv : okV e v) (hS : ST σ a v) : TE l M_State_promised (d + 1) [.ref a, .int (nI (eN e))] σ (some (.int (nI (prN v (eN e))))) σ := by
  have q := x_State_promised (l := l) (d := d) (σ := σ) (a := a) (n := eN e) ha he.1.2.2.2.2.1
  rw [prom_N hS (eN e) he.1.2.2.2.2.1 (fun i hi => by have := okV_3 he hv i hi; omega)] at q
  exact q
theorem x_holdN {l : xLa} {d : Nat} {σ : xs} {a j : Nat} {v : sv} (ha : isS a) (hS : ST σ a v) (h5 : v 0 5 < 256) (hj : j < 8) : TE l M_State_holds (d + 1) [.ref a, .int (nI j)] σ (some (.int (nI (tbN (v 0 5) j)))) σ := by
  have q := x_State_holds (l := l) (d := d) (σ := σ) (a := a) (j := nI j) ha
  have e : X_hold σ a (nI j) = nI (tbN (v 0 5) j) := by
    unfold X_hold
    rw [hS.1 5 (by decide), xbit_n0 _ h5 _ hj]
    unfold tbN
    split <;> rfl
  rw [e] at q
  exact q
theorem y_hasN {l : xLa} {d : Nat} {σ : xs} {m k : Nat} (hm : m < 256) (hk : k < 8) : TE l M_Y_has (d + 1) [.long (nI m).toInt64, .int (nI k)] σ (some (.int (nI (tbN m k)))) σ := by
  have q := y_has (l := l) (d := d) (σ := σ) hm hk
  rw [tbI_N] at q
  exact q
theorem y_promN_l {l : xLa} {d : Nat} {σ : xs} {b : Nat} {e : xe} {v : sv} (hb : isY b) (he : okE e) (hv : okV e v) (hE : sf σ 154 5 = nI (eN e)) (hS : SY σ b (eN e) v) : ∀ (m : Nat) (i : Nat), eN e - i = m → i ≤ eN e → T l M_Y_promised (d + 1) 4 [some (.ref 154), some (.ref b), some (.int (nI (prN v i))), some (.int (nI i))] [] σ (fun r τ => r = some (.int (nI (prN v (eN e)))) ∧ τ = σ) := by
  intro m
  induction m using Nat.strongRecOn with
  | ind m ih =>
    intro i hm hi
    have h8 := he.1.2.2.2.2.1
    refine tt_iload_n d_Y_promised_4 rfl ?_
    refine tt_aload_n d_Y_promised_5 rfl ?_
    refine tn_get d_Y_promised_6 rfl rfl (by decide) rfl hE ?_
    refine tn_ic_ge (t := 37) (by omega) (by omega) d_Y_promised_9 (by decide) (fun c_9 => ?_) (fun c_9 => ?_)
    · obtain rfl : i = eN e := by omega
      refine tt_iload_n d_Y_promised_37 rfl ?_
      refine tt_iret rfl d_Y_promised_38 ?_
      exact ⟨rfl, rfl⟩
    · refine tt_iload_n d_Y_promised_12 rfl ?_
      refine tt_aload_n d_Y_promised_13 rfl ?_
      refine tt_bipush (v := nI 17) d_Y_promised_14 (by decide) ?_
      refine tt_iload_n d_Y_promised_16 rfl ?_
      refine tn_iadd d_Y_promised_17 ?_
      have h3 := okV_3 he hv i (by omega)
      refine tn_iald d_Y_promised_18 (xY_sh hb) (by decide) (by omega) ((hS.2 i (by omega)).2.2.1) ?_
      refine tt_if_lt (t := 28) d_Y_promised_19 (by decide) (fun c_19 => ?_) (fun c_19 => ?_)
      · have hz : prN v i ||| 0 = prN v (i + 1) := by
          show _ = prN v i ||| (if decide (¬ v 3 i = 0) = true then 2 ^ i else 0)
          rw [if_neg (by simp [(gI_lt (by omega)).mp c_19])]
        refine tt_iconst (v := nI 0) d_Y_promised_28 (by decide) ?_
        refine tt_ior d_Y_promised_29 ?_
        refine tt_top (or_N _ _) ?_
        refine tt_istore_n (lv2 := [_, _, _, _]) d_Y_promised_30 (by decide) rfl ?_
        refine tt_iinc (lv2 := [_, _, _, _]) d_Y_promised_31 rfl (nI_inc _ 1) (by decide) rfl ?_
        refine tt_goto (t := 4) d_Y_promised_34 (by decide) ?_
        rw [hz]
        exact ih (eN e - (i + 1)) (by omega) (i + 1) rfl (by omega)
      · have hz : prN v i ||| 2 ^ i = prN v (i + 1) := by
          show _ = prN v i ||| (if decide (¬ v 3 i = 0) = true then 2 ^ i else 0)
          rw [if_pos (decide_eq_true (show ¬ v 3 i = 0 from fun q => c_19 ((gI_lt (by omega)).mpr q)))]
        refine tt_iconst (v := nI 1) d_Y_promised_22 (by decide) ?_
        refine tt_iload_n d_Y_promised_23 rfl ?_
        refine tt_ishl d_Y_promised_24 ?_
        refine tt_top (shl_9 _ (by omega)) ?_
        refine tt_goto (t := 29) d_Y_promised_25 (by decide) ?_
        refine tt_ior d_Y_promised_29 ?_
        refine tt_top (or_N _ _) ?_
        refine tt_istore_n (lv2 := [_, _, _, _]) d_Y_promised_30 (by decide) rfl ?_
        refine tt_iinc (lv2 := [_, _, _, _]) d_Y_promised_31 rfl (nI_inc _ 1) (by decide) rfl ?_
        refine tt_goto (t := 4) d_Y_promised_34 (by decide) ?_
        rw [hz]
        exact ih (eN e - (i + 1)) (by omega) (i + 1) rfl (by omega)

theorem y_promN {l : xLa} {d : Nat} {σ : xs} {b : Nat} {e : xe} {v : sv} (hb : isY b) (he : okE e) (hv : okV e v) (hE : sf σ 154 5 = nI (eN e)) (hS : SY σ b (eN e) v) : TE l M_Y_promised (d + 1) [.ref 154, .ref b] σ (some (.int (nI (prN v (eN e))))) σ := by
  show T l M_Y_promised (d + 1) 0 _ [] σ _
  refine tt_iconst (v := nI 0) d_Y_promised_0 (by decide) ?_
  refine tt_istore_n d_Y_promised_1 (by decide) rfl ?_
  refine tt_iconst (v := nI 0) d_Y_promised_2 (by decide) ?_
  refine tt_istore_n d_Y_promised_3 (by decide) rfl ?_
  exact y_promN_l hb he hv hE hS (eN e) 0 rfl (by omega)

