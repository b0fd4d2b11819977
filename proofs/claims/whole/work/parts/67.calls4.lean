/-! Questions over sets: keeps, owed, minds, evens, strongest. Printed by wip/whole. -/
/-! loops over the subsets of a set -/
def fsN {α : Type} (P : Nat) (f : α → Nat → α) (a : α) : Nat → α
  | 0 => a
  | s + 1 => if dfN s P = 0 then f (fsN P f a s) s else fsN P f a s
theorem fsN_in {α : Type} {P s : Nat} {f : α → Nat → α} {a : α} (h : dfN s P = 0) : f (fsN P f a s) s = fsN P f a (s + 1) := (if_pos h).symm
theorem fsN_out {α : Type} {P s : Nat} {f : α → Nat → α} {a : α} (h : ¬ dfN s P = 0) : fsN P f a s = fsN P f a (s + 1) := (if_neg h).symm
theorem fsN_end {α : Type} {P : Nat} {f : α → Nat → α} {a : α} : ∀ k, fsN P f a (P + 1 + k) = fsN P f a (P + 1)
  | 0 => rfl
  | k + 1 => by
    rw [← fsN_end k]
    show (if dfN (P + 1 + k) P = 0 then _ else fsN P f a (P + 1 + k)) = _
    rw [if_neg (fun q => by have := dfN_le q; omega)]
theorem fsN_all {α : Type} {P N : Nat} {f : α → Nat → α} {a : α} (h : P < N) : fsN P f a N = fsN P f a (P + 1) := by
  rw [show N = P + 1 + (N - (P + 1)) by omega]; exact fsN_end _
/-! sums over a set -/
def smN (g : Nat → Nat) (m : Nat) : Nat → Nat
  | 0 => 0
  | i + 1 => smN g m i + (if m.testBit i = true then g i else 0)
theorem smN_le {g : Nat → Nat} {m b : Nat} : ∀ n, (∀ i, i < n → g i ≤ b) → smN g m n ≤ b * n
  | 0, _ => by show 0 ≤ _; omega
  | n + 1, h => by
    have h1 := smN_le n (fun i hi => h i (by omega)) (m := m) (b := b)
    have h2 := h n (by omega)
    show smN g m n + _ ≤ _
    rw [Nat.mul_succ]
    split <;> omega
theorem smN_0 (g : Nat → Nat) : ∀ n, smN g 0 n = 0
  | 0 => rfl
  | n + 1 => by
    show smN g 0 n + (if (0 : Nat).testBit n = true then g n else 0) = 0
    rw [smN_0 g n, Nat.zero_testBit]; rfl
abbrev csN (v : sv) (m n : Nat) : Nat := smN (v 4) m n
theorem csN_le {e : xe} {v : sv} (hv : okV e v) (he : okE e) (m : Nat) : csN v m (eN e) ≤ 72 := by
  show smN (v 4) m (eN e) ≤ 72
  have h1 := smN_le (g := v 4) (m := m) (b := 9) (eN e) (fun i hi => (hv.2.2.2.2.2.2 i hi).2.2.2)
  have h2 := he.1.2.2.2.2.1
  omega
theorem crum_N {σ : xs} {a m : Nat} {v : sv} (hS : ST σ a v) (hm : m < 256) : ∀ n, n ≤ 8 → X_crum σ a (nI m) n = nI (csN v m n)
  | 0, _ => rfl
  | n + 1, hn => by
    have ih := crum_N hS hm n (by omega)
    show X_crum σ a (nI m) n + (if xbit (nI m) (nI n) = nI 1 then si σ (a + 4) n else nI 0) = nI (csN v m n + (if m.testBit n = true then v 4 n else 0))
    rw [ih, (hS.2 n (by omega)).2.2.2]
    by_cases c : m.testBit n = true
    · rw [if_pos ((xbit_t m hm n (by omega)).mpr c), if_pos c, nI_add]
    · rw [if_neg (fun q => c ((xbit_t m hm n (by omega)).mp q)), if_neg c, nI_add]
theorem x_crumN {l : xLa} {d : Nat} {σ : xs} {a m : Nat} {e : xe} {v : sv} (ha : isS a) (he : okE e) (hS : ST σ a v) (hm : m < 256) : TE l M_State_crumbsOf (d + 1) [.ref a, .int (nI m), .int (nI (eN e))] σ (some (.int (nI (csN v m (eN e))))) σ := by
  have q := x_State_crumbsOf (l := l) (d := d) (σ := σ) (a := a) (n := eN e) (z := nI m) ha he.1.2.2.2.2.1
  rw [crum_N hS hm (eN e) he.1.2.2.2.2.1] at q
  exact q
/-! pulls, as naturals -/
def plN (e : xe) (v : sv) (i : Nat) : Nat := (plV e v i).toNatClampNeg
theorem plN_c (e : xe) (v : sv) (i : Nat) : plV e v i = nI (plN e v i) ∧ plN e v i ≤ 9 := by
  obtain ⟨k, h1, h2⟩ := plV_N e v i
  unfold plN
  rw [h2, nI_clamp (by omega)]
  exact ⟨rfl, h1⟩
abbrev psN (e : xe) (v : sv) (m n : Nat) : Nat := smN (plN e v) m n
theorem psN_le {e : xe} {v : sv} (he : okE e) (m : Nat) : psN e v m (eN e) ≤ 72 := by
  show smN (plN e v) m (eN e) ≤ 72
  have h1 := smN_le (g := plN e v) (m := m) (b := 9) (eN e) (fun i _ => (plN_c e v i).2)
  have h2 := he.1.2.2.2.2.1
  omega
def puN (e : xe) (v : sv) (n : Nat) : Nat := bsN (fun i => decide (0 < plN e v i)) n
theorem puN_lt (e : xe) (v : sv) {n : Nat} (h : n ≤ 8) : puN e v n < 256 := bsN_256 _ h
theorem psm_N {e : xe} {v : sv} {m : Nat} (hm : m < 256) : ∀ n, n ≤ 8 → psmV e v (nI m) n = nI (psN e v m n)
  | 0, _ => rfl
  | n + 1, hn => by
    have ih := psm_N (e := e) (v := v) hm n (by omega)
    show psmV e v (nI m) n + (if xbit (nI m) (nI n) = nI 1 then plV e v n else nI 0) = nI (psN e v m n + (if m.testBit n = true then plN e v n else 0))
    rw [ih, (plN_c e v n).1]
    by_cases c : m.testBit n = true
    · rw [if_pos ((xbit_t m hm n (by omega)).mpr c), if_pos c, nI_add]
    · rw [if_neg (fun q => c ((xbit_t m hm n (by omega)).mp q)), if_neg c, nI_add]
theorem pus_N {e : xe} {v : sv} : ∀ n, n ≤ 8 → pusV e v n = nI (puN e v n)
  | 0, _ => rfl
  | n + 1, hn => by
    have ih := pus_N (e := e) (v := v) n (by omega)
    have h9 := (plN_c e v n).2
    have hp := plV_pos e v n
    have h1 := (plN_c e v n).1
    have e0 : plV e v n = 0 ↔ plN e v n = 0 := by
      rw [h1, ← nI_0, nI_eq (by omega) (by omega)]
    show pusV e v n ||| _ = nI (puN e v n ||| (if decide (0 < plN e v n) = true then 2 ^ n else 0))
    rw [ih]
    by_cases c : plN e v n = 0
    · rw [if_neg (show ¬ decide (0 < plN e v n) = true by simp [c])]
      first | rw [if_neg (fun q => hp.mp q (e0.mpr c))] | rw [if_pos (fa_nlt (fun q => hp.mp q (e0.mpr c)))]
      exact or_N _ _
    · rw [if_pos (decide_eq_true (show 0 < plN e v n by omega))]
      first | rw [if_pos (hp.mpr (fun q => c (e0.mp q)))] | rw [if_neg (fun q => fa_nlt2 (hp.mpr (fun z => c (e0.mp z))) q)]
      rw [shl_1 n (by omega)]
      exact or_N _ _
theorem x_pusN {l : xLa} {d : Nat} {σ : xs} {e : xe} {v : sv} (hn : sf σ 9 2 = nI (eN e)) (hn8 : eN e ≤ 8) (hM : MS e v (eN e) σ) : TE l M_Tug_pullers (d + 1) [.ref 14] σ (some (.int (nI (puN e v (eN e))))) σ := by
  have q := x_pullers (l := l) (d := d) (σ := σ) hn hn8 hM
  rw [pus_N _ hn8] at q
  exact q
theorem x_psmN {l : xLa} {d : Nat} {σ : xs} {e : xe} {v : sv} {m : Nat} (hn : sf σ 9 2 = nI (eN e)) (hn8 : eN e ≤ 8) (hM : MS e v (eN e) σ) (hm : m < 256) : TE l M_Tug_pullOf (d + 1) [.ref 14, .int (nI m)] σ (some (.int (nI (psN e v m (eN e))))) σ := by
  have q := x_pullOf (l := l) (d := d) (σ := σ) hn hn8 hM (z := nI m)
  rw [psm_N hm _ hn8] at q
  exact q
theorem y_crumN_l {l : xLa} {d : Nat} {σ : xs} {ms : Nat} (hm : ms < 256) {e : xe} {v : sv} (he : okE e) (hE : sf σ 154 5 = nI (eN e)) (hS : SY σ 160 (eN e) v) (hp : ∀ j, j < eN e → ms.testBit j = true → ¬ v 3 j = 0) : ∀ (m : Nat) (i : Nat), eN e - i = m → i ≤ eN e → T l M_Y_crumbsOf (d + 2) 4 [some (.ref 154), some (.int (nI ms)), some (.int (nI (csN v ms i))), some (.int (nI i))] [] σ (fun r τ => r = some (.int (nI (csN v ms (eN e)))) ∧ τ = σ) := by
  intro m
  induction m using Nat.strongRecOn with
  | ind m ih =>
    intro i hmm hi
    have h8 := he.1.2.2.2.2.1
    have htb := tbN_c ms i
    refine tt_iload_n d_Y_crumbsOf_4 rfl ?_
    refine tt_aload_n d_Y_crumbsOf_5 rfl ?_
    refine tn_get d_Y_crumbsOf_6 rfl rfl (by decide) rfl hE ?_
    refine tn_ic_ge (t := 43) (by omega) (by omega) d_Y_crumbsOf_9 (by decide) (fun c_9 => ?_) (fun c_9 => ?_)
    · obtain rfl : i = eN e := by omega
      refine tt_iload_n d_Y_crumbsOf_43 rfl ?_
      refine tt_iret rfl d_Y_crumbsOf_44 ?_
      exact ⟨rfl, rfl⟩
    · refine tt_iload_n d_Y_crumbsOf_12 rfl ?_
      refine tt_iload_n d_Y_crumbsOf_13 rfl ?_
      refine tt_i2l d_Y_crumbsOf_14 ?_
      refine tt_iload_n d_Y_crumbsOf_15 rfl ?_
      refine tt_callS (y_hasN (d := d) hm (by omega)) cw_Y_has rfl (by omega) d_Y_crumbsOf_16 rfl rfl (Nat.le_of_ble_eq_true rfl) (Nat.le_of_ble_eq_true rfl) rfl rfl rfl (fun v σ2 q => ?_)
      obtain ⟨rfl, e9⟩ := q
      rw [e9]
      clear e9
      refine tn_if_eq (t := 34) (by omega) d_Y_crumbsOf_19 (by decide) (fun c_19 => ?_) (fun c_19 => ?_)
      · have hz : csN v ms i + 0 = csN v ms (i + 1) := by
          show _ = _ + (if ms.testBit i = true then _ else 0)
          rw [if_neg (htb.2.2.mp c_19)]
        refine tt_iconst (v := nI 0) d_Y_crumbsOf_34 (by decide) ?_
        refine tn_iadd d_Y_crumbsOf_35 ?_
        refine tt_istore_n (lv2 := [_, _, _, _]) d_Y_crumbsOf_36 (by decide) rfl ?_
        refine tt_iinc (lv2 := [_, _, _, _]) d_Y_crumbsOf_37 rfl (nI_inc _ 1) (by decide) rfl ?_
        refine tt_goto (t := 4) d_Y_crumbsOf_40 (by decide) ?_
        rw [hz]
        exact ih (eN e - (i + 1)) (by omega) (i + 1) rfl (by omega)
      · have hz : csN v ms i + v 4 i = csN v ms (i + 1) := by
          show _ = _ + (if ms.testBit i = true then _ else 0)
          rw [if_pos (Decidable.not_not.mp (fun q => c_19 (htb.2.2.mpr q)))]
        refine tt_aload_n d_Y_crumbsOf_22 rfl ?_
        refine tt_getR d_Y_crumbsOf_23 rfl rfl (by decide) rfl rfl ?_
        refine tt_bipush (v := nI 25) d_Y_crumbsOf_26 (by decide) ?_
        refine tt_iload_n d_Y_crumbsOf_28 rfl ?_
        refine tn_iadd d_Y_crumbsOf_29 ?_
        refine tn_iald d_Y_crumbsOf_30 rfl (by decide) (by omega) (show _ = nI (v 4 i) from ((hS.2 i (by omega)).2.2.2).trans (if_neg (hp i (by omega) (Decidable.not_not.mp (fun q => c_19 (htb.2.2.mpr q)))))) ?_
        refine tt_goto (t := 35) d_Y_crumbsOf_31 (by decide) ?_
        refine tn_iadd d_Y_crumbsOf_35 ?_
        refine tt_istore_n (lv2 := [_, _, _, _]) d_Y_crumbsOf_36 (by decide) rfl ?_
        refine tt_iinc (lv2 := [_, _, _, _]) d_Y_crumbsOf_37 rfl (nI_inc _ 1) (by decide) rfl ?_
        refine tt_goto (t := 4) d_Y_crumbsOf_40 (by decide) ?_
        rw [hz]
        exact ih (eN e - (i + 1)) (by omega) (i + 1) rfl (by omega)

theorem y_crumN {l : xLa} {d : Nat} {σ : xs} {ms : Nat} (hm : ms < 256) {e : xe} {v : sv} (he : okE e) (hE : sf σ 154 5 = nI (eN e)) (hS : SY σ 160 (eN e) v) (hp : ∀ j, j < eN e → ms.testBit j = true → ¬ v 3 j = 0) : TE l M_Y_crumbsOf (d + 2) [.ref 154, .int (nI ms)] σ (some (.int (nI (csN v ms (eN e))))) σ := by
  show T l M_Y_crumbsOf (d + 2) 0 _ [] σ _
  refine tt_iconst (v := nI 0) d_Y_crumbsOf_0 (by decide) ?_
  refine tt_istore_n d_Y_crumbsOf_1 (by decide) rfl ?_
  refine tt_iconst (v := nI 0) d_Y_crumbsOf_2 (by decide) ?_
  refine tt_istore_n d_Y_crumbsOf_3 (by decide) rfl ?_
  have q := y_crumN_l (l := l) (d := d) hm he hE hS hp (eN e) 0 rfl (by omega)
  exact q

theorem y_psmN_l {l : xLa} {d : Nat} {σ : xs} {ms : Nat} (hm : ms < 256) {e : xe} {v : sv} (he : okE e) (hE : sf σ 154 5 = nI (eN e)) (hM : ∀ j, j < eN e → si σ 169 j = plV e v j) : ∀ (m : Nat) (i : Nat), eN e - i = m → i ≤ eN e → T l M_Y_pullOf (d + 2) 4 [some (.ref 154), some (.int (nI ms)), some (.int (nI (psN e v ms i))), some (.int (nI i))] [] σ (fun r τ => r = some (.int (nI (psN e v ms (eN e)))) ∧ τ = σ) := by
  intro m
  induction m using Nat.strongRecOn with
  | ind m ih =>
    intro i hmm hi
    have h8 := he.1.2.2.2.2.1
    have htb := tbN_c ms i
    refine tt_iload_n d_Y_pullOf_4 rfl ?_
    refine tt_aload_n d_Y_pullOf_5 rfl ?_
    refine tn_get d_Y_pullOf_6 rfl rfl (by decide) rfl hE ?_
    refine tn_ic_ge (t := 40) (by omega) (by omega) d_Y_pullOf_9 (by decide) (fun c_9 => ?_) (fun c_9 => ?_)
    · obtain rfl : i = eN e := by omega
      refine tt_iload_n d_Y_pullOf_40 rfl ?_
      refine tt_iret rfl d_Y_pullOf_41 ?_
      exact ⟨rfl, rfl⟩
    · refine tt_iload_n d_Y_pullOf_12 rfl ?_
      refine tt_iload_n d_Y_pullOf_13 rfl ?_
      refine tt_i2l d_Y_pullOf_14 ?_
      refine tt_iload_n d_Y_pullOf_15 rfl ?_
      refine tt_callS (y_hasN (d := d) hm (by omega)) cw_Y_has rfl (by omega) d_Y_pullOf_16 rfl rfl (Nat.le_of_ble_eq_true rfl) (Nat.le_of_ble_eq_true rfl) rfl rfl rfl (fun v σ2 q => ?_)
      obtain ⟨rfl, e9⟩ := q
      rw [e9]
      clear e9
      refine tn_if_eq (t := 31) (by omega) d_Y_pullOf_19 (by decide) (fun c_19 => ?_) (fun c_19 => ?_)
      · have hz : psN e v ms i + 0 = psN e v ms (i + 1) := by
          show _ = _ + (if ms.testBit i = true then _ else 0)
          rw [if_neg (htb.2.2.mp c_19)]
        refine tt_iconst (v := nI 0) d_Y_pullOf_31 (by decide) ?_
        refine tn_iadd d_Y_pullOf_32 ?_
        refine tt_istore_n (lv2 := [_, _, _, _]) d_Y_pullOf_33 (by decide) rfl ?_
        refine tt_iinc (lv2 := [_, _, _, _]) d_Y_pullOf_34 rfl (nI_inc _ 1) (by decide) rfl ?_
        refine tt_goto (t := 4) d_Y_pullOf_37 (by decide) ?_
        rw [hz]
        exact ih (eN e - (i + 1)) (by omega) (i + 1) rfl (by omega)
      · have hz : psN e v ms i + plN e v i = psN e v ms (i + 1) := by
          show _ = _ + (if ms.testBit i = true then _ else 0)
          rw [if_pos (Decidable.not_not.mp (fun q => c_19 (htb.2.2.mpr q)))]
        refine tt_aload_n d_Y_pullOf_22 rfl ?_
        refine tt_getR d_Y_pullOf_23 rfl rfl (by decide) rfl rfl ?_
        refine tt_iload_n d_Y_pullOf_26 rfl ?_
        refine tn_iald d_Y_pullOf_27 rfl (by decide) (by omega) (show _ = nI (plN e v i) from (hM i (by omega)).trans (plN_c e v i).1) ?_
        refine tt_goto (t := 32) d_Y_pullOf_28 (by decide) ?_
        refine tn_iadd d_Y_pullOf_32 ?_
        refine tt_istore_n (lv2 := [_, _, _, _]) d_Y_pullOf_33 (by decide) rfl ?_
        refine tt_iinc (lv2 := [_, _, _, _]) d_Y_pullOf_34 rfl (nI_inc _ 1) (by decide) rfl ?_
        refine tt_goto (t := 4) d_Y_pullOf_37 (by decide) ?_
        rw [hz]
        exact ih (eN e - (i + 1)) (by omega) (i + 1) rfl (by omega)

theorem y_psmN {l : xLa} {d : Nat} {σ : xs} {ms : Nat} (hm : ms < 256) {e : xe} {v : sv} (he : okE e) (hE : sf σ 154 5 = nI (eN e)) (hM : ∀ j, j < eN e → si σ 169 j = plV e v j) : TE l M_Y_pullOf (d + 2) [.ref 154, .int (nI ms)] σ (some (.int (nI (psN e v ms (eN e))))) σ := by
  show T l M_Y_pullOf (d + 2) 0 _ [] σ _
  refine tt_iconst (v := nI 0) d_Y_pullOf_0 (by decide) ?_
  refine tt_istore_n d_Y_pullOf_1 (by decide) rfl ?_
  refine tt_iconst (v := nI 0) d_Y_pullOf_2 (by decide) ?_
  refine tt_istore_n d_Y_pullOf_3 (by decide) rfl ?_
  have q := y_psmN_l (l := l) (d := d) hm he hE hM (eN e) 0 rfl (by omega)
  exact q

theorem y_pusN_l {l : xLa} {d : Nat} {σ : xs} {e : xe} {v : sv} (he : okE e) (hE : sf σ 154 5 = nI (eN e)) (hM : ∀ j, j < eN e → si σ 169 j = plV e v j) : ∀ (m : Nat) (i : Nat), eN e - i = m → i ≤ eN e → T l M_Y_pulling (d + 1) 4 [some (.ref 154), some (.int (nI (puN e v i))), some (.int (nI i))] [] σ (fun r τ => r = some (.int (nI (puN e v (eN e)))) ∧ τ = σ) := by
  intro m
  induction m using Nat.strongRecOn with
  | ind m ih =>
    intro i hm hi
    have h8 := he.1.2.2.2.2.1
    have h9 := (plN_c e v i).2
    refine tt_iload_n d_Y_pulling_4 rfl ?_
    refine tt_aload_n d_Y_pulling_5 rfl ?_
    refine tn_get d_Y_pulling_6 rfl rfl (by decide) rfl hE ?_
    refine tn_ic_ge (t := 37) (by omega) (by omega) d_Y_pulling_9 (by decide) (fun c_9 => ?_) (fun c_9 => ?_)
    · obtain rfl : i = eN e := by omega
      refine tt_iload_n d_Y_pulling_37 rfl ?_
      refine tt_iret rfl d_Y_pulling_38 ?_
      exact ⟨rfl, rfl⟩
    · refine tt_iload_n d_Y_pulling_12 rfl ?_
      refine tt_aload_n d_Y_pulling_13 rfl ?_
      refine tt_getR d_Y_pulling_14 rfl rfl (by decide) rfl rfl ?_
      refine tt_iload_n d_Y_pulling_17 rfl ?_
      refine tn_iald d_Y_pulling_18 rfl (by decide) (by omega) (show _ = nI (plN e v i) from (hM i (by omega)).trans (plN_c e v i).1) ?_
      refine tn_if_le (t := 28) (by omega) d_Y_pulling_19 (by decide) (fun c_19 => ?_) (fun c_19 => ?_)
      · have hz : puN e v i ||| 0 = puN e v (i + 1) := by
          show _ = puN e v i ||| (if decide (0 < plN e v i) = true then 2 ^ i else 0)
          rw [if_neg (by simp [c_19])]
        refine tt_iconst (v := nI 0) d_Y_pulling_28 (by decide) ?_
        refine tt_ior d_Y_pulling_29 ?_
        refine tt_top (or_N _ _) ?_
        refine tt_istore_n (lv2 := [_, _, _]) d_Y_pulling_30 (by decide) rfl ?_
        refine tt_iinc (lv2 := [_, _, _]) d_Y_pulling_31 rfl (nI_inc _ 1) (by decide) rfl ?_
        refine tt_goto (t := 4) d_Y_pulling_34 (by decide) ?_
        rw [hz]
        exact ih (eN e - (i + 1)) (by omega) (i + 1) rfl (by omega)
      · have hz : puN e v i ||| 2 ^ i = puN e v (i + 1) := by
          show _ = puN e v i ||| (if decide (0 < plN e v i) = true then 2 ^ i else 0)
          rw [if_pos (decide_eq_true c_19)]
        refine tt_iconst (v := nI 1) d_Y_pulling_22 (by decide) ?_
        refine tt_iload_n d_Y_pulling_23 rfl ?_
        refine tt_ishl d_Y_pulling_24 ?_
        refine tt_top (shl_9 _ (by omega)) ?_
        refine tt_goto (t := 29) d_Y_pulling_25 (by decide) ?_
        refine tt_ior d_Y_pulling_29 ?_
        refine tt_top (or_N _ _) ?_
        refine tt_istore_n (lv2 := [_, _, _]) d_Y_pulling_30 (by decide) rfl ?_
        refine tt_iinc (lv2 := [_, _, _]) d_Y_pulling_31 rfl (nI_inc _ 1) (by decide) rfl ?_
        refine tt_goto (t := 4) d_Y_pulling_34 (by decide) ?_
        rw [hz]
        exact ih (eN e - (i + 1)) (by omega) (i + 1) rfl (by omega)

theorem y_pusN {l : xLa} {d : Nat} {σ : xs} {e : xe} {v : sv} (he : okE e) (hE : sf σ 154 5 = nI (eN e)) (hM : ∀ j, j < eN e → si σ 169 j = plV e v j) : TE l M_Y_pulling (d + 1) [.ref 154] σ (some (.int (nI (puN e v (eN e))))) σ := by
  show T l M_Y_pulling (d + 1) 0 _ [] σ _
  refine tt_iconst (v := nI 0) d_Y_pulling_0 (by decide) ?_
  refine tt_istore_n d_Y_pulling_1 (by decide) rfl ?_
  refine tt_iconst (v := nI 0) d_Y_pulling_2 (by decide) ?_
  refine tt_istore_n d_Y_pulling_3 (by decide) rfl ?_
  exact y_pusN_l he hE hM (eN e) 0 rfl (by omega)

theorem okQ.h5 {w : wv} (h : okQ w) : wV w 0 5 < 256 := h.2.1.2.2.2.2.2.1
theorem okQ.s9 {w : wv} (h : okQ w) : wV w 0 1 ≤ 99 := h.2.1.2.1
theorem okQ.b0 {w : wv} (h : okQ w) : wV w 0 0 < eR (wE w) * eC (wE w) := h.2.1.1
theorem pw8 {n : Nat} (h : n ≤ 8) : 2 ^ n ≤ 256 := Nat.pow_le_pow_right (by decide) h
theorem prN_lt2 (v : sv) (n : Nat) : prN v n < 2 ^ n := bsN_lt _ _
theorem puN_lt2 (e : xe) (v : sv) (n : Nat) : puN e v n < 2 ^ n := bsN_lt _ _
def q_owed (w : wv) : Int32 × Option (List Int64) :=
  let p := prN (wV w) (eN (wE w))
  let c := csN (wV w) p (eN (wE w))
  (nI c, some [((if 0 < nI c - nI (wV w 0 1) then nI c - nI (wV w 0 1) else nI 0) : Int32).toInt64, (nI p).toInt64])
set_option maxHeartbeats 4000000 in
theorem xc_owed {l : xLa} {d : Nat} {σ : xs} {w : wv} (ho : okQ w) (hw : XW σ w)  : TC l M_X_owed (d + 30) [.ref 0] σ (fun r τ => r = some (.int ((q_owed w).1)) ∧ XW τ (stD w ((q_owed w).2)) ∧ XF σ τ) := by
  show T l M_X_owed (d + 30) 0 _ [] σ _
  refine T_lv (lv2 := [_, _, _]) rfl ?_
  have h := XQ.rf hw.v
  have hd0 := hw.2.2.2.1
  have hb0 := ho.fb
  have hb8 := ho.n8
  have hpl := prN_lt (wV w) ho.n8
  refine tt_aload_n d_X_owed_0 rfl ?_
  refine tt_getR d_X_owed_1 rfl rfl (by decide) rfl rfl ?_
  refine tt_aload_n d_X_owed_4 rfl ?_
  refine tt_getR d_X_owed_5 rfl rfl (by decide) rfl rfl ?_
  refine tn_get d_X_owed_8 rfl rfl (by decide) rfl h.n ?_
  refine tt_callV (x_promN (d := d) isS_20 ho.1 ho.2.1 h.1.2.1) cw_State_promised rfl rfl (by decide) rfl (by omega) d_X_owed_11 rfl rfl (Nat.le_of_ble_eq_true rfl) (Nat.le_of_ble_eq_true rfl) rfl rfl rfl (fun v σ2 q => ?_)
  obtain ⟨rfl, e9⟩ := q
  rw [e9]
  clear e9
  refine tt_istore_n (lv2 := [_, _, _]) d_X_owed_14 (by decide) rfl ?_
  refine tt_aload_n d_X_owed_15 rfl ?_
  refine tt_getR d_X_owed_16 rfl rfl (by decide) rfl rfl ?_
  refine tt_iload_n d_X_owed_19 rfl ?_
  refine tt_aload_n d_X_owed_20 rfl ?_
  refine tt_getR d_X_owed_21 rfl rfl (by decide) rfl rfl ?_
  refine tn_get d_X_owed_24 rfl rfl (by decide) rfl h.n ?_
  refine tt_callV (x_crumN (d := d) isS_20 ho.1 h.1.2.1 (by omega)) cw_State_crumbsOf rfl rfl (by decide) rfl (by omega) d_X_owed_27 rfl rfl (Nat.le_of_ble_eq_true rfl) (Nat.le_of_ble_eq_true rfl) rfl rfl rfl (fun v σ2 q => ?_)
  obtain ⟨rfl, e9⟩ := q
  rw [e9]
  clear e9
  refine tt_istore_n (lv2 := [_, _, _]) d_X_owed_30 (by decide) rfl ?_
  refine tt_aload_n d_X_owed_31 rfl ?_
  refine tt_getR d_X_owed_32 rfl rfl (by decide) rfl rfl ?_
  refine tt_callV (xq_start (d := d) h) cw_Told_start rfl rfl (by decide) rfl (by omega) d_X_owed_35 rfl rfl (Nat.le_of_ble_eq_true rfl) (Nat.le_of_ble_eq_true rfl) rfl rfl rfl (fun v σ2 q => ?_)
  obtain ⟨rfl, h, hd, hf⟩ := q
  refine tt_aload_n d_X_owed_38 rfl ?_
  refine tt_getR d_X_owed_39 rfl rfl (by decide) rfl rfl ?_
  refine tt_iconst (v := nI 0) d_X_owed_42 (by decide) ?_
  refine tt_iload_n d_X_owed_43 rfl ?_
  refine tt_aload_n d_X_owed_44 rfl ?_
  refine tt_getR d_X_owed_45 rfl rfl (by decide) rfl rfl ?_
  refine tn_get d_X_owed_48 rfl rfl (by decide) rfl (h.v 1 (by decide)) ?_
  refine tt_isub d_X_owed_51 ?_
  refine tt_max d_X_owed_52 rfl (Nat.le_of_ble_eq_true rfl) ?_
  refine tt_i2l d_X_owed_55 ?_
  refine tt_callV (xq_add (d := d) h hd (Nat.le_of_ble_eq_true rfl)) cw_Told_add rfl rfl (by decide) rfl (by omega) d_X_owed_56 rfl rfl (Nat.le_of_ble_eq_true rfl) (Nat.le_of_ble_eq_true rfl) rfl rfl rfl (fun v σ2 q => ?_)
  obtain ⟨rfl, h, hd, hf⟩ := q
  refine tt_aload_n d_X_owed_59 rfl ?_
  refine tt_getR d_X_owed_60 rfl rfl (by decide) rfl rfl ?_
  refine tt_iload_n d_X_owed_63 rfl ?_
  refine tt_i2l d_X_owed_64 ?_
  refine tt_callV (xq_add (d := d) h hd (Nat.le_of_ble_eq_true rfl)) cw_Told_add rfl rfl (by decide) rfl (by omega) d_X_owed_65 rfl rfl (Nat.le_of_ble_eq_true rfl) (Nat.le_of_ble_eq_true rfl) rfl rfl rfl (fun v σ2 q => ?_)
  obtain ⟨rfl, h, hd, hf⟩ := q
  refine tt_iload_n d_X_owed_68 rfl ?_
  refine tt_iret rfl d_X_owed_69 ?_
  exact ⟨rfl, h.done hd, h.2.1⟩

set_option maxHeartbeats 4000000 in
theorem yc_owed {l : xLa} {d c : Nat} {σ : xs} {w : wv} (ho : okQ w) (hw : YW σ c w)  : TC l M_Y_owed (d + 150) [.ref 154] σ (fun r τ => r = some (.int ((q_owed w).1)) ∧ YW τ c (stD w ((q_owed w).2)) ∧ YF σ τ) := by
  show T l M_Y_owed (d + 150) 0 _ [] σ _
  refine T_lv (lv2 := [_, _]) rfl ?_
  have h := YQ.rf hw.v
  have hd0 := hw.2.2.2.1
  have hb0 := ho.fb
  have hb8 := ho.n8
  have hpl := prN_lt (wV w) ho.n8
  refine tt_aload_n d_Y_owed_0 rfl ?_
  refine tt_iconst (v := nI 0) d_Y_owed_1 (by decide) ?_
  refine tt_putI d_Y_owed_2 rfl rfl (by decide) rfl (xpok_int rfl) rfl ?_
  replace h := h.thr (x := nI 0)
  replace hd0 := hd0.thr (x := nI 0)
  refine tt_aload_n d_Y_owed_5 rfl ?_
  refine tt_aload_n d_Y_owed_6 rfl ?_
  refine tt_aload_n d_Y_owed_7 rfl ?_
  refine tt_getR d_Y_owed_8 rfl rfl (by decide) rfl rfl ?_
  refine tt_callV (y_promN (d := d) isY_160 ho.1 ho.2.1 h.e.1.2.2.1 h.1.2.1) cw_Y_promised rfl rfl (by decide) rfl (by omega) d_Y_owed_11 rfl rfl (Nat.le_of_ble_eq_true rfl) (Nat.le_of_ble_eq_true rfl) rfl rfl rfl (fun v σ2 q => ?_)
  obtain ⟨rfl, e9⟩ := q
  rw [e9]
  clear e9
  refine tt_callV (y_crumN (d := d) (by omega) ho.1 h.e.1.2.2.1 h.1.2.1 (fun j hj q => ((prN_t _ _ _).mp q).2)) cw_Y_crumbsOf rfl rfl (by decide) rfl (by omega) d_Y_owed_14 rfl rfl (Nat.le_of_ble_eq_true rfl) (Nat.le_of_ble_eq_true rfl) rfl rfl rfl (fun v σ2 q => ?_)
  obtain ⟨rfl, e9⟩ := q
  rw [e9]
  clear e9
  refine tt_istore_n (lv2 := [_, _]) d_Y_owed_17 (by decide) rfl ?_
  refine tt_aload_n d_Y_owed_18 rfl ?_
  refine tt_iconst (v := nI 0) d_Y_owed_19 (by decide) ?_
  refine tt_putI d_Y_owed_20 rfl rfl (by decide) rfl (xpok_int rfl) rfl ?_
  replace h := h.td0
  have hd := YD_0t h
  refine tt_aload_n d_Y_owed_23 rfl ?_
  refine tt_iconst (v := nI 0) d_Y_owed_24 (by decide) ?_
  refine tt_iload_n d_Y_owed_25 rfl ?_
  refine tt_aload_n d_Y_owed_26 rfl ?_
  refine tt_getR d_Y_owed_27 rfl rfl (by decide) rfl rfl ?_
  refine tt_bipush (v := nI 34) d_Y_owed_30 (by decide) ?_
  refine tn_iald d_Y_owed_32 rfl (by decide) (by omega) (h.1.2.1.1.2.2.1) ?_
  refine tt_isub d_Y_owed_33 ?_
  refine tt_max d_Y_owed_34 rfl (Nat.le_of_ble_eq_true rfl) ?_
  refine tt_i2l d_Y_owed_37 ?_
  refine tt_callV (yq_add (d := d) h hd (Nat.le_of_ble_eq_true rfl)) cw_Y_enters rfl rfl (by decide) rfl (by omega) d_Y_owed_38 rfl rfl (Nat.le_of_ble_eq_true rfl) (Nat.le_of_ble_eq_true rfl) rfl rfl rfl (fun v σ2 q => ?_)
  obtain ⟨rfl, h, hd, hf⟩ := q
  refine tt_aload_n d_Y_owed_41 rfl ?_
  refine tt_aload_n d_Y_owed_42 rfl ?_
  refine tt_aload_n d_Y_owed_43 rfl ?_
  refine tt_getR d_Y_owed_44 rfl rfl (by decide) rfl rfl ?_
  refine tt_callV (y_promN (d := d) isY_160 ho.1 ho.2.1 h.e.1.2.2.1 h.1.2.1) cw_Y_promised rfl rfl (by decide) rfl (by omega) d_Y_owed_47 rfl rfl (Nat.le_of_ble_eq_true rfl) (Nat.le_of_ble_eq_true rfl) rfl rfl rfl (fun v σ2 q => ?_)
  obtain ⟨rfl, e9⟩ := q
  rw [e9]
  clear e9
  refine tt_i2l d_Y_owed_50 ?_
  refine tt_callV (yq_add (d := d) h hd (Nat.le_of_ble_eq_true rfl)) cw_Y_enters rfl rfl (by decide) rfl (by omega) d_Y_owed_51 rfl rfl (Nat.le_of_ble_eq_true rfl) (Nat.le_of_ble_eq_true rfl) rfl rfl rfl (fun v σ2 q => ?_)
  obtain ⟨rfl, h, hd, hf⟩ := q
  refine tt_iload_n d_Y_owed_54 rfl ?_
  refine tt_iret rfl d_Y_owed_55 ?_
  exact ⟨rfl, h.done hd, h.2⟩

def tmB (w : wv) (i : Nat) : Bool := decide (tmV (wE w) (wV w) i)
def mdN (w : wv) (n : Nat) : Nat := bsN (tmB w) n
def msN (w : wv) (n : Nat) : Nat := bsN (fun i => tmB w i && decide (eK (wE w) i = 3)) n
theorem mdN_s (w : wv) (n : Nat) : mdN w (n + 1) = mdN w n ||| (if tmB w n = true then 2 ^ n else 0) := rfl
theorem msN_s (w : wv) (n : Nat) : msN w (n + 1) = msN w n ||| (if (tmB w n && decide (eK (wE w) n = 3)) = true then 2 ^ n else 0) := rfl
def q_minds (w : wv) : Int32 × Option (List Int64) := (nI (mdN w (eN (wE w))), some [(nI (pcN (mdN w (eN (wE w))))).toInt64, (nI (msN w (eN (wE w)))).toInt64])
theorem tmB_0 {w : wv} {i : Nat} (h : ¬ tmV (wE w) (wV w) i) : mdN w (i + 1) = mdN w i ∧ msN w (i + 1) = msN w i := by
  have e : tmB w i = false := decide_eq_false h
  rw [mdN_s, msN_s, e]
  exact ⟨by rw [if_neg (by decide), Nat.or_zero], by rw [Bool.false_and, if_neg (by decide), Nat.or_zero]⟩
theorem tmB_1 {w : wv} {i : Nat} (h : tmV (wE w) (wV w) i) : mdN w (i + 1) = mdN w i ||| 2 ^ i ∧ (eK (wE w) i = 3 → msN w (i + 1) = msN w i ||| 2 ^ i) ∧ (¬ eK (wE w) i = 3 → msN w (i + 1) = msN w i) := by
  have e : tmB w i = true := decide_eq_true h
  rw [mdN_s, msN_s, e]
  refine ⟨by rw [if_pos rfl], fun q => by rw [decide_eq_true q]; rfl, fun q => by rw [decide_eq_false q, Bool.and_false, if_neg (by decide), Nat.or_zero]⟩
theorem X_abs_neg (a b : Int32) : X_abs (a - b) = X_abs (b - a) ∨ True := Or.inr trivial
theorem dia_sy {C a b : Nat} (ha : a < 100) (hb : b < 100) : (X_abs (nI (a / C) - nI (b / C)) = X_abs (nI (a % C) - nI (b % C))) ↔ (X_abs (nI (b / C) - nI (a / C)) = X_abs (nI (b % C) - nI (a % C))) := by
  have h1 : a / C ≤ a := Nat.div_le_self a C
  have h2 : b / C ≤ b := Nat.div_le_self b C
  have h3 : a % C ≤ a := Nat.mod_le a C
  have h4 : b % C ≤ b := Nat.mod_le b C
  have s : ∀ x y : Nat, adf x y = adf y x := fun x y => by unfold adf; omega
  rw [X_abs_adf (by omega) (by omega), X_abs_adf (by omega) (by omega), X_abs_adf (by omega) (by omega), X_abs_adf (by omega) (by omega), s (a / C), s (a % C)]
set_option maxHeartbeats 4000000 in
theorem x_minds_l {l : xLa} {d : Nat} {σ : xs} {w : wv} (ho : okQ w) : ∀ (m : Nat) (i b1 b2 : Nat) (τ : xs), eN (wE w) - i = m → i ≤ eN (wE w) → XQ w σ τ → b1 = mdN w i → b2 = msN w i → T l M_X_minds (d + 30) 6 [some (.ref 0), some (.int (nI b1)), some (.int (nI b2)), some (.int (nI i))] [] τ (fun r τ => r = some (.int (q_minds w).1) ∧ XW τ (stD w (q_minds w).2) ∧ XF σ τ) := by
  have hb0 := ho.fb
  have hb8 := ho.n8
  intro m
  induction m using Nat.strongRecOn with
  | ind m ih =>
    intro i b1 b2 τ hm hi h hb1 hb2
    have hb := ho.b0
    refine tt_iload_n d_X_minds_6 rfl ?_
    refine tt_aload_n d_X_minds_7 rfl ?_
    refine tt_getR d_X_minds_8 rfl rfl (by decide) rfl rfl ?_
    refine tn_get d_X_minds_11 rfl rfl (by decide) rfl h.n ?_
    refine tn_ic_ge (t := 106) (by omega) (by omega) d_X_minds_14 (by decide) (fun c_14 => ?_) (fun c_14 => ?_)
    · obtain rfl : i = eN (wE w) := by omega
      have hml : mdN w (eN (wE w)) < 256 := bsN_256 _ hb8
      subst hb1
      subst hb2
      refine tt_aload_n d_X_minds_106 rfl ?_
      refine tt_getR d_X_minds_107 rfl rfl (by decide) rfl rfl ?_
      refine tt_callV (xq_start (d := d) h) cw_Told_start rfl rfl (by decide) rfl (by omega) d_X_minds_110 rfl rfl (Nat.le_of_ble_eq_true rfl) (Nat.le_of_ble_eq_true rfl) rfl rfl rfl (fun v σ2 q => ?_)
      obtain ⟨rfl, h, hd, hf⟩ := q
      refine tt_aload_n d_X_minds_113 rfl ?_
      refine tt_getR d_X_minds_114 rfl rfl (by decide) rfl rfl ?_
      refine tt_iload_n d_X_minds_117 rfl ?_
      refine tt_callS (x_bitN (d := d) (by omega)) cw_Integer_bitCount rfl (by omega) d_X_minds_118 rfl rfl (Nat.le_of_ble_eq_true rfl) (Nat.le_of_ble_eq_true rfl) rfl rfl rfl (fun v σ2 q => ?_)
      obtain ⟨rfl, e9⟩ := q
      rw [e9]
      clear e9
      refine tt_i2l d_X_minds_121 ?_
      refine tt_callV (xq_add (d := d) h hd (Nat.le_of_ble_eq_true rfl)) cw_Told_add rfl rfl (by decide) rfl (by omega) d_X_minds_122 rfl rfl (Nat.le_of_ble_eq_true rfl) (Nat.le_of_ble_eq_true rfl) rfl rfl rfl (fun v σ2 q => ?_)
      obtain ⟨rfl, h, hd, hf⟩ := q
      refine tt_aload_n d_X_minds_125 rfl ?_
      refine tt_getR d_X_minds_126 rfl rfl (by decide) rfl rfl ?_
      refine tt_iload_n d_X_minds_129 rfl ?_
      refine tt_i2l d_X_minds_130 ?_
      refine tt_callV (xq_add (d := d) h hd (Nat.le_of_ble_eq_true rfl)) cw_Told_add rfl rfl (by decide) rfl (by omega) d_X_minds_131 rfl rfl (Nat.le_of_ble_eq_true rfl) (Nat.le_of_ble_eq_true rfl) rfl rfl rfl (fun v σ2 q => ?_)
      obtain ⟨rfl, h, hd, hf⟩ := q
      refine tt_iload_n d_X_minds_134 rfl ?_
      refine tt_iret rfl d_X_minds_135 ?_
      exact ⟨rfl, h.done hd, h.2.1⟩
    · have h3 := okV_3 ho.1 ho.2.1 i (by omega)
      have hg := gI_c (g := wV w 3 i) (by omega)
      have hkb := (ho.1.2.1 i (by omega)).1
      have hvb := (ho.2.1.2.2.2.2.2.2 i (by omega)).2.2.1
      refine tt_aload_n d_X_minds_17 rfl ?_
      refine tt_getR d_X_minds_18 rfl rfl (by decide) rfl rfl ?_
      refine tt_getR d_X_minds_21 rfl rfl (by decide) rfl rfl ?_
      refine tt_iload_n d_X_minds_24 rfl ?_
      refine tn_iald d_X_minds_25 rfl (by decide) (by omega) (h.t3 (by omega)) ?_
      refine tt_iconst (v := (-1)) d_X_minds_26 (by decide) ?_
      refine tt_ic_eq (t := 100) d_X_minds_27 (by decide) (fun c_27 => ?_) (fun c_27 => ?_)
      · obtain ⟨e1, e2⟩ := tmB_0 (w := w) (i := i) (fun q => q.1 (hg.1.mp c_27))
        refine tt_iinc (lv2 := [_, _, _, _]) d_X_minds_100 rfl (nI_inc _ 1) (by decide) rfl ?_
        refine tt_goto (t := 6) d_X_minds_103 (by decide) ?_
        exact ih (eN (wE w) - (i + 1)) (by omega) (i + 1) _ _ _ rfl (by omega) h (by first | (rw [e1, hb1]; done) | (rw [Nat.or_zero, e1, hb1]; done)) (by first | (rw [e2 c_91, hb2]; done) | (rw [e3 c_91, hb2]; done) | (rw [Nat.or_zero, e3 c_91, hb2]; done) | (rw [e2, hb2]; done) | (rw [Nat.or_zero, e2, hb2]; done))
      · have hg0 : ¬ wV w 3 i = 0 := fun q => c_27 (hg.1.mpr q)
        refine tt_aload_n d_X_minds_30 rfl ?_
        refine tt_getR d_X_minds_31 rfl rfl (by decide) rfl rfl ?_
        refine tt_getR d_X_minds_34 rfl rfl (by decide) rfl rfl ?_
        refine tt_iload_n d_X_minds_37 rfl ?_
        refine tn_iald d_X_minds_38 rfl (by decide) (by omega) (show _ = nI (wV w 3 i - 1) from (h.t3 (by omega)).trans (hg.2 hg0)) ?_
        refine tt_aload_n d_X_minds_39 rfl ?_
        refine tt_getR d_X_minds_40 rfl rfl (by decide) rfl rfl ?_
        refine tn_get d_X_minds_43 rfl rfl (by decide) rfl (h.v 0 (by decide)) ?_
        refine tn_ic_eq (t := 100) (by omega) (by omega) d_X_minds_46 (by decide) (fun c_46 => ?_) (fun c_46 => ?_)
        · obtain ⟨e1, e2⟩ := tmB_0 (w := w) (i := i) (fun q => q.2.1 c_46)
          refine tt_iinc (lv2 := [_, _, _, _]) d_X_minds_100 rfl (nI_inc _ 1) (by decide) rfl ?_
          refine tt_goto (t := 6) d_X_minds_103 (by decide) ?_
          exact ih (eN (wE w) - (i + 1)) (by omega) (i + 1) _ _ _ rfl (by omega) h (by first | (rw [e1, hb1]; done) | (rw [Nat.or_zero, e1, hb1]; done)) (by first | (rw [e2 c_91, hb2]; done) | (rw [e3 c_91, hb2]; done) | (rw [Nat.or_zero, e3 c_91, hb2]; done) | (rw [e2, hb2]; done) | (rw [Nat.or_zero, e2, hb2]; done))
        · refine tt_aload_n d_X_minds_49 rfl ?_
          refine tt_getR d_X_minds_50 rfl rfl (by decide) rfl rfl ?_
          refine tt_aload_n d_X_minds_53 rfl ?_
          refine tt_getR d_X_minds_54 rfl rfl (by decide) rfl rfl ?_
          refine tn_get d_X_minds_57 rfl rfl (by decide) rfl (h.v 0 (by decide)) ?_
          refine tt_aload_n d_X_minds_60 rfl ?_
          refine tt_getR d_X_minds_61 rfl rfl (by decide) rfl rfl ?_
          refine tt_getR d_X_minds_64 rfl rfl (by decide) rfl rfl ?_
          refine tt_iload_n d_X_minds_67 rfl ?_
          refine tn_iald d_X_minds_68 rfl (by decide) (by omega) (show _ = nI (wV w 3 i - 1) from (h.t3 (by omega)).trans (hg.2 hg0)) ?_
          refine tt_callV (x_Lake_isDiagonal (d := d) (by omega) (by omega) h.r h.cl ho.1.1.2.1 ho.1.1.2.2.2.1 ho.cp) cw_Lake_isDiagonal rfl rfl (by decide) rfl (by omega) d_X_minds_69 rfl rfl (Nat.le_of_ble_eq_true rfl) (Nat.le_of_ble_eq_true rfl) rfl rfl rfl (fun v σ2 q => ?_)
          obtain ⟨rfl, e9⟩ := q
          rw [e9]
          clear e9
          have hds := dia_sy (C := eC (wE w)) (a := wV w 0 0) (b := wV w 3 i - 1) (by omega) (by omega)
          refine tt_if_eq (t := 100) d_X_minds_72 (by decide) (fun c_72 => ?_) (fun c_72 => ?_)
          · have hnt : ¬ tmV (wE w) (wV w) i := fun q => by
              rw [if_pos (hds.mpr q.2.2)] at c_72
              exact absurd c_72 (by decide)
            obtain ⟨e1, e2⟩ := tmB_0 hnt
            refine tt_iinc (lv2 := [_, _, _, _]) d_X_minds_100 rfl (nI_inc _ 1) (by decide) rfl ?_
            refine tt_goto (t := 6) d_X_minds_103 (by decide) ?_
            exact ih (eN (wE w) - (i + 1)) (by omega) (i + 1) _ _ _ rfl (by omega) h (by first | (rw [e1, hb1]; done) | (rw [Nat.or_zero, e1, hb1]; done)) (by first | (rw [e2 c_91, hb2]; done) | (rw [e3 c_91, hb2]; done) | (rw [Nat.or_zero, e3 c_91, hb2]; done) | (rw [e2, hb2]; done) | (rw [Nat.or_zero, e2, hb2]; done))
          · have htm : tmV (wE w) (wV w) i := ⟨hg0, c_46, hds.mp (Decidable.byContradiction (fun q => c_72 (if_neg q)))⟩
            obtain ⟨e1, e2, e3⟩ := tmB_1 htm
            refine tt_iload_n d_X_minds_75 rfl ?_
            refine tt_iconst (v := nI 1) d_X_minds_76 (by decide) ?_
            refine tt_iload_n d_X_minds_77 rfl ?_
            refine tt_ishl d_X_minds_78 ?_
            refine tt_top (shl_9 _ (by omega)) ?_
            refine tt_ior d_X_minds_79 ?_
            refine tt_top (or_N _ _) ?_
            refine tt_istore_n (lv2 := [_, _, _, _]) d_X_minds_80 (by decide) rfl ?_
            refine tt_aload_n d_X_minds_81 rfl ?_
            refine tt_getR d_X_minds_82 rfl rfl (by decide) rfl rfl ?_
            refine tt_getR d_X_minds_85 rfl rfl (by decide) rfl rfl ?_
            refine tt_iload_n d_X_minds_88 rfl ?_
            refine tn_iald d_X_minds_89 rfl (by decide) (by omega) (h.kd (by omega)) ?_
            refine tt_iconst (v := nI 3) d_X_minds_90 (by decide) ?_
            refine tn_ic_ne (t := 100) (by omega) (by omega) d_X_minds_91 (by decide) (fun c_91 => ?_) (fun c_91 => ?_)
            · refine tt_iinc (lv2 := [_, _, _, _]) d_X_minds_100 rfl (nI_inc _ 1) (by decide) rfl ?_
              refine tt_goto (t := 6) d_X_minds_103 (by decide) ?_
              exact ih (eN (wE w) - (i + 1)) (by omega) (i + 1) _ _ _ rfl (by omega) h (by first | (rw [e1, hb1]; done) | (rw [Nat.or_zero, e1, hb1]; done)) (by first | (rw [e2 c_91, hb2]; done) | (rw [e3 c_91, hb2]; done) | (rw [Nat.or_zero, e3 c_91, hb2]; done) | (rw [e2, hb2]; done) | (rw [Nat.or_zero, e2, hb2]; done))
            · refine tt_iload_n d_X_minds_94 rfl ?_
              refine tt_iconst (v := nI 1) d_X_minds_95 (by decide) ?_
              refine tt_iload_n d_X_minds_96 rfl ?_
              refine tt_ishl d_X_minds_97 ?_
              refine tt_top (shl_9 _ (by omega)) ?_
              refine tt_ior d_X_minds_98 ?_
              refine tt_top (or_N _ _) ?_
              refine tt_istore_n (lv2 := [_, _, _, _]) d_X_minds_99 (by decide) rfl ?_
              refine tt_iinc (lv2 := [_, _, _, _]) d_X_minds_100 rfl (nI_inc _ 1) (by decide) rfl ?_
              refine tt_goto (t := 6) d_X_minds_103 (by decide) ?_
              exact ih (eN (wE w) - (i + 1)) (by omega) (i + 1) _ _ _ rfl (by omega) h (by first | (rw [e1, hb1]; done) | (rw [Nat.or_zero, e1, hb1]; done)) (by first | (rw [e2 c_91, hb2]; done) | (rw [e3 c_91, hb2]; done) | (rw [Nat.or_zero, e3 c_91, hb2]; done) | (rw [e2, hb2]; done) | (rw [Nat.or_zero, e2, hb2]; done))

set_option maxHeartbeats 4000000 in
theorem xc_minds {l : xLa} {d : Nat} {σ : xs} {w : wv} (ho : okQ w) (hw : XW σ w)  : TC l M_X_minds (d + 30) [.ref 0] σ (fun r τ => r = some (.int ((q_minds w).1)) ∧ XW τ (stD w ((q_minds w).2)) ∧ XF σ τ) := by
  show T l M_X_minds (d + 30) 0 _ [] σ _
  refine T_lv (lv2 := [_, _, _, _]) rfl ?_
  have h := XQ.rf hw.v
  have hd0 := hw.2.2.2.1
  have hb0 := ho.fb
  have hb8 := ho.n8
  refine tt_iconst (v := nI 0) d_X_minds_0 (by decide) ?_
  refine tt_istore_n (lv2 := [_, _, _, _]) d_X_minds_1 (by decide) rfl ?_
  refine tt_iconst (v := nI 0) d_X_minds_2 (by decide) ?_
  refine tt_istore_n (lv2 := [_, _, _, _]) d_X_minds_3 (by decide) rfl ?_
  refine tt_iconst (v := nI 0) d_X_minds_4 (by decide) ?_
  refine tt_istore_n (lv2 := [_, _, _, _]) d_X_minds_5 (by decide) rfl ?_
  exact x_minds_l ho (eN (wE w)) 0 0 0 _ rfl (by omega) h rfl rfl

set_option maxHeartbeats 4000000 in
theorem y_minds_l {l : xLa} {d : Nat} {σ : xs} {c : Nat} {w : wv} (ho : okQ w) : ∀ (m : Nat) (i b1 b2 : Nat) (z : Option Int32) (τ : xs), eN (wE w) - i = m → i ≤ eN (wE w) → YQ c w σ τ → b1 = mdN w i → b2 = msN w i → T l M_Y_minds (d + 150) 11 [some (.ref 154), some (.int (nI b1)), some (.int (nI b2)), some (.int (nI i)), z.map Value.int] [] τ (fun r τ => r = some (.int (q_minds w).1) ∧ YW τ c (stD w (q_minds w).2) ∧ YF σ τ) := by
  have hb0 := ho.fb
  have hb8 := ho.n8
  intro m
  induction m using Nat.strongRecOn with
  | ind m ih =>
    intro i b1 b2 z τ hm hi h hb1 hb2
    refine tt_iload_n d_Y_minds_11 rfl ?_
    refine tt_aload_n d_Y_minds_12 rfl ?_
    refine tn_get d_Y_minds_13 rfl rfl (by decide) rfl h.e.1.2.2.1 ?_
    refine tn_ic_ge (t := 76) (by omega) (by omega) d_Y_minds_16 (by decide) (fun c_16 => ?_) (fun c_16 => ?_)
    · obtain rfl : i = eN (wE w) := by omega
      have hml : mdN w (eN (wE w)) < 256 := bsN_256 _ hb8
      subst hb1
      subst hb2
      refine tt_aload_n d_Y_minds_76 rfl ?_
      refine tt_iconst (v := nI 0) d_Y_minds_77 (by decide) ?_
      refine tt_putI d_Y_minds_78 rfl rfl (by decide) rfl (xpok_int rfl) rfl ?_
      replace h := h.td0
      have hd := YD_0t h
      refine tt_aload_n d_Y_minds_81 rfl ?_
      refine tt_iload_n d_Y_minds_82 rfl ?_
      refine tt_callS (x_bitN (d := d) (by omega)) cw_Integer_bitCount rfl (by omega) d_Y_minds_83 rfl rfl (Nat.le_of_ble_eq_true rfl) (Nat.le_of_ble_eq_true rfl) rfl rfl rfl (fun v σ2 q => ?_)
      obtain ⟨rfl, e9⟩ := q
      rw [e9]
      clear e9
      refine tt_i2l d_Y_minds_86 ?_
      refine tt_callV (yq_add (d := d) h hd (Nat.le_of_ble_eq_true rfl)) cw_Y_enters rfl rfl (by decide) rfl (by omega) d_Y_minds_87 rfl rfl (Nat.le_of_ble_eq_true rfl) (Nat.le_of_ble_eq_true rfl) rfl rfl rfl (fun v σ2 q => ?_)
      obtain ⟨rfl, h, hd, hf⟩ := q
      refine tt_aload_n d_Y_minds_90 rfl ?_
      refine tt_iload_n d_Y_minds_91 rfl ?_
      refine tt_i2l d_Y_minds_92 ?_
      refine tt_callV (yq_add (d := d) h hd (Nat.le_of_ble_eq_true rfl)) cw_Y_enters rfl rfl (by decide) rfl (by omega) d_Y_minds_93 rfl rfl (Nat.le_of_ble_eq_true rfl) (Nat.le_of_ble_eq_true rfl) rfl rfl rfl (fun v σ2 q => ?_)
      obtain ⟨rfl, h, hd, hf⟩ := q
      refine tt_iload_n d_Y_minds_96 rfl ?_
      refine tt_iret rfl d_Y_minds_97 ?_
      exact ⟨rfl, h.done hd, h.2⟩
    · have hkb := (ho.1.2.1 i (by omega)).1
      refine tt_aload_n d_Y_minds_19 rfl ?_
      refine tt_aload_n d_Y_minds_20 rfl ?_
      refine tt_getR d_Y_minds_21 rfl rfl (by decide) rfl rfl ?_
      refine tt_iload_n d_Y_minds_24 rfl ?_
      refine tt_callV (y_minds2 (d := d) isY_160 (by omega) ho.1 ho.2.1 h.e h.1.2.1) cw_Y_isOfTwoMinds rfl rfl (by decide) rfl (by omega) d_Y_minds_25 rfl rfl (Nat.le_of_ble_eq_true rfl) (Nat.le_of_ble_eq_true rfl) rfl rfl rfl (fun v σ2 q => ?_)
      obtain ⟨rfl, e9⟩ := q
      rw [e9]
      clear e9
      refine tt_istore (lv2 := [_, _, _, _, _]) d_Y_minds_28 (by decide) rfl ?_
      refine tt_iload_n d_Y_minds_30 rfl ?_
      refine tt_iload d_Y_minds_31 rfl ?_
      refine tt_if_eq (t := 42) d_Y_minds_33 (by decide) (fun c_33 => ?_) (fun c_33 => ?_)
      · obtain ⟨e1, e2⟩ := tmB_0 (tm_0 c_33)
        refine tt_iconst (v := nI 0) d_Y_minds_42 (by decide) ?_
        refine tt_ior d_Y_minds_43 ?_
        refine tt_top (or_N _ _) ?_
        refine tt_istore_n (lv2 := [_, _, _, _, _]) d_Y_minds_44 (by decide) rfl ?_
        refine tt_iload_n d_Y_minds_45 rfl ?_
        refine tt_iload d_Y_minds_46 rfl ?_
        refine tt_if_eq (t := 67) d_Y_minds_48 (by decide) (fun c_48 => ?_) (fun c_48 => ?_)
        · refine tt_iconst (v := nI 0) d_Y_minds_67 (by decide) ?_
          refine tt_ior d_Y_minds_68 ?_
          refine tt_top (or_N _ _) ?_
          refine tt_istore_n (lv2 := [_, _, _, _, _]) d_Y_minds_69 (by decide) rfl ?_
          refine tt_iinc (lv2 := [_, _, _, _, _]) d_Y_minds_70 rfl (nI_inc _ 1) (by decide) rfl ?_
          refine tt_goto (t := 11) d_Y_minds_73 (by decide) ?_
          exact ih (eN (wE w) - (i + 1)) (by omega) (i + 1) _ _ (some _) _ rfl (by omega) h (by first | (rw [e1, hb1]; done) | (rw [Nat.or_zero, e1, hb1]; done)) (by first | (rw [e2 c_58, hb2]; done) | (rw [e3 c_58, hb2]; done) | (rw [Nat.or_zero, e3 c_58, hb2]; done) | (rw [e2, hb2]; done) | (rw [Nat.or_zero, e2, hb2]; done))
        · first | exact absurd c_33 c_48 | exact absurd c_48 c_33 | omega
      · obtain ⟨e1, e2, e3⟩ := tmB_1 (tm_1 c_33)
        refine tt_iconst (v := nI 1) d_Y_minds_36 (by decide) ?_
        refine tt_iload_n d_Y_minds_37 rfl ?_
        refine tt_ishl d_Y_minds_38 ?_
        refine tt_top (shl_9 _ (by omega)) ?_
        refine tt_goto (t := 43) d_Y_minds_39 (by decide) ?_
        refine tt_ior d_Y_minds_43 ?_
        refine tt_top (or_N _ _) ?_
        refine tt_istore_n (lv2 := [_, _, _, _, _]) d_Y_minds_44 (by decide) rfl ?_
        refine tt_iload_n d_Y_minds_45 rfl ?_
        refine tt_iload d_Y_minds_46 rfl ?_
        refine tt_if_eq (t := 67) d_Y_minds_48 (by decide) (fun c_48 => ?_) (fun c_48 => ?_)
        · first | exact absurd c_33 c_48 | exact absurd c_48 c_33 | omega
        · refine tt_aload_n d_Y_minds_51 rfl ?_
          refine tt_getR d_Y_minds_52 rfl rfl (by decide) rfl rfl ?_
          refine tt_iload_n d_Y_minds_55 rfl ?_
          refine tn_iald d_Y_minds_56 rfl (by decide) (by omega) ((h.e.2.1 _ (by omega)).1) ?_
          refine tt_iconst (v := nI 3) d_Y_minds_57 (by decide) ?_
          refine tn_ic_ne (t := 67) (by omega) (by omega) d_Y_minds_58 (by decide) (fun c_58 => ?_) (fun c_58 => ?_)
          · refine tt_iconst (v := nI 0) d_Y_minds_67 (by decide) ?_
            refine tt_ior d_Y_minds_68 ?_
            refine tt_top (or_N _ _) ?_
            refine tt_istore_n (lv2 := [_, _, _, _, _]) d_Y_minds_69 (by decide) rfl ?_
            refine tt_iinc (lv2 := [_, _, _, _, _]) d_Y_minds_70 rfl (nI_inc _ 1) (by decide) rfl ?_
            refine tt_goto (t := 11) d_Y_minds_73 (by decide) ?_
            exact ih (eN (wE w) - (i + 1)) (by omega) (i + 1) _ _ (some _) _ rfl (by omega) h (by first | (rw [e1, hb1]; done) | (rw [Nat.or_zero, e1, hb1]; done)) (by first | (rw [e2 c_58, hb2]; done) | (rw [e3 c_58, hb2]; done) | (rw [Nat.or_zero, e3 c_58, hb2]; done) | (rw [e2, hb2]; done) | (rw [Nat.or_zero, e2, hb2]; done))
          · refine tt_iconst (v := nI 1) d_Y_minds_61 (by decide) ?_
            refine tt_iload_n d_Y_minds_62 rfl ?_
            refine tt_ishl d_Y_minds_63 ?_
            refine tt_top (shl_9 _ (by omega)) ?_
            refine tt_goto (t := 68) d_Y_minds_64 (by decide) ?_
            refine tt_ior d_Y_minds_68 ?_
            refine tt_top (or_N _ _) ?_
            refine tt_istore_n (lv2 := [_, _, _, _, _]) d_Y_minds_69 (by decide) rfl ?_
            refine tt_iinc (lv2 := [_, _, _, _, _]) d_Y_minds_70 rfl (nI_inc _ 1) (by decide) rfl ?_
            refine tt_goto (t := 11) d_Y_minds_73 (by decide) ?_
            exact ih (eN (wE w) - (i + 1)) (by omega) (i + 1) _ _ (some _) _ rfl (by omega) h (by first | (rw [e1, hb1]; done) | (rw [Nat.or_zero, e1, hb1]; done)) (by first | (rw [e2 c_58, hb2]; done) | (rw [e3 c_58, hb2]; done) | (rw [Nat.or_zero, e3 c_58, hb2]; done) | (rw [e2, hb2]; done) | (rw [Nat.or_zero, e2, hb2]; done))

set_option maxHeartbeats 4000000 in
theorem yc_minds {l : xLa} {d c : Nat} {σ : xs} {w : wv} (ho : okQ w) (hw : YW σ c w)  : TC l M_Y_minds (d + 150) [.ref 154] σ (fun r τ => r = some (.int ((q_minds w).1)) ∧ YW τ c (stD w ((q_minds w).2)) ∧ YF σ τ) := by
  show T l M_Y_minds (d + 150) 0 _ [] σ _
  refine T_lv (lv2 := [_, _, _, _, _]) rfl ?_
  have h := YQ.rf hw.v
  have hd0 := hw.2.2.2.1
  have hb0 := ho.fb
  have hb8 := ho.n8
  refine tt_aload_n d_Y_minds_0 rfl ?_
  refine tt_iconst (v := nI 0) d_Y_minds_1 (by decide) ?_
  refine tt_putI d_Y_minds_2 rfl rfl (by decide) rfl (xpok_int rfl) rfl ?_
  replace h := h.thr (x := nI 0)
  replace hd0 := hd0.thr (x := nI 0)
  refine tt_iconst (v := nI 0) d_Y_minds_5 (by decide) ?_
  refine tt_istore_n (lv2 := [_, _, _, _, _]) d_Y_minds_6 (by decide) rfl ?_
  refine tt_iconst (v := nI 0) d_Y_minds_7 (by decide) ?_
  refine tt_istore_n (lv2 := [_, _, _, _, _]) d_Y_minds_8 (by decide) rfl ?_
  refine tt_iconst (v := nI 0) d_Y_minds_9 (by decide) ?_
  refine tt_istore_n (lv2 := [_, _, _, _, _]) d_Y_minds_10 (by decide) rfl ?_
  exact y_minds_l ho (eN (wE w)) 0 0 0 none _ rfl (by omega) h rfl rfl

