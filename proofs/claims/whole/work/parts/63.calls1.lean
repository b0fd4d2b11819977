/-! Questions, one by one: where the boat goes. Printed by wip/whole. -/
/-- the locals, written out -/
theorem T_lv {l : xLa} {M : mT} {d pc : Nat} {lv lv2 : List (Option Value)} {st : List Value} {σ : xs} {Q : Option Value → xs → Prop} (h : lv = lv2) (k : T l M d pc lv2 st σ Q) : T l M d pc lv st σ Q := by rw [h]; exact k
/-- what a question may take for sure -/
def okQ (w : wv) : Prop := okE (wE w) ∧ okV (wE w) (wV w) ∧ wV w 0 4 < 2 ^ 29
section
variable {σ τ υ : xs} {w : wv} {c k : Nat}
theorem okQ.n8 (h : okQ w) : eN (wE w) ≤ 8 := h.1.1.2.2.2.2.1
theorem okQ.cp (h : okQ w) : 0 < eC (wE w) := by have := h.1.1.2.2.1; omega
theorem okQ.fb (h : okQ w) : eR (wE w) * eC (wE w) ≤ 36 := Nat.mul_le_mul h.1.1.2.1 h.1.1.2.2.2.1
theorem okW.q (h : okW k w) (hk : k ≤ 512) : okQ w := ⟨h.1, h.2.1.1, by have := h.2.1.2.1; omega⟩
theorem XQ.n (h : XQ w σ τ) : sf τ 9 2 = nI (eN (wE w)) := h.e.1.2.2.1
theorem XQ.r (h : XQ w σ τ) : sf τ 5 0 = nI (eR (wE w)) := h.e.1.1
theorem XQ.cl (h : XQ w σ τ) : sf τ 5 1 = nI (eC (wE w)) := h.e.1.2.1
theorem XQ.v (h : XQ w σ τ) (k : Nat) (hk : k < 6) : sf τ 20 k = nI (wV w 0 k) := h.1.2.1.1 k hk
theorem XQ.t1 {i : Nat} (h : XQ w σ τ) (hi : i < 8) : si τ 21 i = nI (wV w 1 i) := (h.1.2.1.2 i hi).1
theorem XQ.t2 {i : Nat} (h : XQ w σ τ) (hi : i < 8) : si τ 22 i = nI (wV w 2 i) := (h.1.2.1.2 i hi).2.1
theorem XQ.t3 {i : Nat} (h : XQ w σ τ) (hi : i < 8) : si τ 23 i = gI (wV w 3 i) := (h.1.2.1.2 i hi).2.2.1
theorem XQ.t4 {i : Nat} (h : XQ w σ τ) (hi : i < 8) : si τ 24 i = nI (wV w 4 i) := (h.1.2.1.2 i hi).2.2.2
theorem XQ.kd {i : Nat} (h : XQ w σ τ) (hi : i < 8) : si τ 10 i = nI (eK (wE w) i) := (h.e.2.1 i hi).1
theorem XQ.sg {i : Nat} (h : XQ w σ τ) (hi : i < 8) : si τ 11 i = nI (eS (wE w) i) := (h.e.2.1 i hi).2
theorem ST.t1 {v : sv} {i : Nat} (h : ST τ 30 v) (hi : i < 8) : si τ 31 i = nI (v 1 i) := (h.2 i hi).1
theorem ST.t2 {v : sv} {i : Nat} (h : ST τ 30 v) (hi : i < 8) : si τ 32 i = nI (v 2 i) := (h.2 i hi).2.1
theorem ST.t3 {v : sv} {i : Nat} (h : ST τ 30 v) (hi : i < 8) : si τ 33 i = gI (v 3 i) := (h.2 i hi).2.2.1
theorem ST.t4 {v : sv} {i : Nat} (h : ST τ 30 v) (hi : i < 8) : si τ 34 i = nI (v 4 i) := (h.2 i hi).2.2.2
theorem YD.thr {t : Nat × (Nat → Int64)} {x : Int32} (h : YD τ t) : YD (wF τ 154 0 x) t := ⟨h.1, h.2⟩
theorem YD_0t (_ : YQ c w σ (wF τ 154 1 (nI 0))) : YD (wF τ 154 1 (nI 0)) (dL []) := YD_0
theorem nI_any (x : Int32) : ∃ n : Nat, x = nI n := ⟨x.toBitVec.toNat, by
  apply Int32.toBitVec_inj.mp
  show _ = (Int32.ofNat _).toBitVec
  rw [Int32.toBitVec_ofNat', BitVec.ofNat_toNat, BitVec.setWidth_eq]⟩
theorem TY_any (τ : xs) (v : sv) : ∃ u, e5 u v ∧ TY τ u := by
  obtain ⟨a, ha⟩ := nI_any (sf τ 154 32)
  obtain ⟨b, hb⟩ := nI_any (sf τ 154 33)
  obtain ⟨z, hz⟩ := nI_any (sf τ 154 34)
  exact ⟨upv (upv (upv v 5 0 a) 5 1 b) 5 2 z, (e5.l5.tr e5.l5).tr e5.l5, ha, hb, hz⟩
theorem Yin_t {m a b : Nat} {x y : Int64} (hx : x = lN a) (hy : y = lN b) (h1 : a ≤ m) (h2 : m ≤ b) (hb : b < 2 ^ 31) : Yin (nI m).toInt64 x y = nI 1 := by
  subst hx; subst hy
  refine Yin_1 ?_ ?_
  · rw [lN_toInt (by omega), nI_toInt (by omega)]; omega
  · rw [lN_toInt (by omega), nI_toInt (by omega)]; omega
theorem Yin_f {i : Int32} {a b : Nat} {x y : Int64} (hx : x = lN a) (hy : y = lN b) (ha : a < 2 ^ 31) (hb : b < 2 ^ 31) (h : i.toInt < a ∨ (b : Int) < i.toInt) : Yin i.toInt64 x y = nI 0 := by
  subst hx; subst hy
  refine Yin_0 ?_
  rw [lN_toInt ha, lN_toInt hb]; exact h
/-- a number from a to b -/
def rgN (i : Int32) (a b : Nat) : Option Nat := if (a : Int) ≤ i.toInt ∧ i.toInt ≤ b then some i.toInt.toNat else none
theorem rgN_c (i : Int32) (a b : Nat) : (∃ m, a ≤ m ∧ m ≤ b ∧ m < 2 ^ 31 ∧ i = nI m ∧ rgN i a b = some m) ∨ (rgN i a b = none ∧ (i.toInt < a ∨ (b : Int) < i.toInt)) := by
  unfold rgN
  by_cases c : (a : Int) ≤ i.toInt ∧ i.toInt ≤ b
  · have : i.toInt < 2 ^ 31 := Int32.toInt_lt i
    refine Or.inl ⟨i.toInt.toNat, by omega, by omega, by omega, ?_, if_pos c⟩
    apply Int32.toInt_inj.mp
    rw [nI_toInt (by omega)]; omega
  · exact Or.inr ⟨if_neg c, by omega⟩
theorem rg_lt {i : Int32} {a : Nat} (ha : a < 2 ^ 31) : i < nI a ↔ i.toInt < a := by rw [fa_lt', nI_toInt ha]
theorem rg_le {i : Int32} {a : Nat} (ha : a < 2 ^ 31) : i ≤ nI a ↔ i.toInt ≤ a := by rw [fa_le', nI_toInt ha]
theorem rg_f {i : Int32} {a b : Nat} (hb : b < 2 ^ 31) (ha : a < 2 ^ 31) (h : i.toInt < a ∨ (b : Int) < i.toInt) (h1 : ¬ i < nI a) (h2 : i ≤ nI b) : False := by
  rw [rg_lt ha] at h1
  rw [rg_le hb] at h2
  omega
/-! the first number -/
theorem fst_hit {P : Nat → Bool} {n i : Nat} (h : i < n) (hp : P i = true) : fstN P (n - i) i = some i := by
  rw [show n - i = (n - i - 1) + 1 by omega]
  show (if P i = true then some i else _) = _
  rw [if_pos hp]
theorem fst_miss {P : Nat → Bool} {n i : Nat} (h : i < n) (hp : ¬ P i = true) : fstN P (n - i) i = fstN P (n - (i + 1)) (i + 1) := by
  rw [show n - i = (n - (i + 1)) + 1 by omega]
  show (if P i = true then some i else _) = _
  rw [if_neg hp]
theorem fst_end {P : Nat → Bool} {n i : Nat} (h : n ≤ i) : fstN P (n - i) i = none := by
  rw [show n - i = 0 by omega]
  rfl
theorem fst_no {P : Nat → Bool} : ∀ n i, (∀ j, i ≤ j → j < i + n → ¬ P j = true) → fstN P n i = none
  | 0, _, _ => rfl
  | n + 1, i, h => by
    show (if P i = true then some i else fstN P n (i + 1)) = none
    rw [if_neg (h i (Nat.le_refl _) (by omega))]
    exact fst_no n (i + 1) (fun j h1 h2 => h j (by omega) (by omega))
theorem fst_some {P : Nat → Bool} : ∀ n i h, fstN P n i = some h → i ≤ h ∧ h < i + n ∧ P h = true
  | 0, _, _, q => by cases q
  | n + 1, i, h, q => by
    replace q : (if P i = true then some i else fstN P n (i + 1)) = some h := q
    by_cases c : P i = true
    · rw [if_pos c] at q; cases q; exact ⟨Nat.le_refl _, by omega, c⟩
    · rw [if_neg c] at q
      have := fst_some n (i + 1) h q
      exact ⟨by omega, by omega, this.2.2⟩
theorem rng_s {α : Type} (f : Nat → α) (n : Nat) : (List.range (n + 1)).map f = (List.range n).map f ++ [f n] := by
  rw [List.range_succ, List.map_append]; rfl
/-! one hour's counters -/
theorem hrs_e5 (e : xe) (u : sv) (n : Nat) : e5 (hrsV e (z5V u) n) (hrsV e u n) := hrs_z e u n
theorem stk1 (e : xe) (u : sv) : (hrsV e (z5V u) 1) 5 2 = if goV e u (nI 255) = 0 then 1 else 0 := by
  show (hrV e (z5V u)) 5 2 = _
  rw [hr_52, (z5_e5 (v := u)).go e, show (z5V u) 5 2 = 0 from rfl, Nat.zero_add]
theorem stkS (e : xe) (u : sv) (n : Nat) : (hrsV e (z5V u) (n + 1)) 5 2 = (hrsV e (z5V u) n) 5 2 + (hrsV e (z5V (hrsV e u n)) 1) 5 2 := by
  rw [stk1]
  show (hrV e (hrsV e (z5V u) n)) 5 2 = _
  rw [hr_52, (hrs_z e u n).go e]
theorem stk_le (e : xe) (u : sv) : ∀ n, (hrsV e (z5V u) n) 5 2 ≤ n
  | 0 => by show 0 ≤ 0; omega
  | n + 1 => by
    have := stk_le e u n
    rw [stkS, stk1]
    split <;> omega
end
section
variable {l : xLa} {d : Nat} {σ τ υ : xs} {w : wv} {c k : Nat}
theorem xq_hrs {v : sv} {n : Nat} (h : XQ w σ τ) (ho : okQ w) (hv : okV (wE w) v) (hS : ST τ 30 v) (hh : v 0 4 + n < 2 ^ 30) : TC l M_Trip_pass (d + 7) [.ref 19, .ref 30, .ref (sp τ), .int (nI n)] τ (fun r υ => r = none ∧ XQ w σ υ ∧ ST υ 30 (hrsV (wE w) v n) ∧ TR υ (hrsV (wE w) (z5V v) n) ∧ Tn τ υ) := by
  refine T.mono (xq_pass (d := d) h ho.1 hv hS hh (by omega)) ?_
  rintro r υ ⟨rfl, h1, h2, h3, h4⟩
  exact ⟨rfl, h1, h2.e5 (hrs_z _ _ _), h3, h4⟩
theorem yq_hrs {v : sv} {n : Nat} (h : YQ c w σ τ) (ho : okQ w) (hv : okV (wE w) v) (hS : SY τ 161 (eN (wE w)) v) (hh : v 0 4 + n < 2 ^ 30) : TC l M_Y_goesOn (d + 11) [.ref 154, .ref 161, .int (nI n)] τ (fun r υ => r = none ∧ YQ c w σ υ ∧ SY υ 161 (eN (wE w)) (hrsV (wE w) v n) ∧ TY υ (hrsV (wE w) (z5V v) n) ∧ Un τ υ) := by
  refine T.mono (yq_hours (d := d) h ho.1 hv hS hh (by omega)) ?_
  rintro r υ ⟨rfl, h1, h2, h3, h4⟩
  exact ⟨rfl, h1, h2.e5 (hrs_z _ _ _), h3, h4⟩
theorem yq_hr0 {v : sv} (h : YQ c w σ τ) (ho : okQ w) (hv : okV (wE w) v) (hS : SY τ 161 (eN (wE w)) v) (hh : v 0 4 + 1 < 2 ^ 30) : TC l M_Y_hourGoes (d + 10) [.ref 154, .ref 161] τ (fun r υ => r = none ∧ YQ c w σ υ ∧ SY υ 161 (eN (wE w)) (hrV (wE w) v) ∧ Un τ υ) := by
  obtain ⟨u, h5, hT⟩ := TY_any τ v
  refine T.mono (yq_hour (d := d) h ho.1 (h5.sy.ok hv) (hS.e5 h5.sy) hT (by rw [h5 0 4 (by decide)]; exact hh)) ?_
  rintro r υ ⟨rfl, h1, h2, h3, h4⟩
  exact ⟨rfl, h1, h2.e5 (h5.hr _), h4⟩
theorem yq_goT {v : sv} (h : YQ c w σ τ) (ho : okQ w) (hv : okV (wE w) v) (hS : SY τ 161 (eN (wE w)) v) : TC l M_Y_goes (d + 8) [.ref 154, .ref 161] τ (fun r υ => r = some (.int (nI (g4 (goV (wE w) v (nI 255))))) ∧ YQ c w σ υ ∧ SY υ 161 (eN (wE w)) v ∧ Un τ υ) := by
  refine T.mono (y_goes (d := d) (σ := τ) isY_161 ho.1 hv h.e hS h.1.1.2) ?_
  rintro r υ ⟨rfl, h1, h2, h3⟩
  exact ⟨rfl, h.fq (Fq.sc (h1.mono (fun c hc => by unfold PYg at hc; unfold YqA; omega))), SY_o hS (h1.2.2.2.2 161 (by unfold PYg; omega)), Un.sc h1⟩
theorem ok_h (ho : okQ w) {n : Nat} (hn : n ≤ 1000) : okV (wE w) (hrsV (wE w) (wV w) n) ∧ (hrsV (wE w) (wV w) n) 0 4 + 1000 < 2 ^ 30 ∧ (hrsV (wE w) (wV w) n) 0 0 < 36 := by
  have h2 := ho.2.2
  obtain ⟨h1, h4⟩ := ok_hrs ho.1 ho.2.1 n (by omega)
  have := ho.fb
  have := h1.1
  exact ⟨h1, by omega, by omega⟩
end
def ushL (x : Int64) (y : Int32) : Int64 := (x.toUInt64 >>> (y.toInt64.toUInt64 &&& Int64.toUInt64 63)).toInt64
/-- Long.bitCount, as it is reckoned -/
def xlpc (x : Int64) : Int32 :=
  let i := x - (ushL x (nI 1) &&& 6148914691236517205)
  let i := (i &&& 3689348814741910323) + (ushL i (nI 2) &&& 3689348814741910323)
  let i := (i + ushL i (nI 4)) &&& 1085102592571150095
  let i := i + ushL i (nI 8)
  let i := i + ushL i (nI 16)
  let i := i + ushL i (nI 32)
  i.toInt32 &&& nI 127
theorem x_lbitCount {l : xLa} {d : Nat} {σ : xs} {x : Int64} : TE l M_Long_bitCount (d + 1) [.long x] σ (some (.int (xlpc x))) (σ) := by
  show T l M_Long_bitCount (d + 1) 0 _ [] σ _
  refine tt_lload_n d_Long_bitCount_0 rfl ?_
  refine tt_lload_n d_Long_bitCount_1 rfl ?_
  refine tt_iconst (v := nI 1) d_Long_bitCount_2 (by decide) ?_
  refine tt_lushr d_Long_bitCount_3 ?_
  refine tt_ldc2_w d_Long_bitCount_4 rfl ?_
  refine tt_land d_Long_bitCount_7 ?_
  refine tt_lsub d_Long_bitCount_8 ?_
  refine tt_lstore_n d_Long_bitCount_9 (by decide) rfl ?_
  refine tt_lload_n d_Long_bitCount_10 rfl ?_
  refine tt_ldc2_w d_Long_bitCount_11 rfl ?_
  refine tt_land d_Long_bitCount_14 ?_
  refine tt_lload_n d_Long_bitCount_15 rfl ?_
  refine tt_iconst (v := nI 2) d_Long_bitCount_16 (by decide) ?_
  refine tt_lushr d_Long_bitCount_17 ?_
  refine tt_ldc2_w d_Long_bitCount_18 rfl ?_
  refine tt_land d_Long_bitCount_21 ?_
  refine tt_ladd d_Long_bitCount_22 ?_
  refine tt_lstore_n d_Long_bitCount_23 (by decide) rfl ?_
  refine tt_lload_n d_Long_bitCount_24 rfl ?_
  refine tt_lload_n d_Long_bitCount_25 rfl ?_
  refine tt_iconst (v := nI 4) d_Long_bitCount_26 (by decide) ?_
  refine tt_lushr d_Long_bitCount_27 ?_
  refine tt_ladd d_Long_bitCount_28 ?_
  refine tt_ldc2_w d_Long_bitCount_29 rfl ?_
  refine tt_land d_Long_bitCount_32 ?_
  refine tt_lstore_n d_Long_bitCount_33 (by decide) rfl ?_
  refine tt_lload_n d_Long_bitCount_34 rfl ?_
  refine tt_lload_n d_Long_bitCount_35 rfl ?_
  refine tt_bipush (v := nI 8) d_Long_bitCount_36 (by decide) ?_
  refine tt_lushr d_Long_bitCount_38 ?_
  refine tt_ladd d_Long_bitCount_39 ?_
  refine tt_lstore_n d_Long_bitCount_40 (by decide) rfl ?_
  refine tt_lload_n d_Long_bitCount_41 rfl ?_
  refine tt_lload_n d_Long_bitCount_42 rfl ?_
  refine tt_bipush (v := nI 16) d_Long_bitCount_43 (by decide) ?_
  refine tt_lushr d_Long_bitCount_45 ?_
  refine tt_ladd d_Long_bitCount_46 ?_
  refine tt_lstore_n d_Long_bitCount_47 (by decide) rfl ?_
  refine tt_lload_n d_Long_bitCount_48 rfl ?_
  refine tt_lload_n d_Long_bitCount_49 rfl ?_
  refine tt_bipush (v := nI 32) d_Long_bitCount_50 (by decide) ?_
  refine tt_lushr d_Long_bitCount_52 ?_
  refine tt_ladd d_Long_bitCount_53 ?_
  refine tt_lstore_n d_Long_bitCount_54 (by decide) rfl ?_
  refine tt_lload_n d_Long_bitCount_55 rfl ?_
  refine tt_l2i d_Long_bitCount_56 ?_
  refine tt_bipush (v := nI 127) d_Long_bitCount_57 (by decide) ?_
  refine tt_iand d_Long_bitCount_59 ?_
  refine tt_iret rfl d_Long_bitCount_60 ?_
  exact ⟨rfl, rfl⟩

theorem SY_0t {σ τ : xs} {w : wv} {c n b : Nat} {v : sv} (_ : YQ c w σ (wF τ 154 1 (nI 0))) (h : SY τ b n v) : SY (wF τ 154 1 (nI 0)) b n v := SY_o h rfl
theorem TY_0t {σ τ : xs} {w : wv} {c : Nat} {v : sv} (_ : YQ c w σ (wF τ 154 1 (nI 0))) (h : TY τ v) : TY (wF τ 154 1 (nI 0)) v := h
def q_ahead (w : wv) (n : Int32) : Int32 × Option (List Int64) := match rgN n 0 99 with
  | none => (-1, none)
  | some m => (nI ((hrsV (wE w) (wV w) m) 0 0), some [(nI ((hrsV (wE w) (wV w) m) 0 1)).toInt64, (nI ((hrsV (wE w) (wV w) m) 0 2)).toInt64, (nI ((hrsV (wE w) (wV w) m) 0 3)).toInt64])
set_option maxHeartbeats 4000000 in
theorem xc_ahead {l : xLa} {d : Nat} {σ : xs} {w : wv} (ho : okQ w) (hw : XW σ w) {n : Int32} : TC l M_X_ahead (d + 30) [.ref 0, .int n] σ (fun r τ => r = some (.int ((q_ahead w n).1)) ∧ XW τ (stD w ((q_ahead w n).2)) ∧ XF σ τ) := by
  show T l M_X_ahead (d + 30) 0 _ [] σ _
  refine T_lv (lv2 := [_, _]) rfl ?_
  have h := XQ.rf hw.v
  have hd0 := hw.2.2.2.1
  have hb0 := ho.fb
  have hb8 := ho.n8
  rcases rgN_c n 0 99 with ⟨m, hm1, hm2, hm3, rfl, hq⟩ | ⟨hq, hb⟩
  · have hqv : q_ahead w (nI m) = (nI ((hrsV (wE w) (wV w) m) 0 0), some [(nI ((hrsV (wE w) (wV w) m) 0 1)).toInt64, (nI ((hrsV (wE w) (wV w) m) 0 2)).toInt64, (nI ((hrsV (wE w) (wV w) m) 0 3)).toInt64]) := by unfold q_ahead; rw [hq]
    rw [hqv]
    refine tt_iload_n d_X_ahead_0 rfl ?_
    refine tn_if_lt (t := 10) (by omega) d_X_ahead_1 (by decide) ?_
    refine tt_iload_n d_X_ahead_4 rfl ?_
    refine tt_bipush (v := nI 99) d_X_ahead_5 (by decide) ?_
    refine tn_ic_le (t := 12) (by omega) (by omega) d_X_ahead_7 (by decide) (fun c_7 => ?_) (fun c_7 => ?_)
    · refine tt_aload_n d_X_ahead_12 rfl ?_
      refine tt_getR d_X_ahead_13 rfl rfl (by decide) rfl rfl ?_
      refine tt_aload_n d_X_ahead_16 rfl ?_
      refine tt_getR d_X_ahead_17 rfl rfl (by decide) rfl rfl ?_
      refine tt_callV (xq_copy (d := d) h) cw_State_copy rfl rfl (by decide) rfl (by omega) d_X_ahead_20 rfl rfl (Nat.le_of_ble_eq_true rfl) (Nat.le_of_ble_eq_true rfl) rfl rfl rfl (fun v σ2 q => ?_)
      obtain ⟨rfl, h, hS, hu⟩ := q
      replace hd0 := hd0.tn hu
      refine tt_aload_n d_X_ahead_23 rfl ?_
      refine tt_getR d_X_ahead_24 rfl rfl (by decide) rfl rfl ?_
      refine tt_aload_n d_X_ahead_27 rfl ?_
      refine tt_getR d_X_ahead_28 rfl rfl (by decide) rfl rfl ?_
      refine tt_aload_n d_X_ahead_31 rfl ?_
      refine tt_getP d_X_ahead_32 rfl ?_
      refine tt_iload_n d_X_ahead_35 rfl ?_
      refine tt_callV (xq_hrs (d := d) h ho ho.2.1 hS (by have := ho.2.2; omega)) cw_Trip_pass rfl rfl (by decide) rfl (by omega) d_X_ahead_36 rfl rfl (Nat.le_of_ble_eq_true rfl) (Nat.le_of_ble_eq_true rfl) rfl rfl rfl (fun v σ2 q => ?_)
      obtain ⟨rfl, h, hS, hT, hu⟩ := q
      replace hd0 := hd0.tn hu
      refine tt_aload_n d_X_ahead_39 rfl ?_
      refine tt_getR d_X_ahead_40 rfl rfl (by decide) rfl rfl ?_
      refine tt_callV (xq_start (d := d) h) cw_Told_start rfl rfl (by decide) rfl (by omega) d_X_ahead_43 rfl rfl (Nat.le_of_ble_eq_true rfl) (Nat.le_of_ble_eq_true rfl) rfl rfl rfl (fun v σ2 q => ?_)
      obtain ⟨rfl, h, hd, hf⟩ := q
      replace hS := hf.st hS (by decide)
      refine tt_aload_n d_X_ahead_46 rfl ?_
      refine tt_getR d_X_ahead_47 rfl rfl (by decide) rfl rfl ?_
      refine tt_aload_n d_X_ahead_50 rfl ?_
      refine tt_getR d_X_ahead_51 rfl rfl (by decide) rfl rfl ?_
      refine tn_get d_X_ahead_54 rfl rfl (by decide) rfl (hS.1 1 (by decide)) ?_
      refine tt_i2l d_X_ahead_57 ?_
      refine tt_callV (xq_add (d := d) h hd (Nat.le_of_ble_eq_true rfl)) cw_Told_add rfl rfl (by decide) rfl (by omega) d_X_ahead_58 rfl rfl (Nat.le_of_ble_eq_true rfl) (Nat.le_of_ble_eq_true rfl) rfl rfl rfl (fun v σ2 q => ?_)
      obtain ⟨rfl, h, hd, hf⟩ := q
      replace hS := hf.st hS (by decide)
      refine tt_aload_n d_X_ahead_61 rfl ?_
      refine tt_getR d_X_ahead_62 rfl rfl (by decide) rfl rfl ?_
      refine tt_aload_n d_X_ahead_65 rfl ?_
      refine tt_getR d_X_ahead_66 rfl rfl (by decide) rfl rfl ?_
      refine tn_get d_X_ahead_69 rfl rfl (by decide) rfl (hS.1 2 (by decide)) ?_
      refine tt_i2l d_X_ahead_72 ?_
      refine tt_callV (xq_add (d := d) h hd (Nat.le_of_ble_eq_true rfl)) cw_Told_add rfl rfl (by decide) rfl (by omega) d_X_ahead_73 rfl rfl (Nat.le_of_ble_eq_true rfl) (Nat.le_of_ble_eq_true rfl) rfl rfl rfl (fun v σ2 q => ?_)
      obtain ⟨rfl, h, hd, hf⟩ := q
      replace hS := hf.st hS (by decide)
      refine tt_aload_n d_X_ahead_76 rfl ?_
      refine tt_getR d_X_ahead_77 rfl rfl (by decide) rfl rfl ?_
      refine tt_aload_n d_X_ahead_80 rfl ?_
      refine tt_getR d_X_ahead_81 rfl rfl (by decide) rfl rfl ?_
      refine tn_get d_X_ahead_84 rfl rfl (by decide) rfl (hS.1 3 (by decide)) ?_
      refine tt_i2l d_X_ahead_87 ?_
      refine tt_callV (xq_add (d := d) h hd (Nat.le_of_ble_eq_true rfl)) cw_Told_add rfl rfl (by decide) rfl (by omega) d_X_ahead_88 rfl rfl (Nat.le_of_ble_eq_true rfl) (Nat.le_of_ble_eq_true rfl) rfl rfl rfl (fun v σ2 q => ?_)
      obtain ⟨rfl, h, hd, hf⟩ := q
      replace hS := hf.st hS (by decide)
      refine tt_aload_n d_X_ahead_91 rfl ?_
      refine tt_getR d_X_ahead_92 rfl rfl (by decide) rfl rfl ?_
      refine tn_get d_X_ahead_95 rfl rfl (by decide) rfl (hS.1 0 (by decide)) ?_
      refine tt_iret rfl d_X_ahead_98 ?_
      exact ⟨rfl, h.done hd, h.2.1⟩
    · omega
  · have hqv : q_ahead w n = (-1, none) := by unfold q_ahead; rw [hq]
    rw [hqv]
    refine tt_iload_n d_X_ahead_0 rfl ?_
    refine tt_if_lt (t := 10) d_X_ahead_1 (by decide) (fun c_1 => ?_) (fun c_1 => ?_)
    · refine tt_iconst (v := (-1)) d_X_ahead_10 (by decide) ?_
      refine tt_iret rfl d_X_ahead_11 ?_
      exact ⟨rfl, h.none hd0, h.2.1⟩
    · refine tt_iload_n d_X_ahead_4 rfl ?_
      refine tt_bipush (v := nI 99) d_X_ahead_5 (by decide) ?_
      refine tt_ic_le (t := 12) d_X_ahead_7 (by decide) (fun c_7 => ?_) (fun c_7 => ?_)
      · exact (rg_f (a := 0) (b := 99) (by decide) (by decide) (by omega) (by rw [nI_0]; exact c_1) c_7).elim
      · refine tt_iconst (v := (-1)) d_X_ahead_10 (by decide) ?_
        refine tt_iret rfl d_X_ahead_11 ?_
        exact ⟨rfl, h.none hd0, h.2.1⟩

set_option maxHeartbeats 4000000 in
theorem yc_ahead {l : xLa} {d c : Nat} {σ : xs} {w : wv} (ho : okQ w) (hw : YW σ c w) {n : Int32} : TC l M_Y_ahead (d + 150) [.ref 154, .int n] σ (fun r τ => r = some (.int ((q_ahead w n).1)) ∧ YW τ c (stD w ((q_ahead w n).2)) ∧ YF σ τ) := by
  show T l M_Y_ahead (d + 150) 0 _ [] σ _
  refine T_lv (lv2 := [_, _]) rfl ?_
  have h := YQ.rf hw.v
  have hd0 := hw.2.2.2.1
  have hb0 := ho.fb
  have hb8 := ho.n8
  rcases rgN_c n 0 99 with ⟨m, hm1, hm2, hm3, rfl, hq⟩ | ⟨hq, hb⟩
  · have hqv : q_ahead w (nI m) = (nI ((hrsV (wE w) (wV w) m) 0 0), some [(nI ((hrsV (wE w) (wV w) m) 0 1)).toInt64, (nI ((hrsV (wE w) (wV w) m) 0 2)).toInt64, (nI ((hrsV (wE w) (wV w) m) 0 3)).toInt64]) := by unfold q_ahead; rw [hq]
    rw [hqv]
    refine tt_aload_n d_Y_ahead_0 rfl ?_
    refine tt_iconst (v := nI 0) d_Y_ahead_1 (by decide) ?_
    refine tt_putI d_Y_ahead_2 rfl rfl (by decide) rfl (xpok_int rfl) rfl ?_
    replace h := h.thr (x := nI 0)
    replace hd0 := hd0.thr (x := nI 0)
    refine tt_iload_n d_Y_ahead_5 rfl ?_
    refine tt_i2l d_Y_ahead_6 ?_
    refine tt_lconst (v := 0) d_Y_ahead_7 (by decide) ?_
    refine tt_ldc2_w d_Y_ahead_8 rfl ?_
    refine tt_callS (y_in (d := d)) cw_Y_in rfl (by omega) d_Y_ahead_11 rfl rfl (Nat.le_of_ble_eq_true rfl) (Nat.le_of_ble_eq_true rfl) rfl rfl rfl (fun v σ2 q => ?_)
    obtain ⟨rfl, e9⟩ := q
    rw [e9, show Yin (nI m).toInt64 0 99 = nI 1 from Yin_t (a := 0) (b := 99) rfl rfl (by omega) (by omega) (by decide)]
    clear e9
    refine tn_if_ne (t := 19) (by omega) d_Y_ahead_14 (by decide) (fun c_14 => ?_) (fun c_14 => ?_)
    · refine tt_aload_n d_Y_ahead_19 rfl ?_
      refine tt_callV (yq_copies (d := d) h ho.n8) cw_Y_copies rfl rfl (by decide) rfl (by omega) d_Y_ahead_20 rfl rfl (Nat.le_of_ble_eq_true rfl) (Nat.le_of_ble_eq_true rfl) rfl rfl rfl (fun v σ2 q => ?_)
      obtain ⟨rfl, h, hS, hu, -⟩ := q
      replace hd0 := hd0.un hu
      refine tt_aload_n d_Y_ahead_23 rfl ?_
      refine tt_aload_n d_Y_ahead_24 rfl ?_
      refine tt_getR d_Y_ahead_25 rfl rfl (by decide) rfl rfl ?_
      refine tt_iload_n d_Y_ahead_28 rfl ?_
      refine tt_callV (yq_hrs (d := d) h ho ho.2.1 hS (by have := ho.2.2; omega)) cw_Y_goesOn rfl rfl (by decide) rfl (by omega) d_Y_ahead_29 rfl rfl (Nat.le_of_ble_eq_true rfl) (Nat.le_of_ble_eq_true rfl) rfl rfl rfl (fun v σ2 q => ?_)
      obtain ⟨rfl, h, hS, hT, hu⟩ := q
      replace hd0 := hd0.un hu
      refine tt_aload_n d_Y_ahead_32 rfl ?_
      refine tt_iconst (v := nI 0) d_Y_ahead_33 (by decide) ?_
      refine tt_putI d_Y_ahead_34 rfl rfl (by decide) rfl (xpok_int rfl) rfl ?_
      replace h := h.td0
      have hd := YD_0t h
      replace hS := SY_0t h hS
      refine tt_aload_n d_Y_ahead_37 rfl ?_
      refine tt_aload_n d_Y_ahead_38 rfl ?_
      refine tt_getR d_Y_ahead_39 rfl rfl (by decide) rfl rfl ?_
      refine tt_bipush (v := nI 34) d_Y_ahead_42 (by decide) ?_
      refine tn_iald d_Y_ahead_44 rfl (by decide) (by omega) (hS.1.2.2.1) ?_
      refine tt_i2l d_Y_ahead_45 ?_
      refine tt_callV (yq_add (d := d) h hd (Nat.le_of_ble_eq_true rfl)) cw_Y_enters rfl rfl (by decide) rfl (by omega) d_Y_ahead_46 rfl rfl (Nat.le_of_ble_eq_true rfl) (Nat.le_of_ble_eq_true rfl) rfl rfl rfl (fun v σ2 q => ?_)
      obtain ⟨rfl, h, hd, hf⟩ := q
      replace hS := hf.sy hS
      refine tt_aload_n d_Y_ahead_49 rfl ?_
      refine tt_aload_n d_Y_ahead_50 rfl ?_
      refine tt_getR d_Y_ahead_51 rfl rfl (by decide) rfl rfl ?_
      refine tt_bipush (v := nI 35) d_Y_ahead_54 (by decide) ?_
      refine tn_iald d_Y_ahead_56 rfl (by decide) (by omega) (hS.1.2.2.2.1) ?_
      refine tt_i2l d_Y_ahead_57 ?_
      refine tt_callV (yq_add (d := d) h hd (Nat.le_of_ble_eq_true rfl)) cw_Y_enters rfl rfl (by decide) rfl (by omega) d_Y_ahead_58 rfl rfl (Nat.le_of_ble_eq_true rfl) (Nat.le_of_ble_eq_true rfl) rfl rfl rfl (fun v σ2 q => ?_)
      obtain ⟨rfl, h, hd, hf⟩ := q
      replace hS := hf.sy hS
      refine tt_aload_n d_Y_ahead_61 rfl ?_
      refine tt_aload_n d_Y_ahead_62 rfl ?_
      refine tt_getR d_Y_ahead_63 rfl rfl (by decide) rfl rfl ?_
      refine tt_bipush (v := nI 36) d_Y_ahead_66 (by decide) ?_
      refine tn_iald d_Y_ahead_68 rfl (by decide) (by omega) (hS.1.2.2.2.2.1) ?_
      refine tt_i2l d_Y_ahead_69 ?_
      refine tt_callV (yq_add (d := d) h hd (Nat.le_of_ble_eq_true rfl)) cw_Y_enters rfl rfl (by decide) rfl (by omega) d_Y_ahead_70 rfl rfl (Nat.le_of_ble_eq_true rfl) (Nat.le_of_ble_eq_true rfl) rfl rfl rfl (fun v σ2 q => ?_)
      obtain ⟨rfl, h, hd, hf⟩ := q
      replace hS := hf.sy hS
      refine tt_aload_n d_Y_ahead_73 rfl ?_
      refine tt_getR d_Y_ahead_74 rfl rfl (by decide) rfl rfl ?_
      refine tt_iconst (v := nI 0) d_Y_ahead_77 (by decide) ?_
      refine tn_iald d_Y_ahead_78 rfl (by decide) (by omega) (hS.1.1) ?_
      refine tt_iret rfl d_Y_ahead_79 ?_
      exact ⟨rfl, h.done hd, h.2⟩
    · exact absurd c_14 (by decide)
  · have hqv : q_ahead w n = (-1, none) := by unfold q_ahead; rw [hq]
    rw [hqv]
    refine tt_aload_n d_Y_ahead_0 rfl ?_
    refine tt_iconst (v := nI 0) d_Y_ahead_1 (by decide) ?_
    refine tt_putI d_Y_ahead_2 rfl rfl (by decide) rfl (xpok_int rfl) rfl ?_
    replace h := h.thr (x := nI 0)
    replace hd0 := hd0.thr (x := nI 0)
    refine tt_iload_n d_Y_ahead_5 rfl ?_
    refine tt_i2l d_Y_ahead_6 ?_
    refine tt_lconst (v := 0) d_Y_ahead_7 (by decide) ?_
    refine tt_ldc2_w d_Y_ahead_8 rfl ?_
    refine tt_callS (y_in (d := d)) cw_Y_in rfl (by omega) d_Y_ahead_11 rfl rfl (Nat.le_of_ble_eq_true rfl) (Nat.le_of_ble_eq_true rfl) rfl rfl rfl (fun v σ2 q => ?_)
    obtain ⟨rfl, e9⟩ := q
    rw [e9, show Yin n.toInt64 0 99 = nI 0 from Yin_f (a := 0) (b := 99) rfl rfl (by decide) (by decide) hb]
    clear e9
    refine tn_if_ne (t := 19) (by omega) d_Y_ahead_14 (by decide) (fun c_14 => ?_) (fun c_14 => ?_)
    · exact absurd c_14 (by decide)
    · refine tt_iconst (v := (-1)) d_Y_ahead_17 (by decide) ?_
      refine tt_iret rfl d_Y_ahead_18 ?_
      exact ⟨rfl, h.none hd0, h.2⟩

def q_towed (w : wv) : Int32 × Option (List Int64) := (b2I (goV (wE w) (wV w) (nI 255)), some ((List.range 4).map (fun j => (ntF (wE w) (wV w) (nI 255) (fun _ => nI 0) (eN (wE w)) j).toInt64)))
theorem g4_c {b : Nat} (h : b ≤ 4) : (g4 b = 4 ↔ b = 0) ∧ (¬ b = 0 → g4 b = b - 1) ∧ g4 b ≤ 4 := by
  unfold g4
  by_cases c : b = 0
  · rw [if_pos c]; exact ⟨⟨fun _ => c, fun _ => rfl⟩, fun q => absurd c q, by omega⟩
  · rw [if_neg c]; exact ⟨by omega, fun _ => rfl, by omega⟩
theorem x_towed_l {l : xLa} {d : Nat} {σ : xs} {w : wv} (ho : okQ w) : ∀ (m i : Nat) (τ : xs), 4 - i = m → i ≤ 4 → XQ w σ τ → XD τ (dL ((List.range i).map (fun j => (ntF (wE w) (wV w) (nI 255) (fun _ => nI 0) (eN (wE w)) j).toInt64))) → (∀ j, j < 4 → si τ 18 j = ntF (wE w) (wV w) (nI 255) (fun _ => nI 0) (eN (wE w)) j) → T l M_X_towed (d + 30) 34 [some (.ref 0), some (.int (nI i))] [] τ (fun r τ => r = some (.int (q_towed w).1) ∧ XW τ (stD w (q_towed w).2) ∧ XF σ τ) := by
  intro m
  induction m using Nat.strongRecOn with
  | ind m ih =>
    intro i τ hm hi h hd hN
    refine tt_iload_n d_X_towed_34 rfl ?_
    refine tt_iconst (v := nI 4) d_X_towed_35 (by decide) ?_
    refine tn_ic_ge (t := 62) (by omega) (by omega) d_X_towed_36 (by decide) (fun c_36 => ?_) (fun c_36 => ?_)
    · obtain rfl : i = 4 := by omega
      refine tt_aload_n d_X_towed_62 rfl ?_
      refine tt_getR d_X_towed_63 rfl rfl (by decide) rfl rfl ?_
      refine tt_aload_n d_X_towed_66 rfl ?_
      refine tt_getR d_X_towed_67 rfl rfl (by decide) rfl rfl ?_
      refine tn_get d_X_towed_70 rfl rfl (by decide) rfl (h.v 0 (by decide)) ?_
      refine tt_callV (xq_go (d := d) (z := nI 255) h ho.1 ho.2.1 hN) cw_Tug_goesFrom rfl rfl (by decide) rfl (by omega) d_X_towed_73 rfl rfl (Nat.le_of_ble_eq_true rfl) (Nat.le_of_ble_eq_true rfl) rfl rfl rfl (fun v σ2 q => ?_)
      obtain ⟨rfl, e9⟩ := q
      rw [e9]
      clear e9
      refine tt_iret rfl d_X_towed_76 ?_
      exact ⟨rfl, h.done hd, h.2.1⟩
    · refine tt_aload_n d_X_towed_39 rfl ?_
      refine tt_getR d_X_towed_40 rfl rfl (by decide) rfl rfl ?_
      refine tt_aload_n d_X_towed_43 rfl ?_
      refine tt_getR d_X_towed_44 rfl rfl (by decide) rfl rfl ?_
      refine tt_getR d_X_towed_47 rfl rfl (by decide) rfl rfl ?_
      refine tt_iload_n d_X_towed_50 rfl ?_
      refine tn_iald d_X_towed_51 rfl (by decide) (by omega) (hN _ (by omega)) ?_
      refine tt_i2l d_X_towed_52 ?_
      refine tt_callV (xq_add (d := d) h hd (by rw [List.length_map, List.length_range]; omega)) cw_Told_add rfl rfl (by decide) rfl (by omega) d_X_towed_53 rfl rfl (Nat.le_of_ble_eq_true rfl) (Nat.le_of_ble_eq_true rfl) rfl rfl rfl (fun v σ2 q => ?_)
      obtain ⟨rfl, h, hd, hf⟩ := q
      rw [← rng_s (fun j => (ntF (wE w) (wV w) (nI 255) (fun _ => nI 0) (eN (wE w)) j).toInt64) i] at hd
      replace hN := fun j hj => (congrFun (hf.si 18) j).trans (hN j hj)
      refine tt_iinc (lv2 := [_, _]) d_X_towed_56 rfl (nI_inc _ 1) (by decide) rfl ?_
      refine tt_goto (t := 34) d_X_towed_59 (by decide) ?_
      exact ih (4 - (i + 1)) (by omega) (i + 1) _ rfl (by omega) h hd hN

set_option maxHeartbeats 4000000 in
theorem xc_towed {l : xLa} {d : Nat} {σ : xs} {w : wv} (ho : okQ w) (hw : XW σ w)  : TC l M_X_towed (d + 30) [.ref 0] σ (fun r τ => r = some (.int ((q_towed w).1)) ∧ XW τ (stD w ((q_towed w).2)) ∧ XF σ τ) := by
  show T l M_X_towed (d + 30) 0 _ [] σ _
  refine T_lv (lv2 := [_, _]) rfl ?_
  have h := XQ.rf hw.v
  have hd0 := hw.2.2.2.1
  have hb0 := ho.fb
  have hb8 := ho.n8
  refine tt_aload_n d_X_towed_0 rfl ?_
  refine tt_getR d_X_towed_1 rfl rfl (by decide) rfl rfl ?_
  refine tt_aload_n d_X_towed_4 rfl ?_
  refine tt_getR d_X_towed_5 rfl rfl (by decide) rfl rfl ?_
  refine tt_aload_n d_X_towed_8 rfl ?_
  refine tt_getP d_X_towed_9 rfl ?_
  refine tt_callV (xq_measure (d := d) h ho.1 ho.2.1) cw_Tug_measure rfl rfl (by decide) rfl (by omega) d_X_towed_12 rfl rfl (Nat.le_of_ble_eq_true rfl) (Nat.le_of_ble_eq_true rfl) rfl rfl rfl (fun v σ2 q => ?_)
  obtain ⟨rfl, h, hM, hu⟩ := q
  replace hd0 := hd0.tn hu
  refine tt_aload_n d_X_towed_15 rfl ?_
  refine tt_getR d_X_towed_16 rfl rfl (by decide) rfl rfl ?_
  refine tt_sipush (v := nI 255) d_X_towed_19 (by decide) ?_
  refine tt_callV (xq_weigh (d := d) (z := nI 255) h ho.1 hM) cw_Tug_weigh rfl rfl (by decide) rfl (by omega) d_X_towed_22 rfl rfl (Nat.le_of_ble_eq_true rfl) (Nat.le_of_ble_eq_true rfl) rfl rfl rfl (fun v σ2 q => ?_)
  obtain ⟨rfl, h, hM, hu, hN⟩ := q
  refine tt_aload_n d_X_towed_25 rfl ?_
  refine tt_getR d_X_towed_26 rfl rfl (by decide) rfl rfl ?_
  refine tt_callV (xq_start (d := d) h) cw_Told_start rfl rfl (by decide) rfl (by omega) d_X_towed_29 rfl rfl (Nat.le_of_ble_eq_true rfl) (Nat.le_of_ble_eq_true rfl) rfl rfl rfl (fun v σ2 q => ?_)
  obtain ⟨rfl, h, hd, hf⟩ := q
  replace hN := fun j hj => (congrFun (hf.si 18) j).trans (hN j hj)
  refine tt_iconst (v := nI 0) d_X_towed_32 (by decide) ?_
  refine tt_istore_n (lv2 := [_, _]) d_X_towed_33 (by decide) rfl ?_
  exact x_towed_l ho 4 0 _ rfl (by omega) h hd hN

theorem y_towed_l {l : xLa} {d c : Nat} {σ : xs} {w : wv} (ho : okQ w) : ∀ (m i : Nat) (τ : xs), 4 - i = m → i ≤ 4 → YQ c w σ τ → YD τ (dL ((List.range i).map (fun j => (ntF (wE w) (wV w) (nI 255) (fun _ => nI 0) (eN (wE w)) j).toInt64))) → (∀ j, j < 4 → ntY (si τ 170) j = ntF (wE w) (wV w) (nI 255) (fun _ => nI 0) (eN (wE w)) j) → T l M_Y_towed (d + 150) 21 [some (.ref 154), some (.int (nI (g4 (goV (wE w) (wV w) (nI 255))))), some (.int (nI i))] [] τ (fun r τ => r = some (.int (q_towed w).1) ∧ YW τ c (stD w (q_towed w).2) ∧ YF σ τ) := by
  intro m
  induction m using Nat.strongRecOn with
  | ind m ih =>
    intro i τ hm hi h hd hN
    have hg := goV_lt (e := wE w) (v := wV w) (z := nI 255)
    have hg4 := g4_c hg
    refine tt_iload_n d_Y_towed_21 rfl ?_
    refine tt_iconst (v := nI 4) d_Y_towed_22 (by decide) ?_
    refine tn_ic_ge (t := 42) (by omega) (by omega) d_Y_towed_23 (by decide) (fun c_23 => ?_) (fun c_23 => ?_)
    · obtain rfl : i = 4 := by omega
      refine tt_iload_n d_Y_towed_42 rfl ?_
      refine tt_iconst (v := nI 4) d_Y_towed_43 (by decide) ?_
      have hg5 := hg4.1
      refine tn_ic_ne (t := 52) (by omega) (by omega) d_Y_towed_44 (by decide) (fun c_44 => ?_) (fun c_44 => ?_)
      · refine tt_iload_n d_Y_towed_52 rfl ?_
        refine tt_iret rfl d_Y_towed_53 ?_
        refine ⟨?_, h.done hd, h.2⟩
        unfold q_towed
        first | (rw [(b2I_c hg).2 (by omega), hg4.2.1 (by omega)]) | (rw [show goV (wE w) (wV w) (nI 255) = 0 by omega]; rfl)
      · refine tt_bipush (v := (-2)) d_Y_towed_47 (by decide) ?_
        refine tt_goto (t := 53) d_Y_towed_49 (by decide) ?_
        refine tt_iret rfl d_Y_towed_53 ?_
        refine ⟨?_, h.done hd, h.2⟩
        unfold q_towed
        first | (rw [(b2I_c hg).2 (by omega), hg4.2.1 (by omega)]) | (rw [show goV (wE w) (wV w) (nI 255) = 0 by omega]; rfl)
    · refine tt_aload_n d_Y_towed_26 rfl ?_
      refine tt_aload_n d_Y_towed_27 rfl ?_
      refine tt_iload_n d_Y_towed_28 rfl ?_
      refine tt_callV (y_net (d := d) (by omega)) cw_Y_net rfl rfl (by decide) rfl (by omega) d_Y_towed_29 rfl rfl (Nat.le_of_ble_eq_true rfl) (Nat.le_of_ble_eq_true rfl) rfl rfl rfl (fun v σ2 q => ?_)
      obtain ⟨rfl, e9⟩ := q
      rw [e9, hN i (by omega)]
      clear e9
      refine tt_i2l d_Y_towed_32 ?_
      refine tt_callV (yq_add (d := d) h hd (by rw [List.length_map, List.length_range]; omega)) cw_Y_enters rfl rfl (by decide) rfl (by omega) d_Y_towed_33 rfl rfl (Nat.le_of_ble_eq_true rfl) (Nat.le_of_ble_eq_true rfl) rfl rfl rfl (fun v σ2 q => ?_)
      obtain ⟨rfl, h, hd, hf⟩ := q
      rw [← rng_s (fun j => (ntF (wE w) (wV w) (nI 255) (fun _ => nI 0) (eN (wE w)) j).toInt64) i] at hd
      replace hN := fun j hj => (congrArg (fun f => ntY f j) (hf.si 170)).trans (hN j hj)
      refine tt_iinc (lv2 := [_, _, _]) d_Y_towed_36 rfl (nI_inc _ 1) (by decide) rfl ?_
      refine tt_goto (t := 21) d_Y_towed_39 (by decide) ?_
      exact ih (4 - (i + 1)) (by omega) (i + 1) _ rfl (by omega) h hd hN

set_option maxHeartbeats 4000000 in
theorem yc_towed {l : xLa} {d c : Nat} {σ : xs} {w : wv} (ho : okQ w) (hw : YW σ c w)  : TC l M_Y_towed (d + 150) [.ref 154] σ (fun r τ => r = some (.int ((q_towed w).1)) ∧ YW τ c (stD w ((q_towed w).2)) ∧ YF σ τ) := by
  show T l M_Y_towed (d + 150) 0 _ [] σ _
  refine T_lv (lv2 := [_, _, _]) rfl ?_
  have h := YQ.rf hw.v
  have hd0 := hw.2.2.2.1
  have hb0 := ho.fb
  have hb8 := ho.n8
  refine tt_aload_n d_Y_towed_0 rfl ?_
  refine tt_iconst (v := nI 0) d_Y_towed_1 (by decide) ?_
  refine tt_putI d_Y_towed_2 rfl rfl (by decide) rfl (xpok_int rfl) rfl ?_
  replace h := h.thr (x := nI 0)
  replace hd0 := hd0.thr (x := nI 0)
  refine tt_aload_n d_Y_towed_5 rfl ?_
  refine tt_aload_n d_Y_towed_6 rfl ?_
  refine tt_getR d_Y_towed_7 rfl rfl (by decide) rfl rfl ?_
  refine tt_callV (yq_goes (d := d) h ho.1 ho.2.1) cw_Y_goes rfl rfl (by decide) rfl (by omega) d_Y_towed_10 rfl rfl (Nat.le_of_ble_eq_true rfl) (Nat.le_of_ble_eq_true rfl) rfl rfl rfl (fun v σ2 q => ?_)
  obtain ⟨rfl, h, hu, hN⟩ := q
  refine tt_istore_n (lv2 := [_, _, _]) d_Y_towed_13 (by decide) rfl ?_
  refine tt_aload_n d_Y_towed_14 rfl ?_
  refine tt_iconst (v := nI 0) d_Y_towed_15 (by decide) ?_
  refine tt_putI d_Y_towed_16 rfl rfl (by decide) rfl (xpok_int rfl) rfl ?_
  replace h := h.td0
  have hd := YD_0t h
  replace hN : ∀ j, j < 4 → ntY (si (wF _ 154 1 (nI 0)) 170) j = _ := hN
  refine tt_iconst (v := nI 0) d_Y_towed_19 (by decide) ?_
  refine tt_istore_n (lv2 := [_, _, _]) d_Y_towed_20 (by decide) rfl ?_
  exact y_towed_l ho 4 0 _ rfl (by omega) h hd hN

