/-! How the reference reads a text. Printed by wip/whole. -/
/-- a text of which to signs may be read, the next one being number a -/
def RT (τ : xs) (t : Nat → Nat) (to a : Nat) : Prop := sf τ 154 17 = nI to ∧ sf τ 154 16 = nI a ∧ (∀ i, i < to → si τ 162 i = nI (t i) ∧ t i < 256) ∧ to ≤ 80 ∧ a ≤ to
/-- nothing but the place has changed -/
def Fa (σ τ : xs) : Prop := Fq (fun _ => False) (fun c k => c = 154 ∧ k = 16) (fun _ => False) σ τ
theorem Fa.rf {σ : xs} : Fa σ σ := ⟨fun _ _ => rfl, fun _ _ _ => rfl, fun _ _ => rfl, rfl, rfl⟩
theorem Fa.tr {σ τ υ : xs} (h : Fa σ τ) (g : Fa τ υ) : Fa σ υ := Fq.tr h g
theorem Fa.w {σ : xs} {x : Int32} : Fa σ (wF σ 154 16 x) := Fq.wF ⟨rfl, rfl⟩
theorem Fa.si {σ τ : xs} (h : Fa σ τ) (c : Nat) : si τ c = si σ c := h.1 c id
theorem Fa.sf {σ τ : xs} (h : Fa σ τ) (k : Nat) (hk : ¬ k = 16) : sf τ 154 k = sf σ 154 k := h.2.1 154 k (fun q => hk q.2)
theorem YQ.fa {c : Nat} {w : wv} {σ τ υ : xs} (h : YQ c w σ τ) (hf : Fa τ υ) : YQ c w σ υ := h.fq (hf.mono (fun _ q => q.elim) (fun c k q => by unfold YqF; omega) (fun _ q => q.elim))
theorem YD.fa {σ τ : xs} {t : Nat × (Nat → Int64)} (h : YD σ t) (hf : Fa σ τ) : YD τ t := h.fq hf id (by omega)
section
variable {τ υ : xs} {t : Nat → Nat} {to a b : Nat}
theorem RT.at (h : RT τ t to a) (hb : b ≤ to) : RT (wF τ 154 16 (nI b)) t to b := ⟨h.1, rfl, h.2.2.1, h.2.2.2.1, hb⟩
theorem RT.o (h : RT τ t to a) (h1 : sf υ 154 17 = sf τ 154 17) (h2 : sf υ 154 16 = sf τ 154 16) (h3 : si υ 162 = si τ 162) : RT υ t to a := ⟨h1.trans h.1, h2.trans h.2.1, fun i hi => by rw [h3]; exact h.2.2.1 i hi, h.2.2.2⟩
end
def tkN (t : Nat → Nat) (to a s : Nat) : Nat := if a < to ∧ t a = s then 1 else 0
abbrev isD (t : Nat → Nat) (to a : Nat) : Prop := a < to ∧ 48 ≤ t a ∧ t a ≤ 57
def idN (t : Nat → Nat) (to a : Nat) : Nat := if isD t to a then 1 else 0
/-- the place of a sign in string j -/
def ofN (j x : Nat) : Option Nat := fstN (fun k => decide ((sb j).getD k 0 = nI x)) (sb j).length 0
def toN (j : Nat) (t : Nat → Nat) (to a : Nat) : Option Nat := if a < to then ofN j (t a) else none
def opN : Option Nat → Nat
  | none => 0
  | some _ => 1
/-- a number of so many digits at most: it, and where it ends -/
def nmF (t : Nat → Nat) (to : Nat) : Nat → Nat → Nat → Nat × Nat
  | 0, v, a => (v, a)
  | d + 1, v, a => if isD t to a then nmF t to d (10 * v + t a - 48) (a + 1) else (v, a)
def nmI (t : Nat → Nat) (to d a : Nat) : Int32 := if isD t to a then nI (nmF t to d 0 a).1 else -1
def nmA (t : Nat → Nat) (to d a : Nat) : Nat := if isD t to a then (nmF t to d 0 a).2 else a
/-- a digit from L to H - 1 (plus 1), 0: none -/
def diN (t : Nat → Nat) (to a L H : Nat) : Nat := if a < to ∧ 48 + L ≤ t a ∧ t a < 48 + H then t a - 48 + 1 else 0
def foI (n m b to a : Nat) : Int32 := if m < n ∧ ((b = 1 ∧ a = to) ∨ m ≤ a) then (-1) - nI m else if b = 1 ∧ a = to then nI 0 else (-1) - nI a
theorem tk_le (t : Nat → Nat) (to a s : Nat) : tkN t to a s ≤ 1 ∧ (tkN t to a s = 1 → a < to ∧ t a = s) ∧ (tkN t to a s = 0 → ¬ (a < to ∧ t a = s)) := by
  unfold tkN
  by_cases c : a < to ∧ t a = s
  · rw [if_pos c]; exact ⟨Nat.le_refl _, fun _ => c, fun q => by omega⟩
  · rw [if_neg c]; exact ⟨by omega, fun q => by omega, fun _ => c⟩
theorem di_Y {x L H : Nat} (hx : x < 256) (hL : L < 100) (hH : H < 100) : Yin (nI x - nI 48).toInt64 (nI L).toInt64 (gI H).toInt64 = if 48 + L ≤ x ∧ x < 48 + H then nI 1 else nI 0 := by
  rw [Yin_toInt, Int32.toInt_toInt64, Int32.toInt_toInt64, Int32.toInt_toInt64, pk_sub_toInt (by omega) (by omega), nI_toInt (by omega)]
  have e : (gI H).toInt = (H : Int) - 1 := by
    cases H with
    | zero => rfl
    | succ H => rw [show gI (H + 1) = nI H from rfl, nI_toInt (by omega)]; omega
  rw [e]
  by_cases c : 48 + L ≤ x ∧ x < 48 + H
  · rw [if_pos c, if_pos (by omega)]
  · rw [if_neg c, if_neg (by omega)]
theorem dg_Y {x : Nat} (hx : x < 256) : Yin (nI x).toInt64 48 57 = if 48 ≤ x ∧ x ≤ 57 then nI 1 else nI 0 := by
  rw [Yin_toInt, Int32.toInt_toInt64, nI_toInt (by omega)]
  have e1 : (48 : Int64).toInt = 48 := rfl
  have e2 : (57 : Int64).toInt = 57 := rfl
  rw [e1, e2]
  by_cases c : 48 ≤ x ∧ x ≤ 57
  · rw [if_pos c, if_pos (by omega)]
  · rw [if_neg c, if_neg (by omega)]
set_option maxHeartbeats 4000000 in
theorem y_takes {l : xLa} {d : Nat} {τ : xs} {t : Nat → Nat} {to a : Nat} (hR : RT τ t to a) {s : Nat} (hs : s < 256) : TC l M_Y_takes (d + 5) [.ref 154, .int (nI s)] τ (fun r υ => r = some (.int (nI (tkN t to a s))) ∧ RT υ t to (a + tkN t to a s) ∧ Fa τ υ) := by
  show T l M_Y_takes (d + 5) 0 _ [] τ _
  refine T_lv (lv2 := [_, _, _]) rfl ?_
  have hr1 := hR.2.2.2.1
  have hr2 := hR.2.2.2.2
  have hr3 := fun (q : a < to) => (hR.2.2.1 a q).2
  refine tt_aload_n d_Y_takes_0 rfl ?_
  refine tn_get d_Y_takes_1 rfl rfl (by decide) rfl hR.2.1 ?_
  refine tt_aload_n d_Y_takes_4 rfl ?_
  refine tn_get d_Y_takes_5 rfl rfl (by decide) rfl hR.1 ?_
  refine tn_ic_ge (t := 28) (by omega) (by omega) d_Y_takes_8 (by decide) (fun c_8 => ?_) (fun c_8 => ?_)
  · refine tt_iconst (v := nI 0) d_Y_takes_28 (by decide) ?_
    refine tt_istore_n (lv2 := [_, _, _]) d_Y_takes_29 (by decide) rfl ?_
    refine tt_aload_n d_Y_takes_30 rfl ?_
    refine tt_dup d_Y_takes_31 rfl ?_
    refine tn_get d_Y_takes_32 rfl rfl (by decide) rfl hR.2.1 ?_
    refine tt_iload_n d_Y_takes_35 rfl ?_
    refine tt_callS (y_flag (d := d)) cw_Y_flag rfl (by omega) d_Y_takes_36 rfl rfl (Nat.le_of_ble_eq_true rfl) (Nat.le_of_ble_eq_true rfl) rfl rfl rfl (fun v σ2 q => ?_)
    obtain ⟨rfl, e9⟩ := q
    rw [e9]
    clear e9
    first | rw [show flI (nI 1) = nI 1 from rfl] | rw [show flI (nI 0) = nI 0 from rfl]
    refine tn_iadd d_Y_takes_39 ?_
    refine tt_putI d_Y_takes_40 rfl rfl (by decide) rfl (xpok_int rfl) rfl ?_
    refine tt_iload_n d_Y_takes_43 rfl ?_
    refine tt_zret rfl rfl d_Y_takes_44 ?_
    unfold tkN
    first | (rw [if_pos ⟨c_8, c_21⟩]; exact ⟨rfl, hR.at (by omega), Fa.w⟩) | (rw [if_neg (by omega)]; exact ⟨rfl, hR.at (by omega), Fa.w⟩)
  · have hta := hr3 c_8
    refine tt_aload_n d_Y_takes_11 rfl ?_
    refine tt_getR d_Y_takes_12 rfl rfl (by decide) rfl rfl ?_
    refine tt_aload_n d_Y_takes_15 rfl ?_
    refine tn_get d_Y_takes_16 rfl rfl (by decide) rfl hR.2.1 ?_
    refine tn_iald d_Y_takes_19 rfl (by decide) (by omega) (hR.2.2.1 _ (by omega)).1 ?_
    refine tt_iload_n d_Y_takes_20 rfl ?_
    refine tn_ic_ne (t := 28) (by omega) (by omega) d_Y_takes_21 (by decide) (fun c_21 => ?_) (fun c_21 => ?_)
    · refine tt_iconst (v := nI 0) d_Y_takes_28 (by decide) ?_
      refine tt_istore_n (lv2 := [_, _, _]) d_Y_takes_29 (by decide) rfl ?_
      refine tt_aload_n d_Y_takes_30 rfl ?_
      refine tt_dup d_Y_takes_31 rfl ?_
      refine tn_get d_Y_takes_32 rfl rfl (by decide) rfl hR.2.1 ?_
      refine tt_iload_n d_Y_takes_35 rfl ?_
      refine tt_callS (y_flag (d := d)) cw_Y_flag rfl (by omega) d_Y_takes_36 rfl rfl (Nat.le_of_ble_eq_true rfl) (Nat.le_of_ble_eq_true rfl) rfl rfl rfl (fun v σ2 q => ?_)
      obtain ⟨rfl, e9⟩ := q
      rw [e9]
      clear e9
      first | rw [show flI (nI 1) = nI 1 from rfl] | rw [show flI (nI 0) = nI 0 from rfl]
      refine tn_iadd d_Y_takes_39 ?_
      refine tt_putI d_Y_takes_40 rfl rfl (by decide) rfl (xpok_int rfl) rfl ?_
      refine tt_iload_n d_Y_takes_43 rfl ?_
      refine tt_zret rfl rfl d_Y_takes_44 ?_
      unfold tkN
      first | (rw [if_pos ⟨c_8, c_21⟩]; exact ⟨rfl, hR.at (by omega), Fa.w⟩) | (rw [if_neg (by omega)]; exact ⟨rfl, hR.at (by omega), Fa.w⟩)
    · refine tt_iconst (v := nI 1) d_Y_takes_24 (by decide) ?_
      refine tt_goto (t := 29) d_Y_takes_25 (by decide) ?_
      refine tt_istore_n (lv2 := [_, _, _]) d_Y_takes_29 (by decide) rfl ?_
      refine tt_aload_n d_Y_takes_30 rfl ?_
      refine tt_dup d_Y_takes_31 rfl ?_
      refine tn_get d_Y_takes_32 rfl rfl (by decide) rfl hR.2.1 ?_
      refine tt_iload_n d_Y_takes_35 rfl ?_
      refine tt_callS (y_flag (d := d)) cw_Y_flag rfl (by omega) d_Y_takes_36 rfl rfl (Nat.le_of_ble_eq_true rfl) (Nat.le_of_ble_eq_true rfl) rfl rfl rfl (fun v σ2 q => ?_)
      obtain ⟨rfl, e9⟩ := q
      rw [e9]
      clear e9
      first | rw [show flI (nI 1) = nI 1 from rfl] | rw [show flI (nI 0) = nI 0 from rfl]
      refine tn_iadd d_Y_takes_39 ?_
      refine tt_putI d_Y_takes_40 rfl rfl (by decide) rfl (xpok_int rfl) rfl ?_
      refine tt_iload_n d_Y_takes_43 rfl ?_
      refine tt_zret rfl rfl d_Y_takes_44 ?_
      unfold tkN
      first | (rw [if_pos ⟨c_8, c_21⟩]; exact ⟨rfl, hR.at (by omega), Fa.w⟩) | (rw [if_neg (by omega)]; exact ⟨rfl, hR.at (by omega), Fa.w⟩)

set_option maxHeartbeats 4000000 in
theorem y_isDigit {l : xLa} {d : Nat} {τ : xs} {t : Nat → Nat} {to a : Nat} (hR : RT τ t to a)  : TC l M_Y_isDigit (d + 5) [.ref 154] τ (fun r υ => r = some (.int (nI (idN t to a))) ∧ υ = τ) := by
  show T l M_Y_isDigit (d + 5) 0 _ [] τ _
  refine T_lv (lv2 := [_]) rfl ?_
  have hr1 := hR.2.2.2.1
  have hr2 := hR.2.2.2.2
  have hr3 := fun (q : a < to) => (hR.2.2.1 a q).2
  refine tt_aload_n d_Y_isDigit_0 rfl ?_
  refine tn_get d_Y_isDigit_1 rfl rfl (by decide) rfl hR.2.1 ?_
  refine tt_aload_n d_Y_isDigit_4 rfl ?_
  refine tn_get d_Y_isDigit_5 rfl rfl (by decide) rfl hR.1 ?_
  refine tn_ic_ge (t := 37) (by omega) (by omega) d_Y_isDigit_8 (by decide) (fun c_8 => ?_) (fun c_8 => ?_)
  · refine tt_iconst (v := nI 0) d_Y_isDigit_37 (by decide) ?_
    refine tt_zret rfl rfl d_Y_isDigit_38 ?_
    unfold idN
    first | (rw [if_pos ⟨c_8, hyes⟩]; exact ⟨rfl, rfl⟩) | (rw [if_neg (by omega)]; exact ⟨rfl, rfl⟩)
  · have hta := hr3 c_8
    refine tt_aload_n d_Y_isDigit_11 rfl ?_
    refine tt_getR d_Y_isDigit_12 rfl rfl (by decide) rfl rfl ?_
    refine tt_aload_n d_Y_isDigit_15 rfl ?_
    refine tn_get d_Y_isDigit_16 rfl rfl (by decide) rfl hR.2.1 ?_
    refine tn_iald d_Y_isDigit_19 rfl (by decide) (by omega) (hR.2.2.1 _ (by omega)).1 ?_
    refine tt_i2l d_Y_isDigit_20 ?_
    refine tt_ldc2_w d_Y_isDigit_21 rfl ?_
    refine tt_ldc2_w d_Y_isDigit_24 rfl ?_
    refine tt_callS (y_in (d := d)) cw_Y_in rfl (by omega) d_Y_isDigit_27 rfl rfl (Nat.le_of_ble_eq_true rfl) (Nat.le_of_ble_eq_true rfl) rfl rfl rfl (fun v σ2 q => ?_)
    obtain ⟨rfl, e9⟩ := q
    rw [e9, show Yin (nI (t a)).toInt64 _ _ = _ from dg_Y hta]
    clear e9
    refine tt_if_eq (t := 37) d_Y_isDigit_30 (by decide) (fun c_30 => ?_) (fun c_30 => ?_)
    · have hno : ¬ (48 ≤ t a ∧ t a ≤ 57) := fun q => by rw [if_pos q] at c_30; exact absurd c_30 (by decide)
      refine tt_iconst (v := nI 0) d_Y_isDigit_37 (by decide) ?_
      refine tt_zret rfl rfl d_Y_isDigit_38 ?_
      unfold idN
      first | (rw [if_pos ⟨c_8, hyes⟩]; exact ⟨rfl, rfl⟩) | (rw [if_neg (by omega)]; exact ⟨rfl, rfl⟩)
    · have hyes : 48 ≤ t a ∧ t a ≤ 57 := Decidable.byContradiction (fun q => by rw [if_neg q] at c_30; exact c_30 rfl)
      refine tt_iconst (v := nI 1) d_Y_isDigit_33 (by decide) ?_
      refine tt_goto (t := 38) d_Y_isDigit_34 (by decide) ?_
      refine tt_zret rfl rfl d_Y_isDigit_38 ?_
      unfold idN
      first | (rw [if_pos ⟨c_8, hyes⟩]; exact ⟨rfl, rfl⟩) | (rw [if_neg (by omega)]; exact ⟨rfl, rfl⟩)

set_option maxHeartbeats 4000000 in
theorem y_takesOf_l {l : xLa} {d : Nat} {τ : xs} {t : Nat → Nat} {to a : Nat} (hR : RT τ t to a) {j : Nat} (hj : j < 8) : ∀ (m i : Nat), (sb j).length - i = m → i ≤ (sb j).length → T l M_Y_takesOf (d + 8) 2 [some (.ref 154), some (.ref (xB + 10 + j)), some (.int (nI i))] [] τ (fun r υ => r = some (.int (arI (if a < to then fstN (fun k => decide ((sb j).getD k 0 = nI (t a))) ((sb j).length - i) i else none))) ∧ RT υ t to (a + opN (if a < to then fstN (fun k => decide ((sb j).getD k 0 = nI (t a))) ((sb j).length - i) i else none)) ∧ Fa τ υ) := by
  have h9 := (sb_len j hj).2.1
  intro m
  induction m using Nat.strongRecOn with
  | ind m ih =>
    intro i hm hi
    have hr1 := hR.2.2.2.1
    have hr2 := hR.2.2.2.2
    have hr3 := fun (q : a < to) => (hR.2.2.1 a q).2
    refine tt_iload_n d_Y_takesOf_2 rfl ?_
    refine tt_aload_n d_Y_takesOf_3 rfl ?_
    refine tt_callT (s_length (d := d) hj) cw_String_length rfl hj rfl (by omega) d_Y_takesOf_4 rfl rfl (Nat.le_of_ble_eq_true rfl) (Nat.le_of_ble_eq_true rfl) rfl rfl rfl (fun v σ2 q => ?_)
    obtain ⟨rfl, e9⟩ := q
    rw [e9]
    clear e9
    refine tn_ic_ge (t := 56) (by omega) (by omega) d_Y_takesOf_7 (by decide) (fun c_7 => ?_) (fun c_7 => ?_)
    · rw [show (sb j).length - i = 0 by omega]
      have e : (if a < to then fstN (fun k => decide ((sb j).getD k 0 = nI (t a))) 0 i else none) = none := by split <;> rfl
      rw [e]
      refine tt_iconst (v := (-1)) d_Y_takesOf_56 (by decide) ?_
      refine tt_iret rfl d_Y_takesOf_57 ?_
      exact ⟨rfl, hR, Fa.rf⟩
    · refine tt_aload_n d_Y_takesOf_10 rfl ?_
      refine tn_get d_Y_takesOf_11 rfl rfl (by decide) rfl hR.2.1 ?_
      refine tt_aload_n d_Y_takesOf_14 rfl ?_
      refine tn_get d_Y_takesOf_15 rfl rfl (by decide) rfl hR.1 ?_
      refine tn_ic_ge (t := 56) (by omega) (by omega) d_Y_takesOf_18 (by decide) (fun c_18 => ?_) (fun c_18 => ?_)
      · rw [if_neg (by omega)]
        refine tt_iconst (v := (-1)) d_Y_takesOf_56 (by decide) ?_
        refine tt_iret rfl d_Y_takesOf_57 ?_
        exact ⟨rfl, hR, Fa.rf⟩
      · rw [if_pos c_18]
        refine tt_aload_n d_Y_takesOf_21 rfl ?_
        refine tt_iload_n d_Y_takesOf_22 rfl ?_
        refine tt_callT (s_charAt (d := d) hj (by omega)) cw_String_charAt rfl hj rfl (by omega) d_Y_takesOf_23 rfl rfl (Nat.le_of_ble_eq_true rfl) (Nat.le_of_ble_eq_true rfl) rfl rfl rfl (fun v σ2 q => ?_)
        obtain ⟨rfl, e9⟩ := q
        rw [e9]
        clear e9
        refine tt_aload_n d_Y_takesOf_26 rfl ?_
        refine tt_getR d_Y_takesOf_27 rfl rfl (by decide) rfl rfl ?_
        refine tt_aload_n d_Y_takesOf_30 rfl ?_
        refine tn_get d_Y_takesOf_31 rfl rfl (by decide) rfl hR.2.1 ?_
        refine tn_iald d_Y_takesOf_34 rfl (by decide) (by omega) (hR.2.2.1 _ (by omega)).1 ?_
        refine tt_ic_ne (t := 50) d_Y_takesOf_35 (by decide) (fun c_35 => ?_) (fun c_35 => ?_)
        · rw [fst_miss (by omega) (fun q => c_35 (of_decide_eq_true q))]
          refine tt_iinc (lv2 := [_, _, _]) d_Y_takesOf_50 rfl (nI_inc _ 1) (by decide) rfl ?_
          refine tt_goto (t := 2) d_Y_takesOf_53 (by decide) ?_
          have q := ih ((sb j).length - (i + 1)) (by omega) (i + 1) rfl (by omega)
          rw [if_pos c_18] at q
          exact q
        · rw [fst_hit (by omega) (decide_eq_true (Decidable.not_not.mp c_35))]
          refine tt_aload_n d_Y_takesOf_38 rfl ?_
          refine tt_dup d_Y_takesOf_39 rfl ?_
          refine tn_get d_Y_takesOf_40 rfl rfl (by decide) rfl hR.2.1 ?_
          refine tt_iconst (v := nI 1) d_Y_takesOf_43 (by decide) ?_
          refine tn_iadd d_Y_takesOf_44 ?_
          refine tt_putI d_Y_takesOf_45 rfl rfl (by decide) rfl (xpok_int rfl) rfl ?_
          refine tt_iload_n d_Y_takesOf_48 rfl ?_
          refine tt_iret rfl d_Y_takesOf_49 ?_
          exact ⟨rfl, hR.at (by omega), Fa.w⟩

theorem y_takesOf {l : xLa} {d : Nat} {τ : xs} {t : Nat → Nat} {to a : Nat} (hR : RT τ t to a) {j : Nat} (hj : j < 8) : TC l M_Y_takesOf (d + 8) [.ref 154, .ref (xB + 10 + j)] τ (fun r υ => r = some (.int (arI (toN j t to a))) ∧ RT υ t to (a + opN (toN j t to a)) ∧ Fa τ υ) := by
  show T l M_Y_takesOf (d + 8) 0 _ [] τ _
  refine T_lv (lv2 := [_, _, _]) rfl ?_
  refine tt_iconst (v := nI 0) d_Y_takesOf_0 (by decide) ?_
  refine tt_istore_n (lv2 := [_, _, _]) d_Y_takesOf_1 (by decide) rfl ?_
  exact y_takesOf_l hR hj (sb j).length 0 rfl (by omega)

theorem id_le (t : Nat → Nat) (to a : Nat) : idN t to a ≤ 1 ∧ (¬ idN t to a = 0 ↔ isD t to a) := by
  unfold idN
  by_cases c : isD t to a
  · rw [if_pos c]; exact ⟨Nat.le_refl _, ⟨fun _ => c, fun _ => by omega⟩⟩
  · rw [if_neg c]; exact ⟨by omega, ⟨fun q => absurd rfl q, fun q => absurd q c⟩⟩
theorem nm_y {t : Nat → Nat} {to d v a : Nat} (h : isD t to a) : nmF t to (d + 1) v a = nmF t to d (10 * v + t a - 48) (a + 1) := if_pos h
theorem nm_n {t : Nat → Nat} {to d v a : Nat} (h : ¬ isD t to a) : nmF t to (d + 1) v a = (v, a) := if_neg h
set_option maxHeartbeats 4000000 in
theorem y_number_l {l : xLa} {d : Nat} {σ : xs} {t : Nat → Nat} {to D : Nat} (hD : D ≤ 3) : ∀ (m i v a : Nat) (τ : xs), D - i = m → i ≤ D → RT τ t to a → Fa σ τ → T l M_Y_number (d + 6) 13 [some (.ref 154), some (.int (nI D)), some (.int (nI v)), some (.int (nI i))] [] τ (fun r υ => r = some (.int (nI (nmF t to (D - i) v a).1)) ∧ RT υ t to (nmF t to (D - i) v a).2 ∧ Fa σ υ) := by
  intro m
  induction m using Nat.strongRecOn with
  | ind m ih =>
    intro i v a τ hm hi hR hF
    have hr1 := hR.2.2.2.1
    have hr2 := hR.2.2.2.2
    have hr3 := fun (q : a < to) => (hR.2.2.1 a q).2
    have hid := id_le t to a
    refine tt_iload_n d_Y_number_13 rfl ?_
    refine tt_iload_n d_Y_number_14 rfl ?_
    refine tn_ic_ge (t := 59) (by omega) (by omega) d_Y_number_15 (by decide) (fun c_15 => ?_) (fun c_15 => ?_)
    · obtain rfl : i = D := by omega
      rw [Nat.sub_self]
      refine tt_iload_n d_Y_number_59 rfl ?_
      refine tt_iret rfl d_Y_number_60 ?_
      exact ⟨rfl, hR, hF⟩
    · rw [show D - i = D - (i + 1) + 1 by omega]
      refine tt_aload_n d_Y_number_18 rfl ?_
      refine tt_callV (y_isDigit (d := d) hR) cw_Y_isDigit rfl rfl (by decide) rfl (by omega) d_Y_number_19 rfl rfl (Nat.le_of_ble_eq_true rfl) (Nat.le_of_ble_eq_true rfl) rfl rfl rfl (fun v σ2 q => ?_)
      obtain ⟨rfl, e9⟩ := q
      rw [e9]
      clear e9
      refine tn_if_eq (t := 59) (by omega) d_Y_number_22 (by decide) (fun c_22 => ?_) (fun c_22 => ?_)
      · rw [nm_n (fun q => hid.2.mpr q c_22)]
        refine tt_iload_n d_Y_number_59 rfl ?_
        refine tt_iret rfl d_Y_number_60 ?_
        exact ⟨rfl, hR, hF⟩
      · have hd9 := hid.2.mp c_22
        rw [nm_y hd9]
        have hta := hr3 hd9.1
        refine tt_bipush (v := nI 10) d_Y_number_25 (by decide) ?_
        refine tt_iload_n d_Y_number_27 rfl ?_
        refine tn_imul d_Y_number_28 ?_
        refine tt_aload_n d_Y_number_29 rfl ?_
        refine tt_getR d_Y_number_30 rfl rfl (by decide) rfl rfl ?_
        refine tt_aload_n d_Y_number_33 rfl ?_
        refine tn_get d_Y_number_34 rfl rfl (by decide) rfl hR.2.1 ?_
        refine tn_iald d_Y_number_37 rfl (by decide) (by omega) (hR.2.2.1 _ (by omega)).1 ?_
        refine tn_iadd d_Y_number_38 ?_
        refine tt_bipush (v := nI 48) d_Y_number_39 (by decide) ?_
        refine tn_isub (by omega) d_Y_number_41 ?_
        refine tt_istore_n (lv2 := [_, _, _, _]) d_Y_number_42 (by decide) rfl ?_
        refine tt_aload_n d_Y_number_43 rfl ?_
        refine tt_dup d_Y_number_44 rfl ?_
        refine tn_get d_Y_number_45 rfl rfl (by decide) rfl hR.2.1 ?_
        refine tt_iconst (v := nI 1) d_Y_number_48 (by decide) ?_
        refine tn_iadd d_Y_number_49 ?_
        refine tt_putI d_Y_number_50 rfl rfl (by decide) rfl (xpok_int rfl) rfl ?_
        refine tt_iinc (lv2 := [_, _, _, _]) d_Y_number_53 rfl (nI_inc _ 1) (by decide) rfl ?_
        refine tt_goto (t := 13) d_Y_number_56 (by decide) ?_
        exact ih (D - (i + 1)) (by omega) (i + 1) _ (a + 1) _ rfl (by omega) (hR.at (by omega)) (hF.tr Fa.w)

set_option maxHeartbeats 4000000 in
theorem y_number {l : xLa} {d : Nat} {τ : xs} {t : Nat → Nat} {to a : Nat} (hR : RT τ t to a) {D : Nat} (hD : D ≤ 3) : TC l M_Y_number (d + 6) [.ref 154, .int (nI D)] τ (fun r υ => r = some (.int (nmI t to D a)) ∧ RT υ t to (nmA t to D a) ∧ Fa τ υ) := by
  show T l M_Y_number (d + 6) 0 _ [] τ _
  refine T_lv (lv2 := [_, _, _, _]) rfl ?_
  have hr1 := hR.2.2.2.1
  have hr2 := hR.2.2.2.2
  have hr3 := fun (q : a < to) => (hR.2.2.1 a q).2
  have hid := id_le t to a
  unfold nmI nmA
  refine tt_aload_n d_Y_number_0 rfl ?_
  refine tt_callV (y_isDigit (d := d) hR) cw_Y_isDigit rfl rfl (by decide) rfl (by omega) d_Y_number_1 rfl rfl (Nat.le_of_ble_eq_true rfl) (Nat.le_of_ble_eq_true rfl) rfl rfl rfl (fun v σ2 q => ?_)
  obtain ⟨rfl, e9⟩ := q
  rw [e9]
  clear e9
  refine tn_if_ne (t := 9) (by omega) d_Y_number_4 (by decide) (fun c_4 => ?_) (fun c_4 => ?_)
  · rw [if_pos (hid.2.mp c_4), if_pos (hid.2.mp c_4)]
    refine tt_iconst (v := nI 0) d_Y_number_9 (by decide) ?_
    refine tt_istore_n (lv2 := [_, _, _, _]) d_Y_number_10 (by decide) rfl ?_
    refine tt_iconst (v := nI 0) d_Y_number_11 (by decide) ?_
    refine tt_istore_n (lv2 := [_, _, _, _]) d_Y_number_12 (by decide) rfl ?_
    exact y_number_l hD D 0 0 a _ rfl (by omega) hR Fa.rf
  · rw [if_neg (fun q => hid.2.mpr q (by omega)), if_neg (fun q => hid.2.mpr q (by omega))]
    refine tt_iconst (v := (-1)) d_Y_number_7 (by decide) ?_
    refine tt_iret rfl d_Y_number_8 ?_
    exact ⟨rfl, hR, Fa.rf⟩

set_option maxHeartbeats 4000000 in
theorem y_digitIn {l : xLa} {d : Nat} {τ : xs} {t : Nat → Nat} {to a : Nat} (hR : RT τ t to a) {L H : Nat} (hL : L < 100) (hH : H < 100) : TC l M_Y_digitIn (d + 5) [.ref 154, .int (nI L), .int (gI H)] τ (fun r υ => r = some (.int (gI (diN t to a L H))) ∧ RT υ t to (a + (if diN t to a L H = 0 then 0 else 1)) ∧ Fa τ υ) := by
  show T l M_Y_digitIn (d + 5) 0 _ [] τ _
  refine T_lv (lv2 := [_, _, _]) rfl ?_
  have hr1 := hR.2.2.2.1
  have hr2 := hR.2.2.2.2
  have hr3 := fun (q : a < to) => (hR.2.2.1 a q).2
  unfold diN
  refine tt_aload_n d_Y_digitIn_0 rfl ?_
  refine tn_get d_Y_digitIn_1 rfl rfl (by decide) rfl hR.2.1 ?_
  refine tt_aload_n d_Y_digitIn_4 rfl ?_
  refine tn_get d_Y_digitIn_5 rfl rfl (by decide) rfl hR.1 ?_
  refine tn_ic_ge (t := 34) (by omega) (by omega) d_Y_digitIn_8 (by decide) (fun c_8 => ?_) (fun c_8 => ?_)
  · rw [if_neg (by omega)]
    refine tt_iconst (v := (-1)) d_Y_digitIn_34 (by decide) ?_
    refine tt_iret rfl d_Y_digitIn_35 ?_
    exact ⟨rfl, hR, Fa.rf⟩
  · have hta := hr3 c_8
    refine tt_aload_n d_Y_digitIn_11 rfl ?_
    refine tt_getR d_Y_digitIn_12 rfl rfl (by decide) rfl rfl ?_
    refine tt_aload_n d_Y_digitIn_15 rfl ?_
    refine tn_get d_Y_digitIn_16 rfl rfl (by decide) rfl hR.2.1 ?_
    refine tn_iald d_Y_digitIn_19 rfl (by decide) (by omega) (hR.2.2.1 _ (by omega)).1 ?_
    refine tt_bipush (v := nI 48) d_Y_digitIn_20 (by decide) ?_
    refine tt_isub d_Y_digitIn_22 ?_
    refine tt_i2l d_Y_digitIn_23 ?_
    refine tt_iload_n d_Y_digitIn_24 rfl ?_
    refine tt_i2l d_Y_digitIn_25 ?_
    refine tt_iload_n d_Y_digitIn_26 rfl ?_
    refine tt_i2l d_Y_digitIn_27 ?_
    refine tt_callS (y_in (d := d)) cw_Y_in rfl (by omega) d_Y_digitIn_28 rfl rfl (Nat.le_of_ble_eq_true rfl) (Nat.le_of_ble_eq_true rfl) rfl rfl rfl (fun v σ2 q => ?_)
    obtain ⟨rfl, e9⟩ := q
    rw [e9, di_Y hta hL hH]
    clear e9
    refine tt_if_ne (t := 36) d_Y_digitIn_31 (by decide) (fun c_31 => ?_) (fun c_31 => ?_)
    · have hyes : 48 + L ≤ t a ∧ t a < 48 + H := Decidable.byContradiction (fun q => by rw [if_neg q] at c_31; exact c_31 rfl)
      rw [if_pos ⟨c_8, hyes⟩]
      refine tt_aload_n d_Y_digitIn_36 rfl ?_
      refine tt_dup d_Y_digitIn_37 rfl ?_
      refine tn_get d_Y_digitIn_38 rfl rfl (by decide) rfl hR.2.1 ?_
      refine tt_iconst (v := nI 1) d_Y_digitIn_41 (by decide) ?_
      refine tn_iadd d_Y_digitIn_42 ?_
      refine tt_putI d_Y_digitIn_43 rfl rfl (by decide) rfl (xpok_int rfl) rfl ?_
      refine tt_aload_n d_Y_digitIn_46 rfl ?_
      refine tt_getR d_Y_digitIn_47 rfl rfl (by decide) rfl rfl ?_
      refine tt_aload_n d_Y_digitIn_50 rfl ?_
      refine tn_get d_Y_digitIn_51 rfl rfl (by decide) rfl (show _ = nI (a + 1) from rfl) ?_
      refine tt_iconst (v := nI 1) d_Y_digitIn_54 (by decide) ?_
      refine tn_isub (by omega) d_Y_digitIn_55 ?_
      rw [Nat.add_sub_cancel]
      refine tn_iald d_Y_digitIn_56 rfl (by decide) (by omega) (show _ = nI (t a) from (hR.2.2.1 a c_8).1) ?_
      refine tt_bipush (v := nI 48) d_Y_digitIn_57 (by decide) ?_
      refine tn_isub (by omega) d_Y_digitIn_59 ?_
      refine tt_iret rfl d_Y_digitIn_60 ?_
      rw [if_neg (by omega)]
      exact ⟨rfl, hR.at (by omega), Fa.w⟩
    · have hno : ¬ (48 + L ≤ t a ∧ t a < 48 + H) := fun q => by rw [if_pos q] at c_31; exact absurd c_31 (by decide)
      rw [if_neg (fun q => hno q.2)]
      refine tt_iconst (v := (-1)) d_Y_digitIn_34 (by decide) ?_
      refine tt_iret rfl d_Y_digitIn_35 ?_
      exact ⟨rfl, hR, Fa.rf⟩

set_option maxHeartbeats 4000000 in
theorem y_faultOf {l : xLa} {d : Nat} {τ : xs} {t : Nat → Nat} {to a : Nat} (hR : RT τ t to a) {n m b : Nat} (hn : n < 1000) (hm : m < 1000) (hb : b ≤ 1) : TC l M_Y_faultOf (d + 5) [.ref 154, .int (nI n), .int (nI m), .int (nI b)] τ (fun r υ => r = some (.int (foI n m b to a)) ∧ υ = τ) := by
  show T l M_Y_faultOf (d + 5) 0 _ [] τ _
  refine T_lv (lv2 := [_, _, _, _, _]) rfl ?_
  have hr1 := hR.2.2.2.1
  have hr2 := hR.2.2.2.2
  have hr3 := fun (q : a < to) => (hR.2.2.1 a q).2
  unfold foI
  refine tt_iload_n d_Y_faultOf_0 rfl ?_
  refine tn_if_eq (t := 19) (by omega) d_Y_faultOf_1 (by decide) (fun c_1 => ?_) (fun c_1 => ?_)
  · refine tt_iconst (v := nI 0) d_Y_faultOf_19 (by decide) ?_
    refine tt_istore (lv2 := [_, _, _, _, _]) d_Y_faultOf_20 (by decide) rfl ?_
    refine tt_iload_n d_Y_faultOf_22 rfl ?_
    refine tt_iload_n d_Y_faultOf_23 rfl ?_
    refine tn_ic_le (t := 44) (by omega) (by omega) d_Y_faultOf_24 (by decide) (fun c_24 => ?_) (fun c_24 => ?_)
    · refine tt_iload d_Y_faultOf_44 rfl ?_
      refine tn_if_eq (t := 53) (by omega) d_Y_faultOf_46 (by decide) (fun c_46 => ?_) (fun c_46 => ?_)
      · refine tt_iconst (v := (-1)) d_Y_faultOf_53 (by decide) ?_
        refine tt_aload_n d_Y_faultOf_54 rfl ?_
        refine tn_get d_Y_faultOf_55 rfl rfl (by decide) rfl hR.2.1 ?_
        refine tt_isub d_Y_faultOf_58 ?_
        refine tt_iret rfl d_Y_faultOf_59 ?_
        rw [if_neg (by omega)]
        first | (rw [if_pos (by omega)]; exact ⟨rfl, rfl⟩) | (rw [if_neg (by omega)]; exact ⟨rfl, rfl⟩)
      · omega
    · refine tt_iload d_Y_faultOf_27 rfl ?_
      refine tn_if_ne (t := 40) (by omega) d_Y_faultOf_29 (by decide) (fun c_29 => ?_) (fun c_29 => ?_)
      · omega
      · refine tt_aload_n d_Y_faultOf_32 rfl ?_
        refine tn_get d_Y_faultOf_33 rfl rfl (by decide) rfl hR.2.1 ?_
        refine tt_iload_n d_Y_faultOf_36 rfl ?_
        refine tn_ic_lt (t := 44) (by omega) (by omega) d_Y_faultOf_37 (by decide) (fun c_37 => ?_) (fun c_37 => ?_)
        · refine tt_iload d_Y_faultOf_44 rfl ?_
          refine tn_if_eq (t := 53) (by omega) d_Y_faultOf_46 (by decide) (fun c_46 => ?_) (fun c_46 => ?_)
          · refine tt_iconst (v := (-1)) d_Y_faultOf_53 (by decide) ?_
            refine tt_aload_n d_Y_faultOf_54 rfl ?_
            refine tn_get d_Y_faultOf_55 rfl rfl (by decide) rfl hR.2.1 ?_
            refine tt_isub d_Y_faultOf_58 ?_
            refine tt_iret rfl d_Y_faultOf_59 ?_
            rw [if_neg (by omega)]
            first | (rw [if_pos (by omega)]; exact ⟨rfl, rfl⟩) | (rw [if_neg (by omega)]; exact ⟨rfl, rfl⟩)
          · omega
        · refine tt_iconst (v := (-1)) d_Y_faultOf_40 (by decide) ?_
          refine tt_iload_n d_Y_faultOf_41 rfl ?_
          refine tt_isub d_Y_faultOf_42 ?_
          refine tt_iret rfl d_Y_faultOf_43 ?_
          rw [if_pos (by omega)]
          exact ⟨rfl, rfl⟩
  · refine tt_aload_n d_Y_faultOf_4 rfl ?_
    refine tn_get d_Y_faultOf_5 rfl rfl (by decide) rfl hR.2.1 ?_
    refine tt_aload_n d_Y_faultOf_8 rfl ?_
    refine tn_get d_Y_faultOf_9 rfl rfl (by decide) rfl hR.1 ?_
    refine tn_ic_ne (t := 19) (by omega) (by omega) d_Y_faultOf_12 (by decide) (fun c_12 => ?_) (fun c_12 => ?_)
    · refine tt_iconst (v := nI 0) d_Y_faultOf_19 (by decide) ?_
      refine tt_istore (lv2 := [_, _, _, _, _]) d_Y_faultOf_20 (by decide) rfl ?_
      refine tt_iload_n d_Y_faultOf_22 rfl ?_
      refine tt_iload_n d_Y_faultOf_23 rfl ?_
      refine tn_ic_le (t := 44) (by omega) (by omega) d_Y_faultOf_24 (by decide) (fun c_24 => ?_) (fun c_24 => ?_)
      · refine tt_iload d_Y_faultOf_44 rfl ?_
        refine tn_if_eq (t := 53) (by omega) d_Y_faultOf_46 (by decide) (fun c_46 => ?_) (fun c_46 => ?_)
        · refine tt_iconst (v := (-1)) d_Y_faultOf_53 (by decide) ?_
          refine tt_aload_n d_Y_faultOf_54 rfl ?_
          refine tn_get d_Y_faultOf_55 rfl rfl (by decide) rfl hR.2.1 ?_
          refine tt_isub d_Y_faultOf_58 ?_
          refine tt_iret rfl d_Y_faultOf_59 ?_
          rw [if_neg (by omega)]
          first | (rw [if_pos (by omega)]; exact ⟨rfl, rfl⟩) | (rw [if_neg (by omega)]; exact ⟨rfl, rfl⟩)
        · omega
      · refine tt_iload d_Y_faultOf_27 rfl ?_
        refine tn_if_ne (t := 40) (by omega) d_Y_faultOf_29 (by decide) (fun c_29 => ?_) (fun c_29 => ?_)
        · omega
        · refine tt_aload_n d_Y_faultOf_32 rfl ?_
          refine tn_get d_Y_faultOf_33 rfl rfl (by decide) rfl hR.2.1 ?_
          refine tt_iload_n d_Y_faultOf_36 rfl ?_
          refine tn_ic_lt (t := 44) (by omega) (by omega) d_Y_faultOf_37 (by decide) (fun c_37 => ?_) (fun c_37 => ?_)
          · refine tt_iload d_Y_faultOf_44 rfl ?_
            refine tn_if_eq (t := 53) (by omega) d_Y_faultOf_46 (by decide) (fun c_46 => ?_) (fun c_46 => ?_)
            · refine tt_iconst (v := (-1)) d_Y_faultOf_53 (by decide) ?_
              refine tt_aload_n d_Y_faultOf_54 rfl ?_
              refine tn_get d_Y_faultOf_55 rfl rfl (by decide) rfl hR.2.1 ?_
              refine tt_isub d_Y_faultOf_58 ?_
              refine tt_iret rfl d_Y_faultOf_59 ?_
              rw [if_neg (by omega)]
              first | (rw [if_pos (by omega)]; exact ⟨rfl, rfl⟩) | (rw [if_neg (by omega)]; exact ⟨rfl, rfl⟩)
            · omega
          · refine tt_iconst (v := (-1)) d_Y_faultOf_40 (by decide) ?_
            refine tt_iload_n d_Y_faultOf_41 rfl ?_
            refine tt_isub d_Y_faultOf_42 ?_
            refine tt_iret rfl d_Y_faultOf_43 ?_
            rw [if_pos (by omega)]
            exact ⟨rfl, rfl⟩
    · refine tt_iconst (v := nI 1) d_Y_faultOf_15 (by decide) ?_
      refine tt_goto (t := 20) d_Y_faultOf_16 (by decide) ?_
      refine tt_istore (lv2 := [_, _, _, _, _]) d_Y_faultOf_20 (by decide) rfl ?_
      refine tt_iload_n d_Y_faultOf_22 rfl ?_
      refine tt_iload_n d_Y_faultOf_23 rfl ?_
      refine tn_ic_le (t := 44) (by omega) (by omega) d_Y_faultOf_24 (by decide) (fun c_24 => ?_) (fun c_24 => ?_)
      · refine tt_iload d_Y_faultOf_44 rfl ?_
        refine tn_if_eq (t := 53) (by omega) d_Y_faultOf_46 (by decide) (fun c_46 => ?_) (fun c_46 => ?_)
        · omega
        · refine tt_iconst (v := nI 0) d_Y_faultOf_49 (by decide) ?_
          refine tt_goto (t := 59) d_Y_faultOf_50 (by decide) ?_
          refine tt_iret rfl d_Y_faultOf_59 ?_
          rw [if_neg (by omega)]
          first | (rw [if_pos (by omega)]; exact ⟨rfl, rfl⟩) | (rw [if_neg (by omega)]; exact ⟨rfl, rfl⟩)
      · refine tt_iload d_Y_faultOf_27 rfl ?_
        refine tn_if_ne (t := 40) (by omega) d_Y_faultOf_29 (by decide) (fun c_29 => ?_) (fun c_29 => ?_)
        · refine tt_iconst (v := (-1)) d_Y_faultOf_40 (by decide) ?_
          refine tt_iload_n d_Y_faultOf_41 rfl ?_
          refine tt_isub d_Y_faultOf_42 ?_
          refine tt_iret rfl d_Y_faultOf_43 ?_
          rw [if_pos (by omega)]
          exact ⟨rfl, rfl⟩
        · omega

/-- the world whose text is read -/
def txC (w : wv) : wv := (wE w, wV w, (0, (wX w).2), wD w, wU w, wK w, wS w)
def okX (t : Nat × (Nat → Nat)) : Prop := t.1 ≤ 80 ∧ ∀ i, i < t.1 → t.2 i < 256
theorem YW.tx {σ : xs} {c : Nat} {w : wv} (h : YW σ c w) : YW (wF σ 154 15 (nI 0)) c (txC w) ∧ YF σ (wF σ 154 15 (nI 0)) := h.putX (Fq.wF ⟨rfl, rfl⟩) ⟨rfl, fun i hi => absurd hi (Nat.not_lt_zero i)⟩
set_option maxHeartbeats 4000000 in
theorem y_begins {l : xLa} {d c m : Nat} {σ τ : xs} {w : wv} (h : YQ c w σ τ) (hd0 : YD τ (wD w)) (hX : okX (wX w)) (hm : m < 1000) : TC l M_Y_begins (d + 1) [.ref 154, .int (nI m)] τ (fun r υ => r = some (.int (nI (wX w).1)) ∧ YQ c (txC w) σ υ ∧ YD υ (wD w) ∧ RT υ (wX w).2 (min (wX w).1 m) 0 ∧ sf υ 154 18 = nI 0) := by
  have hx1 := hX.1
  have ht := h.1.2.2.1
  show T l M_Y_begins (d + 1) 0 _ [] τ _
  refine T_lv (lv2 := [_, _, _]) rfl ?_
  refine tt_aload_n d_Y_begins_0 rfl ?_
  refine tn_get d_Y_begins_1 rfl rfl (by decide) rfl ht.1 ?_
  refine tt_istore_n (lv2 := [_, _, _]) d_Y_begins_4 (by decide) rfl ?_
  refine tt_aload_n d_Y_begins_5 rfl ?_
  refine tt_iconst (v := nI 0) d_Y_begins_6 (by decide) ?_
  refine tt_putI d_Y_begins_7 rfl rfl (by decide) rfl (xpok_int rfl) rfl ?_
  refine tt_aload_n d_Y_begins_10 rfl ?_
  refine tt_iconst (v := nI 0) d_Y_begins_11 (by decide) ?_
  refine tt_putI d_Y_begins_12 rfl rfl (by decide) rfl (xpok_int rfl) rfl ?_
  refine tt_aload_n d_Y_begins_15 rfl ?_
  refine tt_iconst (v := nI 0) d_Y_begins_16 (by decide) ?_
  refine tt_putI d_Y_begins_17 rfl rfl (by decide) rfl (xpok_int rfl) rfl ?_
  refine tt_aload_n d_Y_begins_20 rfl ?_
  refine tt_iload_n d_Y_begins_21 rfl ?_
  refine tt_iload_n d_Y_begins_22 rfl ?_
  refine tn_min (by omega) (by omega) d_Y_begins_23 rfl (Nat.le_of_ble_eq_true rfl) ?_
  refine tt_putI d_Y_begins_26 rfl rfl (by decide) rfl (xpok_int rfl) rfl ?_
  refine tt_iload_n d_Y_begins_29 rfl ?_
  refine tt_iret rfl d_Y_begins_30 ?_
  have k1 := (h.ww hd0).tx
  have k2 := YQ.rf k1.1.v
  have k3 : YQ c (txC w) (wF τ 154 15 (nI 0)) _ := ((k2.fq (Fq.wF (a := 154) (k := 16) (x := nI 0) (by unfold YqF; omega))).fq (Fq.wF (a := 154) (k := 18) (x := nI 0) (by unfold YqF; omega))).fq (Fq.wF (a := 154) (k := 17) (x := nI (min (wX w).1 m)) (by unfold YqF; omega))
  exact ⟨rfl, ⟨k3.1, h.2.tr (k1.2.tr k3.2)⟩, ⟨hd0.1, hd0.2⟩, ⟨rfl, rfl, fun i hi => ⟨ht.2 i (by omega), hX.2 i (by omega)⟩, by omega, by omega⟩, rfl⟩

