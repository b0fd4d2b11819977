/-! FishFerry$State: an object a with isS a, its arrays a+1 tired, a+2 trust, a+3 goal, a+4 crumbs; slots boat 0, store 1, kept 2, broken 3, hour 4, held 5. Printed by wip/whole. -/
def X_copy (σ : xs) (a b : Nat) : xs :=
  let σ := wF σ a 0 (sf σ b 0)
  let σ := wF σ a 1 (sf σ b 1)
  let σ := wF σ a 2 (sf σ b 2)
  let σ := wF σ a 3 (sf σ b 3)
  let σ := wF σ a 4 (sf σ b 4)
  let σ := wF σ a 5 (sf σ b 5)
  let σ := wA σ (a + 1) (cpN (si σ (b + 1)) (si σ (a + 1)) 8)
  let σ := wA σ (a + 2) (cpN (si σ (b + 2)) (si σ (a + 2)) 8)
  let σ := wA σ (a + 3) (cpN (si σ (b + 3)) (si σ (a + 3)) 8)
  wA σ (a + 4) (cpN (si σ (b + 4)) (si σ (a + 4)) 8)
theorem x_State_copy {l : xLa} {d : Nat} {σ : xs} {a b : Nat} (ha : isS a) (hb : isS b) : TE l M_State_copy (d + 1) [.ref a, .ref b] σ (none) (X_copy σ a b) := by
  show T l M_State_copy (d + 1) 0 _ [] σ _
  refine tt_aload_n d_State_copy_0 rfl ?_
  refine tt_aload_n d_State_copy_1 rfl ?_
  refine tt_getI d_State_copy_2 rfl (by first | exact xS_sh ha | exact xS_sh hb) (by decide) (by first | exact xS_i ha _ (by decide) | exact xS_i hb _ (by decide)) ?_
  refine tt_putI d_State_copy_5 rfl (by first | exact xS_sh ha | exact xS_sh hb) (by decide) (by first | exact xS_i ha _ (by decide) | exact xS_i hb _ (by decide)) (xpok_int rfl) rfl ?_
  refine tt_aload_n d_State_copy_8 rfl ?_
  refine tt_aload_n d_State_copy_9 rfl ?_
  refine tt_getI d_State_copy_10 rfl (by first | exact xS_sh ha | exact xS_sh hb) (by decide) (by first | exact xS_i ha _ (by decide) | exact xS_i hb _ (by decide)) ?_
  refine tt_putI d_State_copy_13 rfl (by first | exact xS_sh ha | exact xS_sh hb) (by decide) (by first | exact xS_i ha _ (by decide) | exact xS_i hb _ (by decide)) (xpok_int rfl) rfl ?_
  refine tt_aload_n d_State_copy_16 rfl ?_
  refine tt_aload_n d_State_copy_17 rfl ?_
  refine tt_getI d_State_copy_18 rfl (by first | exact xS_sh ha | exact xS_sh hb) (by decide) (by first | exact xS_i ha _ (by decide) | exact xS_i hb _ (by decide)) ?_
  refine tt_putI d_State_copy_21 rfl (by first | exact xS_sh ha | exact xS_sh hb) (by decide) (by first | exact xS_i ha _ (by decide) | exact xS_i hb _ (by decide)) (xpok_int rfl) rfl ?_
  refine tt_aload_n d_State_copy_24 rfl ?_
  refine tt_aload_n d_State_copy_25 rfl ?_
  refine tt_getI d_State_copy_26 rfl (by first | exact xS_sh ha | exact xS_sh hb) (by decide) (by first | exact xS_i ha _ (by decide) | exact xS_i hb _ (by decide)) ?_
  refine tt_putI d_State_copy_29 rfl (by first | exact xS_sh ha | exact xS_sh hb) (by decide) (by first | exact xS_i ha _ (by decide) | exact xS_i hb _ (by decide)) (xpok_int rfl) rfl ?_
  refine tt_aload_n d_State_copy_32 rfl ?_
  refine tt_aload_n d_State_copy_33 rfl ?_
  refine tt_getI d_State_copy_34 rfl (by first | exact xS_sh ha | exact xS_sh hb) (by decide) (by first | exact xS_i ha _ (by decide) | exact xS_i hb _ (by decide)) ?_
  refine tt_putI d_State_copy_37 rfl (by first | exact xS_sh ha | exact xS_sh hb) (by decide) (by first | exact xS_i ha _ (by decide) | exact xS_i hb _ (by decide)) (xpok_int rfl) rfl ?_
  refine tt_aload_n d_State_copy_40 rfl ?_
  refine tt_aload_n d_State_copy_41 rfl ?_
  refine tt_getI d_State_copy_42 rfl (by first | exact xS_sh ha | exact xS_sh hb) (by decide) (by first | exact xS_i ha _ (by decide) | exact xS_i hb _ (by decide)) ?_
  refine tt_putI d_State_copy_45 rfl (by first | exact xS_sh ha | exact xS_sh hb) (by decide) (by first | exact xS_i ha _ (by decide) | exact xS_i hb _ (by decide)) (xpok_int rfl) rfl ?_
  refine tt_aload_n d_State_copy_48 rfl ?_
  refine tt_getR d_State_copy_49 rfl (by first | exact xS_sh ha | exact xS_sh hb) (by decide) (by first | exact (xS_r ha).1 | exact (xS_r hb).1) (by first | exact xS_0 ha _ (by decide) | exact xS_0 hb _ (by decide)) ?_
  refine tt_iconst (v := nI 0) d_State_copy_52 (by decide) ?_
  refine tt_aload_n d_State_copy_53 rfl ?_
  refine tt_getR d_State_copy_54 rfl (by first | exact xS_sh ha | exact xS_sh hb) (by decide) (by first | exact (xS_r ha).1 | exact (xS_r hb).1) (by first | exact xS_0 ha _ (by decide) | exact xS_0 hb _ (by decide)) ?_
  refine tt_iconst (v := nI 0) d_State_copy_57 (by decide) ?_
  refine tt_bipush (v := nI 8) d_State_copy_58 (by decide) ?_
  refine tn_copyI d_State_copy_60 rfl (by first | exact (xS_a ha).1 | exact (xS_a ha).2.1 | exact (xS_a ha).2.2.1 | exact (xS_a ha).2.2.2 | exact (xS_a hb).1 | exact (xS_a hb).2.1 | exact (xS_a hb).2.2.1 | exact (xS_a hb).2.2.2) (by first | exact (xS_a ha).1 | exact (xS_a ha).2.1 | exact (xS_a ha).2.2.1 | exact (xS_a ha).2.2.2 | exact (xS_a hb).1 | exact (xS_a hb).2.1 | exact (xS_a hb).2.2.1 | exact (xS_a hb).2.2.2) (by decide) (by omega) (by omega) (Nat.le_of_ble_eq_true rfl) ?_
  refine tt_aload_n d_State_copy_63 rfl ?_
  refine tt_getR d_State_copy_64 rfl (by first | exact xS_sh ha | exact xS_sh hb) (by decide) (by first | exact (xS_r ha).2.1 | exact (xS_r hb).2.1) (by first | exact xS_0 ha _ (by decide) | exact xS_0 hb _ (by decide)) ?_
  refine tt_iconst (v := nI 0) d_State_copy_67 (by decide) ?_
  refine tt_aload_n d_State_copy_68 rfl ?_
  refine tt_getR d_State_copy_69 rfl (by first | exact xS_sh ha | exact xS_sh hb) (by decide) (by first | exact (xS_r ha).2.1 | exact (xS_r hb).2.1) (by first | exact xS_0 ha _ (by decide) | exact xS_0 hb _ (by decide)) ?_
  refine tt_iconst (v := nI 0) d_State_copy_72 (by decide) ?_
  refine tt_bipush (v := nI 8) d_State_copy_73 (by decide) ?_
  refine tn_copyI d_State_copy_75 rfl (by first | exact (xS_a ha).1 | exact (xS_a ha).2.1 | exact (xS_a ha).2.2.1 | exact (xS_a ha).2.2.2 | exact (xS_a hb).1 | exact (xS_a hb).2.1 | exact (xS_a hb).2.2.1 | exact (xS_a hb).2.2.2) (by first | exact (xS_a ha).1 | exact (xS_a ha).2.1 | exact (xS_a ha).2.2.1 | exact (xS_a ha).2.2.2 | exact (xS_a hb).1 | exact (xS_a hb).2.1 | exact (xS_a hb).2.2.1 | exact (xS_a hb).2.2.2) (by decide) (by omega) (by omega) (Nat.le_of_ble_eq_true rfl) ?_
  refine tt_aload_n d_State_copy_78 rfl ?_
  refine tt_getR d_State_copy_79 rfl (by first | exact xS_sh ha | exact xS_sh hb) (by decide) (by first | exact (xS_r ha).2.2.1 | exact (xS_r hb).2.2.1) (by first | exact xS_0 ha _ (by decide) | exact xS_0 hb _ (by decide)) ?_
  refine tt_iconst (v := nI 0) d_State_copy_82 (by decide) ?_
  refine tt_aload_n d_State_copy_83 rfl ?_
  refine tt_getR d_State_copy_84 rfl (by first | exact xS_sh ha | exact xS_sh hb) (by decide) (by first | exact (xS_r ha).2.2.1 | exact (xS_r hb).2.2.1) (by first | exact xS_0 ha _ (by decide) | exact xS_0 hb _ (by decide)) ?_
  refine tt_iconst (v := nI 0) d_State_copy_87 (by decide) ?_
  refine tt_bipush (v := nI 8) d_State_copy_88 (by decide) ?_
  refine tn_copyI d_State_copy_90 rfl (by first | exact (xS_a ha).1 | exact (xS_a ha).2.1 | exact (xS_a ha).2.2.1 | exact (xS_a ha).2.2.2 | exact (xS_a hb).1 | exact (xS_a hb).2.1 | exact (xS_a hb).2.2.1 | exact (xS_a hb).2.2.2) (by first | exact (xS_a ha).1 | exact (xS_a ha).2.1 | exact (xS_a ha).2.2.1 | exact (xS_a ha).2.2.2 | exact (xS_a hb).1 | exact (xS_a hb).2.1 | exact (xS_a hb).2.2.1 | exact (xS_a hb).2.2.2) (by decide) (by omega) (by omega) (Nat.le_of_ble_eq_true rfl) ?_
  refine tt_aload_n d_State_copy_93 rfl ?_
  refine tt_getR d_State_copy_94 rfl (by first | exact xS_sh ha | exact xS_sh hb) (by decide) (by first | exact (xS_r ha).2.2.2 | exact (xS_r hb).2.2.2) (by first | exact xS_0 ha _ (by decide) | exact xS_0 hb _ (by decide)) ?_
  refine tt_iconst (v := nI 0) d_State_copy_97 (by decide) ?_
  refine tt_aload_n d_State_copy_98 rfl ?_
  refine tt_getR d_State_copy_99 rfl (by first | exact xS_sh ha | exact xS_sh hb) (by decide) (by first | exact (xS_r ha).2.2.2 | exact (xS_r hb).2.2.2) (by first | exact xS_0 ha _ (by decide) | exact xS_0 hb _ (by decide)) ?_
  refine tt_iconst (v := nI 0) d_State_copy_102 (by decide) ?_
  refine tt_bipush (v := nI 8) d_State_copy_103 (by decide) ?_
  refine tn_copyI d_State_copy_105 rfl (by first | exact (xS_a ha).1 | exact (xS_a ha).2.1 | exact (xS_a ha).2.2.1 | exact (xS_a ha).2.2.2 | exact (xS_a hb).1 | exact (xS_a hb).2.1 | exact (xS_a hb).2.2.1 | exact (xS_a hb).2.2.2) (by first | exact (xS_a ha).1 | exact (xS_a ha).2.1 | exact (xS_a ha).2.2.1 | exact (xS_a ha).2.2.2 | exact (xS_a hb).1 | exact (xS_a hb).2.1 | exact (xS_a hb).2.2.1 | exact (xS_a hb).2.2.2) (by decide) (by omega) (by omega) (Nat.le_of_ble_eq_true rfl) ?_
  refine tt_vret rfl d_State_copy_108 ?_
  exact ⟨rfl, rfl⟩

def X_welc (σ : xs) (a j : Nat) : xs :=
  let σ := wI σ (a + 1) j (nI 0)
  let σ := wI σ (a + 2) j (nI 5)
  let σ := wI σ (a + 3) j (-1)
  let σ := wI σ (a + 4) j (nI 0)
  wF σ a 5 (sf σ a 5 ||| (nI 1 <<< (nI j &&& 31)))
theorem x_State_welcome {l : xLa} {d : Nat} {σ : xs} {a j : Nat} (ha : isS a) (hj : j < 8) : TE l M_State_welcome (d + 1) [.ref a, .int (nI j)] σ (none) (X_welc σ a j) := by
  show T l M_State_welcome (d + 1) 0 _ [] σ _
  refine tt_iload_n d_State_welcome_0 rfl ?_
  refine tn_if_lt (t := 50) (by omega) d_State_welcome_1 (by decide) ?_
  refine tt_iload_n d_State_welcome_4 rfl ?_
  refine tt_bipush (v := nI 8) d_State_welcome_5 (by decide) ?_
  refine tn_ic_ge (t := 50) (by omega) (by omega) d_State_welcome_7 (by decide) (fun c_7 => ?_) (fun c_7 => ?_)
  · omega
  · refine tt_aload_n d_State_welcome_10 rfl ?_
    refine tt_getR d_State_welcome_11 rfl (by first | exact xS_sh ha) (by decide) (by first | exact (xS_r ha).1) (by first | exact xS_0 ha _ (by decide)) ?_
    refine tt_iload_n d_State_welcome_14 rfl ?_
    refine tt_iconst (v := nI 0) d_State_welcome_15 (by decide) ?_
    refine tn_iast d_State_welcome_16 (by first | exact (xS_a ha).1 | exact (xS_a ha).2.1 | exact (xS_a ha).2.2.1 | exact (xS_a ha).2.2.2) (by decide) (by omega) ?_
    refine tt_aload_n d_State_welcome_17 rfl ?_
    refine tt_getR d_State_welcome_18 rfl (by first | exact xS_sh ha) (by decide) (by first | exact (xS_r ha).2.1) (by first | exact xS_0 ha _ (by decide)) ?_
    refine tt_iload_n d_State_welcome_21 rfl ?_
    refine tt_iconst (v := nI 5) d_State_welcome_22 (by decide) ?_
    refine tn_iast d_State_welcome_23 (by first | exact (xS_a ha).1 | exact (xS_a ha).2.1 | exact (xS_a ha).2.2.1 | exact (xS_a ha).2.2.2) (by decide) (by omega) ?_
    refine tt_aload_n d_State_welcome_24 rfl ?_
    refine tt_getR d_State_welcome_25 rfl (by first | exact xS_sh ha) (by decide) (by first | exact (xS_r ha).2.2.1) (by first | exact xS_0 ha _ (by decide)) ?_
    refine tt_iload_n d_State_welcome_28 rfl ?_
    refine tt_iconst (v := (-1)) d_State_welcome_29 (by decide) ?_
    refine tn_iast d_State_welcome_30 (by first | exact (xS_a ha).1 | exact (xS_a ha).2.1 | exact (xS_a ha).2.2.1 | exact (xS_a ha).2.2.2) (by decide) (by omega) ?_
    refine tt_aload_n d_State_welcome_31 rfl ?_
    refine tt_getR d_State_welcome_32 rfl (by first | exact xS_sh ha) (by decide) (by first | exact (xS_r ha).2.2.2) (by first | exact xS_0 ha _ (by decide)) ?_
    refine tt_iload_n d_State_welcome_35 rfl ?_
    refine tt_iconst (v := nI 0) d_State_welcome_36 (by decide) ?_
    refine tn_iast d_State_welcome_37 (by first | exact (xS_a ha).1 | exact (xS_a ha).2.1 | exact (xS_a ha).2.2.1 | exact (xS_a ha).2.2.2) (by decide) (by omega) ?_
    refine tt_aload_n d_State_welcome_38 rfl ?_
    refine tt_dup d_State_welcome_39 rfl ?_
    refine tt_getI d_State_welcome_40 rfl (by first | exact xS_sh ha) (by decide) (by first | exact xS_i ha _ (by decide)) ?_
    refine tt_iconst (v := nI 1) d_State_welcome_43 (by decide) ?_
    refine tt_iload_n d_State_welcome_44 rfl ?_
    refine tt_ishl d_State_welcome_45 ?_
    refine tt_ior d_State_welcome_46 ?_
    refine tt_putI d_State_welcome_47 rfl (by first | exact xS_sh ha) (by decide) (by first | exact xS_i ha _ (by decide)) (xpok_int rfl) rfl ?_
    refine tt_vret rfl d_State_welcome_50 ?_
    exact ⟨rfl, rfl⟩

/-- bit i of z, as the class asks for it -/
def xbit (z i : Int32) : Int32 := (z.toUInt32 >>> (i.toUInt32 &&& Int32.toUInt32 31)).toInt32 &&& nI 1
def X_hold (σ : xs) (a : Nat) (j : Int32) : Int32 := if xbit (sf σ a 5) j = nI 1 then nI 1 else nI 0
theorem x_State_holds {l : xLa} {d : Nat} {σ : xs} {a : Nat} {j : Int32} (ha : isS a) : TE l M_State_holds (d + 1) [.ref a, .int j] σ (some (.int (X_hold σ a j))) (σ) := by
  show T l M_State_holds (d + 1) 0 _ [] σ _
  refine tt_aload_n d_State_holds_0 rfl ?_
  refine tt_getI d_State_holds_1 rfl (by first | exact xS_sh ha) (by decide) (by first | exact xS_i ha _ (by decide)) ?_
  refine tt_iload_n d_State_holds_4 rfl ?_
  refine tt_iushr d_State_holds_5 ?_
  refine tt_iconst (v := nI 1) d_State_holds_6 (by decide) ?_
  refine tt_iand d_State_holds_7 ?_
  refine tt_iconst (v := nI 1) d_State_holds_8 (by decide) ?_
  refine tt_ic_ne (t := 16) d_State_holds_9 (by decide) (fun c_9 => ?_) (fun c_9 => ?_)
  · refine tt_iconst (v := nI 0) d_State_holds_16 (by decide) ?_
    refine tt_zret rfl rfl d_State_holds_17 ?_
    exact ⟨congrArg (fun w => some (Value.int w)) (by first | exact (if_neg c_9).symm | exact (if_pos (Classical.not_not.mp c_9)).symm), rfl⟩
  · refine tt_iconst (v := nI 1) d_State_holds_12 (by decide) ?_
    refine tt_goto (t := 17) d_State_holds_13 (by decide) ?_
    refine tt_zret rfl rfl d_State_holds_17 ?_
    exact ⟨congrArg (fun w => some (Value.int w)) (by first | exact (if_neg c_9).symm | exact (if_pos (Classical.not_not.mp c_9)).symm), rfl⟩

/-- FISH below i that have a promise -/
def X_prom (σ : xs) (a : Nat) : Nat → Int32
  | 0 => nI 0
  | i + 1 => X_prom σ a i ||| (if si σ (a + 3) i = -1 then nI 0 else (nI 1 <<< (nI i &&& 31)))
theorem x_State_promised_l {l : xLa} {d : Nat} {σ : xs} {a n : Nat} (ha : isS a) (hn : n ≤ 8) : ∀ (m : Nat) (i : Nat), n - i = m → i ≤ n → T l M_State_promised (d + 1) 4 [some (.ref a), some (.int (nI n)), some (.int (X_prom σ a i)), some (.int (nI i))] [] σ (fun r σ' => r = some (.int (X_prom σ a n)) ∧ σ' = σ) := by
  intro m
  induction m using Nat.strongRecOn with
  | ind m ih =>
    intro i hm hi
    refine tt_iload_n d_State_promised_4 rfl ?_
    refine tt_iload_n d_State_promised_5 rfl ?_
    refine tn_ic_ge (t := 41) (by omega) (by omega) d_State_promised_6 (by decide) (fun c_6 => ?_) (fun c_6 => ?_)
    · obtain rfl : i = n := by omega
      refine tt_iload_n d_State_promised_41 rfl ?_
      refine tt_iret rfl d_State_promised_42 ?_
      exact ⟨rfl, rfl⟩
    · refine tt_iload_n d_State_promised_9 rfl ?_
      refine tt_bipush (v := nI 8) d_State_promised_10 (by decide) ?_
      refine tn_ic_ge (t := 41) (by omega) (by omega) d_State_promised_12 (by decide) (fun c_12 => ?_) (fun c_12 => ?_)
      · omega
      · refine tt_iload_n d_State_promised_15 rfl ?_
        refine tt_aload_n d_State_promised_16 rfl ?_
        refine tt_getR d_State_promised_17 rfl (by first | exact xS_sh ha) (by decide) (by first | exact (xS_r ha).2.2.1) (by first | exact xS_0 ha _ (by decide)) ?_
        refine tt_iload_n d_State_promised_20 rfl ?_
        refine tn_iald d_State_promised_21 (by first | exact (xS_a ha).1 | exact (xS_a ha).2.1 | exact (xS_a ha).2.2.1 | exact (xS_a ha).2.2.2) (by decide) (by omega) rfl ?_
        refine tt_iconst (v := (-1)) d_State_promised_22 (by decide) ?_
        refine tt_ic_eq (t := 32) d_State_promised_23 (by decide) (fun c_23 => ?_) (fun c_23 => ?_)
        · refine tt_iconst (v := nI 0) d_State_promised_32 (by decide) ?_
          refine tt_ior d_State_promised_33 ?_
          refine tt_istore_n d_State_promised_34 (by decide) rfl ?_
          refine tt_iinc d_State_promised_35 rfl (nI_inc _ 1) (by decide) rfl ?_
          refine tt_goto (t := 4) d_State_promised_38 (by decide) ?_
          have q := ih (n - (i + 1)) (by omega) (i + 1) rfl (by omega)
          rw [show X_prom σ a (i + 1) = X_prom σ a i ||| (if si σ (a + 3) i = -1 then nI 0 else (nI 1 <<< (nI i &&& 31))) from rfl] at q
          first
            | (rw [if_neg c_23] at q; exact q)
            | (rw [if_pos c_23] at q; exact q)
        · refine tt_iconst (v := nI 1) d_State_promised_26 (by decide) ?_
          refine tt_iload_n d_State_promised_27 rfl ?_
          refine tt_ishl d_State_promised_28 ?_
          refine tt_goto (t := 33) d_State_promised_29 (by decide) ?_
          refine tt_ior d_State_promised_33 ?_
          refine tt_istore_n d_State_promised_34 (by decide) rfl ?_
          refine tt_iinc d_State_promised_35 rfl (nI_inc _ 1) (by decide) rfl ?_
          refine tt_goto (t := 4) d_State_promised_38 (by decide) ?_
          have q := ih (n - (i + 1)) (by omega) (i + 1) rfl (by omega)
          rw [show X_prom σ a (i + 1) = X_prom σ a i ||| (if si σ (a + 3) i = -1 then nI 0 else (nI 1 <<< (nI i &&& 31))) from rfl] at q
          first
            | (rw [if_neg c_23] at q; exact q)
            | (rw [if_pos c_23] at q; exact q)

theorem x_State_promised {l : xLa} {d : Nat} {σ : xs} {a n : Nat} (ha : isS a) (hn : n ≤ 8) : TE l M_State_promised (d + 1) [.ref a, .int (nI n)] σ (some (.int (X_prom σ a n))) (σ) := by
  show T l M_State_promised (d + 1) 0 _ [] σ _
  refine tt_iconst (v := nI 0) d_State_promised_0 (by decide) ?_
  refine tt_istore_n d_State_promised_1 (by decide) rfl ?_
  refine tt_iconst (v := nI 0) d_State_promised_2 (by decide) ?_
  refine tt_istore_n d_State_promised_3 (by decide) rfl ?_
  exact x_State_promised_l ha hn n 0 (by omega) (by omega)

/-- crumbs of those of a set below i -/
def X_crum (σ : xs) (a : Nat) (z : Int32) : Nat → Int32
  | 0 => nI 0
  | i + 1 => X_crum σ a z i + (if xbit z (nI i) = nI 1 then si σ (a + 4) i else nI 0)
theorem x_State_crumbsOf_l {l : xLa} {d : Nat} {σ : xs} {a n : Nat} {z : Int32} (ha : isS a) (hn : n ≤ 8) : ∀ (m : Nat) (i : Nat), n - i = m → i ≤ n → T l M_State_crumbsOf (d + 1) 5 [some (.ref a), some (.int z), some (.int (nI n)), some (.int (X_crum σ a z i)), some (.int (nI i))] [] σ (fun r σ' => r = some (.int (X_crum σ a z n)) ∧ σ' = σ) := by
  intro m
  induction m using Nat.strongRecOn with
  | ind m ih =>
    intro i hm hi
    refine tt_iload d_State_crumbsOf_5 rfl ?_
    refine tt_iload_n d_State_crumbsOf_7 rfl ?_
    refine tn_ic_ge (t := 48) (by omega) (by omega) d_State_crumbsOf_8 (by decide) (fun c_8 => ?_) (fun c_8 => ?_)
    · obtain rfl : i = n := by omega
      refine tt_iload_n d_State_crumbsOf_48 rfl ?_
      refine tt_iret rfl d_State_crumbsOf_49 ?_
      exact ⟨rfl, rfl⟩
    · refine tt_iload d_State_crumbsOf_11 rfl ?_
      refine tt_bipush (v := nI 8) d_State_crumbsOf_13 (by decide) ?_
      refine tn_ic_ge (t := 48) (by omega) (by omega) d_State_crumbsOf_15 (by decide) (fun c_15 => ?_) (fun c_15 => ?_)
      · omega
      · refine tt_iload_n d_State_crumbsOf_18 rfl ?_
        refine tt_iload_n d_State_crumbsOf_19 rfl ?_
        refine tt_iload d_State_crumbsOf_20 rfl ?_
        refine tt_iushr d_State_crumbsOf_22 ?_
        refine tt_iconst (v := nI 1) d_State_crumbsOf_23 (by decide) ?_
        refine tt_iand d_State_crumbsOf_24 ?_
        refine tt_iconst (v := nI 1) d_State_crumbsOf_25 (by decide) ?_
        refine tt_ic_ne (t := 39) d_State_crumbsOf_26 (by decide) (fun c_26 => ?_) (fun c_26 => ?_)
        · refine tt_iconst (v := nI 0) d_State_crumbsOf_39 (by decide) ?_
          refine tt_iadd d_State_crumbsOf_40 ?_
          refine tt_istore_n d_State_crumbsOf_41 (by decide) rfl ?_
          refine tt_iinc d_State_crumbsOf_42 rfl (nI_inc _ 1) (by decide) rfl ?_
          refine tt_goto (t := 5) d_State_crumbsOf_45 (by decide) ?_
          have q := ih (n - (i + 1)) (by omega) (i + 1) rfl (by omega)
          first
            | (have e : X_crum σ a z (i + 1) = X_crum σ a z i + nI 0 := congrArg (fun w => X_crum σ a z i + w) (if_neg c_26)
               rw [e] at q; exact q)
            | (have e : X_crum σ a z (i + 1) = X_crum σ a z i + si σ (a + 4) i := congrArg (fun w => X_crum σ a z i + w) (if_pos (Classical.not_not.mp c_26))
               rw [e] at q; exact q)
        · refine tt_aload_n d_State_crumbsOf_29 rfl ?_
          refine tt_getR d_State_crumbsOf_30 rfl (by first | exact xS_sh ha) (by decide) (by first | exact (xS_r ha).2.2.2) (by first | exact xS_0 ha _ (by decide)) ?_
          refine tt_iload d_State_crumbsOf_33 rfl ?_
          refine tn_iald d_State_crumbsOf_35 (by first | exact (xS_a ha).1 | exact (xS_a ha).2.1 | exact (xS_a ha).2.2.1 | exact (xS_a ha).2.2.2) (by decide) (by omega) rfl ?_
          refine tt_goto (t := 40) d_State_crumbsOf_36 (by decide) ?_
          refine tt_iadd d_State_crumbsOf_40 ?_
          refine tt_istore_n d_State_crumbsOf_41 (by decide) rfl ?_
          refine tt_iinc d_State_crumbsOf_42 rfl (nI_inc _ 1) (by decide) rfl ?_
          refine tt_goto (t := 5) d_State_crumbsOf_45 (by decide) ?_
          have q := ih (n - (i + 1)) (by omega) (i + 1) rfl (by omega)
          first
            | (have e : X_crum σ a z (i + 1) = X_crum σ a z i + nI 0 := congrArg (fun w => X_crum σ a z i + w) (if_neg c_26)
               rw [e] at q; exact q)
            | (have e : X_crum σ a z (i + 1) = X_crum σ a z i + si σ (a + 4) i := congrArg (fun w => X_crum σ a z i + w) (if_pos (Classical.not_not.mp c_26))
               rw [e] at q; exact q)

theorem x_State_crumbsOf {l : xLa} {d : Nat} {σ : xs} {a n : Nat} {z : Int32} (ha : isS a) (hn : n ≤ 8) : TE l M_State_crumbsOf (d + 1) [.ref a, .int z, .int (nI n)] σ (some (.int (X_crum σ a z n))) (σ) := by
  show T l M_State_crumbsOf (d + 1) 0 _ [] σ _
  refine tt_iconst (v := nI 0) d_State_crumbsOf_0 (by decide) ?_
  refine tt_istore_n d_State_crumbsOf_1 (by decide) rfl ?_
  refine tt_iconst (v := nI 0) d_State_crumbsOf_2 (by decide) ?_
  refine tt_istore d_State_crumbsOf_3 (by decide) rfl ?_
  exact x_State_crumbsOf_l ha hn n 0 (by omega) (by omega)

