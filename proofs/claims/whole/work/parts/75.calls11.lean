/-! Longs as naturals; a game of crumbs. Printed by wip/whole. -/
/-! out of kit/laws/BITS.to-paste.lean.txt: lN n to 2^64 -/
theorem wb_tb (n : Nat) : (lN n).toBitVec = BitVec.ofNat 64 n := rfl
theorem wb_inj {a b : Int64} (h : a.toBitVec = b.toBitVec) : a = b := Int64.toBitVec_inj.mp h
theorem wb_tn {n : Nat} (h : n < 2 ^ 64) : (lN n).toBitVec.toNat = n := by rw [wb_tb, BitVec.toNat_ofNat, Nat.mod_eq_of_lt h]
theorem wb_of (x : Int64) : ∃ n, n < 2 ^ 64 ∧ x = lN n := ⟨x.toBitVec.toNat, x.toBitVec.isLt, wb_inj (by rw [wb_tb]; simp)⟩
theorem wb_of32 (x : Int32) : ∃ n, n < 2 ^ 32 ∧ x = nI n := ⟨x.toBitVec.toNat, x.toBitVec.isLt, Int32.toBitVec_inj.mp (by show _ = BitVec.ofNat 32 _; simp)⟩
theorem wb_c : ∀ k, k < 64 → ((nI k).toInt64 &&& 63) = lN k := by decide +kernel
theorem wb_cu : ∀ k, k < 64 → ((nI k).toInt64.toUInt64 &&& Int64.toUInt64 63) = UInt64.ofNat k := by decide +kernel
theorem wb_sm : ∀ k, k < 64 → (BitVec.ofNat 64 k).smod 64 = BitVec.ofNat 64 k := by decide +kernel
theorem wb_pw {a b : Nat} (h : a ≤ b) : 2 ^ b = 2 ^ a * 2 ^ (b - a) := by rw [← Nat.pow_add]; congr 1; omega
theorem wb_lt2 {a b : Nat} (h : a < b) : 2 ^ a < 2 ^ b := Nat.pow_lt_pow_right (by decide) h
theorem wb_mod (n : Nat) : lN n = lN (n % 2 ^ 64) := wb_inj (by rw [wb_tb, wb_tb]; apply BitVec.eq_of_toNat_eq; rw [BitVec.toNat_ofNat, BitVec.toNat_ofNat, Nat.mod_mod])
theorem wb_shr {n k : Nat} (hn : n < 2 ^ 64) (hk : k < 64) : ((lN n).toUInt64 >>> ((nI k).toInt64.toUInt64 &&& Int64.toUInt64 63)).toInt64 = lN (n / 2 ^ k) := by
  rw [wb_cu k hk]
  apply wb_inj
  apply BitVec.eq_of_toNat_eq
  show ((lN n).toUInt64 >>> UInt64.ofNat k).toNat = (BitVec.ofNat 64 _).toNat
  have h1 : (UInt64.ofNat k).toNat = k := by
    show (BitVec.ofNat 64 k).toNat = k
    rw [BitVec.toNat_ofNat, Nat.mod_eq_of_lt (by omega)]
  have h2 : (lN n).toUInt64.toNat = n := wb_tn hn
  rw [UInt64.toNat_shiftRight, h1, h2, Nat.mod_eq_of_lt hk, Nat.shiftRight_eq_div_pow, BitVec.toNat_ofNat, Nat.mod_eq_of_lt (Nat.lt_of_le_of_lt (Nat.div_le_self _ _) hn)]
theorem wb_shl (n : Nat) {k : Nat} (hk : k < 64) : lN n <<< ((nI k).toInt64 &&& 63) = lN (n * 2 ^ k) := by
  rw [wb_c k hk]
  apply wb_inj
  rw [Int64.toBitVec_shiftLeft, wb_tb, wb_tb, wb_tb, wb_sm k hk]
  apply BitVec.eq_of_toNat_eq
  rw [BitVec.shiftLeft_eq', BitVec.toNat_shiftLeft, BitVec.toNat_ofNat, BitVec.toNat_ofNat, BitVec.toNat_ofNat, Nat.mod_eq_of_lt (show k < 2 ^ 64 by omega), Nat.shiftLeft_eq, Nat.mul_mod, Nat.mod_mod, ← Nat.mul_mod]
theorem wb_and {a b : Nat} (ha : a < 2 ^ 64) (hb : b < 2 ^ 64) : lN a &&& lN b = lN (a &&& b) := by
  apply wb_inj
  rw [Int64.toBitVec_and, wb_tb, wb_tb, wb_tb]
  apply BitVec.eq_of_toNat_eq
  rw [BitVec.toNat_and, BitVec.toNat_ofNat, BitVec.toNat_ofNat, BitVec.toNat_ofNat, Nat.mod_eq_of_lt ha, Nat.mod_eq_of_lt hb, Nat.mod_eq_of_lt (Nat.and_lt_two_pow _ hb)]
theorem wb_or {a b : Nat} (ha : a < 2 ^ 64) (hb : b < 2 ^ 64) : lN a ||| lN b = lN (a ||| b) := by
  apply wb_inj
  rw [Int64.toBitVec_or, wb_tb, wb_tb, wb_tb]
  apply BitVec.eq_of_toNat_eq
  rw [BitVec.toNat_or, BitVec.toNat_ofNat, BitVec.toNat_ofNat, BitVec.toNat_ofNat, Nat.mod_eq_of_lt ha, Nat.mod_eq_of_lt hb, Nat.mod_eq_of_lt (Nat.or_lt_two_pow ha hb)]
theorem wb_mask {n k : Nat} (hn : n < 2 ^ 64) (hk : k < 64) : lN n &&& lN (2 ^ k - 1) = lN (n % 2 ^ k) := by
  rw [wb_and hn (by have := wb_lt2 hk; omega), Nat.and_two_pow_sub_one_eq_mod]
theorem wb_a1 {n : Nat} (hn : n < 2 ^ 64) : lN n &&& 1 = lN (n % 2) := wb_mask (k := 1) hn (by decide)
theorem wb_bit {n k : Nat} (hn : n < 2 ^ 64) (hk : k < 64) : ((lN n).toUInt64 >>> ((nI k).toInt64.toUInt64 &&& Int64.toUInt64 63)).toInt64 &&& 1 = lN (n / 2 ^ k % 2) := by
  rw [wb_shr hn hk, wb_a1 (Nat.lt_of_le_of_lt (Nat.div_le_self _ _) hn)]
theorem tt_topL {l : xLa} {M : mT} {d pc : Nat} {lv : List (Option Value)} {r : List Value} {σ : xs} {Q : Option Value → xs → Prop} {x y : Int64} (h : x = y) (k : T l M d pc lv (.long y :: r) σ Q) : T l M d pc lv (.long x :: r) σ Q := by rw [h]; exact k
theorem lt_64 {a n : Nat} (h : a < 2 ^ n) (hn : n ≤ 62) : a < 2 ^ 64 := Nat.lt_of_lt_of_le h (Nat.pow_le_pow_right (by decide) (by omega))
/-- of m crumbs e are eaten, and who is next loses -/
def lvB (a m e : Nat) : Bool := decide (e ≤ m) && !a.testBit (m - e)
theorem tb_dm (a k : Nat) : a.testBit k = decide (a / 2 ^ k % 2 = 1) := Nat.testBit_eq_decide_div_mod_eq
theorem lN_0c {x : Nat} (h : x < 2) : (lg_cmp (lN x) 0 = 0 ↔ x = 0) := by
  rw [lg_eq]
  have : (0 : Int64) = lN 0 := rfl
  rw [this, lN_eq (by omega) (by omega)]
theorem bt0 {b : Bool} (h : bN b = 0) : b = false := (bN_c b).2.1.mp h
theorem bt1 {b : Bool} (h : ¬ bN b = 0) : b = true := by cases b with
  | true => rfl
  | false => exact absurd rfl h
theorem x_leaves {l : xLa} {d : Nat} {σ : xs} {a m e : Nat} (ha : a < 2 ^ 64) (hm : m ≤ 60) (he : e ≤ 60) : TE l M_X_leaves (d + 1) [.long (lN a), .int (nI m), .int (nI e)] σ (some (.int (nI (bN (lvB a m e))))) (σ) := by
  show T l M_X_leaves (d + 1) 0 _ [] σ _
  have hx : a / 2 ^ (m - e) % 2 < 2 := Nat.mod_lt _ (by decide)
  have hc := lN_0c hx
  refine tt_iload_n d_X_leaves_0 rfl ?_
  refine tt_iload_n d_X_leaves_1 rfl ?_
  refine tn_ic_gt (t := 21) (by omega) (by omega) d_X_leaves_2 (by decide) (fun c_2 => ?_) (fun c_2 => ?_)
  · have e1 : lvB a m e = false := by unfold lvB; rw [decide_eq_false (by omega)]; rfl
    rw [e1]
    refine tt_iconst (v := nI 0) d_X_leaves_21 (by decide) ?_
    refine tt_zret rfl rfl d_X_leaves_22 ?_
    exact ⟨rfl, rfl⟩
  · have e2 : decide (e ≤ m) = true := decide_eq_true (by omega)
    refine tt_lload_n d_X_leaves_5 rfl ?_
    refine tt_iload_n d_X_leaves_6 rfl ?_
    refine tt_iload_n d_X_leaves_7 rfl ?_
    refine tn_isub (by omega) d_X_leaves_8 ?_
    refine tt_lushr d_X_leaves_9 ?_
    refine tt_lconst (v := 1) d_X_leaves_10 (by decide) ?_
    refine tt_land d_X_leaves_11 ?_
    refine tt_topL (wb_bit ha (by omega)) ?_
    refine tt_lconst (v := 0) d_X_leaves_12 (by decide) ?_
    refine tt_lcmp d_X_leaves_13 ?_
    refine tt_if_ne (t := 21) d_X_leaves_14 (by decide) (fun c_14 => ?_) (fun c_14 => ?_)
    · have e1 : lvB a m e = false := by
        unfold lvB
        rw [e2, tb_dm, decide_eq_true (show a / 2 ^ (m - e) % 2 = 1 from by have : ¬ a / 2 ^ (m - e) % 2 = 0 := fun q => c_14 (hc.mpr q); omega)]; rfl
      rw [e1]
      refine tt_iconst (v := nI 0) d_X_leaves_21 (by decide) ?_
      refine tt_zret rfl rfl d_X_leaves_22 ?_
      exact ⟨rfl, rfl⟩
    · have e1 : lvB a m e = true := by
        unfold lvB
        rw [e2, tb_dm, decide_eq_false (show ¬ a / 2 ^ (m - e) % 2 = 1 from by have := hc.mp (Decidable.not_not.mp c_14); omega)]; rfl
      rw [e1]
      refine tt_iconst (v := nI 1) d_X_leaves_17 (by decide) ?_
      refine tt_goto (t := 22) d_X_leaves_18 (by decide) ?_
      refine tt_zret rfl rfl d_X_leaves_22 ?_
      exact ⟨rfl, rfl⟩

/-- who is to eat next wins (bits): trout, pike -/
def gmX (k : Nat) : Nat → Nat × Nat
  | 0 => (0, 0)
  | m + 1 => if m = 0 then (0, 0) else ((gmX k m).1 ||| (if (lvB (gmX k m).2 m 1 || lvB (gmX k m).2 m 2) = true then 2 ^ m else 0), (gmX k m).2 ||| (if (lvB (gmX k m).1 m 1 || lvB (gmX k m).1 m k) = true then 2 ^ m else 0))
theorem gm_s {k m t q : Nat} {a b : Bool} (h : (t, q) = gmX k m) (hm : 1 ≤ m) (ha : (lvB q m 1 || lvB q m 2) = a) (hb : (lvB t m 1 || lvB t m k) = b) : (t ||| (if a = true then 2 ^ m else 0), q ||| (if b = true then 2 ^ m else 0)) = gmX k (m + 1) := by
  show _ = if m = 0 then (0, 0) else ((gmX k m).1 ||| (if (lvB (gmX k m).2 m 1 || lvB (gmX k m).2 m 2) = true then 2 ^ m else 0), (gmX k m).2 ||| (if (lvB (gmX k m).1 m 1 || lvB (gmX k m).1 m k) = true then 2 ^ m else 0))
  rw [if_neg (show ¬ m = 0 by omega), ← h, ← ha, ← hb]
theorem gm_lt (k : Nat) : ∀ m, (gmX k m).1 < 2 ^ m ∧ (gmX k m).2 < 2 ^ m
  | 0 => ⟨by show 0 < 1; omega, by show 0 < 1; omega⟩
  | m + 1 => by
    obtain ⟨h1, h2⟩ := gm_lt k m
    have hp : 0 < 2 ^ m := Nat.two_pow_pos m
    have hd : 2 ^ (m + 1) = 2 ^ m + 2 ^ m := by rw [Nat.pow_succ]; omega
    have hi : ∀ c : Bool, (if c = true then 2 ^ m else 0) < 2 ^ (m + 1) := fun c => by split <;> omega
    show (if m = 0 then (0, 0) else ((gmX k m).1 ||| (if (lvB (gmX k m).2 m 1 || lvB (gmX k m).2 m 2) = true then 2 ^ m else 0), (gmX k m).2 ||| (if (lvB (gmX k m).1 m 1 || lvB (gmX k m).1 m k) = true then 2 ^ m else 0))).1 < _ ∧ (if m = 0 then (0, 0) else ((gmX k m).1 ||| (if (lvB (gmX k m).2 m 1 || lvB (gmX k m).2 m 2) = true then 2 ^ m else 0), (gmX k m).2 ||| (if (lvB (gmX k m).1 m 1 || lvB (gmX k m).1 m k) = true then 2 ^ m else 0))).2 < _
    split
    · exact ⟨by show 0 < _; omega, by show 0 < _; omega⟩
    · exact ⟨Nat.or_lt_two_pow (by omega) (hi _), Nat.or_lt_two_pow (by omega) (hi _)⟩
def gmA (t q n : Nat) : Int32 × Option (List Int64) := if t.testBit n = true then (nI 1, some [if lvB q n 1 = true then 1 else 2]) else (nI 0, some [])
def q_game (n k : Int32) : Int32 × Option (List Int64) := match rgN n 0 60, rgN k 2 9 with
  | some n, some k => if n = 0 then (-2, none) else gmA (gmX k (n + 1)).1 (gmX k (n + 1)).2 n
  | _, _ => (-1, none)
set_option maxHeartbeats 4000000 in
theorem x_game_l {l : xLa} {d : Nat} {σ : xs} {w : wv} {n k : Nat} (hn : 1 ≤ n ∧ n ≤ 60) (hk : 2 ≤ k ∧ k ≤ 9) (ho : okQ w) : ∀ (m : Nat) (m2 t q : Nat) (z8 z9 : Option Int32) (τ : xs), n + 1 - m2 = m → 1 ≤ m2 → m2 ≤ n + 1 → XQ w σ τ → (t, q) = gmX k m2 → T l M_X_game (d + 30) 38 [some (.ref 0), some (.int (nI n)), some (.int (nI k)), some (.long (lN t)), none, some (.long (lN q)), none, some (.int (nI m2)), z8.map Value.int, z9.map Value.int] [] τ (fun r τ => r = some (.int (gmA (gmX k (n + 1)).1 (gmX k (n + 1)).2 n).1) ∧ XW τ (stD w (gmA (gmX k (n + 1)).1 (gmX k (n + 1)).2 n).2) ∧ XF σ τ) := by
  have hb0 := ho.fb
  have hb8 := ho.n8
  intro m
  induction m using Nat.strongRecOn with
  | ind m ih =>
    intro m2 t q z8 z9 τ hm h1 hm2 h hg
    have hl := gm_lt k m2
    rw [← hg] at hl
    dsimp only at hl
    have hp0 := Nat.two_pow_pos m2
    have hp62 : 2 ^ m2 < 2 ^ 62 := Nat.pow_lt_pow_right (by decide) (by omega)
    have hb1 := (bN_c (lvB q m2 1)).1
    have hb2 := (bN_c (lvB q m2 2)).1
    have hb3 := (bN_c (lvB t m2 1)).1
    have hb4 := (bN_c (lvB t m2 k)).1
    have hb5 := (bN_c (lvB q n 1)).1
    refine tt_iload d_X_game_38 rfl ?_
    refine tt_iload_n d_X_game_40 rfl ?_
    refine tn_ic_gt (t := 140) (by omega) (by omega) d_X_game_41 (by decide) (fun c_41 => ?_) (fun c_41 => ?_)
    · obtain rfl : m2 = n + 1 := by omega
      rw [← hg]
      dsimp only
      unfold gmA
      have hx : t / 2 ^ n % 2 < 2 := Nat.mod_lt _ (by decide)
      have hc := lN_0c hx
      have htd := tb_dm t n
      refine tt_aload_n d_X_game_140 rfl ?_
      refine tt_getR d_X_game_141 rfl rfl (by decide) rfl rfl ?_
      refine tt_callV (xq_start (d := d) h) cw_Told_start rfl rfl (by decide) rfl (by omega) d_X_game_144 rfl rfl (Nat.le_of_ble_eq_true rfl) (Nat.le_of_ble_eq_true rfl) rfl rfl rfl (fun v σ2 q => ?_)
      obtain ⟨rfl, h, hd, hf⟩ := q
      refine tt_lload_n d_X_game_147 rfl ?_
      refine tt_iload_n d_X_game_148 rfl ?_
      refine tt_lushr d_X_game_149 ?_
      refine tt_lconst (v := 1) d_X_game_150 (by decide) ?_
      refine tt_land d_X_game_151 ?_
      refine tt_topL (wb_bit (lt_64 (n := n + 1) (by omega) (by omega)) (by omega)) ?_
      refine tt_lconst (v := 0) d_X_game_152 (by decide) ?_
      refine tt_lcmp d_X_game_153 ?_
      refine tt_if_ne (t := 159) d_X_game_154 (by decide) (fun c_154 => ?_) (fun c_154 => ?_)
      · rw [if_pos (show t.testBit n = true from by rw [htd, decide_eq_true_iff]; have : ¬ t / 2 ^ n % 2 = 0 := fun y => c_154 (hc.mpr y); omega)]
        refine tt_aload_n d_X_game_159 rfl ?_
        refine tt_getR d_X_game_160 rfl rfl (by decide) rfl rfl ?_
        refine tt_lload d_X_game_163 rfl ?_
        refine tt_iload_n d_X_game_165 rfl ?_
        refine tt_iconst (v := nI 1) d_X_game_166 (by decide) ?_
        refine tt_callS (x_leaves (d := d) (a := q) (lt_64 (n := n + 1) (by omega) (by omega)) (by omega) (by omega)) cw_X_leaves rfl (by omega) d_X_game_167 rfl rfl (Nat.le_of_ble_eq_true rfl) (Nat.le_of_ble_eq_true rfl) rfl rfl rfl (fun v σ2 q => ?_)
        obtain ⟨rfl, e9⟩ := q
        rw [e9]
        clear e9
        refine tn_if_eq (t := 177) (by omega) d_X_game_170 (by decide) (fun c_170 => ?_) (fun c_170 => ?_)
        · rw [if_neg (by rw [bt0 c_170]; decide)]
          refine tt_ldc2_w d_X_game_177 rfl ?_
          refine tt_callV (xq_add (d := d) h hd (Nat.le_of_ble_eq_true rfl)) cw_Told_add rfl rfl (by decide) rfl (by omega) d_X_game_180 rfl rfl (Nat.le_of_ble_eq_true rfl) (Nat.le_of_ble_eq_true rfl) rfl rfl rfl (fun v σ2 q => ?_)
          obtain ⟨rfl, h, hd, hf⟩ := q
          refine tt_iconst (v := nI 1) d_X_game_183 (by decide) ?_
          refine tt_iret rfl d_X_game_184 ?_
          exact ⟨rfl, h.done hd, h.2.1⟩
        · rw [if_pos (bt1 c_170)]
          refine tt_lconst (v := 1) d_X_game_173 (by decide) ?_
          refine tt_goto (t := 180) d_X_game_174 (by decide) ?_
          refine tt_callV (xq_add (d := d) h hd (Nat.le_of_ble_eq_true rfl)) cw_Told_add rfl rfl (by decide) rfl (by omega) d_X_game_180 rfl rfl (Nat.le_of_ble_eq_true rfl) (Nat.le_of_ble_eq_true rfl) rfl rfl rfl (fun v σ2 q => ?_)
          obtain ⟨rfl, h, hd, hf⟩ := q
          refine tt_iconst (v := nI 1) d_X_game_183 (by decide) ?_
          refine tt_iret rfl d_X_game_184 ?_
          exact ⟨rfl, h.done hd, h.2.1⟩
      · rw [if_neg (show ¬ t.testBit n = true from fun y => by rw [htd, decide_eq_true_iff] at y; have := hc.mp (Decidable.not_not.mp c_154); omega)]
        refine tt_iconst (v := nI 0) d_X_game_157 (by decide) ?_
        refine tt_iret rfl d_X_game_158 ?_
        exact ⟨rfl, h.done hd, h.2.1⟩
    · refine tt_lload d_X_game_44 rfl ?_
      refine tt_iload d_X_game_46 rfl ?_
      refine tt_iconst (v := nI 1) d_X_game_48 (by decide) ?_
      refine tt_callS (x_leaves (d := d) (a := q) (lt_64 (n := m2) (by omega) (by omega)) (by omega) (by omega)) cw_X_leaves rfl (by omega) d_X_game_49 rfl rfl (Nat.le_of_ble_eq_true rfl) (Nat.le_of_ble_eq_true rfl) rfl rfl rfl (fun v σ2 q => ?_)
      obtain ⟨rfl, e9⟩ := q
      rw [e9]
      clear e9
      refine tn_if_ne (t := 66) (by omega) d_X_game_52 (by decide) (fun c_52 => ?_) (fun c_52 => ?_)
      · refine tt_iconst (v := nI 1) d_X_game_66 (by decide) ?_
        refine tt_goto (t := 71) d_X_game_67 (by decide) ?_
        refine tt_istore (lv2 := [_, _, _, _, _, _, _, _, _, _]) d_X_game_71 (by decide) rfl ?_
        refine tt_lload_n d_X_game_73 rfl ?_
        refine tt_iload d_X_game_74 rfl ?_
        refine tt_iconst (v := nI 1) d_X_game_76 (by decide) ?_
        refine tt_callS (x_leaves (d := d) (a := t) (lt_64 (n := m2) (by omega) (by omega)) (by omega) (by omega)) cw_X_leaves rfl (by omega) d_X_game_77 rfl rfl (Nat.le_of_ble_eq_true rfl) (Nat.le_of_ble_eq_true rfl) rfl rfl rfl (fun v σ2 q => ?_)
        obtain ⟨rfl, e9⟩ := q
        rw [e9]
        clear e9
        refine tn_if_ne (t := 93) (by omega) d_X_game_80 (by decide) (fun c_80 => ?_) (fun c_80 => ?_)
        · refine tt_iconst (v := nI 1) d_X_game_93 (by decide) ?_
          refine tt_goto (t := 98) d_X_game_94 (by decide) ?_
          refine tt_istore (lv2 := [_, _, _, _, _, _, _, _, _, _]) d_X_game_98 (by decide) rfl ?_
          refine tt_lload_n d_X_game_100 rfl ?_
          refine tt_iload d_X_game_101 rfl ?_
          refine tn_if_eq (t := 113) (by omega) d_X_game_103 (by decide) (fun c_103 => ?_) (fun c_103 => ?_)
          · omega
          · refine tt_lconst (v := lN 1) d_X_game_106 (by decide) ?_
            refine tt_iload d_X_game_107 rfl ?_
            refine tt_lshl d_X_game_109 ?_
            refine tt_topL ((wb_shl 1 (by omega)).trans (congrArg lN (Nat.one_mul _))) ?_
            refine tt_goto (t := 114) d_X_game_110 (by decide) ?_
            refine tt_lor d_X_game_114 ?_
            refine tt_topL (wb_or (lt_64 (n := 62) (by omega) (by decide)) (lt_64 (n := 62) (by omega) (by decide))) ?_
            refine tt_lstore_n (lv2 := [_, _, _, _, _, _, _, _, _, _]) d_X_game_115 (by decide) rfl ?_
            refine tt_lload d_X_game_116 rfl ?_
            refine tt_iload d_X_game_118 rfl ?_
            refine tn_if_eq (t := 130) (by omega) d_X_game_120 (by decide) (fun c_120 => ?_) (fun c_120 => ?_)
            · omega
            · refine tt_lconst (v := lN 1) d_X_game_123 (by decide) ?_
              refine tt_iload d_X_game_124 rfl ?_
              refine tt_lshl d_X_game_126 ?_
              refine tt_topL ((wb_shl 1 (by omega)).trans (congrArg lN (Nat.one_mul _))) ?_
              refine tt_goto (t := 131) d_X_game_127 (by decide) ?_
              refine tt_lor d_X_game_131 ?_
              refine tt_topL (wb_or (lt_64 (n := 62) (by omega) (by decide)) (lt_64 (n := 62) (by omega) (by decide))) ?_
              refine tt_lstore (lv2 := [_, _, _, _, _, _, _, _, _, _]) d_X_game_132 (by decide) rfl ?_
              refine tt_iinc (lv2 := [_, _, _, _, _, _, _, _, _, _]) d_X_game_134 rfl (nI_inc _ 1) (by decide) rfl ?_
              refine tt_goto (t := 38) d_X_game_137 (by decide) ?_
              have hz := gm_s (a := true) (b := true) hg (by omega) (by rw [bt1 c_52]; rfl) (by rw [bt1 c_80]; rfl)
              simp only [if_true, Bool.false_eq_true, if_false] at hz
              exact ih (n + 1 - (m2 + 1)) (by omega) (m2 + 1) _ _ (some _) (some _) _ rfl (by omega) (by omega) h hz
        · refine tt_lload_n d_X_game_83 rfl ?_
          refine tt_iload d_X_game_84 rfl ?_
          refine tt_iload_n d_X_game_86 rfl ?_
          refine tt_callS (x_leaves (d := d) (a := t) (lt_64 (n := m2) (by omega) (by omega)) (by omega) (by omega)) cw_X_leaves rfl (by omega) d_X_game_87 rfl rfl (Nat.le_of_ble_eq_true rfl) (Nat.le_of_ble_eq_true rfl) rfl rfl rfl (fun v σ2 q => ?_)
          obtain ⟨rfl, e9⟩ := q
          rw [e9]
          clear e9
          refine tn_if_eq (t := 97) (by omega) d_X_game_90 (by decide) (fun c_90 => ?_) (fun c_90 => ?_)
          · refine tt_iconst (v := nI 0) d_X_game_97 (by decide) ?_
            refine tt_istore (lv2 := [_, _, _, _, _, _, _, _, _, _]) d_X_game_98 (by decide) rfl ?_
            refine tt_lload_n d_X_game_100 rfl ?_
            refine tt_iload d_X_game_101 rfl ?_
            refine tn_if_eq (t := 113) (by omega) d_X_game_103 (by decide) (fun c_103 => ?_) (fun c_103 => ?_)
            · omega
            · refine tt_lconst (v := lN 1) d_X_game_106 (by decide) ?_
              refine tt_iload d_X_game_107 rfl ?_
              refine tt_lshl d_X_game_109 ?_
              refine tt_topL ((wb_shl 1 (by omega)).trans (congrArg lN (Nat.one_mul _))) ?_
              refine tt_goto (t := 114) d_X_game_110 (by decide) ?_
              refine tt_lor d_X_game_114 ?_
              refine tt_topL (wb_or (lt_64 (n := 62) (by omega) (by decide)) (lt_64 (n := 62) (by omega) (by decide))) ?_
              refine tt_lstore_n (lv2 := [_, _, _, _, _, _, _, _, _, _]) d_X_game_115 (by decide) rfl ?_
              refine tt_lload d_X_game_116 rfl ?_
              refine tt_iload d_X_game_118 rfl ?_
              refine tn_if_eq (t := 130) (by omega) d_X_game_120 (by decide) (fun c_120 => ?_) (fun c_120 => ?_)
              · refine tt_lconst (v := lN 0) d_X_game_130 (by decide) ?_
                refine tt_lor d_X_game_131 ?_
                refine tt_topL (wb_or (lt_64 (n := 62) (by omega) (by decide)) (lt_64 (n := 62) (by omega) (by decide))) ?_
                refine tt_lstore (lv2 := [_, _, _, _, _, _, _, _, _, _]) d_X_game_132 (by decide) rfl ?_
                refine tt_iinc (lv2 := [_, _, _, _, _, _, _, _, _, _]) d_X_game_134 rfl (nI_inc _ 1) (by decide) rfl ?_
                refine tt_goto (t := 38) d_X_game_137 (by decide) ?_
                have hz := gm_s (a := true) (b := false) hg (by omega) (by rw [bt1 c_52]; rfl) (by rw [bt0 c_80, bt0 c_90]; rfl)
                simp only [if_true, Bool.false_eq_true, if_false] at hz
                exact ih (n + 1 - (m2 + 1)) (by omega) (m2 + 1) _ _ (some _) (some _) _ rfl (by omega) (by omega) h hz
              · omega
          · refine tt_iconst (v := nI 1) d_X_game_93 (by decide) ?_
            refine tt_goto (t := 98) d_X_game_94 (by decide) ?_
            refine tt_istore (lv2 := [_, _, _, _, _, _, _, _, _, _]) d_X_game_98 (by decide) rfl ?_
            refine tt_lload_n d_X_game_100 rfl ?_
            refine tt_iload d_X_game_101 rfl ?_
            refine tn_if_eq (t := 113) (by omega) d_X_game_103 (by decide) (fun c_103 => ?_) (fun c_103 => ?_)
            · omega
            · refine tt_lconst (v := lN 1) d_X_game_106 (by decide) ?_
              refine tt_iload d_X_game_107 rfl ?_
              refine tt_lshl d_X_game_109 ?_
              refine tt_topL ((wb_shl 1 (by omega)).trans (congrArg lN (Nat.one_mul _))) ?_
              refine tt_goto (t := 114) d_X_game_110 (by decide) ?_
              refine tt_lor d_X_game_114 ?_
              refine tt_topL (wb_or (lt_64 (n := 62) (by omega) (by decide)) (lt_64 (n := 62) (by omega) (by decide))) ?_
              refine tt_lstore_n (lv2 := [_, _, _, _, _, _, _, _, _, _]) d_X_game_115 (by decide) rfl ?_
              refine tt_lload d_X_game_116 rfl ?_
              refine tt_iload d_X_game_118 rfl ?_
              refine tn_if_eq (t := 130) (by omega) d_X_game_120 (by decide) (fun c_120 => ?_) (fun c_120 => ?_)
              · omega
              · refine tt_lconst (v := lN 1) d_X_game_123 (by decide) ?_
                refine tt_iload d_X_game_124 rfl ?_
                refine tt_lshl d_X_game_126 ?_
                refine tt_topL ((wb_shl 1 (by omega)).trans (congrArg lN (Nat.one_mul _))) ?_
                refine tt_goto (t := 131) d_X_game_127 (by decide) ?_
                refine tt_lor d_X_game_131 ?_
                refine tt_topL (wb_or (lt_64 (n := 62) (by omega) (by decide)) (lt_64 (n := 62) (by omega) (by decide))) ?_
                refine tt_lstore (lv2 := [_, _, _, _, _, _, _, _, _, _]) d_X_game_132 (by decide) rfl ?_
                refine tt_iinc (lv2 := [_, _, _, _, _, _, _, _, _, _]) d_X_game_134 rfl (nI_inc _ 1) (by decide) rfl ?_
                refine tt_goto (t := 38) d_X_game_137 (by decide) ?_
                have hz := gm_s (a := true) (b := true) hg (by omega) (by rw [bt1 c_52]; rfl) (by rw [bt0 c_80, bt1 c_90]; rfl)
                simp only [if_true, Bool.false_eq_true, if_false] at hz
                exact ih (n + 1 - (m2 + 1)) (by omega) (m2 + 1) _ _ (some _) (some _) _ rfl (by omega) (by omega) h hz
      · refine tt_lload d_X_game_55 rfl ?_
        refine tt_iload d_X_game_57 rfl ?_
        refine tt_iconst (v := nI 2) d_X_game_59 (by decide) ?_
        refine tt_callS (x_leaves (d := d) (a := q) (lt_64 (n := m2) (by omega) (by omega)) (by omega) (by omega)) cw_X_leaves rfl (by omega) d_X_game_60 rfl rfl (Nat.le_of_ble_eq_true rfl) (Nat.le_of_ble_eq_true rfl) rfl rfl rfl (fun v σ2 q => ?_)
        obtain ⟨rfl, e9⟩ := q
        rw [e9]
        clear e9
        refine tn_if_eq (t := 70) (by omega) d_X_game_63 (by decide) (fun c_63 => ?_) (fun c_63 => ?_)
        · refine tt_iconst (v := nI 0) d_X_game_70 (by decide) ?_
          refine tt_istore (lv2 := [_, _, _, _, _, _, _, _, _, _]) d_X_game_71 (by decide) rfl ?_
          refine tt_lload_n d_X_game_73 rfl ?_
          refine tt_iload d_X_game_74 rfl ?_
          refine tt_iconst (v := nI 1) d_X_game_76 (by decide) ?_
          refine tt_callS (x_leaves (d := d) (a := t) (lt_64 (n := m2) (by omega) (by omega)) (by omega) (by omega)) cw_X_leaves rfl (by omega) d_X_game_77 rfl rfl (Nat.le_of_ble_eq_true rfl) (Nat.le_of_ble_eq_true rfl) rfl rfl rfl (fun v σ2 q => ?_)
          obtain ⟨rfl, e9⟩ := q
          rw [e9]
          clear e9
          refine tn_if_ne (t := 93) (by omega) d_X_game_80 (by decide) (fun c_80 => ?_) (fun c_80 => ?_)
          · refine tt_iconst (v := nI 1) d_X_game_93 (by decide) ?_
            refine tt_goto (t := 98) d_X_game_94 (by decide) ?_
            refine tt_istore (lv2 := [_, _, _, _, _, _, _, _, _, _]) d_X_game_98 (by decide) rfl ?_
            refine tt_lload_n d_X_game_100 rfl ?_
            refine tt_iload d_X_game_101 rfl ?_
            refine tn_if_eq (t := 113) (by omega) d_X_game_103 (by decide) (fun c_103 => ?_) (fun c_103 => ?_)
            · refine tt_lconst (v := lN 0) d_X_game_113 (by decide) ?_
              refine tt_lor d_X_game_114 ?_
              refine tt_topL (wb_or (lt_64 (n := 62) (by omega) (by decide)) (lt_64 (n := 62) (by omega) (by decide))) ?_
              refine tt_lstore_n (lv2 := [_, _, _, _, _, _, _, _, _, _]) d_X_game_115 (by decide) rfl ?_
              refine tt_lload d_X_game_116 rfl ?_
              refine tt_iload d_X_game_118 rfl ?_
              refine tn_if_eq (t := 130) (by omega) d_X_game_120 (by decide) (fun c_120 => ?_) (fun c_120 => ?_)
              · omega
              · refine tt_lconst (v := lN 1) d_X_game_123 (by decide) ?_
                refine tt_iload d_X_game_124 rfl ?_
                refine tt_lshl d_X_game_126 ?_
                refine tt_topL ((wb_shl 1 (by omega)).trans (congrArg lN (Nat.one_mul _))) ?_
                refine tt_goto (t := 131) d_X_game_127 (by decide) ?_
                refine tt_lor d_X_game_131 ?_
                refine tt_topL (wb_or (lt_64 (n := 62) (by omega) (by decide)) (lt_64 (n := 62) (by omega) (by decide))) ?_
                refine tt_lstore (lv2 := [_, _, _, _, _, _, _, _, _, _]) d_X_game_132 (by decide) rfl ?_
                refine tt_iinc (lv2 := [_, _, _, _, _, _, _, _, _, _]) d_X_game_134 rfl (nI_inc _ 1) (by decide) rfl ?_
                refine tt_goto (t := 38) d_X_game_137 (by decide) ?_
                have hz := gm_s (a := false) (b := true) hg (by omega) (by rw [bt0 c_52, bt0 c_63]; rfl) (by rw [bt1 c_80]; rfl)
                simp only [if_true, Bool.false_eq_true, if_false] at hz
                exact ih (n + 1 - (m2 + 1)) (by omega) (m2 + 1) _ _ (some _) (some _) _ rfl (by omega) (by omega) h hz
            · omega
          · refine tt_lload_n d_X_game_83 rfl ?_
            refine tt_iload d_X_game_84 rfl ?_
            refine tt_iload_n d_X_game_86 rfl ?_
            refine tt_callS (x_leaves (d := d) (a := t) (lt_64 (n := m2) (by omega) (by omega)) (by omega) (by omega)) cw_X_leaves rfl (by omega) d_X_game_87 rfl rfl (Nat.le_of_ble_eq_true rfl) (Nat.le_of_ble_eq_true rfl) rfl rfl rfl (fun v σ2 q => ?_)
            obtain ⟨rfl, e9⟩ := q
            rw [e9]
            clear e9
            refine tn_if_eq (t := 97) (by omega) d_X_game_90 (by decide) (fun c_90 => ?_) (fun c_90 => ?_)
            · refine tt_iconst (v := nI 0) d_X_game_97 (by decide) ?_
              refine tt_istore (lv2 := [_, _, _, _, _, _, _, _, _, _]) d_X_game_98 (by decide) rfl ?_
              refine tt_lload_n d_X_game_100 rfl ?_
              refine tt_iload d_X_game_101 rfl ?_
              refine tn_if_eq (t := 113) (by omega) d_X_game_103 (by decide) (fun c_103 => ?_) (fun c_103 => ?_)
              · refine tt_lconst (v := lN 0) d_X_game_113 (by decide) ?_
                refine tt_lor d_X_game_114 ?_
                refine tt_topL (wb_or (lt_64 (n := 62) (by omega) (by decide)) (lt_64 (n := 62) (by omega) (by decide))) ?_
                refine tt_lstore_n (lv2 := [_, _, _, _, _, _, _, _, _, _]) d_X_game_115 (by decide) rfl ?_
                refine tt_lload d_X_game_116 rfl ?_
                refine tt_iload d_X_game_118 rfl ?_
                refine tn_if_eq (t := 130) (by omega) d_X_game_120 (by decide) (fun c_120 => ?_) (fun c_120 => ?_)
                · refine tt_lconst (v := lN 0) d_X_game_130 (by decide) ?_
                  refine tt_lor d_X_game_131 ?_
                  refine tt_topL (wb_or (lt_64 (n := 62) (by omega) (by decide)) (lt_64 (n := 62) (by omega) (by decide))) ?_
                  refine tt_lstore (lv2 := [_, _, _, _, _, _, _, _, _, _]) d_X_game_132 (by decide) rfl ?_
                  refine tt_iinc (lv2 := [_, _, _, _, _, _, _, _, _, _]) d_X_game_134 rfl (nI_inc _ 1) (by decide) rfl ?_
                  refine tt_goto (t := 38) d_X_game_137 (by decide) ?_
                  have hz := gm_s (a := false) (b := false) hg (by omega) (by rw [bt0 c_52, bt0 c_63]; rfl) (by rw [bt0 c_80, bt0 c_90]; rfl)
                  simp only [if_true, Bool.false_eq_true, if_false] at hz
                  exact ih (n + 1 - (m2 + 1)) (by omega) (m2 + 1) _ _ (some _) (some _) _ rfl (by omega) (by omega) h hz
                · omega
              · omega
            · refine tt_iconst (v := nI 1) d_X_game_93 (by decide) ?_
              refine tt_goto (t := 98) d_X_game_94 (by decide) ?_
              refine tt_istore (lv2 := [_, _, _, _, _, _, _, _, _, _]) d_X_game_98 (by decide) rfl ?_
              refine tt_lload_n d_X_game_100 rfl ?_
              refine tt_iload d_X_game_101 rfl ?_
              refine tn_if_eq (t := 113) (by omega) d_X_game_103 (by decide) (fun c_103 => ?_) (fun c_103 => ?_)
              · refine tt_lconst (v := lN 0) d_X_game_113 (by decide) ?_
                refine tt_lor d_X_game_114 ?_
                refine tt_topL (wb_or (lt_64 (n := 62) (by omega) (by decide)) (lt_64 (n := 62) (by omega) (by decide))) ?_
                refine tt_lstore_n (lv2 := [_, _, _, _, _, _, _, _, _, _]) d_X_game_115 (by decide) rfl ?_
                refine tt_lload d_X_game_116 rfl ?_
                refine tt_iload d_X_game_118 rfl ?_
                refine tn_if_eq (t := 130) (by omega) d_X_game_120 (by decide) (fun c_120 => ?_) (fun c_120 => ?_)
                · omega
                · refine tt_lconst (v := lN 1) d_X_game_123 (by decide) ?_
                  refine tt_iload d_X_game_124 rfl ?_
                  refine tt_lshl d_X_game_126 ?_
                  refine tt_topL ((wb_shl 1 (by omega)).trans (congrArg lN (Nat.one_mul _))) ?_
                  refine tt_goto (t := 131) d_X_game_127 (by decide) ?_
                  refine tt_lor d_X_game_131 ?_
                  refine tt_topL (wb_or (lt_64 (n := 62) (by omega) (by decide)) (lt_64 (n := 62) (by omega) (by decide))) ?_
                  refine tt_lstore (lv2 := [_, _, _, _, _, _, _, _, _, _]) d_X_game_132 (by decide) rfl ?_
                  refine tt_iinc (lv2 := [_, _, _, _, _, _, _, _, _, _]) d_X_game_134 rfl (nI_inc _ 1) (by decide) rfl ?_
                  refine tt_goto (t := 38) d_X_game_137 (by decide) ?_
                  have hz := gm_s (a := false) (b := true) hg (by omega) (by rw [bt0 c_52, bt0 c_63]; rfl) (by rw [bt0 c_80, bt1 c_90]; rfl)
                  simp only [if_true, Bool.false_eq_true, if_false] at hz
                  exact ih (n + 1 - (m2 + 1)) (by omega) (m2 + 1) _ _ (some _) (some _) _ rfl (by omega) (by omega) h hz
              · omega
        · refine tt_iconst (v := nI 1) d_X_game_66 (by decide) ?_
          refine tt_goto (t := 71) d_X_game_67 (by decide) ?_
          refine tt_istore (lv2 := [_, _, _, _, _, _, _, _, _, _]) d_X_game_71 (by decide) rfl ?_
          refine tt_lload_n d_X_game_73 rfl ?_
          refine tt_iload d_X_game_74 rfl ?_
          refine tt_iconst (v := nI 1) d_X_game_76 (by decide) ?_
          refine tt_callS (x_leaves (d := d) (a := t) (lt_64 (n := m2) (by omega) (by omega)) (by omega) (by omega)) cw_X_leaves rfl (by omega) d_X_game_77 rfl rfl (Nat.le_of_ble_eq_true rfl) (Nat.le_of_ble_eq_true rfl) rfl rfl rfl (fun v σ2 q => ?_)
          obtain ⟨rfl, e9⟩ := q
          rw [e9]
          clear e9
          refine tn_if_ne (t := 93) (by omega) d_X_game_80 (by decide) (fun c_80 => ?_) (fun c_80 => ?_)
          · refine tt_iconst (v := nI 1) d_X_game_93 (by decide) ?_
            refine tt_goto (t := 98) d_X_game_94 (by decide) ?_
            refine tt_istore (lv2 := [_, _, _, _, _, _, _, _, _, _]) d_X_game_98 (by decide) rfl ?_
            refine tt_lload_n d_X_game_100 rfl ?_
            refine tt_iload d_X_game_101 rfl ?_
            refine tn_if_eq (t := 113) (by omega) d_X_game_103 (by decide) (fun c_103 => ?_) (fun c_103 => ?_)
            · omega
            · refine tt_lconst (v := lN 1) d_X_game_106 (by decide) ?_
              refine tt_iload d_X_game_107 rfl ?_
              refine tt_lshl d_X_game_109 ?_
              refine tt_topL ((wb_shl 1 (by omega)).trans (congrArg lN (Nat.one_mul _))) ?_
              refine tt_goto (t := 114) d_X_game_110 (by decide) ?_
              refine tt_lor d_X_game_114 ?_
              refine tt_topL (wb_or (lt_64 (n := 62) (by omega) (by decide)) (lt_64 (n := 62) (by omega) (by decide))) ?_
              refine tt_lstore_n (lv2 := [_, _, _, _, _, _, _, _, _, _]) d_X_game_115 (by decide) rfl ?_
              refine tt_lload d_X_game_116 rfl ?_
              refine tt_iload d_X_game_118 rfl ?_
              refine tn_if_eq (t := 130) (by omega) d_X_game_120 (by decide) (fun c_120 => ?_) (fun c_120 => ?_)
              · omega
              · refine tt_lconst (v := lN 1) d_X_game_123 (by decide) ?_
                refine tt_iload d_X_game_124 rfl ?_
                refine tt_lshl d_X_game_126 ?_
                refine tt_topL ((wb_shl 1 (by omega)).trans (congrArg lN (Nat.one_mul _))) ?_
                refine tt_goto (t := 131) d_X_game_127 (by decide) ?_
                refine tt_lor d_X_game_131 ?_
                refine tt_topL (wb_or (lt_64 (n := 62) (by omega) (by decide)) (lt_64 (n := 62) (by omega) (by decide))) ?_
                refine tt_lstore (lv2 := [_, _, _, _, _, _, _, _, _, _]) d_X_game_132 (by decide) rfl ?_
                refine tt_iinc (lv2 := [_, _, _, _, _, _, _, _, _, _]) d_X_game_134 rfl (nI_inc _ 1) (by decide) rfl ?_
                refine tt_goto (t := 38) d_X_game_137 (by decide) ?_
                have hz := gm_s (a := true) (b := true) hg (by omega) (by rw [bt0 c_52, bt1 c_63]; rfl) (by rw [bt1 c_80]; rfl)
                simp only [if_true, Bool.false_eq_true, if_false] at hz
                exact ih (n + 1 - (m2 + 1)) (by omega) (m2 + 1) _ _ (some _) (some _) _ rfl (by omega) (by omega) h hz
          · refine tt_lload_n d_X_game_83 rfl ?_
            refine tt_iload d_X_game_84 rfl ?_
            refine tt_iload_n d_X_game_86 rfl ?_
            refine tt_callS (x_leaves (d := d) (a := t) (lt_64 (n := m2) (by omega) (by omega)) (by omega) (by omega)) cw_X_leaves rfl (by omega) d_X_game_87 rfl rfl (Nat.le_of_ble_eq_true rfl) (Nat.le_of_ble_eq_true rfl) rfl rfl rfl (fun v σ2 q => ?_)
            obtain ⟨rfl, e9⟩ := q
            rw [e9]
            clear e9
            refine tn_if_eq (t := 97) (by omega) d_X_game_90 (by decide) (fun c_90 => ?_) (fun c_90 => ?_)
            · refine tt_iconst (v := nI 0) d_X_game_97 (by decide) ?_
              refine tt_istore (lv2 := [_, _, _, _, _, _, _, _, _, _]) d_X_game_98 (by decide) rfl ?_
              refine tt_lload_n d_X_game_100 rfl ?_
              refine tt_iload d_X_game_101 rfl ?_
              refine tn_if_eq (t := 113) (by omega) d_X_game_103 (by decide) (fun c_103 => ?_) (fun c_103 => ?_)
              · omega
              · refine tt_lconst (v := lN 1) d_X_game_106 (by decide) ?_
                refine tt_iload d_X_game_107 rfl ?_
                refine tt_lshl d_X_game_109 ?_
                refine tt_topL ((wb_shl 1 (by omega)).trans (congrArg lN (Nat.one_mul _))) ?_
                refine tt_goto (t := 114) d_X_game_110 (by decide) ?_
                refine tt_lor d_X_game_114 ?_
                refine tt_topL (wb_or (lt_64 (n := 62) (by omega) (by decide)) (lt_64 (n := 62) (by omega) (by decide))) ?_
                refine tt_lstore_n (lv2 := [_, _, _, _, _, _, _, _, _, _]) d_X_game_115 (by decide) rfl ?_
                refine tt_lload d_X_game_116 rfl ?_
                refine tt_iload d_X_game_118 rfl ?_
                refine tn_if_eq (t := 130) (by omega) d_X_game_120 (by decide) (fun c_120 => ?_) (fun c_120 => ?_)
                · refine tt_lconst (v := lN 0) d_X_game_130 (by decide) ?_
                  refine tt_lor d_X_game_131 ?_
                  refine tt_topL (wb_or (lt_64 (n := 62) (by omega) (by decide)) (lt_64 (n := 62) (by omega) (by decide))) ?_
                  refine tt_lstore (lv2 := [_, _, _, _, _, _, _, _, _, _]) d_X_game_132 (by decide) rfl ?_
                  refine tt_iinc (lv2 := [_, _, _, _, _, _, _, _, _, _]) d_X_game_134 rfl (nI_inc _ 1) (by decide) rfl ?_
                  refine tt_goto (t := 38) d_X_game_137 (by decide) ?_
                  have hz := gm_s (a := true) (b := false) hg (by omega) (by rw [bt0 c_52, bt1 c_63]; rfl) (by rw [bt0 c_80, bt0 c_90]; rfl)
                  simp only [if_true, Bool.false_eq_true, if_false] at hz
                  exact ih (n + 1 - (m2 + 1)) (by omega) (m2 + 1) _ _ (some _) (some _) _ rfl (by omega) (by omega) h hz
                · omega
            · refine tt_iconst (v := nI 1) d_X_game_93 (by decide) ?_
              refine tt_goto (t := 98) d_X_game_94 (by decide) ?_
              refine tt_istore (lv2 := [_, _, _, _, _, _, _, _, _, _]) d_X_game_98 (by decide) rfl ?_
              refine tt_lload_n d_X_game_100 rfl ?_
              refine tt_iload d_X_game_101 rfl ?_
              refine tn_if_eq (t := 113) (by omega) d_X_game_103 (by decide) (fun c_103 => ?_) (fun c_103 => ?_)
              · omega
              · refine tt_lconst (v := lN 1) d_X_game_106 (by decide) ?_
                refine tt_iload d_X_game_107 rfl ?_
                refine tt_lshl d_X_game_109 ?_
                refine tt_topL ((wb_shl 1 (by omega)).trans (congrArg lN (Nat.one_mul _))) ?_
                refine tt_goto (t := 114) d_X_game_110 (by decide) ?_
                refine tt_lor d_X_game_114 ?_
                refine tt_topL (wb_or (lt_64 (n := 62) (by omega) (by decide)) (lt_64 (n := 62) (by omega) (by decide))) ?_
                refine tt_lstore_n (lv2 := [_, _, _, _, _, _, _, _, _, _]) d_X_game_115 (by decide) rfl ?_
                refine tt_lload d_X_game_116 rfl ?_
                refine tt_iload d_X_game_118 rfl ?_
                refine tn_if_eq (t := 130) (by omega) d_X_game_120 (by decide) (fun c_120 => ?_) (fun c_120 => ?_)
                · omega
                · refine tt_lconst (v := lN 1) d_X_game_123 (by decide) ?_
                  refine tt_iload d_X_game_124 rfl ?_
                  refine tt_lshl d_X_game_126 ?_
                  refine tt_topL ((wb_shl 1 (by omega)).trans (congrArg lN (Nat.one_mul _))) ?_
                  refine tt_goto (t := 131) d_X_game_127 (by decide) ?_
                  refine tt_lor d_X_game_131 ?_
                  refine tt_topL (wb_or (lt_64 (n := 62) (by omega) (by decide)) (lt_64 (n := 62) (by omega) (by decide))) ?_
                  refine tt_lstore (lv2 := [_, _, _, _, _, _, _, _, _, _]) d_X_game_132 (by decide) rfl ?_
                  refine tt_iinc (lv2 := [_, _, _, _, _, _, _, _, _, _]) d_X_game_134 rfl (nI_inc _ 1) (by decide) rfl ?_
                  refine tt_goto (t := 38) d_X_game_137 (by decide) ?_
                  have hz := gm_s (a := true) (b := true) hg (by omega) (by rw [bt0 c_52, bt1 c_63]; rfl) (by rw [bt0 c_80, bt1 c_90]; rfl)
                  simp only [if_true, Bool.false_eq_true, if_false] at hz
                  exact ih (n + 1 - (m2 + 1)) (by omega) (m2 + 1) _ _ (some _) (some _) _ rfl (by omega) (by omega) h hz

set_option maxHeartbeats 4000000 in
theorem xc_game {l : xLa} {d : Nat} {σ : xs} {w : wv} (ho : okQ w) (hw : XW σ w) {a b : Int32} : TC l M_X_game (d + 30) [.ref 0, .int a, .int b] σ (fun r τ => r = some (.int ((q_game a b).1)) ∧ XW τ (stD w ((q_game a b).2)) ∧ XF σ τ) := by
  show T l M_X_game (d + 30) 0 _ [] σ _
  refine T_lv (lv2 := [_, _, _, _, _, _, _, _, _, _]) rfl ?_
  have h := XQ.rf hw.v
  have hd0 := hw.2.2.2.1
  have hb0 := ho.fb
  have hb8 := ho.n8
  rcases rgN_c a 0 60 with ⟨n, hn1, hn2, hn3, rfl, hq1⟩ | ⟨hq1, hb1⟩
  · rcases rgN_c b 2 9 with ⟨k, hk1, hk2, hk3, rfl, hq2⟩ | ⟨hq2, hb2⟩
    · unfold q_game
      rw [hq1, hq2]
      dsimp only
      refine tt_iload_n d_X_game_0 rfl ?_
      refine tn_if_lt (t := 21) (by omega) d_X_game_1 (by decide) ?_
      refine tt_iload_n d_X_game_4 rfl ?_
      refine tt_bipush (v := nI 60) d_X_game_5 (by decide) ?_
      refine tn_ic_gt (t := 21) (by omega) (by omega) d_X_game_7 (by decide) (fun c_7 => ?_) (fun c_7 => ?_)
      · omega
      · refine tt_iload_n d_X_game_10 rfl ?_
        refine tt_iconst (v := nI 2) d_X_game_11 (by decide) ?_
        refine tn_ic_lt (t := 21) (by omega) (by omega) d_X_game_12 (by decide) (fun c_12 => ?_) (fun c_12 => ?_)
        · omega
        · refine tt_iload_n d_X_game_15 rfl ?_
          refine tt_bipush (v := nI 9) d_X_game_16 (by decide) ?_
          refine tn_ic_le (t := 23) (by omega) (by omega) d_X_game_18 (by decide) (fun c_18 => ?_) (fun c_18 => ?_)
          · refine tt_iload_n d_X_game_23 rfl ?_
            refine tn_if_ne (t := 30) (by omega) d_X_game_24 (by decide) (fun c_24 => ?_) (fun c_24 => ?_)
            · rw [if_neg c_24]
              refine tt_lconst (v := lN 0) d_X_game_30 (by decide) ?_
              refine tt_lstore_n (lv2 := [_, _, _, _, _, _, _, _, _, _]) d_X_game_31 (by decide) rfl ?_
              refine tt_lconst (v := lN 0) d_X_game_32 (by decide) ?_
              refine tt_lstore (lv2 := [_, _, _, _, _, _, _, _, _, _]) d_X_game_33 (by decide) rfl ?_
              refine tt_iconst (v := nI 1) d_X_game_35 (by decide) ?_
              refine tt_istore (lv2 := [_, _, _, _, _, _, _, _, _, _]) d_X_game_36 (by decide) rfl ?_
              exact x_game_l ⟨by omega, hn2⟩ ⟨hk1, hk2⟩ ho n 1 0 0 none none _ (by omega) (by omega) (by omega) h rfl
            · rw [if_pos c_24]
              refine tt_bipush (v := (-2)) d_X_game_27 (by decide) ?_
              refine tt_iret rfl d_X_game_29 ?_
              exact ⟨rfl, h.none hd0, h.2.1⟩
          · omega
    · have hqv : q_game (nI n) b = (-1, none) := by unfold q_game; rw [hq1, hq2]
      rw [hqv]
      refine tt_iload_n d_X_game_0 rfl ?_
      refine tn_if_lt (t := 21) (by omega) d_X_game_1 (by decide) ?_
      refine tt_iload_n d_X_game_4 rfl ?_
      refine tt_bipush (v := nI 60) d_X_game_5 (by decide) ?_
      refine tn_ic_gt (t := 21) (by omega) (by omega) d_X_game_7 (by decide) (fun c_7 => ?_) (fun c_7 => ?_)
      · omega
      · refine tt_iload_n d_X_game_10 rfl ?_
        refine tt_iconst (v := nI 2) d_X_game_11 (by decide) ?_
        refine tt_ic_lt (t := 21) d_X_game_12 (by decide) (fun c_12 => ?_) (fun c_12 => ?_)
        · refine tt_iconst (v := (-1)) d_X_game_21 (by decide) ?_
          refine tt_iret rfl d_X_game_22 ?_
          exact ⟨rfl, h.none hd0, h.2.1⟩
        · refine tt_iload_n d_X_game_15 rfl ?_
          refine tt_bipush (v := nI 9) d_X_game_16 (by decide) ?_
          refine tt_ic_le (t := 23) d_X_game_18 (by decide) (fun c_18 => ?_) (fun c_18 => ?_)
          · exact (rg_f (a := 2) (b := 9) (by decide) (by decide) hb2 c_12 c_18).elim
          · refine tt_iconst (v := (-1)) d_X_game_21 (by decide) ?_
            refine tt_iret rfl d_X_game_22 ?_
            exact ⟨rfl, h.none hd0, h.2.1⟩
  · have hqv : q_game a b = (-1, none) := by unfold q_game; rw [hq1]
    rw [hqv]
    refine tt_iload_n d_X_game_0 rfl ?_
    refine tt_if_lt (t := 21) d_X_game_1 (by decide) (fun c_1 => ?_) (fun c_1 => ?_)
    · refine tt_iconst (v := (-1)) d_X_game_21 (by decide) ?_
      refine tt_iret rfl d_X_game_22 ?_
      exact ⟨rfl, h.none hd0, h.2.1⟩
    · refine tt_iload_n d_X_game_4 rfl ?_
      refine tt_bipush (v := nI 60) d_X_game_5 (by decide) ?_
      refine tt_ic_gt (t := 21) d_X_game_7 (by decide) (fun c_7 => ?_) (fun c_7 => ?_)
      · refine tt_iconst (v := (-1)) d_X_game_21 (by decide) ?_
        refine tt_iret rfl d_X_game_22 ?_
        exact ⟨rfl, h.none hd0, h.2.1⟩
      · exact (rg_f (a := 0) (b := 60) (by decide) (by decide) hb1 (by rw [nI_0]; exact c_1) (fa_nlt c_7)).elim

theorem gm_ar {f : Nat → Int32} {m t : Nat} {b : Bool} (h : ∀ j, j < m → f j = nI (tbN t j)) (ht : t < 2 ^ m) : ∀ j, j < m + 1 → (if j = m then nI (bN b) else f j) = nI (tbN (t ||| (if b = true then 2 ^ m else 0)) j) := fun j hj => by
  by_cases c : j = m
  · subst c
    rw [if_pos rfl]
    have e : (t ||| (if b = true then 2 ^ j else 0)).testBit j = b := by
      rw [Nat.testBit_or, Nat.testBit_lt_two_pow ht, Bool.false_or]
      cases b with
      | true => rw [if_pos rfl, tb_pow]; simp
      | false => rw [if_neg (by decide), Nat.zero_testBit]
    unfold tbN bN
    rw [e]
  · rw [if_neg c, h j (by omega)]
    have e : (t ||| (if b = true then 2 ^ m else 0)).testBit j = t.testBit j := by
      rw [Nat.testBit_or]
      cases b with
      | true => rw [if_pos rfl, tb_pow, decide_eq_false (fun q => c q.symm), Bool.or_false]
      | false => rw [if_neg (by decide), Nat.zero_testBit, Bool.or_false]
    unfold tbN
    rw [e]
theorem gm0 {f : Nat → Int32} (h : f 0 = nI 0) : ∀ j, j < 1 → f j = nI (tbN 0 j) := fun j hj => by
  have : j = 0 := by omega
  subst this
  exact h
theorem lv1 {a m e : Nat} (h : e ≤ m) : lvB a m e = decide (tbN a (m - e) = 0) := by
  unfold lvB
  rw [decide_eq_true h, Bool.true_and]
  have := tbN_c a (m - e)
  by_cases c : a.testBit (m - e) = true
  · rw [c, decide_eq_false (fun q => this.2.2.mp q c)]; rfl
  · rw [Bool.eq_false_iff.mpr c, decide_eq_true (this.2.2.mpr c)]; rfl
theorem lv0 {a m e : Nat} (h : ¬ e ≤ m) : lvB a m e = false := by
  unfold lvB
  rw [decide_eq_false h]; rfl
theorem yw_g {σ τ : xs} {w : wv} {c a j : Nat} {x : Int32} (ha : 183 ≤ a ∧ a ≤ 184) (h : YQ c w σ τ) : YQ c w σ (wI τ a j x) := h.fq (Fq.wI (by unfold YqA; omega))
set_option maxHeartbeats 4000000 in
theorem y_game_l {l : xLa} {d : Nat} {σ : xs} {c : Nat} {w : wv} {n k : Nat} (hn : 1 ≤ n ∧ n ≤ 60) (hk : 2 ≤ k ∧ k ≤ 9) (ho : okQ w) : ∀ (m : Nat) (m2 t q2 : Nat) (τ : xs), n + 1 - m2 = m → 1 ≤ m2 → m2 ≤ n + 1 → YQ c w σ τ → (∀ j, j < m2 → si τ 183 j = nI (tbN t j)) → (∀ j, j < m2 → si τ 184 j = nI (tbN q2 j)) → (t, q2) = gmX k m2 → T l M_Y_game (d + 150) 56 [some (.ref 154), some (.int (nI n)), some (.int (nI k)), some (.int (nI m2))] [] τ (fun r τ => r = some (.int (gmA (gmX k (n + 1)).1 (gmX k (n + 1)).2 n).1) ∧ YW τ c (stD w (gmA (gmX k (n + 1)).1 (gmX k (n + 1)).2 n).2) ∧ YF σ τ) := by
  have hb0 := ho.fb
  have hb8 := ho.n8
  intro m
  induction m using Nat.strongRecOn with
  | ind m ih =>
    intro m2 t q2 τ hm h1 hm2 h hT hP hg
    have hl := gm_lt k m2
    rw [← hg] at hl
    dsimp only at hl
    have hb1 := (tbN_c q2 (m2 - 1)).1
    have hb2 := (tbN_c q2 (m2 - 2)).1
    have hb3 := (tbN_c t (m2 - 1)).1
    have hb4 := (tbN_c t (m2 - k)).1
    have hb5 := tbN_c t n
    have hb6 := (tbN_c q2 (n - 1)).1
    refine tt_iload_n d_Y_game_56 rfl ?_
    refine tt_iload_n d_Y_game_57 rfl ?_
    refine tn_ic_gt (t := 143) (by omega) (by omega) d_Y_game_58 (by decide) (fun c_58 => ?_) (fun c_58 => ?_)
    · obtain rfl : m2 = n + 1 := by omega
      rw [← hg]
      dsimp only
      unfold gmA
      refine tt_aload_n d_Y_game_143 rfl ?_
      refine tt_iconst (v := nI 0) d_Y_game_144 (by decide) ?_
      refine tt_putI d_Y_game_145 rfl rfl (by decide) rfl (xpok_int rfl) rfl ?_
      replace h := h.td0
      have hd := YD_0t h
      replace hT : ∀ j, j < n + 1 → si (wF _ 154 1 (nI 0)) 183 j = nI (tbN t j) := hT
      replace hP : ∀ j, j < n + 1 → si (wF _ 154 1 (nI 0)) 184 j = nI (tbN q2 j) := hP
      refine tt_aload_n d_Y_game_148 rfl ?_
      refine tt_getR d_Y_game_149 rfl rfl (by decide) rfl rfl ?_
      refine tt_iload_n d_Y_game_152 rfl ?_
      refine tn_zald d_Y_game_153 rfl (by decide) (by omega) (show _ = nI (tbN t (n)) from hT (n) (by omega)) ?_
      refine tn_if_eq (t := 179) (by omega) d_Y_game_154 (by decide) (fun c_154 => ?_) (fun c_154 => ?_)
      · rw [if_neg (hb5.2.2.mp c_154)]
        refine tt_aload_n d_Y_game_179 rfl ?_
        refine tt_getR d_Y_game_180 rfl rfl (by decide) rfl rfl ?_
        refine tt_iload_n d_Y_game_183 rfl ?_
        refine tn_zald d_Y_game_184 rfl (by decide) (by omega) (show _ = nI (tbN t (n)) from hT (n) (by omega)) ?_
        refine tt_callS (y_flagN (d := d) (by omega)) cw_Y_flag rfl (by omega) d_Y_game_185 rfl rfl (Nat.le_of_ble_eq_true rfl) (Nat.le_of_ble_eq_true rfl) rfl rfl rfl (fun v σ2 q => ?_)
        obtain ⟨rfl, e9⟩ := q
        rw [e9]
        clear e9
        refine tt_iret rfl d_Y_game_188 ?_
        rw [show tbN t n = 0 by omega]
        exact ⟨rfl, h.done hd, h.2⟩
      · rw [if_pos (hb5.2.1.mp (by omega))]
        refine tt_aload_n d_Y_game_157 rfl ?_
        refine tt_aload_n d_Y_game_158 rfl ?_
        refine tt_getR d_Y_game_159 rfl rfl (by decide) rfl rfl ?_
        refine tt_iload_n d_Y_game_162 rfl ?_
        refine tt_iconst (v := nI 1) d_Y_game_163 (by decide) ?_
        refine tn_isub (by omega) d_Y_game_164 ?_
        refine tn_zald d_Y_game_165 rfl (by decide) (by omega) (show _ = nI (tbN q2 (n - 1)) from hP (n - 1) (by omega)) ?_
        refine tn_if_eq (t := 175) (by omega) d_Y_game_166 (by decide) (fun c_166 => ?_) (fun c_166 => ?_)
        · rw [if_pos (show lvB q2 n 1 = true from by rw [lv1 (by omega), decide_eq_true (by omega)])]
          refine tt_lconst (v := 1) d_Y_game_175 (by decide) ?_
          refine tt_callV (yq_add (d := d) h hd (Nat.le_of_ble_eq_true rfl)) cw_Y_enters rfl rfl (by decide) rfl (by omega) d_Y_game_176 rfl rfl (Nat.le_of_ble_eq_true rfl) (Nat.le_of_ble_eq_true rfl) rfl rfl rfl (fun v σ2 q => ?_)
          obtain ⟨rfl, h, hd, hf⟩ := q
          replace hT : ∀ j, j < n + 1 → si _ 183 j = nI (tbN t j) := fun j hj => (congrFun (hf.si 183) j).trans (hT j hj)
          refine tt_aload_n d_Y_game_179 rfl ?_
          refine tt_getR d_Y_game_180 rfl rfl (by decide) rfl rfl ?_
          refine tt_iload_n d_Y_game_183 rfl ?_
          refine tn_zald d_Y_game_184 rfl (by decide) (by omega) (show _ = nI (tbN t (n)) from hT (n) (by omega)) ?_
          refine tt_callS (y_flagN (d := d) (by omega)) cw_Y_flag rfl (by omega) d_Y_game_185 rfl rfl (Nat.le_of_ble_eq_true rfl) (Nat.le_of_ble_eq_true rfl) rfl rfl rfl (fun v σ2 q => ?_)
          obtain ⟨rfl, e9⟩ := q
          rw [e9]
          clear e9
          refine tt_iret rfl d_Y_game_188 ?_
          rw [show tbN t n = 1 by omega]
          exact ⟨rfl, h.done hd, h.2⟩
        · rw [if_neg (show ¬ lvB q2 n 1 = true from by rw [lv1 (by omega), decide_eq_false (by omega)]; decide)]
          refine tt_ldc2_w d_Y_game_169 rfl ?_
          refine tt_goto (t := 176) d_Y_game_172 (by decide) ?_
          refine tt_callV (yq_add (d := d) h hd (Nat.le_of_ble_eq_true rfl)) cw_Y_enters rfl rfl (by decide) rfl (by omega) d_Y_game_176 rfl rfl (Nat.le_of_ble_eq_true rfl) (Nat.le_of_ble_eq_true rfl) rfl rfl rfl (fun v σ2 q => ?_)
          obtain ⟨rfl, h, hd, hf⟩ := q
          replace hT : ∀ j, j < n + 1 → si _ 183 j = nI (tbN t j) := fun j hj => (congrFun (hf.si 183) j).trans (hT j hj)
          refine tt_aload_n d_Y_game_179 rfl ?_
          refine tt_getR d_Y_game_180 rfl rfl (by decide) rfl rfl ?_
          refine tt_iload_n d_Y_game_183 rfl ?_
          refine tn_zald d_Y_game_184 rfl (by decide) (by omega) (show _ = nI (tbN t (n)) from hT (n) (by omega)) ?_
          refine tt_callS (y_flagN (d := d) (by omega)) cw_Y_flag rfl (by omega) d_Y_game_185 rfl rfl (Nat.le_of_ble_eq_true rfl) (Nat.le_of_ble_eq_true rfl) rfl rfl rfl (fun v σ2 q => ?_)
          obtain ⟨rfl, e9⟩ := q
          rw [e9]
          clear e9
          refine tt_iret rfl d_Y_game_188 ?_
          rw [show tbN t n = 1 by omega]
          exact ⟨rfl, h.done hd, h.2⟩
    · refine tt_aload_n d_Y_game_61 rfl ?_
      refine tt_getR d_Y_game_62 rfl rfl (by decide) rfl rfl ?_
      refine tt_iload_n d_Y_game_65 rfl ?_
      refine tt_aload_n d_Y_game_66 rfl ?_
      refine tt_getR d_Y_game_67 rfl rfl (by decide) rfl rfl ?_
      refine tt_iload_n d_Y_game_70 rfl ?_
      refine tt_iconst (v := nI 1) d_Y_game_71 (by decide) ?_
      refine tn_isub (by omega) d_Y_game_72 ?_
      refine tn_zald d_Y_game_73 rfl (by decide) (by omega) (show _ = nI (tbN q2 (m2 - 1)) from hP (m2 - 1) (by omega)) ?_
      refine tn_if_eq (t := 93) (by omega) d_Y_game_74 (by decide) (fun c_74 => ?_) (fun c_74 => ?_)
      · refine tt_iconst (v := nI 1) d_Y_game_93 (by decide) ?_
        refine tt_goto (t := 98) d_Y_game_94 (by decide) ?_
        refine tn_zast d_Y_game_98 rfl (by decide) (by omega) rfl ?_
        replace h := yw_g (a := 183) (j := m2) (x := nI 1) (by decide) h
        replace hT : ∀ j, j < m2 → si (wI τ 183 m2 (nI 1)) 183 j = nI (tbN t j) := fun j hj => by rw [si_wI, if_neg (fun z => by omega)]; exact hT j hj
        replace hP : ∀ j, j < m2 → si (wI τ 183 m2 (nI 1)) 184 j = nI (tbN q2 j) := fun j hj => hP j hj
        refine tt_aload_n d_Y_game_99 rfl ?_
        refine tt_getR d_Y_game_100 rfl rfl (by decide) rfl rfl ?_
        refine tt_iload_n d_Y_game_103 rfl ?_
        refine tt_aload_n d_Y_game_104 rfl ?_
        refine tt_getR d_Y_game_105 rfl rfl (by decide) rfl rfl ?_
        refine tt_iload_n d_Y_game_108 rfl ?_
        refine tt_iconst (v := nI 1) d_Y_game_109 (by decide) ?_
        refine tn_isub (by omega) d_Y_game_110 ?_
        refine tn_zald d_Y_game_111 rfl (by decide) (by omega) (show _ = nI (tbN t (m2 - 1)) from hT (m2 - 1) (by omega)) ?_
        refine tn_if_eq (t := 131) (by omega) d_Y_game_112 (by decide) (fun c_112 => ?_) (fun c_112 => ?_)
        · refine tt_iconst (v := nI 1) d_Y_game_131 (by decide) ?_
          refine tt_goto (t := 136) d_Y_game_132 (by decide) ?_
          refine tn_zast d_Y_game_136 rfl (by decide) (by omega) rfl ?_
          replace h := yw_g (a := 184) (j := m2) (x := nI 1) (by decide) h
          have hz := gm_s (a := true) (b := true) hg (by omega) (by rw [lv1 (by omega), decide_eq_true (by omega)]; rfl) (by rw [lv1 (by omega), decide_eq_true (by omega)]; rfl)
          have hT2 : ∀ j, j < m2 + 1 → si (wI (wI τ 183 m2 (nI 1)) 184 m2 (nI 1)) 183 j = nI (tbN (t ||| (if true = true then 2 ^ m2 else 0)) j) := fun j hj => by
            rw [← gm_ar (b := true) (f := fun j => si (wI τ 183 m2 (nI 1)) 183 j) hT hl.1 j hj]
            show si (wI τ 183 m2 (nI 1)) 183 j = if j = m2 then nI 1 else si (wI τ 183 m2 (nI 1)) 183 j
            by_cases y : j = m2
            · rw [if_pos y, si_wI, if_pos ⟨rfl, y⟩]
            · rw [if_neg y]
          have hP2 : ∀ j, j < m2 + 1 → si (wI (wI τ 183 m2 (nI 1)) 184 m2 (nI 1)) 184 j = nI (tbN (q2 ||| (if true = true then 2 ^ m2 else 0)) j) := fun j hj => by
            rw [← gm_ar (b := true) (f := fun j => si (wI τ 183 m2 (nI 1)) 184 j) hP hl.2 j hj]
            show si (wI (wI τ 183 m2 (nI 1)) 184 m2 (nI 1)) 184 j = if j = m2 then nI 1 else si (wI τ 183 m2 (nI 1)) 184 j
            by_cases y : j = m2
            · rw [if_pos y, si_wI, if_pos ⟨rfl, y⟩]
            · rw [if_neg y, si_wI, if_neg (fun z => y z.2)]
          refine tt_iinc (lv2 := [_, _, _, _]) d_Y_game_137 rfl (nI_inc _ 1) (by decide) rfl ?_
          refine tt_goto (t := 56) d_Y_game_140 (by decide) ?_
          exact ih (n + 1 - (m2 + 1)) (by omega) (m2 + 1) _ _ _ rfl (by omega) (by omega) h hT2 hP2 hz
        · refine tt_iload_n d_Y_game_115 rfl ?_
          refine tt_iload_n d_Y_game_116 rfl ?_
          refine tn_ic_lt (t := 135) (by omega) (by omega) d_Y_game_117 (by decide) (fun c_117 => ?_) (fun c_117 => ?_)
          · refine tt_iconst (v := nI 0) d_Y_game_135 (by decide) ?_
            refine tn_zast d_Y_game_136 rfl (by decide) (by omega) rfl ?_
            replace h := yw_g (a := 184) (j := m2) (x := nI 0) (by decide) h
            have hz := gm_s (a := true) (b := false) hg (by omega) (by rw [lv1 (by omega), decide_eq_true (by omega)]; rfl) (by rw [lv1 (by omega), decide_eq_false (by omega), lv0 (by omega)]; rfl)
            have hT2 : ∀ j, j < m2 + 1 → si (wI (wI τ 183 m2 (nI 1)) 184 m2 (nI 0)) 183 j = nI (tbN (t ||| (if true = true then 2 ^ m2 else 0)) j) := fun j hj => by
              rw [← gm_ar (b := true) (f := fun j => si (wI τ 183 m2 (nI 1)) 183 j) hT hl.1 j hj]
              show si (wI τ 183 m2 (nI 1)) 183 j = if j = m2 then nI 1 else si (wI τ 183 m2 (nI 1)) 183 j
              by_cases y : j = m2
              · rw [if_pos y, si_wI, if_pos ⟨rfl, y⟩]
              · rw [if_neg y]
            have hP2 : ∀ j, j < m2 + 1 → si (wI (wI τ 183 m2 (nI 1)) 184 m2 (nI 0)) 184 j = nI (tbN (q2 ||| (if false = true then 2 ^ m2 else 0)) j) := fun j hj => by
              rw [← gm_ar (b := false) (f := fun j => si (wI τ 183 m2 (nI 1)) 184 j) hP hl.2 j hj]
              show si (wI (wI τ 183 m2 (nI 1)) 184 m2 (nI 0)) 184 j = if j = m2 then nI 0 else si (wI τ 183 m2 (nI 1)) 184 j
              by_cases y : j = m2
              · rw [if_pos y, si_wI, if_pos ⟨rfl, y⟩]
              · rw [if_neg y, si_wI, if_neg (fun z => y z.2)]
            refine tt_iinc (lv2 := [_, _, _, _]) d_Y_game_137 rfl (nI_inc _ 1) (by decide) rfl ?_
            refine tt_goto (t := 56) d_Y_game_140 (by decide) ?_
            exact ih (n + 1 - (m2 + 1)) (by omega) (m2 + 1) _ _ _ rfl (by omega) (by omega) h hT2 hP2 hz
          · refine tt_aload_n d_Y_game_120 rfl ?_
            refine tt_getR d_Y_game_121 rfl rfl (by decide) rfl rfl ?_
            refine tt_iload_n d_Y_game_124 rfl ?_
            refine tt_iload_n d_Y_game_125 rfl ?_
            refine tn_isub (by omega) d_Y_game_126 ?_
            refine tn_zald d_Y_game_127 rfl (by decide) (by omega) (show _ = nI (tbN t (m2 - k)) from hT (m2 - k) (by omega)) ?_
            refine tn_if_ne (t := 135) (by omega) d_Y_game_128 (by decide) (fun c_128 => ?_) (fun c_128 => ?_)
            · refine tt_iconst (v := nI 0) d_Y_game_135 (by decide) ?_
              refine tn_zast d_Y_game_136 rfl (by decide) (by omega) rfl ?_
              replace h := yw_g (a := 184) (j := m2) (x := nI 0) (by decide) h
              have hz := gm_s (a := true) (b := false) hg (by omega) (by rw [lv1 (by omega), decide_eq_true (by omega)]; rfl) (by rw [lv1 (by omega), decide_eq_false (by omega), lv1 (by omega), decide_eq_false (by omega)]; rfl)
              have hT2 : ∀ j, j < m2 + 1 → si (wI (wI τ 183 m2 (nI 1)) 184 m2 (nI 0)) 183 j = nI (tbN (t ||| (if true = true then 2 ^ m2 else 0)) j) := fun j hj => by
                rw [← gm_ar (b := true) (f := fun j => si (wI τ 183 m2 (nI 1)) 183 j) hT hl.1 j hj]
                show si (wI τ 183 m2 (nI 1)) 183 j = if j = m2 then nI 1 else si (wI τ 183 m2 (nI 1)) 183 j
                by_cases y : j = m2
                · rw [if_pos y, si_wI, if_pos ⟨rfl, y⟩]
                · rw [if_neg y]
              have hP2 : ∀ j, j < m2 + 1 → si (wI (wI τ 183 m2 (nI 1)) 184 m2 (nI 0)) 184 j = nI (tbN (q2 ||| (if false = true then 2 ^ m2 else 0)) j) := fun j hj => by
                rw [← gm_ar (b := false) (f := fun j => si (wI τ 183 m2 (nI 1)) 184 j) hP hl.2 j hj]
                show si (wI (wI τ 183 m2 (nI 1)) 184 m2 (nI 0)) 184 j = if j = m2 then nI 0 else si (wI τ 183 m2 (nI 1)) 184 j
                by_cases y : j = m2
                · rw [if_pos y, si_wI, if_pos ⟨rfl, y⟩]
                · rw [if_neg y, si_wI, if_neg (fun z => y z.2)]
              refine tt_iinc (lv2 := [_, _, _, _]) d_Y_game_137 rfl (nI_inc _ 1) (by decide) rfl ?_
              refine tt_goto (t := 56) d_Y_game_140 (by decide) ?_
              exact ih (n + 1 - (m2 + 1)) (by omega) (m2 + 1) _ _ _ rfl (by omega) (by omega) h hT2 hP2 hz
            · refine tt_iconst (v := nI 1) d_Y_game_131 (by decide) ?_
              refine tt_goto (t := 136) d_Y_game_132 (by decide) ?_
              refine tn_zast d_Y_game_136 rfl (by decide) (by omega) rfl ?_
              replace h := yw_g (a := 184) (j := m2) (x := nI 1) (by decide) h
              have hz := gm_s (a := true) (b := true) hg (by omega) (by rw [lv1 (by omega), decide_eq_true (by omega)]; rfl) (by rw [lv1 (by omega), decide_eq_false (by omega), lv1 (by omega), decide_eq_true (by omega)]; rfl)
              have hT2 : ∀ j, j < m2 + 1 → si (wI (wI τ 183 m2 (nI 1)) 184 m2 (nI 1)) 183 j = nI (tbN (t ||| (if true = true then 2 ^ m2 else 0)) j) := fun j hj => by
                rw [← gm_ar (b := true) (f := fun j => si (wI τ 183 m2 (nI 1)) 183 j) hT hl.1 j hj]
                show si (wI τ 183 m2 (nI 1)) 183 j = if j = m2 then nI 1 else si (wI τ 183 m2 (nI 1)) 183 j
                by_cases y : j = m2
                · rw [if_pos y, si_wI, if_pos ⟨rfl, y⟩]
                · rw [if_neg y]
              have hP2 : ∀ j, j < m2 + 1 → si (wI (wI τ 183 m2 (nI 1)) 184 m2 (nI 1)) 184 j = nI (tbN (q2 ||| (if true = true then 2 ^ m2 else 0)) j) := fun j hj => by
                rw [← gm_ar (b := true) (f := fun j => si (wI τ 183 m2 (nI 1)) 184 j) hP hl.2 j hj]
                show si (wI (wI τ 183 m2 (nI 1)) 184 m2 (nI 1)) 184 j = if j = m2 then nI 1 else si (wI τ 183 m2 (nI 1)) 184 j
                by_cases y : j = m2
                · rw [if_pos y, si_wI, if_pos ⟨rfl, y⟩]
                · rw [if_neg y, si_wI, if_neg (fun z => y z.2)]
              refine tt_iinc (lv2 := [_, _, _, _]) d_Y_game_137 rfl (nI_inc _ 1) (by decide) rfl ?_
              refine tt_goto (t := 56) d_Y_game_140 (by decide) ?_
              exact ih (n + 1 - (m2 + 1)) (by omega) (m2 + 1) _ _ _ rfl (by omega) (by omega) h hT2 hP2 hz
      · refine tt_iload_n d_Y_game_77 rfl ?_
        refine tt_iconst (v := nI 1) d_Y_game_78 (by decide) ?_
        refine tn_ic_le (t := 97) (by omega) (by omega) d_Y_game_79 (by decide) (fun c_79 => ?_) (fun c_79 => ?_)
        · refine tt_iconst (v := nI 0) d_Y_game_97 (by decide) ?_
          refine tn_zast d_Y_game_98 rfl (by decide) (by omega) rfl ?_
          replace h := yw_g (a := 183) (j := m2) (x := nI 0) (by decide) h
          replace hT : ∀ j, j < m2 → si (wI τ 183 m2 (nI 0)) 183 j = nI (tbN t j) := fun j hj => by rw [si_wI, if_neg (fun z => by omega)]; exact hT j hj
          replace hP : ∀ j, j < m2 → si (wI τ 183 m2 (nI 0)) 184 j = nI (tbN q2 j) := fun j hj => hP j hj
          refine tt_aload_n d_Y_game_99 rfl ?_
          refine tt_getR d_Y_game_100 rfl rfl (by decide) rfl rfl ?_
          refine tt_iload_n d_Y_game_103 rfl ?_
          refine tt_aload_n d_Y_game_104 rfl ?_
          refine tt_getR d_Y_game_105 rfl rfl (by decide) rfl rfl ?_
          refine tt_iload_n d_Y_game_108 rfl ?_
          refine tt_iconst (v := nI 1) d_Y_game_109 (by decide) ?_
          refine tn_isub (by omega) d_Y_game_110 ?_
          refine tn_zald d_Y_game_111 rfl (by decide) (by omega) (show _ = nI (tbN t (m2 - 1)) from hT (m2 - 1) (by omega)) ?_
          refine tn_if_eq (t := 131) (by omega) d_Y_game_112 (by decide) (fun c_112 => ?_) (fun c_112 => ?_)
          · refine tt_iconst (v := nI 1) d_Y_game_131 (by decide) ?_
            refine tt_goto (t := 136) d_Y_game_132 (by decide) ?_
            refine tn_zast d_Y_game_136 rfl (by decide) (by omega) rfl ?_
            replace h := yw_g (a := 184) (j := m2) (x := nI 1) (by decide) h
            have hz := gm_s (a := false) (b := true) hg (by omega) (by rw [lv1 (by omega), decide_eq_false (by omega), lv0 (by omega)]; rfl) (by rw [lv1 (by omega), decide_eq_true (by omega)]; rfl)
            have hT2 : ∀ j, j < m2 + 1 → si (wI (wI τ 183 m2 (nI 0)) 184 m2 (nI 1)) 183 j = nI (tbN (t ||| (if false = true then 2 ^ m2 else 0)) j) := fun j hj => by
              rw [← gm_ar (b := false) (f := fun j => si (wI τ 183 m2 (nI 0)) 183 j) hT hl.1 j hj]
              show si (wI τ 183 m2 (nI 0)) 183 j = if j = m2 then nI 0 else si (wI τ 183 m2 (nI 0)) 183 j
              by_cases y : j = m2
              · rw [if_pos y, si_wI, if_pos ⟨rfl, y⟩]
              · rw [if_neg y]
            have hP2 : ∀ j, j < m2 + 1 → si (wI (wI τ 183 m2 (nI 0)) 184 m2 (nI 1)) 184 j = nI (tbN (q2 ||| (if true = true then 2 ^ m2 else 0)) j) := fun j hj => by
              rw [← gm_ar (b := true) (f := fun j => si (wI τ 183 m2 (nI 0)) 184 j) hP hl.2 j hj]
              show si (wI (wI τ 183 m2 (nI 0)) 184 m2 (nI 1)) 184 j = if j = m2 then nI 1 else si (wI τ 183 m2 (nI 0)) 184 j
              by_cases y : j = m2
              · rw [if_pos y, si_wI, if_pos ⟨rfl, y⟩]
              · rw [if_neg y, si_wI, if_neg (fun z => y z.2)]
            refine tt_iinc (lv2 := [_, _, _, _]) d_Y_game_137 rfl (nI_inc _ 1) (by decide) rfl ?_
            refine tt_goto (t := 56) d_Y_game_140 (by decide) ?_
            exact ih (n + 1 - (m2 + 1)) (by omega) (m2 + 1) _ _ _ rfl (by omega) (by omega) h hT2 hP2 hz
          · refine tt_iload_n d_Y_game_115 rfl ?_
            refine tt_iload_n d_Y_game_116 rfl ?_
            refine tn_ic_lt (t := 135) (by omega) (by omega) d_Y_game_117 (by decide) (fun c_117 => ?_) (fun c_117 => ?_)
            · refine tt_iconst (v := nI 0) d_Y_game_135 (by decide) ?_
              refine tn_zast d_Y_game_136 rfl (by decide) (by omega) rfl ?_
              replace h := yw_g (a := 184) (j := m2) (x := nI 0) (by decide) h
              have hz := gm_s (a := false) (b := false) hg (by omega) (by rw [lv1 (by omega), decide_eq_false (by omega), lv0 (by omega)]; rfl) (by rw [lv1 (by omega), decide_eq_false (by omega), lv0 (by omega)]; rfl)
              have hT2 : ∀ j, j < m2 + 1 → si (wI (wI τ 183 m2 (nI 0)) 184 m2 (nI 0)) 183 j = nI (tbN (t ||| (if false = true then 2 ^ m2 else 0)) j) := fun j hj => by
                rw [← gm_ar (b := false) (f := fun j => si (wI τ 183 m2 (nI 0)) 183 j) hT hl.1 j hj]
                show si (wI τ 183 m2 (nI 0)) 183 j = if j = m2 then nI 0 else si (wI τ 183 m2 (nI 0)) 183 j
                by_cases y : j = m2
                · rw [if_pos y, si_wI, if_pos ⟨rfl, y⟩]
                · rw [if_neg y]
              have hP2 : ∀ j, j < m2 + 1 → si (wI (wI τ 183 m2 (nI 0)) 184 m2 (nI 0)) 184 j = nI (tbN (q2 ||| (if false = true then 2 ^ m2 else 0)) j) := fun j hj => by
                rw [← gm_ar (b := false) (f := fun j => si (wI τ 183 m2 (nI 0)) 184 j) hP hl.2 j hj]
                show si (wI (wI τ 183 m2 (nI 0)) 184 m2 (nI 0)) 184 j = if j = m2 then nI 0 else si (wI τ 183 m2 (nI 0)) 184 j
                by_cases y : j = m2
                · rw [if_pos y, si_wI, if_pos ⟨rfl, y⟩]
                · rw [if_neg y, si_wI, if_neg (fun z => y z.2)]
              refine tt_iinc (lv2 := [_, _, _, _]) d_Y_game_137 rfl (nI_inc _ 1) (by decide) rfl ?_
              refine tt_goto (t := 56) d_Y_game_140 (by decide) ?_
              exact ih (n + 1 - (m2 + 1)) (by omega) (m2 + 1) _ _ _ rfl (by omega) (by omega) h hT2 hP2 hz
            · refine tt_aload_n d_Y_game_120 rfl ?_
              refine tt_getR d_Y_game_121 rfl rfl (by decide) rfl rfl ?_
              refine tt_iload_n d_Y_game_124 rfl ?_
              refine tt_iload_n d_Y_game_125 rfl ?_
              refine tn_isub (by omega) d_Y_game_126 ?_
              refine tn_zald d_Y_game_127 rfl (by decide) (by omega) (show _ = nI (tbN t (m2 - k)) from hT (m2 - k) (by omega)) ?_
              refine tn_if_ne (t := 135) (by omega) d_Y_game_128 (by decide) (fun c_128 => ?_) (fun c_128 => ?_)
              · refine tt_iconst (v := nI 0) d_Y_game_135 (by decide) ?_
                refine tn_zast d_Y_game_136 rfl (by decide) (by omega) rfl ?_
                replace h := yw_g (a := 184) (j := m2) (x := nI 0) (by decide) h
                have hz := gm_s (a := false) (b := false) hg (by omega) (by rw [lv1 (by omega), decide_eq_false (by omega), lv0 (by omega)]; rfl) (by rw [lv1 (by omega), decide_eq_false (by omega), lv1 (by omega), decide_eq_false (by omega)]; rfl)
                have hT2 : ∀ j, j < m2 + 1 → si (wI (wI τ 183 m2 (nI 0)) 184 m2 (nI 0)) 183 j = nI (tbN (t ||| (if false = true then 2 ^ m2 else 0)) j) := fun j hj => by
                  rw [← gm_ar (b := false) (f := fun j => si (wI τ 183 m2 (nI 0)) 183 j) hT hl.1 j hj]
                  show si (wI τ 183 m2 (nI 0)) 183 j = if j = m2 then nI 0 else si (wI τ 183 m2 (nI 0)) 183 j
                  by_cases y : j = m2
                  · rw [if_pos y, si_wI, if_pos ⟨rfl, y⟩]
                  · rw [if_neg y]
                have hP2 : ∀ j, j < m2 + 1 → si (wI (wI τ 183 m2 (nI 0)) 184 m2 (nI 0)) 184 j = nI (tbN (q2 ||| (if false = true then 2 ^ m2 else 0)) j) := fun j hj => by
                  rw [← gm_ar (b := false) (f := fun j => si (wI τ 183 m2 (nI 0)) 184 j) hP hl.2 j hj]
                  show si (wI (wI τ 183 m2 (nI 0)) 184 m2 (nI 0)) 184 j = if j = m2 then nI 0 else si (wI τ 183 m2 (nI 0)) 184 j
                  by_cases y : j = m2
                  · rw [if_pos y, si_wI, if_pos ⟨rfl, y⟩]
                  · rw [if_neg y, si_wI, if_neg (fun z => y z.2)]
                refine tt_iinc (lv2 := [_, _, _, _]) d_Y_game_137 rfl (nI_inc _ 1) (by decide) rfl ?_
                refine tt_goto (t := 56) d_Y_game_140 (by decide) ?_
                exact ih (n + 1 - (m2 + 1)) (by omega) (m2 + 1) _ _ _ rfl (by omega) (by omega) h hT2 hP2 hz
              · refine tt_iconst (v := nI 1) d_Y_game_131 (by decide) ?_
                refine tt_goto (t := 136) d_Y_game_132 (by decide) ?_
                refine tn_zast d_Y_game_136 rfl (by decide) (by omega) rfl ?_
                replace h := yw_g (a := 184) (j := m2) (x := nI 1) (by decide) h
                have hz := gm_s (a := false) (b := true) hg (by omega) (by rw [lv1 (by omega), decide_eq_false (by omega), lv0 (by omega)]; rfl) (by rw [lv1 (by omega), decide_eq_false (by omega), lv1 (by omega), decide_eq_true (by omega)]; rfl)
                have hT2 : ∀ j, j < m2 + 1 → si (wI (wI τ 183 m2 (nI 0)) 184 m2 (nI 1)) 183 j = nI (tbN (t ||| (if false = true then 2 ^ m2 else 0)) j) := fun j hj => by
                  rw [← gm_ar (b := false) (f := fun j => si (wI τ 183 m2 (nI 0)) 183 j) hT hl.1 j hj]
                  show si (wI τ 183 m2 (nI 0)) 183 j = if j = m2 then nI 0 else si (wI τ 183 m2 (nI 0)) 183 j
                  by_cases y : j = m2
                  · rw [if_pos y, si_wI, if_pos ⟨rfl, y⟩]
                  · rw [if_neg y]
                have hP2 : ∀ j, j < m2 + 1 → si (wI (wI τ 183 m2 (nI 0)) 184 m2 (nI 1)) 184 j = nI (tbN (q2 ||| (if true = true then 2 ^ m2 else 0)) j) := fun j hj => by
                  rw [← gm_ar (b := true) (f := fun j => si (wI τ 183 m2 (nI 0)) 184 j) hP hl.2 j hj]
                  show si (wI (wI τ 183 m2 (nI 0)) 184 m2 (nI 1)) 184 j = if j = m2 then nI 1 else si (wI τ 183 m2 (nI 0)) 184 j
                  by_cases y : j = m2
                  · rw [if_pos y, si_wI, if_pos ⟨rfl, y⟩]
                  · rw [if_neg y, si_wI, if_neg (fun z => y z.2)]
                refine tt_iinc (lv2 := [_, _, _, _]) d_Y_game_137 rfl (nI_inc _ 1) (by decide) rfl ?_
                refine tt_goto (t := 56) d_Y_game_140 (by decide) ?_
                exact ih (n + 1 - (m2 + 1)) (by omega) (m2 + 1) _ _ _ rfl (by omega) (by omega) h hT2 hP2 hz
        · refine tt_aload_n d_Y_game_82 rfl ?_
          refine tt_getR d_Y_game_83 rfl rfl (by decide) rfl rfl ?_
          refine tt_iload_n d_Y_game_86 rfl ?_
          refine tt_iconst (v := nI 2) d_Y_game_87 (by decide) ?_
          refine tn_isub (by omega) d_Y_game_88 ?_
          refine tn_zald d_Y_game_89 rfl (by decide) (by omega) (show _ = nI (tbN q2 (m2 - 2)) from hP (m2 - 2) (by omega)) ?_
          refine tn_if_ne (t := 97) (by omega) d_Y_game_90 (by decide) (fun c_90 => ?_) (fun c_90 => ?_)
          · refine tt_iconst (v := nI 0) d_Y_game_97 (by decide) ?_
            refine tn_zast d_Y_game_98 rfl (by decide) (by omega) rfl ?_
            replace h := yw_g (a := 183) (j := m2) (x := nI 0) (by decide) h
            replace hT : ∀ j, j < m2 → si (wI τ 183 m2 (nI 0)) 183 j = nI (tbN t j) := fun j hj => by rw [si_wI, if_neg (fun z => by omega)]; exact hT j hj
            replace hP : ∀ j, j < m2 → si (wI τ 183 m2 (nI 0)) 184 j = nI (tbN q2 j) := fun j hj => hP j hj
            refine tt_aload_n d_Y_game_99 rfl ?_
            refine tt_getR d_Y_game_100 rfl rfl (by decide) rfl rfl ?_
            refine tt_iload_n d_Y_game_103 rfl ?_
            refine tt_aload_n d_Y_game_104 rfl ?_
            refine tt_getR d_Y_game_105 rfl rfl (by decide) rfl rfl ?_
            refine tt_iload_n d_Y_game_108 rfl ?_
            refine tt_iconst (v := nI 1) d_Y_game_109 (by decide) ?_
            refine tn_isub (by omega) d_Y_game_110 ?_
            refine tn_zald d_Y_game_111 rfl (by decide) (by omega) (show _ = nI (tbN t (m2 - 1)) from hT (m2 - 1) (by omega)) ?_
            refine tn_if_eq (t := 131) (by omega) d_Y_game_112 (by decide) (fun c_112 => ?_) (fun c_112 => ?_)
            · refine tt_iconst (v := nI 1) d_Y_game_131 (by decide) ?_
              refine tt_goto (t := 136) d_Y_game_132 (by decide) ?_
              refine tn_zast d_Y_game_136 rfl (by decide) (by omega) rfl ?_
              replace h := yw_g (a := 184) (j := m2) (x := nI 1) (by decide) h
              have hz := gm_s (a := false) (b := true) hg (by omega) (by rw [lv1 (by omega), decide_eq_false (by omega), lv1 (by omega), decide_eq_false (by omega)]; rfl) (by rw [lv1 (by omega), decide_eq_true (by omega)]; rfl)
              have hT2 : ∀ j, j < m2 + 1 → si (wI (wI τ 183 m2 (nI 0)) 184 m2 (nI 1)) 183 j = nI (tbN (t ||| (if false = true then 2 ^ m2 else 0)) j) := fun j hj => by
                rw [← gm_ar (b := false) (f := fun j => si (wI τ 183 m2 (nI 0)) 183 j) hT hl.1 j hj]
                show si (wI τ 183 m2 (nI 0)) 183 j = if j = m2 then nI 0 else si (wI τ 183 m2 (nI 0)) 183 j
                by_cases y : j = m2
                · rw [if_pos y, si_wI, if_pos ⟨rfl, y⟩]
                · rw [if_neg y]
              have hP2 : ∀ j, j < m2 + 1 → si (wI (wI τ 183 m2 (nI 0)) 184 m2 (nI 1)) 184 j = nI (tbN (q2 ||| (if true = true then 2 ^ m2 else 0)) j) := fun j hj => by
                rw [← gm_ar (b := true) (f := fun j => si (wI τ 183 m2 (nI 0)) 184 j) hP hl.2 j hj]
                show si (wI (wI τ 183 m2 (nI 0)) 184 m2 (nI 1)) 184 j = if j = m2 then nI 1 else si (wI τ 183 m2 (nI 0)) 184 j
                by_cases y : j = m2
                · rw [if_pos y, si_wI, if_pos ⟨rfl, y⟩]
                · rw [if_neg y, si_wI, if_neg (fun z => y z.2)]
              refine tt_iinc (lv2 := [_, _, _, _]) d_Y_game_137 rfl (nI_inc _ 1) (by decide) rfl ?_
              refine tt_goto (t := 56) d_Y_game_140 (by decide) ?_
              exact ih (n + 1 - (m2 + 1)) (by omega) (m2 + 1) _ _ _ rfl (by omega) (by omega) h hT2 hP2 hz
            · refine tt_iload_n d_Y_game_115 rfl ?_
              refine tt_iload_n d_Y_game_116 rfl ?_
              refine tn_ic_lt (t := 135) (by omega) (by omega) d_Y_game_117 (by decide) (fun c_117 => ?_) (fun c_117 => ?_)
              · refine tt_iconst (v := nI 0) d_Y_game_135 (by decide) ?_
                refine tn_zast d_Y_game_136 rfl (by decide) (by omega) rfl ?_
                replace h := yw_g (a := 184) (j := m2) (x := nI 0) (by decide) h
                have hz := gm_s (a := false) (b := false) hg (by omega) (by rw [lv1 (by omega), decide_eq_false (by omega), lv1 (by omega), decide_eq_false (by omega)]; rfl) (by rw [lv1 (by omega), decide_eq_false (by omega), lv0 (by omega)]; rfl)
                have hT2 : ∀ j, j < m2 + 1 → si (wI (wI τ 183 m2 (nI 0)) 184 m2 (nI 0)) 183 j = nI (tbN (t ||| (if false = true then 2 ^ m2 else 0)) j) := fun j hj => by
                  rw [← gm_ar (b := false) (f := fun j => si (wI τ 183 m2 (nI 0)) 183 j) hT hl.1 j hj]
                  show si (wI τ 183 m2 (nI 0)) 183 j = if j = m2 then nI 0 else si (wI τ 183 m2 (nI 0)) 183 j
                  by_cases y : j = m2
                  · rw [if_pos y, si_wI, if_pos ⟨rfl, y⟩]
                  · rw [if_neg y]
                have hP2 : ∀ j, j < m2 + 1 → si (wI (wI τ 183 m2 (nI 0)) 184 m2 (nI 0)) 184 j = nI (tbN (q2 ||| (if false = true then 2 ^ m2 else 0)) j) := fun j hj => by
                  rw [← gm_ar (b := false) (f := fun j => si (wI τ 183 m2 (nI 0)) 184 j) hP hl.2 j hj]
                  show si (wI (wI τ 183 m2 (nI 0)) 184 m2 (nI 0)) 184 j = if j = m2 then nI 0 else si (wI τ 183 m2 (nI 0)) 184 j
                  by_cases y : j = m2
                  · rw [if_pos y, si_wI, if_pos ⟨rfl, y⟩]
                  · rw [if_neg y, si_wI, if_neg (fun z => y z.2)]
                refine tt_iinc (lv2 := [_, _, _, _]) d_Y_game_137 rfl (nI_inc _ 1) (by decide) rfl ?_
                refine tt_goto (t := 56) d_Y_game_140 (by decide) ?_
                exact ih (n + 1 - (m2 + 1)) (by omega) (m2 + 1) _ _ _ rfl (by omega) (by omega) h hT2 hP2 hz
              · refine tt_aload_n d_Y_game_120 rfl ?_
                refine tt_getR d_Y_game_121 rfl rfl (by decide) rfl rfl ?_
                refine tt_iload_n d_Y_game_124 rfl ?_
                refine tt_iload_n d_Y_game_125 rfl ?_
                refine tn_isub (by omega) d_Y_game_126 ?_
                refine tn_zald d_Y_game_127 rfl (by decide) (by omega) (show _ = nI (tbN t (m2 - k)) from hT (m2 - k) (by omega)) ?_
                refine tn_if_ne (t := 135) (by omega) d_Y_game_128 (by decide) (fun c_128 => ?_) (fun c_128 => ?_)
                · refine tt_iconst (v := nI 0) d_Y_game_135 (by decide) ?_
                  refine tn_zast d_Y_game_136 rfl (by decide) (by omega) rfl ?_
                  replace h := yw_g (a := 184) (j := m2) (x := nI 0) (by decide) h
                  have hz := gm_s (a := false) (b := false) hg (by omega) (by rw [lv1 (by omega), decide_eq_false (by omega), lv1 (by omega), decide_eq_false (by omega)]; rfl) (by rw [lv1 (by omega), decide_eq_false (by omega), lv1 (by omega), decide_eq_false (by omega)]; rfl)
                  have hT2 : ∀ j, j < m2 + 1 → si (wI (wI τ 183 m2 (nI 0)) 184 m2 (nI 0)) 183 j = nI (tbN (t ||| (if false = true then 2 ^ m2 else 0)) j) := fun j hj => by
                    rw [← gm_ar (b := false) (f := fun j => si (wI τ 183 m2 (nI 0)) 183 j) hT hl.1 j hj]
                    show si (wI τ 183 m2 (nI 0)) 183 j = if j = m2 then nI 0 else si (wI τ 183 m2 (nI 0)) 183 j
                    by_cases y : j = m2
                    · rw [if_pos y, si_wI, if_pos ⟨rfl, y⟩]
                    · rw [if_neg y]
                  have hP2 : ∀ j, j < m2 + 1 → si (wI (wI τ 183 m2 (nI 0)) 184 m2 (nI 0)) 184 j = nI (tbN (q2 ||| (if false = true then 2 ^ m2 else 0)) j) := fun j hj => by
                    rw [← gm_ar (b := false) (f := fun j => si (wI τ 183 m2 (nI 0)) 184 j) hP hl.2 j hj]
                    show si (wI (wI τ 183 m2 (nI 0)) 184 m2 (nI 0)) 184 j = if j = m2 then nI 0 else si (wI τ 183 m2 (nI 0)) 184 j
                    by_cases y : j = m2
                    · rw [if_pos y, si_wI, if_pos ⟨rfl, y⟩]
                    · rw [if_neg y, si_wI, if_neg (fun z => y z.2)]
                  refine tt_iinc (lv2 := [_, _, _, _]) d_Y_game_137 rfl (nI_inc _ 1) (by decide) rfl ?_
                  refine tt_goto (t := 56) d_Y_game_140 (by decide) ?_
                  exact ih (n + 1 - (m2 + 1)) (by omega) (m2 + 1) _ _ _ rfl (by omega) (by omega) h hT2 hP2 hz
                · refine tt_iconst (v := nI 1) d_Y_game_131 (by decide) ?_
                  refine tt_goto (t := 136) d_Y_game_132 (by decide) ?_
                  refine tn_zast d_Y_game_136 rfl (by decide) (by omega) rfl ?_
                  replace h := yw_g (a := 184) (j := m2) (x := nI 1) (by decide) h
                  have hz := gm_s (a := false) (b := true) hg (by omega) (by rw [lv1 (by omega), decide_eq_false (by omega), lv1 (by omega), decide_eq_false (by omega)]; rfl) (by rw [lv1 (by omega), decide_eq_false (by omega), lv1 (by omega), decide_eq_true (by omega)]; rfl)
                  have hT2 : ∀ j, j < m2 + 1 → si (wI (wI τ 183 m2 (nI 0)) 184 m2 (nI 1)) 183 j = nI (tbN (t ||| (if false = true then 2 ^ m2 else 0)) j) := fun j hj => by
                    rw [← gm_ar (b := false) (f := fun j => si (wI τ 183 m2 (nI 0)) 183 j) hT hl.1 j hj]
                    show si (wI τ 183 m2 (nI 0)) 183 j = if j = m2 then nI 0 else si (wI τ 183 m2 (nI 0)) 183 j
                    by_cases y : j = m2
                    · rw [if_pos y, si_wI, if_pos ⟨rfl, y⟩]
                    · rw [if_neg y]
                  have hP2 : ∀ j, j < m2 + 1 → si (wI (wI τ 183 m2 (nI 0)) 184 m2 (nI 1)) 184 j = nI (tbN (q2 ||| (if true = true then 2 ^ m2 else 0)) j) := fun j hj => by
                    rw [← gm_ar (b := true) (f := fun j => si (wI τ 183 m2 (nI 0)) 184 j) hP hl.2 j hj]
                    show si (wI (wI τ 183 m2 (nI 0)) 184 m2 (nI 1)) 184 j = if j = m2 then nI 1 else si (wI τ 183 m2 (nI 0)) 184 j
                    by_cases y : j = m2
                    · rw [if_pos y, si_wI, if_pos ⟨rfl, y⟩]
                    · rw [if_neg y, si_wI, if_neg (fun z => y z.2)]
                  refine tt_iinc (lv2 := [_, _, _, _]) d_Y_game_137 rfl (nI_inc _ 1) (by decide) rfl ?_
                  refine tt_goto (t := 56) d_Y_game_140 (by decide) ?_
                  exact ih (n + 1 - (m2 + 1)) (by omega) (m2 + 1) _ _ _ rfl (by omega) (by omega) h hT2 hP2 hz
          · refine tt_iconst (v := nI 1) d_Y_game_93 (by decide) ?_
            refine tt_goto (t := 98) d_Y_game_94 (by decide) ?_
            refine tn_zast d_Y_game_98 rfl (by decide) (by omega) rfl ?_
            replace h := yw_g (a := 183) (j := m2) (x := nI 1) (by decide) h
            replace hT : ∀ j, j < m2 → si (wI τ 183 m2 (nI 1)) 183 j = nI (tbN t j) := fun j hj => by rw [si_wI, if_neg (fun z => by omega)]; exact hT j hj
            replace hP : ∀ j, j < m2 → si (wI τ 183 m2 (nI 1)) 184 j = nI (tbN q2 j) := fun j hj => hP j hj
            refine tt_aload_n d_Y_game_99 rfl ?_
            refine tt_getR d_Y_game_100 rfl rfl (by decide) rfl rfl ?_
            refine tt_iload_n d_Y_game_103 rfl ?_
            refine tt_aload_n d_Y_game_104 rfl ?_
            refine tt_getR d_Y_game_105 rfl rfl (by decide) rfl rfl ?_
            refine tt_iload_n d_Y_game_108 rfl ?_
            refine tt_iconst (v := nI 1) d_Y_game_109 (by decide) ?_
            refine tn_isub (by omega) d_Y_game_110 ?_
            refine tn_zald d_Y_game_111 rfl (by decide) (by omega) (show _ = nI (tbN t (m2 - 1)) from hT (m2 - 1) (by omega)) ?_
            refine tn_if_eq (t := 131) (by omega) d_Y_game_112 (by decide) (fun c_112 => ?_) (fun c_112 => ?_)
            · refine tt_iconst (v := nI 1) d_Y_game_131 (by decide) ?_
              refine tt_goto (t := 136) d_Y_game_132 (by decide) ?_
              refine tn_zast d_Y_game_136 rfl (by decide) (by omega) rfl ?_
              replace h := yw_g (a := 184) (j := m2) (x := nI 1) (by decide) h
              have hz := gm_s (a := true) (b := true) hg (by omega) (by rw [lv1 (by omega), decide_eq_false (by omega), lv1 (by omega), decide_eq_true (by omega)]; rfl) (by rw [lv1 (by omega), decide_eq_true (by omega)]; rfl)
              have hT2 : ∀ j, j < m2 + 1 → si (wI (wI τ 183 m2 (nI 1)) 184 m2 (nI 1)) 183 j = nI (tbN (t ||| (if true = true then 2 ^ m2 else 0)) j) := fun j hj => by
                rw [← gm_ar (b := true) (f := fun j => si (wI τ 183 m2 (nI 1)) 183 j) hT hl.1 j hj]
                show si (wI τ 183 m2 (nI 1)) 183 j = if j = m2 then nI 1 else si (wI τ 183 m2 (nI 1)) 183 j
                by_cases y : j = m2
                · rw [if_pos y, si_wI, if_pos ⟨rfl, y⟩]
                · rw [if_neg y]
              have hP2 : ∀ j, j < m2 + 1 → si (wI (wI τ 183 m2 (nI 1)) 184 m2 (nI 1)) 184 j = nI (tbN (q2 ||| (if true = true then 2 ^ m2 else 0)) j) := fun j hj => by
                rw [← gm_ar (b := true) (f := fun j => si (wI τ 183 m2 (nI 1)) 184 j) hP hl.2 j hj]
                show si (wI (wI τ 183 m2 (nI 1)) 184 m2 (nI 1)) 184 j = if j = m2 then nI 1 else si (wI τ 183 m2 (nI 1)) 184 j
                by_cases y : j = m2
                · rw [if_pos y, si_wI, if_pos ⟨rfl, y⟩]
                · rw [if_neg y, si_wI, if_neg (fun z => y z.2)]
              refine tt_iinc (lv2 := [_, _, _, _]) d_Y_game_137 rfl (nI_inc _ 1) (by decide) rfl ?_
              refine tt_goto (t := 56) d_Y_game_140 (by decide) ?_
              exact ih (n + 1 - (m2 + 1)) (by omega) (m2 + 1) _ _ _ rfl (by omega) (by omega) h hT2 hP2 hz
            · refine tt_iload_n d_Y_game_115 rfl ?_
              refine tt_iload_n d_Y_game_116 rfl ?_
              refine tn_ic_lt (t := 135) (by omega) (by omega) d_Y_game_117 (by decide) (fun c_117 => ?_) (fun c_117 => ?_)
              · refine tt_iconst (v := nI 0) d_Y_game_135 (by decide) ?_
                refine tn_zast d_Y_game_136 rfl (by decide) (by omega) rfl ?_
                replace h := yw_g (a := 184) (j := m2) (x := nI 0) (by decide) h
                have hz := gm_s (a := true) (b := false) hg (by omega) (by rw [lv1 (by omega), decide_eq_false (by omega), lv1 (by omega), decide_eq_true (by omega)]; rfl) (by rw [lv1 (by omega), decide_eq_false (by omega), lv0 (by omega)]; rfl)
                have hT2 : ∀ j, j < m2 + 1 → si (wI (wI τ 183 m2 (nI 1)) 184 m2 (nI 0)) 183 j = nI (tbN (t ||| (if true = true then 2 ^ m2 else 0)) j) := fun j hj => by
                  rw [← gm_ar (b := true) (f := fun j => si (wI τ 183 m2 (nI 1)) 183 j) hT hl.1 j hj]
                  show si (wI τ 183 m2 (nI 1)) 183 j = if j = m2 then nI 1 else si (wI τ 183 m2 (nI 1)) 183 j
                  by_cases y : j = m2
                  · rw [if_pos y, si_wI, if_pos ⟨rfl, y⟩]
                  · rw [if_neg y]
                have hP2 : ∀ j, j < m2 + 1 → si (wI (wI τ 183 m2 (nI 1)) 184 m2 (nI 0)) 184 j = nI (tbN (q2 ||| (if false = true then 2 ^ m2 else 0)) j) := fun j hj => by
                  rw [← gm_ar (b := false) (f := fun j => si (wI τ 183 m2 (nI 1)) 184 j) hP hl.2 j hj]
                  show si (wI (wI τ 183 m2 (nI 1)) 184 m2 (nI 0)) 184 j = if j = m2 then nI 0 else si (wI τ 183 m2 (nI 1)) 184 j
                  by_cases y : j = m2
                  · rw [if_pos y, si_wI, if_pos ⟨rfl, y⟩]
                  · rw [if_neg y, si_wI, if_neg (fun z => y z.2)]
                refine tt_iinc (lv2 := [_, _, _, _]) d_Y_game_137 rfl (nI_inc _ 1) (by decide) rfl ?_
                refine tt_goto (t := 56) d_Y_game_140 (by decide) ?_
                exact ih (n + 1 - (m2 + 1)) (by omega) (m2 + 1) _ _ _ rfl (by omega) (by omega) h hT2 hP2 hz
              · refine tt_aload_n d_Y_game_120 rfl ?_
                refine tt_getR d_Y_game_121 rfl rfl (by decide) rfl rfl ?_
                refine tt_iload_n d_Y_game_124 rfl ?_
                refine tt_iload_n d_Y_game_125 rfl ?_
                refine tn_isub (by omega) d_Y_game_126 ?_
                refine tn_zald d_Y_game_127 rfl (by decide) (by omega) (show _ = nI (tbN t (m2 - k)) from hT (m2 - k) (by omega)) ?_
                refine tn_if_ne (t := 135) (by omega) d_Y_game_128 (by decide) (fun c_128 => ?_) (fun c_128 => ?_)
                · refine tt_iconst (v := nI 0) d_Y_game_135 (by decide) ?_
                  refine tn_zast d_Y_game_136 rfl (by decide) (by omega) rfl ?_
                  replace h := yw_g (a := 184) (j := m2) (x := nI 0) (by decide) h
                  have hz := gm_s (a := true) (b := false) hg (by omega) (by rw [lv1 (by omega), decide_eq_false (by omega), lv1 (by omega), decide_eq_true (by omega)]; rfl) (by rw [lv1 (by omega), decide_eq_false (by omega), lv1 (by omega), decide_eq_false (by omega)]; rfl)
                  have hT2 : ∀ j, j < m2 + 1 → si (wI (wI τ 183 m2 (nI 1)) 184 m2 (nI 0)) 183 j = nI (tbN (t ||| (if true = true then 2 ^ m2 else 0)) j) := fun j hj => by
                    rw [← gm_ar (b := true) (f := fun j => si (wI τ 183 m2 (nI 1)) 183 j) hT hl.1 j hj]
                    show si (wI τ 183 m2 (nI 1)) 183 j = if j = m2 then nI 1 else si (wI τ 183 m2 (nI 1)) 183 j
                    by_cases y : j = m2
                    · rw [if_pos y, si_wI, if_pos ⟨rfl, y⟩]
                    · rw [if_neg y]
                  have hP2 : ∀ j, j < m2 + 1 → si (wI (wI τ 183 m2 (nI 1)) 184 m2 (nI 0)) 184 j = nI (tbN (q2 ||| (if false = true then 2 ^ m2 else 0)) j) := fun j hj => by
                    rw [← gm_ar (b := false) (f := fun j => si (wI τ 183 m2 (nI 1)) 184 j) hP hl.2 j hj]
                    show si (wI (wI τ 183 m2 (nI 1)) 184 m2 (nI 0)) 184 j = if j = m2 then nI 0 else si (wI τ 183 m2 (nI 1)) 184 j
                    by_cases y : j = m2
                    · rw [if_pos y, si_wI, if_pos ⟨rfl, y⟩]
                    · rw [if_neg y, si_wI, if_neg (fun z => y z.2)]
                  refine tt_iinc (lv2 := [_, _, _, _]) d_Y_game_137 rfl (nI_inc _ 1) (by decide) rfl ?_
                  refine tt_goto (t := 56) d_Y_game_140 (by decide) ?_
                  exact ih (n + 1 - (m2 + 1)) (by omega) (m2 + 1) _ _ _ rfl (by omega) (by omega) h hT2 hP2 hz
                · refine tt_iconst (v := nI 1) d_Y_game_131 (by decide) ?_
                  refine tt_goto (t := 136) d_Y_game_132 (by decide) ?_
                  refine tn_zast d_Y_game_136 rfl (by decide) (by omega) rfl ?_
                  replace h := yw_g (a := 184) (j := m2) (x := nI 1) (by decide) h
                  have hz := gm_s (a := true) (b := true) hg (by omega) (by rw [lv1 (by omega), decide_eq_false (by omega), lv1 (by omega), decide_eq_true (by omega)]; rfl) (by rw [lv1 (by omega), decide_eq_false (by omega), lv1 (by omega), decide_eq_true (by omega)]; rfl)
                  have hT2 : ∀ j, j < m2 + 1 → si (wI (wI τ 183 m2 (nI 1)) 184 m2 (nI 1)) 183 j = nI (tbN (t ||| (if true = true then 2 ^ m2 else 0)) j) := fun j hj => by
                    rw [← gm_ar (b := true) (f := fun j => si (wI τ 183 m2 (nI 1)) 183 j) hT hl.1 j hj]
                    show si (wI τ 183 m2 (nI 1)) 183 j = if j = m2 then nI 1 else si (wI τ 183 m2 (nI 1)) 183 j
                    by_cases y : j = m2
                    · rw [if_pos y, si_wI, if_pos ⟨rfl, y⟩]
                    · rw [if_neg y]
                  have hP2 : ∀ j, j < m2 + 1 → si (wI (wI τ 183 m2 (nI 1)) 184 m2 (nI 1)) 184 j = nI (tbN (q2 ||| (if true = true then 2 ^ m2 else 0)) j) := fun j hj => by
                    rw [← gm_ar (b := true) (f := fun j => si (wI τ 183 m2 (nI 1)) 184 j) hP hl.2 j hj]
                    show si (wI (wI τ 183 m2 (nI 1)) 184 m2 (nI 1)) 184 j = if j = m2 then nI 1 else si (wI τ 183 m2 (nI 1)) 184 j
                    by_cases y : j = m2
                    · rw [if_pos y, si_wI, if_pos ⟨rfl, y⟩]
                    · rw [if_neg y, si_wI, if_neg (fun z => y z.2)]
                  refine tt_iinc (lv2 := [_, _, _, _]) d_Y_game_137 rfl (nI_inc _ 1) (by decide) rfl ?_
                  refine tt_goto (t := 56) d_Y_game_140 (by decide) ?_
                  exact ih (n + 1 - (m2 + 1)) (by omega) (m2 + 1) _ _ _ rfl (by omega) (by omega) h hT2 hP2 hz

set_option maxHeartbeats 4000000 in
theorem yc_game {l : xLa} {d c : Nat} {σ : xs} {w : wv} (ho : okQ w) (hw : YW σ c w) {a b : Int32} : TC l M_Y_game (d + 150) [.ref 154, .int a, .int b] σ (fun r τ => r = some (.int ((q_game a b).1)) ∧ YW τ c (stD w ((q_game a b).2)) ∧ YF σ τ) := by
  show T l M_Y_game (d + 150) 0 _ [] σ _
  refine T_lv (lv2 := [_, _, _, _]) rfl ?_
  have h := YQ.rf hw.v
  have hd0 := hw.2.2.2.1
  have hb0 := ho.fb
  have hb8 := ho.n8
  rcases rgN_c a 0 60 with ⟨n, hn1, hn2, hn3, rfl, hq1⟩ | ⟨hq1, hb1⟩
  · rcases rgN_c b 2 9 with ⟨k, hk1, hk2, hk3, rfl, hq2⟩ | ⟨hq2, hb2⟩
    · unfold q_game
      rw [hq1, hq2]
      dsimp only
      refine tt_aload_n d_Y_game_0 rfl ?_
      refine tt_iconst (v := nI 0) d_Y_game_1 (by decide) ?_
      refine tt_putI d_Y_game_2 rfl rfl (by decide) rfl (xpok_int rfl) rfl ?_
      replace h := h.thr (x := nI 0)
      replace hd0 := hd0.thr (x := nI 0)
      refine tt_iload_n d_Y_game_5 rfl ?_
      refine tt_i2l d_Y_game_6 ?_
      refine tt_lconst (v := 0) d_Y_game_7 (by decide) ?_
      refine tt_ldc2_w d_Y_game_8 rfl ?_
      refine tt_callS (y_in (d := d)) cw_Y_in rfl (by omega) d_Y_game_11 rfl rfl (Nat.le_of_ble_eq_true rfl) (Nat.le_of_ble_eq_true rfl) rfl rfl rfl (fun v σ2 q => ?_)
      obtain ⟨rfl, e9⟩ := q
      rw [e9, show Yin (nI n).toInt64 0 60 = nI 1 from Yin_t (a := 0) (b := 60) rfl rfl (by omega) (by omega) (by decide)]
      clear e9
      refine tn_if_eq (t := 31) (by omega) d_Y_game_14 (by decide) (fun c_14 => ?_) (fun c_14 => ?_)
      · exact absurd c_14 (by decide)
      · refine tt_iload_n d_Y_game_17 rfl ?_
        refine tt_i2l d_Y_game_18 ?_
        refine tt_ldc2_w d_Y_game_19 rfl ?_
        refine tt_ldc2_w d_Y_game_22 rfl ?_
        refine tt_callS (y_in (d := d)) cw_Y_in rfl (by omega) d_Y_game_25 rfl rfl (Nat.le_of_ble_eq_true rfl) (Nat.le_of_ble_eq_true rfl) rfl rfl rfl (fun v σ2 q => ?_)
        obtain ⟨rfl, e9⟩ := q
        rw [e9, show Yin (nI k).toInt64 2 9 = nI 1 from Yin_t (a := 2) (b := 9) rfl rfl (by omega) (by omega) (by decide)]
        clear e9
        refine tn_if_ne (t := 33) (by omega) d_Y_game_28 (by decide) (fun c_28 => ?_) (fun c_28 => ?_)
        · refine tt_iload_n d_Y_game_33 rfl ?_
          refine tn_if_ne (t := 40) (by omega) d_Y_game_34 (by decide) (fun c_34 => ?_) (fun c_34 => ?_)
          · rw [if_neg c_34]
            refine tt_aload_n d_Y_game_40 rfl ?_
            refine tt_getR d_Y_game_41 rfl rfl (by decide) rfl rfl ?_
            refine tt_iconst (v := nI 0) d_Y_game_44 (by decide) ?_
            refine tt_iconst (v := nI 0) d_Y_game_45 (by decide) ?_
            refine tn_zast d_Y_game_46 rfl (by decide) (by omega) rfl ?_
            replace h := yw_g (a := 183) (j := 0) (x := nI 0) (by decide) h
            replace hd0 : YD (wI _ 183 0 (nI 0)) (wD w) := hd0
            refine tt_aload_n d_Y_game_47 rfl ?_
            refine tt_getR d_Y_game_48 rfl rfl (by decide) rfl rfl ?_
            refine tt_iconst (v := nI 0) d_Y_game_51 (by decide) ?_
            refine tt_iconst (v := nI 0) d_Y_game_52 (by decide) ?_
            refine tn_zast d_Y_game_53 rfl (by decide) (by omega) rfl ?_
            replace h := yw_g (a := 184) (j := 0) (x := nI 0) (by decide) h
            replace hd0 : YD (wI _ 184 0 (nI 0)) (wD w) := hd0
            refine tt_iconst (v := nI 1) d_Y_game_54 (by decide) ?_
            refine tt_istore_n (lv2 := [_, _, _, _]) d_Y_game_55 (by decide) rfl ?_
            exact y_game_l ⟨by omega, hn2⟩ ⟨hk1, hk2⟩ ho n 1 0 0 _ (by omega) (by omega) (by omega) h (gm0 rfl) (gm0 rfl) rfl
          · rw [if_pos c_34]
            refine tt_bipush (v := (-2)) d_Y_game_37 (by decide) ?_
            refine tt_iret rfl d_Y_game_39 ?_
            exact ⟨rfl, h.none hd0, h.2⟩
        · exact absurd c_28 (by decide)
    · have hqv : q_game (nI n) b = (-1, none) := by unfold q_game; rw [hq1, hq2]
      rw [hqv]
      refine tt_aload_n d_Y_game_0 rfl ?_
      refine tt_iconst (v := nI 0) d_Y_game_1 (by decide) ?_
      refine tt_putI d_Y_game_2 rfl rfl (by decide) rfl (xpok_int rfl) rfl ?_
      replace h := h.thr (x := nI 0)
      replace hd0 := hd0.thr (x := nI 0)
      refine tt_iload_n d_Y_game_5 rfl ?_
      refine tt_i2l d_Y_game_6 ?_
      refine tt_lconst (v := 0) d_Y_game_7 (by decide) ?_
      refine tt_ldc2_w d_Y_game_8 rfl ?_
      refine tt_callS (y_in (d := d)) cw_Y_in rfl (by omega) d_Y_game_11 rfl rfl (Nat.le_of_ble_eq_true rfl) (Nat.le_of_ble_eq_true rfl) rfl rfl rfl (fun v σ2 q => ?_)
      obtain ⟨rfl, e9⟩ := q
      rw [e9, show Yin (nI n).toInt64 0 60 = nI 1 from Yin_t (a := 0) (b := 60) rfl rfl (by omega) (by omega) (by decide)]
      clear e9
      refine tn_if_eq (t := 31) (by omega) d_Y_game_14 (by decide) (fun c_14 => ?_) (fun c_14 => ?_)
      · exact absurd c_14 (by decide)
      · refine tt_iload_n d_Y_game_17 rfl ?_
        refine tt_i2l d_Y_game_18 ?_
        refine tt_ldc2_w d_Y_game_19 rfl ?_
        refine tt_ldc2_w d_Y_game_22 rfl ?_
        refine tt_callS (y_in (d := d)) cw_Y_in rfl (by omega) d_Y_game_25 rfl rfl (Nat.le_of_ble_eq_true rfl) (Nat.le_of_ble_eq_true rfl) rfl rfl rfl (fun v σ2 q => ?_)
        obtain ⟨rfl, e9⟩ := q
        rw [e9, show Yin b.toInt64 2 9 = nI 0 from Yin_f (a := 2) (b := 9) rfl rfl (by decide) (by decide) hb2]
        clear e9
        refine tn_if_ne (t := 33) (by omega) d_Y_game_28 (by decide) (fun c_28 => ?_) (fun c_28 => ?_)
        · exact absurd c_28 (by decide)
        · refine tt_iconst (v := (-1)) d_Y_game_31 (by decide) ?_
          refine tt_iret rfl d_Y_game_32 ?_
          exact ⟨rfl, h.none hd0, h.2⟩
  · have hqv : q_game a b = (-1, none) := by unfold q_game; rw [hq1]
    rw [hqv]
    refine tt_aload_n d_Y_game_0 rfl ?_
    refine tt_iconst (v := nI 0) d_Y_game_1 (by decide) ?_
    refine tt_putI d_Y_game_2 rfl rfl (by decide) rfl (xpok_int rfl) rfl ?_
    replace h := h.thr (x := nI 0)
    replace hd0 := hd0.thr (x := nI 0)
    refine tt_iload_n d_Y_game_5 rfl ?_
    refine tt_i2l d_Y_game_6 ?_
    refine tt_lconst (v := 0) d_Y_game_7 (by decide) ?_
    refine tt_ldc2_w d_Y_game_8 rfl ?_
    refine tt_callS (y_in (d := d)) cw_Y_in rfl (by omega) d_Y_game_11 rfl rfl (Nat.le_of_ble_eq_true rfl) (Nat.le_of_ble_eq_true rfl) rfl rfl rfl (fun v σ2 q => ?_)
    obtain ⟨rfl, e9⟩ := q
    rw [e9, show Yin a.toInt64 0 60 = nI 0 from Yin_f (a := 0) (b := 60) rfl rfl (by decide) (by decide) hb1]
    clear e9
    refine tn_if_eq (t := 31) (by omega) d_Y_game_14 (by decide) (fun c_14 => ?_) (fun c_14 => ?_)
    · refine tt_iconst (v := (-1)) d_Y_game_31 (by decide) ?_
      refine tt_iret rfl d_Y_game_32 ?_
      exact ⟨rfl, h.none hd0, h.2⟩
    · exact absurd rfl c_14

