/-! FishFerryModel: worked, ruled. Printed by wip/whole. -/
/-- the number of a sign, in the class and in the reference -/
def swk (s a : Nat) : Prop := (s = 60 ∧ a = 0) ∨ (s = 62 ∧ a = 1) ∨ (s = 61 ∧ a = 2) ∨ (s = 43 ∧ a = 3) ∨ (s = 45 ∧ a = 4) ∨ (s = 42 ∧ a = 5) ∨ (s = 47 ∧ a = 6)
theorem y_worked {l : xLa} {d : Nat} {σ : xs} {s a : Nat} {x y : Int32} (hs : swk s a) : TE l M_Y_worked (d + 2) [.int (nI a), .int x, .int y] σ (some (.int (X_join s x y))) (σ) := by
  show T l M_Y_worked (d + 2) 0 _ [] σ _
  refine tt_iload_n d_Y_worked_0 rfl ?_
  rcases hs with ⟨rfl, rfl⟩ | ⟨rfl, rfl⟩ | ⟨rfl, rfl⟩ | ⟨rfl, rfl⟩ | ⟨rfl, rfl⟩ | ⟨rfl, rfl⟩ | ⟨rfl, rfl⟩
  · refine tt_tab (t := 40) d_Y_worked_1 rfl ?_
    refine tt_iload_n d_Y_worked_40 rfl ?_
    refine tt_iload_n d_Y_worked_41 rfl ?_
    refine tt_ic_ge (t := 49) d_Y_worked_42 (by decide) (fun c_42 => ?_) (fun c_42 => ?_)
    · refine tt_iconst (v := nI 0) d_Y_worked_49 (by decide) ?_
      refine tt_callS (y_flag (d := d)) cw_Y_flag rfl (by omega) d_Y_worked_50 rfl rfl (Nat.le_of_ble_eq_true rfl) (Nat.le_of_ble_eq_true rfl) rfl rfl rfl (fun v σ2 q => ?_)
      obtain ⟨rfl, e9⟩ := q
      rw [e9]
      clear e9
      refine tt_iret rfl d_Y_worked_53 ?_
      refine ⟨congrArg (fun w => some (Value.int w)) ?_, rfl⟩
      first | exact (if_pos (fa_nle c_42)).symm | exact (if_neg (fa_ngt c_42)).symm
    · refine tt_iconst (v := nI 1) d_Y_worked_45 (by decide) ?_
      refine tt_goto (t := 50) d_Y_worked_46 (by decide) ?_
      refine tt_callS (y_flag (d := d)) cw_Y_flag rfl (by omega) d_Y_worked_50 rfl rfl (Nat.le_of_ble_eq_true rfl) (Nat.le_of_ble_eq_true rfl) rfl rfl rfl (fun v σ2 q => ?_)
      obtain ⟨rfl, e9⟩ := q
      rw [e9]
      clear e9
      refine tt_iret rfl d_Y_worked_53 ?_
      refine ⟨congrArg (fun w => some (Value.int w)) ?_, rfl⟩
      first | exact (if_pos (fa_nle c_42)).symm | exact (if_neg (fa_ngt c_42)).symm
  · refine tt_tab (t := 54) d_Y_worked_1 rfl ?_
    refine tt_iload_n d_Y_worked_54 rfl ?_
    refine tt_iload_n d_Y_worked_55 rfl ?_
    refine tt_ic_le (t := 63) d_Y_worked_56 (by decide) (fun c_56 => ?_) (fun c_56 => ?_)
    · refine tt_iconst (v := nI 0) d_Y_worked_63 (by decide) ?_
      refine tt_callS (y_flag (d := d)) cw_Y_flag rfl (by omega) d_Y_worked_64 rfl rfl (Nat.le_of_ble_eq_true rfl) (Nat.le_of_ble_eq_true rfl) rfl rfl rfl (fun v σ2 q => ?_)
      obtain ⟨rfl, e9⟩ := q
      rw [e9]
      clear e9
      refine tt_iret rfl d_Y_worked_67 ?_
      refine ⟨congrArg (fun w => some (Value.int w)) ?_, rfl⟩
      first | exact (if_pos (fa_nle c_56)).symm | exact (if_neg (fa_ngt c_56)).symm
    · refine tt_iconst (v := nI 1) d_Y_worked_59 (by decide) ?_
      refine tt_goto (t := 64) d_Y_worked_60 (by decide) ?_
      refine tt_callS (y_flag (d := d)) cw_Y_flag rfl (by omega) d_Y_worked_64 rfl rfl (Nat.le_of_ble_eq_true rfl) (Nat.le_of_ble_eq_true rfl) rfl rfl rfl (fun v σ2 q => ?_)
      obtain ⟨rfl, e9⟩ := q
      rw [e9]
      clear e9
      refine tt_iret rfl d_Y_worked_67 ?_
      refine ⟨congrArg (fun w => some (Value.int w)) ?_, rfl⟩
      first | exact (if_pos (fa_nle c_56)).symm | exact (if_neg (fa_ngt c_56)).symm
  · refine tt_tab (t := 68) d_Y_worked_1 rfl ?_
    refine tt_iload_n d_Y_worked_68 rfl ?_
    refine tt_iload_n d_Y_worked_69 rfl ?_
    refine tt_ic_ne (t := 77) d_Y_worked_70 (by decide) (fun c_70 => ?_) (fun c_70 => ?_)
    · refine tt_iconst (v := nI 0) d_Y_worked_77 (by decide) ?_
      refine tt_callS (y_flag (d := d)) cw_Y_flag rfl (by omega) d_Y_worked_78 rfl rfl (Nat.le_of_ble_eq_true rfl) (Nat.le_of_ble_eq_true rfl) rfl rfl rfl (fun v σ2 q => ?_)
      obtain ⟨rfl, e9⟩ := q
      rw [e9]
      clear e9
      refine tt_iret rfl d_Y_worked_81 ?_
      refine ⟨congrArg (fun w => some (Value.int w)) ?_, rfl⟩
      first | exact (if_neg c_70).symm | exact (if_pos (Classical.not_not.mp c_70)).symm
    · refine tt_iconst (v := nI 1) d_Y_worked_73 (by decide) ?_
      refine tt_goto (t := 78) d_Y_worked_74 (by decide) ?_
      refine tt_callS (y_flag (d := d)) cw_Y_flag rfl (by omega) d_Y_worked_78 rfl rfl (Nat.le_of_ble_eq_true rfl) (Nat.le_of_ble_eq_true rfl) rfl rfl rfl (fun v σ2 q => ?_)
      obtain ⟨rfl, e9⟩ := q
      rw [e9]
      clear e9
      refine tt_iret rfl d_Y_worked_81 ?_
      refine ⟨congrArg (fun w => some (Value.int w)) ?_, rfl⟩
      first | exact (if_neg c_70).symm | exact (if_pos (Classical.not_not.mp c_70)).symm
  · refine tt_tab (t := 82) d_Y_worked_1 rfl ?_
    refine tt_iload_n d_Y_worked_82 rfl ?_
    refine tt_iload_n d_Y_worked_83 rfl ?_
    refine tt_iadd d_Y_worked_84 ?_
    refine tt_iret rfl d_Y_worked_85 ?_
    exact ⟨rfl, rfl⟩
  · refine tt_tab (t := 86) d_Y_worked_1 rfl ?_
    refine tt_iload_n d_Y_worked_86 rfl ?_
    refine tt_iload_n d_Y_worked_87 rfl ?_
    refine tt_isub d_Y_worked_88 ?_
    refine tt_iret rfl d_Y_worked_89 ?_
    exact ⟨rfl, rfl⟩
  · refine tt_tab (t := 90) d_Y_worked_1 rfl ?_
    refine tt_iload_n d_Y_worked_90 rfl ?_
    refine tt_iload_n d_Y_worked_91 rfl ?_
    refine tt_imul d_Y_worked_92 ?_
    refine tt_iret rfl d_Y_worked_93 ?_
    exact ⟨rfl, rfl⟩
  · refine tt_tab (t := 94) d_Y_worked_1 rfl ?_
    refine tt_iload_n d_Y_worked_94 rfl ?_
    refine tt_if_ne (t := 102) d_Y_worked_95 (by decide) (fun c_95 => ?_) (fun c_95 => ?_)
    · refine tt_iload_n d_Y_worked_102 rfl ?_
      refine tt_iload_n d_Y_worked_103 rfl ?_
      refine tt_idiv d_Y_worked_104 c_95 ?_
      refine tt_iret rfl d_Y_worked_105 ?_
      refine ⟨congrArg (fun w => some (Value.int w)) ?_, rfl⟩
      first | exact (if_neg c_95).symm | exact (if_pos (Classical.not_not.mp c_95)).symm
    · refine tt_iconst (v := nI 0) d_Y_worked_98 (by decide) ?_
      refine tt_goto (t := 105) d_Y_worked_99 (by decide) ?_
      refine tt_iret rfl d_Y_worked_105 ?_
      refine ⟨congrArg (fun w => some (Value.int w)) ?_, rfl⟩
      first | exact (if_neg c_95).symm | exact (if_pos (Classical.not_not.mp c_95)).symm

/-- a code of the class, as the reference has it -/
def trn (c : Nat) : Nat := if c < 1000 then c else if c < 2000 then (if c = 1006 then 1007 else if c = 1007 then 1006 else c) else if c = 3000 then 3000 else if c = 2060 then 2000 else if c = 2062 then 2001 else if c = 2061 then 2002 else if c = 2043 then 2003 else if c = 2045 then 2004 else if c = 2042 then 2005 else 2006
theorem trn_c {c : Nat} (h : okc c) : (c < 1000 → trn c = c) ∧ (1000 ≤ c ∧ c < 2000 → 1000 ≤ trn c ∧ trn c < 1008 ∧ c < 1008) ∧ (c = 3000 → trn c = 3000) ∧ (2000 ≤ c ∧ ¬ c = 3000 → 2000 ≤ trn c ∧ trn c < 2007 ∧ swk (c - 2000) (trn c - 2000)) := by
  unfold okc at h
  refine ⟨fun q => by unfold trn; rw [if_pos q], fun q => ?_, fun q => by subst q; rfl, fun q => ?_⟩
  · rcases (show c = 1000 ∨ c = 1001 ∨ c = 1002 ∨ c = 1003 ∨ c = 1004 ∨ c = 1005 ∨ c = 1006 ∨ c = 1007 by omega) with rfl | rfl | rfl | rfl | rfl | rfl | rfl | rfl <;> decide
  · rcases (show c = 2042 ∨ c = 2043 ∨ c = 2045 ∨ c = 2060 ∨ c = 2061 ∨ c = 2062 ∨ c = 2047 by omega) with rfl | rfl | rfl | rfl | rfl | rfl | rfl <;> exact ⟨by decide, by decide, by unfold swk; decide⟩
/-- how many things lie on the stack behind i codes -/
def dp (c : Nat → Nat) : Nat → Nat
  | 0 => 0
  | i + 1 => if c i < 2000 then dp c i + 1 else if c i = 3000 then dp c i else dp c i - 1
def wfc (c : Nat → Nat) (n : Nat) : Prop := ∀ i, i < n → okc (c i) ∧ (c i = 3000 → 0 < dp c i) ∧ (2000 ≤ c i → ¬ c i = 3000 → 1 < dp c i)
theorem gA_len {at_ c : Nat → Nat} {n : Nat} (h : wfc c n) : ∀ i, i ≤ n → (gA at_ c i).length = dp c i
  | 0, _ => rfl
  | i + 1, hi => by
    have ih := gA_len (at_ := at_) h i (by omega)
    obtain ⟨h1, h2, h3⟩ := h i (by omega)
    show (gat at_ (c i) (gA at_ c i)).length = dp c (i + 1)
    unfold gat
    rw [show dp c (i + 1) = if c i < 2000 then dp c i + 1 else if c i = 3000 then dp c i else dp c i - 1 from rfl]
    by_cases a : c i < 1000
    · rw [if_pos a, if_pos (by omega), List.length_append, ih]; rfl
    · rw [if_neg a]
      by_cases b : c i < 2000
      · rw [if_pos b, if_pos b, List.length_append, ih]; rfl
      · rw [if_neg b, if_neg b]
        by_cases g : c i = 3000
        · rw [if_pos g, if_pos g, if_pos (by have := h2 g; omega), List.length_set, ih]
        · have := h3 (by omega) g
          rw [if_neg g, if_neg g, if_pos (by omega), List.length_append, List.length_take, List.length_singleton]
          omega
theorem dp_pos {c : Nat → Nat} {n : Nat} (h : wfc c n) (h0 : 0 < n) : 0 < dp c n := by
  cases n with
  | zero => omega
  | succ i =>
    obtain ⟨h1, h2, h3⟩ := h i (by omega)
    show 0 < if c i < 2000 then dp c i + 1 else if c i = 3000 then dp c i else dp c i - 1
    split
    · omega
    · split
      · rename_i g; exact h2 g
      · rename_i a g
        have := h3 (by omega) g
        omega
theorem dp_le {c : Nat → Nat} : ∀ i, dp c i ≤ i
  | 0 => Nat.le_refl _
  | i + 1 => by
    have := dp_le (c := c) i
    show (if c i < 2000 then dp c i + 1 else if c i = 3000 then dp c i else dp c i - 1) ≤ i + 1
    split
    · omega
    · split <;> omega
/-- letters of the reference: g and k change places -/
def swl (j : Nat) : Nat := if j = 6 then 7 else if j = 7 then 6 else j
theorem swl_trn {c : Nat} (h1 : 1000 ≤ c) (h2 : c < 1008) : swl (trn c - 1000) = c - 1000 := by
  rcases (show c = 1000 ∨ c = 1001 ∨ c = 1002 ∨ c = 1003 ∨ c = 1004 ∨ c = 1005 ∨ c = 1006 ∨ c = 1007 by omega) with rfl | rfl | rfl | rfl | rfl | rfl | rfl | rfl <;> rfl
/-- the plain rule of the class -/
def plc (i : Nat) : Nat := ([1000, 1001, 2045, 1002, 1003, 2062, 2043] : List Nat).getD i 0
/-- codes of the class (m of them) and of the reference (n of them) that are the same rule -/
def RCd (σ : xs) (c : Nat → Nat) (m : Nat) : Prop := ∃ n, n ≤ 80 ∧ sf σ 154 24 = nI n ∧ ((n = 0 ∧ m = 7 ∧ ∀ i, i < 7 → c i = plc i) ∨ (0 < n ∧ m = n ∧ wfc c n ∧ ∀ i, i < n → si σ 165 i = nI (trn (c i))))
theorem y_ruled_l {l : xLa} {d : Nat} {σ : xs} {n : Nat} {at_ c : Nat → Nat} (hn : sf σ 154 24 = nI n) (hn80 : n ≤ 80) (hn0 : 0 < n) (hwf : wfc c n) (hcd : ∀ i, i < n → si σ 165 i = nI (trn (c i))) (hat : ∀ j, j < 8 → si σ 168 j = nI (at_ (swl j))) : ∀ (m : Nat) (i : Nat) (f : Nat → Int32) (y : Option Int32), n - i = m → i ≤ n → AR f (gA at_ c i) → T l M_Y_ruled (d + 3) 4 [some (.ref 154), some (.int (nI (gA at_ c i).length)), some (.int (nI i)), y.map Value.int] [] (wA σ 167 f) (fun r σ' => r = some (.int ((gA at_ c n).getD 0 0)) ∧ ∃ f, σ' = wA σ 167 f) := by
  intro m
  induction m using Nat.strongRecOn with
  | ind m ih =>
    intro i f y hm hi hAR
    have hlb : (gA at_ c i).length ≤ 80 := by have := gA_len (at_ := at_) hwf i (by omega); have := dp_le (c := c) i; omega
    refine tt_iload_n d_Y_ruled_4 rfl ?_
    refine tt_aload_n d_Y_ruled_5 rfl ?_
    refine tn_get d_Y_ruled_6 rfl rfl (by decide) rfl (show sf (wA σ 167 f) 154 24 = nI _ from hn) ?_
    refine tn_ic_ge (t := 125) (by omega) (by omega) d_Y_ruled_9 (by decide) (fun c_9 => ?_) (fun c_9 => ?_)
    · obtain rfl : i = n := by omega
      refine tt_aload_n d_Y_ruled_125 rfl ?_
      refine tn_get d_Y_ruled_126 rfl rfl (by decide) rfl (show sf (wA σ 167 f) 154 24 = nI _ from hn) ?_
      refine tn_if_ne (t := 172) (by omega) d_Y_ruled_129 (by decide) (fun c_129 => ?_) (fun c_129 => ?_)
      · refine tt_aload_n d_Y_ruled_172 rfl ?_
        refine tt_getR d_Y_ruled_173 rfl rfl (by decide) rfl rfl ?_
        refine tt_iconst (v := nI 0) d_Y_ruled_176 (by decide) ?_
        refine tn_iald d_Y_ruled_177 rfl (by decide) (by omega) (show si (wA σ 167 f) 167 0 = (gA at_ c i).getD 0 0 by rw [si_wA, if_pos rfl]; exact hAR 0 (by have := gA_len (at_ := at_) hwf i (by omega); have := dp_pos hwf hn0; omega)) ?_
        refine tt_iret rfl d_Y_ruled_178 ?_
        exact ⟨rfl, f, rfl⟩
      · omega
    · obtain ⟨hok, hw1, hw2⟩ := hwf i c_9
      obtain ⟨h1, h2, h3, h4⟩ := trn_c hok
      have hlen := gA_len (at_ := at_) hwf i (by omega)
      have hdl := dp_le (c := c) i
      have hokc := hok
      unfold okc at hokc
      refine tt_aload_n d_Y_ruled_12 rfl ?_
      refine tt_getR d_Y_ruled_13 rfl rfl (by decide) rfl rfl ?_
      refine tt_iload_n d_Y_ruled_16 rfl ?_
      refine tn_iald d_Y_ruled_17 rfl (by decide) (by omega) (show si (wA σ 167 f) 165 i = nI (trn (c i)) by rw [si_wA, if_neg (by omega)]; exact hcd i c_9) ?_
      refine tt_istore_n d_Y_ruled_18 (by decide) rfl ?_
      refine tt_iload_n d_Y_ruled_19 rfl ?_
      refine tt_sipush (v := nI 3000) d_Y_ruled_20 (by decide) ?_
      refine tn_ic_ne (t := 46) (by omega) (by omega) d_Y_ruled_23 (by decide) (fun c_23 => ?_) (fun c_23 => ?_)
      · have h3k : ¬ c i = 3000 := by omega
        refine tt_iload_n d_Y_ruled_46 rfl ?_
        refine tt_sipush (v := nI 2000) d_Y_ruled_47 (by decide) ?_
        refine tn_ic_lt (t := 89) (by omega) (by omega) d_Y_ruled_50 (by decide) (fun c_50 => ?_) (fun c_50 => ?_)
        · refine tt_aload_n d_Y_ruled_89 rfl ?_
          refine tt_getR d_Y_ruled_90 rfl rfl (by decide) rfl rfl ?_
          refine tt_iload_n d_Y_ruled_93 rfl ?_
          refine tt_iload_n d_Y_ruled_94 rfl ?_
          refine tt_sipush (v := nI 1000) d_Y_ruled_95 (by decide) ?_
          refine tn_ic_lt (t := 114) (by omega) (by omega) d_Y_ruled_98 (by decide) (fun c_98 => ?_) (fun c_98 => ?_)
          · skip
            refine tt_iload_n d_Y_ruled_114 rfl ?_
            refine tn_iast d_Y_ruled_115 rfl (by decide) (by omega) ?_
            refine tt_iinc d_Y_ruled_116 rfl (nI_inc _ 1) (by decide) rfl ?_
            refine tt_iinc d_Y_ruled_119 rfl (nI_inc _ 1) (by decide) rfl ?_
            refine tt_goto (t := 4) d_Y_ruled_122 (by decide) ?_
            have e : gA at_ c (i + 1) = (gA at_ c i) ++ [nI (c i)] := if_pos (by omega)
            have q := ih (n - (i + 1)) (by omega) (i + 1) (fun k => if k = (gA at_ c i).length then nI (c i) else f k) (some (nI (trn (c i)))) rfl (by omega) (by rw [e]; exact AR_push hAR)
            rw [e] at q
            rw [h1 (by omega)] at q ⊢
            refine T_cong wI_wA ?_
            first | (rw [List.length_append] at q; exact q) | (rw [List.length_set] at q; exact q) | exact q
          · skip
            refine tt_aload_n d_Y_ruled_101 rfl ?_
            refine tt_getR d_Y_ruled_102 rfl rfl (by decide) rfl rfl ?_
            refine tt_iload_n d_Y_ruled_105 rfl ?_
            refine tt_sipush (v := nI 1000) d_Y_ruled_106 (by decide) ?_
            refine tn_isub (by omega) d_Y_ruled_109 ?_
            refine tn_iald d_Y_ruled_110 rfl (by decide) (by omega) (show si (wA σ 167 f) 168 (trn (c i) - 1000) = nI (at_ (c i - 1000)) by rw [si_wA, if_neg (by omega), hat _ (by omega), swl_trn (by omega) (by omega)]) ?_
            refine tt_goto (t := 115) d_Y_ruled_111 (by decide) ?_
            refine tn_iast d_Y_ruled_115 rfl (by decide) (by omega) ?_
            refine tt_iinc d_Y_ruled_116 rfl (nI_inc _ 1) (by decide) rfl ?_
            refine tt_iinc d_Y_ruled_119 rfl (nI_inc _ 1) (by decide) rfl ?_
            refine tt_goto (t := 4) d_Y_ruled_122 (by decide) ?_
            have e : gA at_ c (i + 1) = (gA at_ c i) ++ [nI (at_ (c i - 1000))] := (if_neg (by omega)).trans (if_pos (by omega))
            have q := ih (n - (i + 1)) (by omega) (i + 1) (fun k => if k = (gA at_ c i).length then nI (at_ (c i - 1000)) else f k) (some (nI (trn (c i)))) rfl (by omega) (by rw [e]; exact AR_push hAR)
            rw [e] at q
            refine T_cong wI_wA ?_
            first | (rw [List.length_append] at q; exact q) | (rw [List.length_set] at q; exact q) | exact q
        · have h2k : 2000 ≤ c i := by omega
          have hw2 := hw2 h2k h3k
          refine tt_iinc d_Y_ruled_53 rfl (show nI (gA at_ c i).length + Int32.ofInt (-1) = nI ((gA at_ c i).length - 1) by rw [show (gA at_ c i).length = ((gA at_ c i).length - 1) + 1 by omega]; exact pk_m1 _) (by decide) rfl ?_
          refine tt_aload_n d_Y_ruled_56 rfl ?_
          refine tt_getR d_Y_ruled_57 rfl rfl (by decide) rfl rfl ?_
          refine tt_iload_n d_Y_ruled_60 rfl ?_
          refine tt_iconst (v := nI 1) d_Y_ruled_61 (by decide) ?_
          refine tn_isub (by omega) d_Y_ruled_62 ?_
          refine tt_iload_n d_Y_ruled_63 rfl ?_
          refine tt_sipush (v := nI 2000) d_Y_ruled_64 (by decide) ?_
          refine tn_isub (by omega) d_Y_ruled_67 ?_
          refine tt_aload_n d_Y_ruled_68 rfl ?_
          refine tt_getR d_Y_ruled_69 rfl rfl (by decide) rfl rfl ?_
          refine tt_iload_n d_Y_ruled_72 rfl ?_
          refine tt_iconst (v := nI 1) d_Y_ruled_73 (by decide) ?_
          refine tn_isub (by omega) d_Y_ruled_74 ?_
          refine tn_iald d_Y_ruled_75 rfl (by decide) (by omega) (show si (wA σ 167 f) 167 ((gA at_ c i).length - 1 - 1) = (gA at_ c i).getD ((gA at_ c i).length - 1 - 1) 0 by rw [si_wA, if_pos rfl]; exact hAR _ (by omega)) ?_
          refine tt_aload_n d_Y_ruled_76 rfl ?_
          refine tt_getR d_Y_ruled_77 rfl rfl (by decide) rfl rfl ?_
          refine tt_iload_n d_Y_ruled_80 rfl ?_
          refine tn_iald d_Y_ruled_81 rfl (by decide) (by omega) (show si (wA σ 167 f) 167 ((gA at_ c i).length - 1) = (gA at_ c i).getD ((gA at_ c i).length - 1) 0 by rw [si_wA, if_pos rfl]; exact hAR _ (by omega)) ?_
          refine tt_callS (y_worked (d := d) (s := c i - 2000) (a := trn (c i) - 2000) (h4 (by omega)).2.2) cw_Y_worked rfl (by omega) d_Y_ruled_82 rfl rfl (Nat.le_of_ble_eq_true rfl) (Nat.le_of_ble_eq_true rfl) rfl rfl rfl (fun v σ2 q => ?_)
          obtain ⟨rfl, e9⟩ := q
          rw [e9, show (gA at_ c i).length - 1 - 1 = (gA at_ c i).length - 2 by omega]
          clear e9
          refine tn_iast d_Y_ruled_85 rfl (by decide) (by omega) ?_
          refine tt_goto (t := 119) d_Y_ruled_86 (by decide) ?_
          refine tt_iinc d_Y_ruled_119 rfl (nI_inc _ 1) (by decide) rfl ?_
          refine tt_goto (t := 4) d_Y_ruled_122 (by decide) ?_
          have e : gA at_ c (i + 1) = (gA at_ c i).take ((gA at_ c i).length - 2) ++ [X_join (c i - 2000) ((gA at_ c i).getD ((gA at_ c i).length - 2) 0) ((gA at_ c i).getD ((gA at_ c i).length - 1) 0)] := (if_neg (by omega)).trans ((if_neg (by omega)).trans ((if_neg (by omega)).trans (if_pos (by omega))))
          have q := ih (n - (i + 1)) (by omega) (i + 1) (fun k => if k = (gA at_ c i).length - 2 then X_join (c i - 2000) ((gA at_ c i).getD ((gA at_ c i).length - 2) 0) ((gA at_ c i).getD ((gA at_ c i).length - 1) 0) else f k) (some (nI (trn (c i)))) rfl (by omega) (by rw [e]; exact AR_bin hAR (by omega))
          rw [e] at q
          refine T_cong wI_wA ?_
          rw [List.length_append, List.length_take, List.length_singleton, show min ((gA at_ c i).length - 2) (gA at_ c i).length = (gA at_ c i).length - 2 by omega, show (gA at_ c i).length - 2 + 1 = (gA at_ c i).length - 1 by omega] at q
          exact q
      · have h3k : c i = 3000 := by omega
        have hw1 := hw1 h3k
        refine tt_aload_n d_Y_ruled_26 rfl ?_
        refine tt_getR d_Y_ruled_27 rfl rfl (by decide) rfl rfl ?_
        refine tt_iload_n d_Y_ruled_30 rfl ?_
        refine tt_iconst (v := nI 1) d_Y_ruled_31 (by decide) ?_
        refine tn_isub (by omega) d_Y_ruled_32 ?_
        refine tt_aload_n d_Y_ruled_33 rfl ?_
        refine tt_getR d_Y_ruled_34 rfl rfl (by decide) rfl rfl ?_
        refine tt_iload_n d_Y_ruled_37 rfl ?_
        refine tt_iconst (v := nI 1) d_Y_ruled_38 (by decide) ?_
        refine tn_isub (by omega) d_Y_ruled_39 ?_
        refine tn_iald d_Y_ruled_40 rfl (by decide) (by omega) (show si (wA σ 167 f) 167 ((gA at_ c i).length - 1) = (gA at_ c i).getD ((gA at_ c i).length - 1) 0 by rw [si_wA, if_pos rfl]; exact hAR _ (by omega)) ?_
        refine tt_ineg d_Y_ruled_41 ?_
        refine tn_iast d_Y_ruled_42 rfl (by decide) (by omega) ?_
        refine tt_goto (t := 119) d_Y_ruled_43 (by decide) ?_
        refine tt_iinc d_Y_ruled_119 rfl (nI_inc _ 1) (by decide) rfl ?_
        refine tt_goto (t := 4) d_Y_ruled_122 (by decide) ?_
        have e : gA at_ c (i + 1) = (gA at_ c i).set ((gA at_ c i).length - 1) (-((gA at_ c i).getD ((gA at_ c i).length - 1) 0)) := (if_neg (by omega)).trans ((if_neg (by omega)).trans ((if_pos (by omega)).trans (if_pos (by omega))))
        have q := ih (n - (i + 1)) (by omega) (i + 1) (fun k => if k = (gA at_ c i).length - 1 then -((gA at_ c i).getD ((gA at_ c i).length - 1) 0) else f k) (some (nI (trn (c i)))) rfl (by omega) (by rw [e]; exact AR_neg hAR (by omega))
        rw [e] at q
        refine T_cong wI_wA ?_
        first | (rw [List.length_append] at q; exact q) | (rw [List.length_set] at q; exact q) | exact q

theorem gA_ext {at_ c c' : Nat → Nat} : ∀ n, (∀ i, i < n → c i = c' i) → gA at_ c n = gA at_ c' n
  | 0, _ => rfl
  | n + 1, h => by
    show gat at_ (c n) (gA at_ c n) = gat at_ (c' n) (gA at_ c' n)
    rw [h n (by omega), gA_ext n (fun i hi => h i (by omega))]
theorem gA_plain (at_ : Nat → Nat) : (gA at_ plc 7).getD 0 0 = nI (at_ 0) - nI (at_ 1) + (if nI (at_ 3) < nI (at_ 2) then nI 1 else nI 0) := rfl
theorem y_ruled {l : xLa} {d : Nat} {σ : xs} {m : Nat} {at_ c : Nat → Nat} (hC : RCd σ c m) (hat : ∀ j, j < 8 → si σ 168 j = nI (at_ (swl j))) (hb : ∀ j, at_ j < 2 ^ 30) : TC l M_Y_ruled (d + 3) [.ref 154] σ (fun r σ' => r = some (.int ((gA at_ c m).getD 0 0)) ∧ ∃ f, σ' = wA σ 167 f) := by
  obtain ⟨n, hn80, hn, hd⟩ := hC
  show T l M_Y_ruled (d + 3) 0 _ [] σ _
  by_cases hn0 : 0 < n
  · obtain ⟨h1, h2, h3, h4⟩ : 0 < n ∧ m = n ∧ wfc c n ∧ ∀ i, i < n → si σ 165 i = nI (trn (c i)) := by
      rcases hd with h | h
      · omega
      · exact h
    subst h2
    refine tt_iconst (v := nI 0) d_Y_ruled_0 (by decide) ?_
    refine tt_istore_n d_Y_ruled_1 (by decide) rfl ?_
    refine tt_iconst (v := nI 0) d_Y_ruled_2 (by decide) ?_
    refine tt_istore_n d_Y_ruled_3 (by decide) rfl ?_
    refine T_cong (τ := wA σ 167 (si σ 167)) wA_id.symm ?_
    exact y_ruled_l hn hn80 hn0 h3 h4 hat m 0 (si σ 167) none (by omega) (by omega) (fun j hj => absurd hj (Nat.not_lt_zero _))
  · obtain ⟨h1, h2, h3⟩ : n = 0 ∧ m = 7 ∧ ∀ i, i < 7 → c i = plc i := by
      rcases hd with h | h
      · exact h
      · omega
    subst h1
    subst h2
    rw [gA_ext 7 h3, gA_plain]
    refine tt_iconst (v := nI 0) d_Y_ruled_0 (by decide) ?_
    refine tt_istore_n d_Y_ruled_1 (by decide) rfl ?_
    refine tt_iconst (v := nI 0) d_Y_ruled_2 (by decide) ?_
    refine tt_istore_n d_Y_ruled_3 (by decide) rfl ?_
    refine tt_iload_n d_Y_ruled_4 rfl ?_
    refine tt_aload_n d_Y_ruled_5 rfl ?_
    refine tn_get d_Y_ruled_6 rfl rfl (by decide) rfl hn ?_
    refine tn_ic_ge (t := 125) (by omega) (by omega) d_Y_ruled_9 (by decide) (fun c_9 => ?_) (fun c_9 => ?_)
    · refine tt_aload_n d_Y_ruled_125 rfl ?_
      refine tn_get d_Y_ruled_126 rfl rfl (by decide) rfl hn ?_
      refine tn_if_ne (t := 172) (by omega) d_Y_ruled_129 (by decide) (fun c_129 => ?_) (fun c_129 => ?_)
      · exact absurd rfl c_129
      · refine tt_aload_n d_Y_ruled_132 rfl ?_
        refine tt_getR d_Y_ruled_133 rfl rfl (by decide) rfl rfl ?_
        refine tt_iconst (v := nI 0) d_Y_ruled_136 (by decide) ?_
        refine tn_iald d_Y_ruled_137 rfl (by decide) (by omega) (show si σ 168 0 = nI (at_ 0) from hat 0 (by decide)) ?_
        refine tt_aload_n d_Y_ruled_138 rfl ?_
        refine tt_getR d_Y_ruled_139 rfl rfl (by decide) rfl rfl ?_
        refine tt_iconst (v := nI 1) d_Y_ruled_142 (by decide) ?_
        refine tn_iald d_Y_ruled_143 rfl (by decide) (by omega) (show si σ 168 1 = nI (at_ 1) from hat 1 (by decide)) ?_
        refine tt_isub d_Y_ruled_144 ?_
        refine tt_aload_n d_Y_ruled_145 rfl ?_
        refine tt_getR d_Y_ruled_146 rfl rfl (by decide) rfl rfl ?_
        refine tt_iconst (v := nI 2) d_Y_ruled_149 (by decide) ?_
        refine tn_iald d_Y_ruled_150 rfl (by decide) (by omega) (show si σ 168 2 = nI (at_ 2) from hat 2 (by decide)) ?_
        refine tt_aload_n d_Y_ruled_151 rfl ?_
        refine tt_getR d_Y_ruled_152 rfl rfl (by decide) rfl rfl ?_
        refine tt_iconst (v := nI 3) d_Y_ruled_155 (by decide) ?_
        refine tn_iald d_Y_ruled_156 rfl (by decide) (by omega) (show si σ 168 3 = nI (at_ 3) from hat 3 (by decide)) ?_
        refine tt_ic_le (t := 164) d_Y_ruled_157 (by decide) (fun c_157 => ?_) (fun c_157 => ?_)
        · refine tt_iconst (v := nI 0) d_Y_ruled_164 (by decide) ?_
          refine tt_callS (y_flag (d := d + 1)) cw_Y_flag rfl (by omega) d_Y_ruled_165 rfl rfl (Nat.le_of_ble_eq_true rfl) (Nat.le_of_ble_eq_true rfl) rfl rfl rfl (fun v σ2 q => ?_)
          obtain ⟨rfl, e9⟩ := q
          rw [e9]
          clear e9
          refine tt_iadd d_Y_ruled_168 ?_
          refine tt_goto (t := 178) d_Y_ruled_169 (by decide) ?_
          refine tt_iret rfl d_Y_ruled_178 ?_
          refine ⟨congrArg (fun w => some (Value.int w)) ?_, si σ 167, wA_id.symm⟩
          first
            | (rw [if_pos (fa_nle c_157)]; rfl)
            | (rw [if_neg (fa_ngt c_157)]; rfl)
        · refine tt_iconst (v := nI 1) d_Y_ruled_160 (by decide) ?_
          refine tt_goto (t := 165) d_Y_ruled_161 (by decide) ?_
          refine tt_callS (y_flag (d := d + 1)) cw_Y_flag rfl (by omega) d_Y_ruled_165 rfl rfl (Nat.le_of_ble_eq_true rfl) (Nat.le_of_ble_eq_true rfl) rfl rfl rfl (fun v σ2 q => ?_)
          obtain ⟨rfl, e9⟩ := q
          rw [e9]
          clear e9
          refine tt_iadd d_Y_ruled_168 ?_
          refine tt_goto (t := 178) d_Y_ruled_169 (by decide) ?_
          refine tt_iret rfl d_Y_ruled_178 ?_
          refine ⟨congrArg (fun w => some (Value.int w)) ?_, si σ 167, wA_id.symm⟩
          first
            | (rw [if_pos (fa_nle c_157)]; rfl)
            | (rw [if_neg (fa_ngt c_157)]; rfl)
    · omega

