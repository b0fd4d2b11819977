/-! FishFerry$Rule: an object u with isR u; code u+1, stack u+2, waiting u+3, noteKeys u+4, notes u+5. What a rule is worth. Printed by wip/whole. -/
def isR (u : Nat) : Prop := u ∈ ([127, 133] : List Nat)
theorem xR_sh {u : Nat} (h : isR u) : xSh[u]? = some (0, 3, 11) := (show ∀ a ∈ ([127, 133] : List Nat), xSh[a]? = some (0, 3, 11) by decide +kernel) u h
theorem xR_i {u : Nat} (h : isR u) : ∀ k, k ∈ ([1, 4, 5, 6, 7, 8] : List Nat) → xint u k = true := (show ∀ a ∈ ([127, 133] : List Nat), ∀ k, k ∈ ([1, 4, 5, 6, 7, 8] : List Nat) → xint a k = true by decide +kernel) u h
theorem xR_r {u : Nat} (h : isR u) : xrf u 0 = some (u + 1) ∧ xrf u 2 = some (u + 2) ∧ xrf u 3 = some (u + 3) ∧ xrf u 9 = some (u + 4) ∧ xrf u 10 = some (u + 5) := (show ∀ u ∈ ([127, 133] : List Nat), xrf u 0 = some (u + 1) ∧ xrf u 2 = some (u + 2) ∧ xrf u 3 = some (u + 3) ∧ xrf u 9 = some (u + 4) ∧ xrf u 10 = some (u + 5) by decide +kernel) u h
theorem xR_a {u : Nat} (h : isR u) : xSh[u + 1]? = some (1, 0, 40) ∧ xSh[u + 2]? = some (1, 0, 40) ∧ xSh[u + 3]? = some (1, 0, 40) ∧ xSh[u + 4]? = some (1, 0, 1024) ∧ xSh[u + 5]? = some (1, 2, 1024) := (show ∀ u ∈ ([127, 133] : List Nat), xSh[u + 1]? = some (1, 0, 40) ∧ xSh[u + 2]? = some (1, 0, 40) ∧ xSh[u + 3]? = some (1, 0, 40) ∧ xSh[u + 4]? = some (1, 0, 1024) ∧ xSh[u + 5]? = some (1, 2, 1024) by decide +kernel) u h
theorem xR_0 {u : Nat} (h : isR u) : ∀ k, k < 11 → (u == 0 && (k == kPul || k == kOth)) = false := (show ∀ u ∈ ([127, 133] : List Nat), ∀ k, k < 11 → (u == 0 && (k == kPul || k == kOth)) = false by decide +kernel) u h
theorem xgs_51 : Cond.fieldLink "FishFerry$Rule" 51 "FishFerry$Rule" "PLAIN" "[I" ∈ xG := by decide +kernel
theorem xgs_123 : Cond.fieldLink "FishFerry$Rule" 123 "FishFerry$Rule" "SHIFTS" "[I" ∈ xG := by decide +kernel
theorem xgs_126 : Cond.fieldLink "FishFerry$Rule" 126 "FishFerry$Rule" "MASKS" "[I" ∈ xG := by decide +kernel
section
variable {l : Launch} {M : mT} {d pc : Nat} {lv : List (Option Value)} {r : List Value} {σ : xs} {Q : Option Value → xs → Prop}
theorem tt_gets {i a : Nat} {q : String × List Int32} (ha : xsa[a]? = some q) (hw : Cond.fieldLink (mOwn M) i "FishFerry$Rule" q.1 "[I" ∈ xG) (hd : decode (mCd M) pc = .ok (.getstatic i, 3)) (k : T l M d (pc + 3) lv (.ref (xB + a) :: r) σ Q) : T l M d pc lv r σ Q := E.gets ha hw hd k
theorem tn_sald {a j : Nat} {x : Int32} {q : String × List Int32} (hd : decode (mCd M) pc = .ok (.iaload, 1)) (ha : xsa[a]? = some q) (hn : q.2.length < 2 ^ 31) (hj : j < q.2.length) (hv : q.2.getD j 0 = x) (k : T l M d (pc + 1) lv (.int x :: r) σ Q) : T l M d pc lv (.int (nI j) :: .ref (xB + a) :: r) σ Q := by
  subst hv
  refine E.sald ha (vp_in_nI hj hn) hd ?_
  rw [nI_clamp (by omega)]
  exact k
end
theorem wI_wA {σ : xs} {a j : Nat} {f : Nat → Int32} {v : Int32} : wI (wA σ a f) a j v = wA σ a (fun k => if k = j then v else f k) := by
  have e : up2 (si (wA σ a f)) a j v = si (wA σ a (fun k => if k = j then v else f k)) := by
    funext b k
    rw [up2_at, si_wA, si_wA]
    by_cases hb : b = a
    · by_cases hk : k = j <;> simp [hb, hk]
    · simp [hb]
  show (σ.1, up2 (si (wA σ a f)) a j v, σ.2.2) = _
  rw [e]
  rfl
/-- what a sign (by its number) makes of two -/
def X_join (s : Nat) (a b : Int32) : Int32 := if s = 42 then a * b else if s = 43 then a + b else if s = 45 then a - b else if s = 60 then (if a < b then nI 1 else nI 0) else if s = 61 then (if a = b then nI 1 else nI 0) else if s = 62 then (if b < a then nI 1 else nI 0) else if b = 0 then nI 0 else a / b
theorem x_joined {l : Launch} {d : Nat} {σ : xs} {s : Nat} {a b : Int32} (hs : s = 42 ∨ s = 43 ∨ s = 45 ∨ s = 60 ∨ s = 61 ∨ s = 62 ∨ s = 47) : TE l M_Rule_joined (d + 1) [.int (nI s), .int a, .int b] σ (some (.int (X_join s a b))) (σ) := by
  show T l M_Rule_joined (d + 1) 0 _ [] σ _
  refine tt_iload_n d_Rule_joined_0 rfl ?_
  have hcase : s = 42 ∨ s = 43 ∨ s = 45 ∨ s = 60 ∨ s = 61 ∨ s = 62 ∨ s = 47 := by omega
  rcases hcase with rfl | rfl | rfl | rfl | rfl | rfl | rfl
  · refine tt_lku (t := 101) d_Rule_joined_1 rfl ?_
    refine tt_iload_n d_Rule_joined_101 rfl ?_
    refine tt_iload_n d_Rule_joined_102 rfl ?_
    refine tt_imul d_Rule_joined_103 ?_
    refine tt_iret rfl d_Rule_joined_104 ?_
    exact ⟨rfl, rfl⟩
  · refine tt_lku (t := 93) d_Rule_joined_1 rfl ?_
    refine tt_iload_n d_Rule_joined_93 rfl ?_
    refine tt_iload_n d_Rule_joined_94 rfl ?_
    refine tt_iadd d_Rule_joined_95 ?_
    refine tt_iret rfl d_Rule_joined_96 ?_
    exact ⟨rfl, rfl⟩
  · refine tt_lku (t := 97) d_Rule_joined_1 rfl ?_
    refine tt_iload_n d_Rule_joined_97 rfl ?_
    refine tt_iload_n d_Rule_joined_98 rfl ?_
    refine tt_isub d_Rule_joined_99 ?_
    refine tt_iret rfl d_Rule_joined_100 ?_
    exact ⟨rfl, rfl⟩
  · refine tt_lku (t := 60) d_Rule_joined_1 rfl ?_
    refine tt_iload_n d_Rule_joined_60 rfl ?_
    refine tt_iload_n d_Rule_joined_61 rfl ?_
    refine tt_ic_ge (t := 69) d_Rule_joined_62 (by decide) (fun c_62 => ?_) (fun c_62 => ?_)
    · refine tt_iconst (v := nI 0) d_Rule_joined_69 (by decide) ?_
      refine tt_iret rfl d_Rule_joined_70 ?_
      refine ⟨congrArg (fun w => some (Value.int w)) ?_, rfl⟩
      first | exact (if_pos (fa_nle c_62)).symm | exact (if_neg (fa_ngt c_62)).symm
    · refine tt_iconst (v := nI 1) d_Rule_joined_65 (by decide) ?_
      refine tt_goto (t := 70) d_Rule_joined_66 (by decide) ?_
      refine tt_iret rfl d_Rule_joined_70 ?_
      refine ⟨congrArg (fun w => some (Value.int w)) ?_, rfl⟩
      first | exact (if_pos (fa_nle c_62)).symm | exact (if_neg (fa_ngt c_62)).symm
  · refine tt_lku (t := 82) d_Rule_joined_1 rfl ?_
    refine tt_iload_n d_Rule_joined_82 rfl ?_
    refine tt_iload_n d_Rule_joined_83 rfl ?_
    refine tt_ic_ne (t := 91) d_Rule_joined_84 (by decide) (fun c_84 => ?_) (fun c_84 => ?_)
    · refine tt_iconst (v := nI 0) d_Rule_joined_91 (by decide) ?_
      refine tt_iret rfl d_Rule_joined_92 ?_
      refine ⟨congrArg (fun w => some (Value.int w)) ?_, rfl⟩
      first | exact (if_neg c_84).symm | exact (if_pos (Classical.not_not.mp c_84)).symm
    · refine tt_iconst (v := nI 1) d_Rule_joined_87 (by decide) ?_
      refine tt_goto (t := 92) d_Rule_joined_88 (by decide) ?_
      refine tt_iret rfl d_Rule_joined_92 ?_
      refine ⟨congrArg (fun w => some (Value.int w)) ?_, rfl⟩
      first | exact (if_neg c_84).symm | exact (if_pos (Classical.not_not.mp c_84)).symm
  · refine tt_lku (t := 71) d_Rule_joined_1 rfl ?_
    refine tt_iload_n d_Rule_joined_71 rfl ?_
    refine tt_iload_n d_Rule_joined_72 rfl ?_
    refine tt_ic_le (t := 80) d_Rule_joined_73 (by decide) (fun c_73 => ?_) (fun c_73 => ?_)
    · refine tt_iconst (v := nI 0) d_Rule_joined_80 (by decide) ?_
      refine tt_iret rfl d_Rule_joined_81 ?_
      refine ⟨congrArg (fun w => some (Value.int w)) ?_, rfl⟩
      first | exact (if_pos (fa_nle c_73)).symm | exact (if_neg (fa_ngt c_73)).symm
    · refine tt_iconst (v := nI 1) d_Rule_joined_76 (by decide) ?_
      refine tt_goto (t := 81) d_Rule_joined_77 (by decide) ?_
      refine tt_iret rfl d_Rule_joined_81 ?_
      refine ⟨congrArg (fun w => some (Value.int w)) ?_, rfl⟩
      first | exact (if_pos (fa_nle c_73)).symm | exact (if_neg (fa_ngt c_73)).symm
  · refine tt_lku (t := 105) d_Rule_joined_1 rfl ?_
    refine tt_iload_n d_Rule_joined_105 rfl ?_
    refine tt_if_ne (t := 113) d_Rule_joined_106 (by decide) (fun c_106 => ?_) (fun c_106 => ?_)
    · refine tt_iload_n d_Rule_joined_113 rfl ?_
      refine tt_iload_n d_Rule_joined_114 rfl ?_
      refine tt_idiv d_Rule_joined_115 c_106 ?_
      refine tt_iret rfl d_Rule_joined_116 ?_
      refine ⟨congrArg (fun w => some (Value.int w)) ?_, rfl⟩
      first | exact (if_neg c_106).symm | exact (if_pos (Classical.not_not.mp c_106)).symm
    · refine tt_iconst (v := nI 0) d_Rule_joined_109 (by decide) ?_
      refine tt_goto (t := 116) d_Rule_joined_110 (by decide) ?_
      refine tt_iret rfl d_Rule_joined_116 ?_
      refine ⟨congrArg (fun w => some (Value.int w)) ?_, rfl⟩
      first | exact (if_neg c_106).symm | exact (if_pos (Classical.not_not.mp c_106)).symm

