/-! FishFerry$Rule: an object u with isR u; code u+1, stack u+2, waiting u+3, noteKeys u+4, notes u+5. What a rule is worth. Printed by wip/whole. -/
def isR (u : Nat) : Prop := u ∈ ([127, 133] : List Nat)
theorem xR_sh {u : Nat} (h : isR u) : xSh[u]? = some (0, 3, 11) := (show ∀ a ∈ ([127, 133] : List Nat), xSh[a]? = some (0, 3, 11) by decide +kernel) u h
theorem xR_i {u : Nat} (h : isR u) : ∀ k, k ∈ ([1, 4, 5, 6, 7, 8] : List Nat) → xint u k = true := (show ∀ a ∈ ([127, 133] : List Nat), ∀ k, k ∈ ([1, 4, 5, 6, 7, 8] : List Nat) → xint a k = true by decide +kernel) u h
theorem xR_r {u : Nat} (h : isR u) : xrf u 0 = some (u + 1) ∧ xrf u 2 = some (u + 2) ∧ xrf u 3 = some (u + 3) ∧ xrf u 9 = some (u + 4) ∧ xrf u 10 = some (u + 5) := (show ∀ u ∈ ([127, 133] : List Nat), xrf u 0 = some (u + 1) ∧ xrf u 2 = some (u + 2) ∧ xrf u 3 = some (u + 3) ∧ xrf u 9 = some (u + 4) ∧ xrf u 10 = some (u + 5) by decide +kernel) u h
theorem xR_a {u : Nat} (h : isR u) : xSh[u + 1]? = some (1, 0, 40) ∧ xSh[u + 2]? = some (1, 0, 40) ∧ xSh[u + 3]? = some (1, 0, 40) ∧ xSh[u + 4]? = some (1, 0, 1024) ∧ xSh[u + 5]? = some (1, 2, 1024) := (show ∀ u ∈ ([127, 133] : List Nat), xSh[u + 1]? = some (1, 0, 40) ∧ xSh[u + 2]? = some (1, 0, 40) ∧ xSh[u + 3]? = some (1, 0, 40) ∧ xSh[u + 4]? = some (1, 0, 1024) ∧ xSh[u + 5]? = some (1, 2, 1024) by decide +kernel) u h
theorem xR_0 {u : Nat} (h : isR u) : ∀ k, k < 11 → (u == 0 && (k == kPul || k == kOth)) = false := (show ∀ u ∈ ([127, 133] : List Nat), ∀ k, k < 11 → (u == 0 && (k == kPul || k == kOth)) = false by decide +kernel) u h
theorem xgs_51 : Cond.fieldLink "FishFerry$Rule" 51 "FishFerry$Rule" "PLAIN" "[I" ∈ xG := by decide +kernel
theorem xgs_123 : Cond.fieldLink "FishFerry$Rule" 123 "FishFerry$Rule" "SHIFTS" "[I" ∈ xG := by decide +kernel
theorem xgs_126 : Cond.fieldLink "FishFerry$Rule" 126 "FishFerry$Rule" "MASKS" "[I" ∈ xG := by decide +kernel
section
variable {l : xLa} {M : mT} {d pc : Nat} {lv : List (Option Value)} {r : List Value} {σ : xs} {Q : Option Value → xs → Prop}
theorem tt_gets {i a : Nat} {q : String × List Int32} (ha : xsa[a]? = some q) (hw : Cond.fieldLink (mOwn M) i "FishFerry$Rule" q.1 "[I" ∈ xG) (hd : decode (mCd M) pc = .ok (.getstatic i, 3)) (k : T l M d (pc + 3) lv (.ref (xB + a) :: r) σ Q) : T l M d pc lv r σ Q := E.gets ha hw hd k
theorem tn_sald {a j : Nat} {x : Int32} {q : String × List Int32} (hd : decode (mCd M) pc = .ok (.iaload, 1)) (ha : xsa[a]? = some q) (hn : q.2.length < 2 ^ 31) (hj : j < q.2.length) (hv : q.2.getD j 0 = x) (k : T l M d (pc + 1) lv (.int x :: r) σ Q) : T l M d pc lv (.int (nI j) :: .ref (xB + a) :: r) σ Q := by
  subst hv
  refine E.sald ha (vp_in_nI hj hn) hd ?_
  rw [nI_clamp (by omega)]
  exact k
end
theorem wI_wA {σ : xs} {a j : Nat} {f : Nat → Int32} {v : Int32} : wI (wA σ a f) a j v = wA σ a (fun k => if k = j then v else f k) := by
  have e : up2 (si (wA σ a f)) a j v = si (wA σ a (fun k => if k = j then v else f k)) := by
    funext b k
    rw [up2_at, si_wA, si_wA]
    by_cases hb : b = a
    · by_cases hk : k = j <;> simp [hb, hk]
    · simp [hb]
  show (σ.1, up2 (si (wA σ a f)) a j v, σ.2.2) = _
  rw [e]
  rfl
/-- what a sign (by its number) makes of two -/
def X_join (s : Nat) (a b : Int32) : Int32 := if s = 42 then a * b else if s = 43 then a + b else if s = 45 then a - b else if s = 60 then (if a < b then nI 1 else nI 0) else if s = 61 then (if a = b then nI 1 else nI 0) else if s = 62 then (if b < a then nI 1 else nI 0) else if b = 0 then nI 0 else a / b
theorem x_joined {l : xLa} {d : Nat} {σ : xs} {s : Nat} {a b : Int32} (hs : s = 42 ∨ s = 43 ∨ s = 45 ∨ s = 60 ∨ s = 61 ∨ s = 62 ∨ s = 47) : TE l M_Rule_joined (d + 1) [.int (nI s), .int a, .int b] σ (some (.int (X_join s a b))) (σ) := by
  show T l M_Rule_joined (d + 1) 0 _ [] σ _
  refine tt_iload_n d_Rule_joined_0 rfl ?_
  have hcase : s = 42 ∨ s = 43 ∨ s = 45 ∨ s = 60 ∨ s = 61 ∨ s = 62 ∨ s = 47 := by omega
  rcases hcase with rfl | rfl | rfl | rfl | rfl | rfl | rfl
  · refine tt_lku (t := 101) d_Rule_joined_1 rfl ?_
    refine tt_iload_n d_Rule_joined_101 rfl ?_
    refine tt_iload_n d_Rule_joined_102 rfl ?_
    refine tt_imul d_Rule_joined_103 ?_
    refine tt_iret rfl d_Rule_joined_104 ?_
    exact ⟨rfl, rfl⟩
  · refine tt_lku (t := 93) d_Rule_joined_1 rfl ?_
    refine tt_iload_n d_Rule_joined_93 rfl ?_
    refine tt_iload_n d_Rule_joined_94 rfl ?_
    refine tt_iadd d_Rule_joined_95 ?_
    refine tt_iret rfl d_Rule_joined_96 ?_
    exact ⟨rfl, rfl⟩
  · refine tt_lku (t := 97) d_Rule_joined_1 rfl ?_
    refine tt_iload_n d_Rule_joined_97 rfl ?_
    refine tt_iload_n d_Rule_joined_98 rfl ?_
    refine tt_isub d_Rule_joined_99 ?_
    refine tt_iret rfl d_Rule_joined_100 ?_
    exact ⟨rfl, rfl⟩
  · refine tt_lku (t := 60) d_Rule_joined_1 rfl ?_
    refine tt_iload_n d_Rule_joined_60 rfl ?_
    refine tt_iload_n d_Rule_joined_61 rfl ?_
    refine tt_ic_ge (t := 69) d_Rule_joined_62 (by decide) (fun c_62 => ?_) (fun c_62 => ?_)
    · refine tt_iconst (v := nI 0) d_Rule_joined_69 (by decide) ?_
      refine tt_iret rfl d_Rule_joined_70 ?_
      refine ⟨congrArg (fun w => some (Value.int w)) ?_, rfl⟩
      first | exact (if_pos (fa_nle c_62)).symm | exact (if_neg (fa_ngt c_62)).symm
    · refine tt_iconst (v := nI 1) d_Rule_joined_65 (by decide) ?_
      refine tt_goto (t := 70) d_Rule_joined_66 (by decide) ?_
      refine tt_iret rfl d_Rule_joined_70 ?_
      refine ⟨congrArg (fun w => some (Value.int w)) ?_, rfl⟩
      first | exact (if_pos (fa_nle c_62)).symm | exact (if_neg (fa_ngt c_62)).symm
  · refine tt_lku (t := 82) d_Rule_joined_1 rfl ?_
    refine tt_iload_n d_Rule_joined_82 rfl ?_
    refine tt_iload_n d_Rule_joined_83 rfl ?_
    refine tt_ic_ne (t := 91) d_Rule_joined_84 (by decide) (fun c_84 => ?_) (fun c_84 => ?_)
    · refine tt_iconst (v := nI 0) d_Rule_joined_91 (by decide) ?_
      refine tt_iret rfl d_Rule_joined_92 ?_
      refine ⟨congrArg (fun w => some (Value.int w)) ?_, rfl⟩
      first | exact (if_neg c_84).symm | exact (if_pos (Classical.not_not.mp c_84)).symm
    · refine tt_iconst (v := nI 1) d_Rule_joined_87 (by decide) ?_
      refine tt_goto (t := 92) d_Rule_joined_88 (by decide) ?_
      refine tt_iret rfl d_Rule_joined_92 ?_
      refine ⟨congrArg (fun w => some (Value.int w)) ?_, rfl⟩
      first | exact (if_neg c_84).symm | exact (if_pos (Classical.not_not.mp c_84)).symm
  · refine tt_lku (t := 71) d_Rule_joined_1 rfl ?_
    refine tt_iload_n d_Rule_joined_71 rfl ?_
    refine tt_iload_n d_Rule_joined_72 rfl ?_
    refine tt_ic_le (t := 80) d_Rule_joined_73 (by decide) (fun c_73 => ?_) (fun c_73 => ?_)
    · refine tt_iconst (v := nI 0) d_Rule_joined_80 (by decide) ?_
      refine tt_iret rfl d_Rule_joined_81 ?_
      refine ⟨congrArg (fun w => some (Value.int w)) ?_, rfl⟩
      first | exact (if_pos (fa_nle c_73)).symm | exact (if_neg (fa_ngt c_73)).symm
    · refine tt_iconst (v := nI 1) d_Rule_joined_76 (by decide) ?_
      refine tt_goto (t := 81) d_Rule_joined_77 (by decide) ?_
      refine tt_iret rfl d_Rule_joined_81 ?_
      refine ⟨congrArg (fun w => some (Value.int w)) ?_, rfl⟩
      first | exact (if_pos (fa_nle c_73)).symm | exact (if_neg (fa_ngt c_73)).symm
  · refine tt_lku (t := 105) d_Rule_joined_1 rfl ?_
    refine tt_iload_n d_Rule_joined_105 rfl ?_
    refine tt_if_ne (t := 113) d_Rule_joined_106 (by decide) (fun c_106 => ?_) (fun c_106 => ?_)
    · refine tt_iload_n d_Rule_joined_113 rfl ?_
      refine tt_iload_n d_Rule_joined_114 rfl ?_
      refine tt_idiv d_Rule_joined_115 c_106 ?_
      refine tt_iret rfl d_Rule_joined_116 ?_
      refine ⟨congrArg (fun w => some (Value.int w)) ?_, rfl⟩
      first | exact (if_neg c_106).symm | exact (if_pos (Classical.not_not.mp c_106)).symm
    · refine tt_iconst (v := nI 0) d_Rule_joined_109 (by decide) ?_
      refine tt_goto (t := 116) d_Rule_joined_110 (by decide) ?_
      refine tt_iret rfl d_Rule_joined_116 ?_
      refine ⟨congrArg (fun w => some (Value.int w)) ?_, rfl⟩
      first | exact (if_neg c_106).symm | exact (if_pos (Classical.not_not.mp c_106)).symm

theorem and7 : ∀ m, m < 8 → nI m &&& nI 7 = nI m := by decide +kernel
def shf (i : Nat) : Int32 := ([0, 4, 8, 12, 16, 20, 23, 25] : List Int32).getD i 0
def msk (i : Nat) : Int32 := ([15, 15, 15, 15, 15, 7, 3, 15] : List Int32).getD i 0
/-- a code that a rule may have -/
def okc (c : Nat) : Prop := c < 1000 ∨ (1000 ≤ c ∧ c < 1008) ∨ c = 3000 ∨ c = 2042 ∨ c = 2043 ∨ c = 2045 ∨ c = 2060 ∨ c = 2061 ∨ c = 2062 ∨ c = 2047
/-- one code over a stack, its bottom first -/
def gst (key : Int32) (c : Nat) (G : List Int32) : List Int32 :=
  if c < 1000 then G ++ [nI c] else if c < 2000 then G ++ [ush key (shf (c - 1000)) &&& msk (c - 1000)] else if c = 3000 then (if 0 < G.length then G.set (G.length - 1) (-(G.getD (G.length - 1) 0)) else G) else
  if 1 < G.length then G.take (G.length - 2) ++ [X_join (c - 2000) (G.getD (G.length - 2) 0) (G.getD (G.length - 1) 0)] else G
def gL (key : Int32) (c : Nat → Nat) : Nat → List Int32
  | 0 => []
  | i + 1 => gst key (c i) (gL key c i)
theorem gst_len {key : Int32} {c : Nat} {G : List Int32} : (gst key c G).length ≤ G.length + 1 := by
  unfold gst
  split
  · simp
  · split
    · simp
    · split
      · split <;> simp
      · split
        · simp
          try omega
        · omega
theorem gL_len {key : Int32} {c : Nat → Nat} : ∀ i, (gL key c i).length ≤ i
  | 0 => Nat.le_refl _
  | i + 1 => Nat.le_trans gst_len (by have := gL_len (key := key) (c := c) i; omega)
def AR (f : Nat → Int32) (G : List Int32) : Prop := ∀ j, j < G.length → f j = G.getD j 0
theorem AR_push {f : Nat → Int32} {G : List Int32} {v : Int32} (h : AR f G) : AR (fun k => if k = G.length then v else f k) (G ++ [v]) := by
  intro j hj
  dsimp only
  by_cases e : j = G.length
  · subst e
    simp
  · have hj : j < G.length := by simp at hj; omega
    rw [if_neg e, h j hj]
    simp [List.getD_eq_getElem?_getD, List.getElem?_append_left hj]
theorem AR_neg {f : Nat → Int32} {G : List Int32} {v : Int32} (h : AR f G) (h0 : 0 < G.length) : AR (fun k => if k = G.length - 1 then v else f k) (G.set (G.length - 1) v) := by
  intro j hj
  dsimp only
  rw [List.length_set] at hj
  by_cases e : j = G.length - 1
  · rw [if_pos e, e, List.getD_eq_getElem?_getD, List.getElem?_set_self (by omega)]
    rfl
  · rw [if_neg e, h j hj, List.getD_eq_getElem?_getD, List.getD_eq_getElem?_getD, List.getElem?_set_ne (fun q => e q.symm)]
theorem AR_bin {f : Nat → Int32} {G : List Int32} {v : Int32} (h : AR f G) (h1 : 1 < G.length) : AR (fun k => if k = G.length - 2 then v else f k) (G.take (G.length - 2) ++ [v]) := by
  intro j hj
  dsimp only
  have hl : (G.take (G.length - 2)).length = G.length - 2 := by simp
  rw [List.length_append, hl] at hj
  have hj : j < G.length - 2 + 1 := hj
  by_cases e : j = G.length - 2
  · rw [if_pos e, e, List.getD_eq_getElem?_getD, List.getElem?_append_right (by omega), hl]
    simp
  · rw [if_neg e, h j (by omega), List.getD_eq_getElem?_getD, List.getD_eq_getElem?_getD, List.getElem?_append_left (by omega), List.getElem?_take]
    rw [if_pos (by omega)]
theorem x_reckon_l {l : xLa} {d : Nat} {σ : xs} {u n : Nat} {key : Int32} {c : Nat → Nat} (hu : isR u) (hn : sf σ u 1 = nI n) (hn40 : n ≤ 40) (hcd : ∀ i, i < n → si σ (u + 1) i = nI (c i) ∧ okc (c i)) (hne : 0 < (gL key c n).length) : ∀ (m : Nat) (i : Nat) (f : Nat → Int32) (y z : Option Int32), n - i = m → i ≤ n → AR f (gL key c i) → T l M_Rule_reckon (d + 2) 4 [some (.ref u), some (.int key), some (.int (nI (gL key c i).length)), some (.int (nI i)), y.map Value.int, z.map Value.int] [] (wA σ (u + 2) f) (fun r σ' => r = some (.int ((gL key c n).getD 0 0)) ∧ ∃ f, σ' = wA σ (u + 2) f) := by
  intro m
  induction m using Nat.strongRecOn with
  | ind m ih =>
    intro i f y z hm hi hAR
    have hgl := gL_len (key := key) (c := c) i
    refine tt_iload_n d_Rule_reckon_4 rfl ?_
    refine tt_aload_n d_Rule_reckon_5 rfl ?_
    refine tn_get d_Rule_reckon_6 rfl (xR_sh hu) (by decide) (xR_i hu _ (by decide)) (show sf (wA σ (u + 2) f) u 1 = nI n from hn) ?_
    refine tn_ic_ge (t := 171) (by omega) (by omega) d_Rule_reckon_9 (by decide) (fun c_9 => ?_) (fun c_9 => ?_)
    · obtain rfl : i = n := by omega
      refine tt_aload_n d_Rule_reckon_171 rfl ?_
      refine tt_getR d_Rule_reckon_172 rfl (xR_sh hu) (by decide) ((xR_r hu).2.1) (xR_0 hu _ (by decide)) ?_
      refine tt_iconst (v := nI 0) d_Rule_reckon_175 (by decide) ?_
      refine tn_iald d_Rule_reckon_176 ((xR_a hu).2.1) (by decide) (by omega) (show si (wA σ (u + 2) f) (u + 2) 0 = (gL key c i).getD 0 0 by rw [si_wA, if_pos rfl]; exact hAR 0 hne) ?_
      refine tt_iret rfl d_Rule_reckon_177 ?_
      exact ⟨rfl, f, rfl⟩
    · refine tt_iload_n d_Rule_reckon_12 rfl ?_
      refine tt_bipush (v := nI 40) d_Rule_reckon_13 (by decide) ?_
      refine tn_ic_ge (t := 171) (by omega) (by omega) d_Rule_reckon_15 (by decide) (fun c_15 => ?_) (fun c_15 => ?_)
      · exact absurd c_15 (by omega)
      · refine tt_aload_n d_Rule_reckon_18 rfl ?_
        refine tt_getR d_Rule_reckon_19 rfl (xR_sh hu) (by decide) ((xR_r hu).1) (xR_0 hu _ (by decide)) ?_
        refine tt_iload_n d_Rule_reckon_22 rfl ?_
        refine tn_iald d_Rule_reckon_23 ((xR_a hu).1) (by decide) (by omega) (show si (wA σ (u + 2) f) (u + 1) i = nI (c i) by rw [si_wA, if_neg (by omega)]; exact (hcd i c_9).1) ?_
        have hok := (hcd i c_9).2
        unfold okc at hok
        refine tt_istore d_Rule_reckon_24 (by decide) rfl ?_
        refine tt_iload d_Rule_reckon_26 rfl ?_
        refine tt_sipush (v := nI 1000) d_Rule_reckon_28 (by decide) ?_
        refine tn_ic_ge (t := 48) (by omega) (by omega) d_Rule_reckon_31 (by decide) (fun c_31 => ?_) (fun c_31 => ?_)
        · refine tt_iload d_Rule_reckon_48 rfl ?_
          refine tt_sipush (v := nI 2000) d_Rule_reckon_50 (by decide) ?_
          refine tn_ic_ge (t := 94) (by omega) (by omega) d_Rule_reckon_53 (by decide) (fun c_53 => ?_) (fun c_53 => ?_)
          · refine tt_iload d_Rule_reckon_94 rfl ?_
            refine tt_sipush (v := nI 3000) d_Rule_reckon_96 (by decide) ?_
            refine tn_ic_ne (t := 126) (by omega) (by omega) d_Rule_reckon_99 (by decide) (fun c_99 => ?_) (fun c_99 => ?_)
            · have hn3 : ¬ c i = 3000 := c_99
              refine tt_iload_n d_Rule_reckon_126 rfl ?_
              refine tt_iconst (v := nI 1) d_Rule_reckon_127 (by decide) ?_
              refine tn_ic_le (t := 165) (by omega) (by omega) d_Rule_reckon_128 (by decide) (fun c_128 => ?_) (fun c_128 => ?_)
              · skip
                refine tt_iinc d_Rule_reckon_165 rfl (nI_inc _ 1) (by decide) rfl ?_
                refine tt_goto (t := 4) d_Rule_reckon_168 (by decide) ?_
                have e : gL key c (i + 1) = (gL key c i) := by
                  refine (if_neg (by omega)).trans ((if_neg (by omega)).trans ?_)
                  by_cases h3 : c i = 3000
                  · exact (if_pos h3).trans (if_neg (by omega))
                  · exact (if_neg h3).trans (if_neg (by omega))
                have q := ih (n - (i + 1)) (by omega) (i + 1) f (some (nI (c i))) z rfl (by omega) (by rw [e]; exact hAR)
                rw [e] at q
                exact q
              · have hn3 : ¬ c i = 3000 := by omega
                refine tt_iinc d_Rule_reckon_131 rfl (show nI (gL key c i).length + Int32.ofInt (-1) = nI ((gL key c i).length - 1) by rw [show (gL key c i).length = ((gL key c i).length - 1) + 1 by omega]; exact pk_m1 _) (by decide) rfl ?_
                refine tt_aload_n d_Rule_reckon_134 rfl ?_
                refine tt_getR d_Rule_reckon_135 rfl (xR_sh hu) (by decide) ((xR_r hu).2.1) (xR_0 hu _ (by decide)) ?_
                refine tt_iload_n d_Rule_reckon_138 rfl ?_
                refine tt_iconst (v := nI 1) d_Rule_reckon_139 (by decide) ?_
                refine tn_isub (by omega) d_Rule_reckon_140 ?_
                refine tt_iload d_Rule_reckon_141 rfl ?_
                refine tt_sipush (v := nI 2000) d_Rule_reckon_143 (by decide) ?_
                refine tn_isub (by omega) d_Rule_reckon_146 ?_
                refine tt_aload_n d_Rule_reckon_147 rfl ?_
                refine tt_getR d_Rule_reckon_148 rfl (xR_sh hu) (by decide) ((xR_r hu).2.1) (xR_0 hu _ (by decide)) ?_
                refine tt_iload_n d_Rule_reckon_151 rfl ?_
                refine tt_iconst (v := nI 1) d_Rule_reckon_152 (by decide) ?_
                refine tn_isub (by omega) d_Rule_reckon_153 ?_
                refine tn_iald d_Rule_reckon_154 ((xR_a hu).2.1) (by decide) (by omega) (show si (wA σ (u + 2) f) (u + 2) ((gL key c i).length - 1 - 1) = (gL key c i).getD ((gL key c i).length - 1 - 1) 0 by rw [si_wA, if_pos rfl]; exact hAR _ (by omega)) ?_
                refine tt_aload_n d_Rule_reckon_155 rfl ?_
                refine tt_getR d_Rule_reckon_156 rfl (xR_sh hu) (by decide) ((xR_r hu).2.1) (xR_0 hu _ (by decide)) ?_
                refine tt_iload_n d_Rule_reckon_159 rfl ?_
                refine tn_iald d_Rule_reckon_160 ((xR_a hu).2.1) (by decide) (by omega) (show si (wA σ (u + 2) f) (u + 2) ((gL key c i).length - 1) = (gL key c i).getD ((gL key c i).length - 1) 0 by rw [si_wA, if_pos rfl]; exact hAR _ (by omega)) ?_
                refine tt_callS (x_joined (d := d) (s := c i - 2000) (by omega)) cw_Rule_joined rfl (by omega) d_Rule_reckon_161 rfl rfl (Nat.le_of_ble_eq_true rfl) (Nat.le_of_ble_eq_true rfl) rfl rfl rfl (fun v σ2 q => ?_)
                obtain ⟨rfl, e9⟩ := q
                rw [e9, show (gL key c i).length - 1 - 1 = (gL key c i).length - 2 by omega]
                clear e9
                refine tn_iast d_Rule_reckon_164 ((xR_a hu).2.1) (by decide) (by omega) ?_
                refine tt_iinc d_Rule_reckon_165 rfl (nI_inc _ 1) (by decide) rfl ?_
                refine tt_goto (t := 4) d_Rule_reckon_168 (by decide) ?_
                have e : gL key c (i + 1) = (gL key c i).take ((gL key c i).length - 2) ++ [X_join (c i - 2000) ((gL key c i).getD ((gL key c i).length - 2) 0) ((gL key c i).getD ((gL key c i).length - 1) 0)] := (if_neg (by omega)).trans ((if_neg (by omega)).trans ((if_neg hn3).trans (if_pos c_128)))
                have q := ih (n - (i + 1)) (by omega) (i + 1) (fun k => if k = (gL key c i).length - 2 then X_join (c i - 2000) ((gL key c i).getD ((gL key c i).length - 2) 0) ((gL key c i).getD ((gL key c i).length - 1) 0) else f k) (some (nI (c i))) z rfl (by omega) (by rw [e]; exact AR_bin hAR c_128)
                rw [e] at q
                refine T_cong wI_wA ?_
                rw [List.length_append, List.length_take, List.length_singleton, show min ((gL key c i).length - 2) (gL key c i).length = (gL key c i).length - 2 by omega, show (gL key c i).length - 2 + 1 = (gL key c i).length - 1 by omega] at q
                exact q
            · refine tt_iload_n d_Rule_reckon_102 rfl ?_
              refine tn_if_le (t := 126) (by omega) d_Rule_reckon_103 (by decide) (fun c_103 => ?_) (fun c_103 => ?_)
              · have hn3 : c i = 3000 ∧ (gL key c i).length = 0 := ⟨c_99, c_103⟩
                refine tt_iload_n d_Rule_reckon_126 rfl ?_
                refine tt_iconst (v := nI 1) d_Rule_reckon_127 (by decide) ?_
                refine tn_ic_le (t := 165) (by omega) (by omega) d_Rule_reckon_128 (by decide) (fun c_128 => ?_) (fun c_128 => ?_)
                · skip
                  refine tt_iinc d_Rule_reckon_165 rfl (nI_inc _ 1) (by decide) rfl ?_
                  refine tt_goto (t := 4) d_Rule_reckon_168 (by decide) ?_
                  have e : gL key c (i + 1) = (gL key c i) := by
                    refine (if_neg (by omega)).trans ((if_neg (by omega)).trans ?_)
                    by_cases h3 : c i = 3000
                    · exact (if_pos h3).trans (if_neg (by omega))
                    · exact (if_neg h3).trans (if_neg (by omega))
                  have q := ih (n - (i + 1)) (by omega) (i + 1) f (some (nI (c i))) z rfl (by omega) (by rw [e]; exact hAR)
                  rw [e] at q
                  exact q
                · have hn3 : ¬ c i = 3000 := by omega
                  refine tt_iinc d_Rule_reckon_131 rfl (show nI (gL key c i).length + Int32.ofInt (-1) = nI ((gL key c i).length - 1) by rw [show (gL key c i).length = ((gL key c i).length - 1) + 1 by omega]; exact pk_m1 _) (by decide) rfl ?_
                  refine tt_aload_n d_Rule_reckon_134 rfl ?_
                  refine tt_getR d_Rule_reckon_135 rfl (xR_sh hu) (by decide) ((xR_r hu).2.1) (xR_0 hu _ (by decide)) ?_
                  refine tt_iload_n d_Rule_reckon_138 rfl ?_
                  refine tt_iconst (v := nI 1) d_Rule_reckon_139 (by decide) ?_
                  refine tn_isub (by omega) d_Rule_reckon_140 ?_
                  refine tt_iload d_Rule_reckon_141 rfl ?_
                  refine tt_sipush (v := nI 2000) d_Rule_reckon_143 (by decide) ?_
                  refine tn_isub (by omega) d_Rule_reckon_146 ?_
                  refine tt_aload_n d_Rule_reckon_147 rfl ?_
                  refine tt_getR d_Rule_reckon_148 rfl (xR_sh hu) (by decide) ((xR_r hu).2.1) (xR_0 hu _ (by decide)) ?_
                  refine tt_iload_n d_Rule_reckon_151 rfl ?_
                  refine tt_iconst (v := nI 1) d_Rule_reckon_152 (by decide) ?_
                  refine tn_isub (by omega) d_Rule_reckon_153 ?_
                  refine tn_iald d_Rule_reckon_154 ((xR_a hu).2.1) (by decide) (by omega) (show si (wA σ (u + 2) f) (u + 2) ((gL key c i).length - 1 - 1) = (gL key c i).getD ((gL key c i).length - 1 - 1) 0 by rw [si_wA, if_pos rfl]; exact hAR _ (by omega)) ?_
                  refine tt_aload_n d_Rule_reckon_155 rfl ?_
                  refine tt_getR d_Rule_reckon_156 rfl (xR_sh hu) (by decide) ((xR_r hu).2.1) (xR_0 hu _ (by decide)) ?_
                  refine tt_iload_n d_Rule_reckon_159 rfl ?_
                  refine tn_iald d_Rule_reckon_160 ((xR_a hu).2.1) (by decide) (by omega) (show si (wA σ (u + 2) f) (u + 2) ((gL key c i).length - 1) = (gL key c i).getD ((gL key c i).length - 1) 0 by rw [si_wA, if_pos rfl]; exact hAR _ (by omega)) ?_
                  refine tt_callS (x_joined (d := d) (s := c i - 2000) (by omega)) cw_Rule_joined rfl (by omega) d_Rule_reckon_161 rfl rfl (Nat.le_of_ble_eq_true rfl) (Nat.le_of_ble_eq_true rfl) rfl rfl rfl (fun v σ2 q => ?_)
                  obtain ⟨rfl, e9⟩ := q
                  rw [e9, show (gL key c i).length - 1 - 1 = (gL key c i).length - 2 by omega]
                  clear e9
                  refine tn_iast d_Rule_reckon_164 ((xR_a hu).2.1) (by decide) (by omega) ?_
                  refine tt_iinc d_Rule_reckon_165 rfl (nI_inc _ 1) (by decide) rfl ?_
                  refine tt_goto (t := 4) d_Rule_reckon_168 (by decide) ?_
                  have e : gL key c (i + 1) = (gL key c i).take ((gL key c i).length - 2) ++ [X_join (c i - 2000) ((gL key c i).getD ((gL key c i).length - 2) 0) ((gL key c i).getD ((gL key c i).length - 1) 0)] := (if_neg (by omega)).trans ((if_neg (by omega)).trans ((if_neg hn3).trans (if_pos c_128)))
                  have q := ih (n - (i + 1)) (by omega) (i + 1) (fun k => if k = (gL key c i).length - 2 then X_join (c i - 2000) ((gL key c i).getD ((gL key c i).length - 2) 0) ((gL key c i).getD ((gL key c i).length - 1) 0) else f k) (some (nI (c i))) z rfl (by omega) (by rw [e]; exact AR_bin hAR c_128)
                  rw [e] at q
                  refine T_cong wI_wA ?_
                  rw [List.length_append, List.length_take, List.length_singleton, show min ((gL key c i).length - 2) (gL key c i).length = (gL key c i).length - 2 by omega, show (gL key c i).length - 2 + 1 = (gL key c i).length - 1 by omega] at q
                  exact q
              · refine tt_aload_n d_Rule_reckon_106 rfl ?_
                refine tt_getR d_Rule_reckon_107 rfl (xR_sh hu) (by decide) ((xR_r hu).2.1) (xR_0 hu _ (by decide)) ?_
                refine tt_iload_n d_Rule_reckon_110 rfl ?_
                refine tt_iconst (v := nI 1) d_Rule_reckon_111 (by decide) ?_
                refine tn_isub (by omega) d_Rule_reckon_112 ?_
                refine tt_aload_n d_Rule_reckon_113 rfl ?_
                refine tt_getR d_Rule_reckon_114 rfl (xR_sh hu) (by decide) ((xR_r hu).2.1) (xR_0 hu _ (by decide)) ?_
                refine tt_iload_n d_Rule_reckon_117 rfl ?_
                refine tt_iconst (v := nI 1) d_Rule_reckon_118 (by decide) ?_
                refine tn_isub (by omega) d_Rule_reckon_119 ?_
                refine tn_iald d_Rule_reckon_120 ((xR_a hu).2.1) (by decide) (by omega) (show si (wA σ (u + 2) f) (u + 2) ((gL key c i).length - 1) = (gL key c i).getD ((gL key c i).length - 1) 0 by rw [si_wA, if_pos rfl]; exact hAR _ (by omega)) ?_
                refine tt_ineg d_Rule_reckon_121 ?_
                refine tn_iast d_Rule_reckon_122 ((xR_a hu).2.1) (by decide) (by omega) ?_
                refine tt_goto (t := 165) d_Rule_reckon_123 (by decide) ?_
                refine tt_iinc d_Rule_reckon_165 rfl (nI_inc _ 1) (by decide) rfl ?_
                refine tt_goto (t := 4) d_Rule_reckon_168 (by decide) ?_
                have e : gL key c (i + 1) = (gL key c i).set ((gL key c i).length - 1) (-((gL key c i).getD ((gL key c i).length - 1) 0)) := (if_neg (by omega)).trans ((if_neg (by omega)).trans ((if_pos c_99).trans (if_pos c_103)))
                have q := ih (n - (i + 1)) (by omega) (i + 1) (fun k => if k = (gL key c i).length - 1 then -((gL key c i).getD ((gL key c i).length - 1) 0) else f k) (some (nI (c i))) z rfl (by omega) (by rw [e]; exact AR_neg hAR c_103)
                rw [e] at q
                refine T_cong wI_wA ?_
                first | (rw [List.length_append] at q; exact q) | (rw [List.length_set] at q; exact q) | exact q
          · refine tt_iload d_Rule_reckon_56 rfl ?_
            refine tt_sipush (v := nI 1000) d_Rule_reckon_58 (by decide) ?_
            refine tn_isub (by omega) d_Rule_reckon_61 ?_
            refine tt_bipush (v := nI 7) d_Rule_reckon_62 (by decide) ?_
            refine tt_iand d_Rule_reckon_64 ?_
            refine tt_top (y := nI (c i - 1000)) (and7 _ (by omega)) ?_
            refine tt_istore d_Rule_reckon_65 (by decide) rfl ?_
            refine tt_aload_n d_Rule_reckon_67 rfl ?_
            refine tt_getR d_Rule_reckon_68 rfl (xR_sh hu) (by decide) ((xR_r hu).2.1) (xR_0 hu _ (by decide)) ?_
            refine tt_iload_n d_Rule_reckon_71 rfl ?_
            refine tt_iload_n d_Rule_reckon_72 rfl ?_
            refine tt_gets (a := 1) rfl xgs_123 d_Rule_reckon_73 ?_
            refine tt_iload d_Rule_reckon_76 rfl ?_
            refine tn_sald d_Rule_reckon_78 (a := 1) (x := shf (c i - 1000)) rfl (by decide) (show c i - 1000 < 8 by omega) rfl ?_
            refine tt_iushr d_Rule_reckon_79 ?_
            refine tt_gets (a := 2) rfl xgs_126 d_Rule_reckon_80 ?_
            refine tt_iload d_Rule_reckon_83 rfl ?_
            refine tn_sald d_Rule_reckon_85 (a := 2) (x := msk (c i - 1000)) rfl (by decide) (show c i - 1000 < 8 by omega) rfl ?_
            refine tt_iand d_Rule_reckon_86 ?_
            refine tn_iast d_Rule_reckon_87 ((xR_a hu).2.1) (by decide) (by omega) ?_
            refine tt_iinc d_Rule_reckon_88 rfl (nI_inc _ 1) (by decide) rfl ?_
            refine tt_goto (t := 165) d_Rule_reckon_91 (by decide) ?_
            refine tt_iinc d_Rule_reckon_165 rfl (nI_inc _ 1) (by decide) rfl ?_
            refine tt_goto (t := 4) d_Rule_reckon_168 (by decide) ?_
            have e : gL key c (i + 1) = (gL key c i) ++ [ush key (shf (c i - 1000)) &&& msk (c i - 1000)] := (if_neg (by omega)).trans (if_pos c_53)
            have q := ih (n - (i + 1)) (by omega) (i + 1) (fun k => if k = (gL key c i).length then (ush key (shf (c i - 1000)) &&& msk (c i - 1000)) else f k) (some (nI (c i))) (some (nI (c i - 1000))) rfl (by omega) (by rw [e]; exact AR_push hAR)
            rw [e] at q
            refine T_cong wI_wA ?_
            first | (rw [List.length_append] at q; exact q) | (rw [List.length_set] at q; exact q) | exact q
        · refine tt_aload_n d_Rule_reckon_34 rfl ?_
          refine tt_getR d_Rule_reckon_35 rfl (xR_sh hu) (by decide) ((xR_r hu).2.1) (xR_0 hu _ (by decide)) ?_
          refine tt_iload_n d_Rule_reckon_38 rfl ?_
          refine tt_iload d_Rule_reckon_39 rfl ?_
          refine tn_iast d_Rule_reckon_41 ((xR_a hu).2.1) (by decide) (by omega) ?_
          refine tt_iinc d_Rule_reckon_42 rfl (nI_inc _ 1) (by decide) rfl ?_
          refine tt_goto (t := 165) d_Rule_reckon_45 (by decide) ?_
          refine tt_iinc d_Rule_reckon_165 rfl (nI_inc _ 1) (by decide) rfl ?_
          refine tt_goto (t := 4) d_Rule_reckon_168 (by decide) ?_
          have e : gL key c (i + 1) = (gL key c i) ++ [nI (c i)] := if_pos c_31
          have q := ih (n - (i + 1)) (by omega) (i + 1) (fun k => if k = (gL key c i).length then nI (c i) else f k) (some (nI (c i))) z rfl (by omega) (by rw [e]; exact AR_push hAR)
          rw [e] at q
          refine T_cong wI_wA ?_
          first | (rw [List.length_append] at q; exact q) | (rw [List.length_set] at q; exact q) | exact q

