/-! Lake.faultIn, Lake.measureFrom. Printed by wip/whole. -/
theorem i26 {x : Int32} (h1 : 2 ≤ x) (h2 : x ≤ 6) : ∃ r : Nat, 2 ≤ r ∧ r ≤ 6 ∧ x = nI r := by
  rw [fa_le'] at h1 h2
  have e1 : (2 : Int32).toInt = 2 := rfl
  have e2 : (6 : Int32).toInt = 6 := rfl
  rw [e1] at h1
  rw [e2] at h2
  refine ⟨x.toInt.toNat, by omega, by omega, ?_⟩
  apply Int32.toInt_inj.mp
  rw [nI_toInt (by omega)]
  omega
/-- where a text of a lake goes wrong, -1: nowhere -/
def X_lft (σ : xs) (n : Nat) : Int32 := if X_dig σ n 0 < nI 2 ∨ nI 6 < X_dig σ n 0 then nI 0 else if X_dig σ n 1 < nI 2 ∨ nI 6 < X_dig σ n 1 then nI 1 else
  X_lf σ n (2 + (X_dig σ n 0).toNatClampNeg * (X_dig σ n 1).toNatClampNeg) ((X_dig σ n 0).toNatClampNeg * (X_dig σ n 1).toNatClampNeg) 2
theorem x_Lake_faultIn {l : xLa} {d : Nat} {σ : xs} {n : Nat} (hn : sf σ 1 1 = nI n) (hz : n ≤ 80) : TE l M_Lake_faultIn (d + 3) [.ref 5, .ref 1] σ (some (.int (X_lft σ n))) (σ) := by
  show T l M_Lake_faultIn (d + 3) 0 _ [] σ _
  refine tt_aload_n d_Lake_faultIn_0 rfl ?_
  refine tt_iconst (v := nI 0) d_Lake_faultIn_1 (by decide) ?_
  refine tt_callV (x_Text_digit (d := d) (n := n) (j := 0) hn hz (by omega)) cw_Text_digit rfl rfl (by decide) rfl (by omega) d_Lake_faultIn_2 rfl rfl (Nat.le_of_ble_eq_true rfl) (Nat.le_of_ble_eq_true rfl) rfl rfl rfl (fun v σ2 q => ?_)
  obtain ⟨rfl, e9⟩ := q
  rw [e9]
  clear e9
  refine tt_istore_n d_Lake_faultIn_5 (by decide) rfl ?_
  refine tt_iload_n d_Lake_faultIn_6 rfl ?_
  refine tt_iconst (v := nI 2) d_Lake_faultIn_7 (by decide) ?_
  refine tt_ic_lt (t := 17) d_Lake_faultIn_8 (by decide) (fun c_8 => ?_) (fun c_8 => ?_)
  · refine tt_iconst (v := nI 0) d_Lake_faultIn_17 (by decide) ?_
    refine tt_iret rfl d_Lake_faultIn_18 ?_
    refine ⟨congrArg (fun w => some (Value.int w)) ?_, rfl⟩
    first | exact (if_pos (Or.inl c_8)).symm | exact (if_pos (Or.inr (fa_nle c_14))).symm
  · refine tt_iload_n d_Lake_faultIn_11 rfl ?_
    refine tt_bipush (v := nI 6) d_Lake_faultIn_12 (by decide) ?_
    refine tt_ic_le (t := 19) d_Lake_faultIn_14 (by decide) (fun c_14 => ?_) (fun c_14 => ?_)
    · refine tt_aload_n d_Lake_faultIn_19 rfl ?_
      refine tt_iconst (v := nI 1) d_Lake_faultIn_20 (by decide) ?_
      refine tt_callV (x_Text_digit (d := d) (n := n) (j := 1) hn hz (by omega)) cw_Text_digit rfl rfl (by decide) rfl (by omega) d_Lake_faultIn_21 rfl rfl (Nat.le_of_ble_eq_true rfl) (Nat.le_of_ble_eq_true rfl) rfl rfl rfl (fun v σ2 q => ?_)
      obtain ⟨rfl, e9⟩ := q
      rw [e9]
      clear e9
      refine tt_istore_n d_Lake_faultIn_24 (by decide) rfl ?_
      refine tt_iload_n d_Lake_faultIn_25 rfl ?_
      refine tt_iconst (v := nI 2) d_Lake_faultIn_26 (by decide) ?_
      refine tt_ic_lt (t := 36) d_Lake_faultIn_27 (by decide) (fun c_27 => ?_) (fun c_27 => ?_)
      · refine tt_iconst (v := nI 1) d_Lake_faultIn_36 (by decide) ?_
        refine tt_iret rfl d_Lake_faultIn_37 ?_
        refine ⟨congrArg (fun w => some (Value.int w)) ?_, rfl⟩
        refine Eq.symm ((if_neg (nnO c_8 (fa_ngt c_14))).trans ?_)
        first | exact if_pos (Or.inl c_27) | exact if_pos (Or.inr (fa_nle c_33))
      · refine tt_iload_n d_Lake_faultIn_30 rfl ?_
        refine tt_bipush (v := nI 6) d_Lake_faultIn_31 (by decide) ?_
        refine tt_ic_le (t := 38) d_Lake_faultIn_33 (by decide) (fun c_33 => ?_) (fun c_33 => ?_)
        · obtain ⟨r, r1, r2, r3⟩ := i26 (x := X_dig σ n 0) (fa_nlt c_8) c_14
          obtain ⟨s, s1, s2, s3⟩ := i26 (x := X_dig σ n 1) (fa_nlt c_27) c_33
          have hrs : r * s ≤ 36 := Nat.mul_le_mul r2 s2
          refine tt_iconst (v := nI 2) d_Lake_faultIn_38 (by decide) ?_
          refine tt_iload_n (x := nI r) d_Lake_faultIn_39 (congrArg (fun w => some (some (Value.int w))) r3) ?_
          refine tt_iload_n (x := nI s) d_Lake_faultIn_40 (congrArg (fun w => some (some (Value.int w))) s3) ?_
          refine tn_imul d_Lake_faultIn_41 ?_
          refine tn_iadd d_Lake_faultIn_42 ?_
          refine tt_istore d_Lake_faultIn_43 (by decide) rfl ?_
          refine tt_iconst (v := nI 2) d_Lake_faultIn_45 (by decide) ?_
          refine tt_istore d_Lake_faultIn_46 (by decide) rfl ?_
          refine T.mono (x_Lake_fault_l hn hz (e := 2 + r * s) (by omega) (2 + r * s - 2) 2 rfl (by omega)) ?_
          intro v τ q
          refine ⟨q.1.trans (congrArg (fun w => some (Value.int w)) ?_), q.2⟩
          refine Eq.symm ((if_neg (nnO c_8 (fa_ngt c_14))).trans ((if_neg (nnO c_27 (fa_ngt c_33))).trans ?_))
          rw [r3, s3, nI_clamp (by omega), nI_clamp (by omega), show 2 + r * s - 2 = r * s by omega]
        · refine tt_iconst (v := nI 1) d_Lake_faultIn_36 (by decide) ?_
          refine tt_iret rfl d_Lake_faultIn_37 ?_
          refine ⟨congrArg (fun w => some (Value.int w)) ?_, rfl⟩
          refine Eq.symm ((if_neg (nnO c_8 (fa_ngt c_14))).trans ?_)
          first | exact if_pos (Or.inl c_27) | exact if_pos (Or.inr (fa_nle c_33))
    · refine tt_iconst (v := nI 0) d_Lake_faultIn_17 (by decide) ?_
      refine tt_iret rfl d_Lake_faultIn_18 ?_
      refine ⟨congrArg (fun w => some (Value.int w)) ?_, rfl⟩
      first | exact (if_pos (Or.inl c_8)).symm | exact (if_pos (Or.inr (fa_nle c_14))).symm

/-- the steps that are known, and the fields in the order in which they were found -/
abbrev xBf : Type := (Nat → Int32) × List Nat
def bS (σ : xs) (B : xBf) : xs := wA (wA σ 7 B.1) 8 (cpN (fun j => nI (B.2.getD j 0)) (si σ 8) B.2.length)
def bK (R C f w : Nat) : Nat := (X_bes R C f w).toNatClampNeg
/-- one way from f is looked at -/
def bW (σ : xs) (R C f : Nat) (B : xBf) (w : Nat) : xBf :=
  if ((0 ≤ (X_bes R C f w).toInt ∧ (X_bes R C f w).toInt < (R * C : Nat)) ∧ si σ 6 (bK R C f w) = 0) ∧ B.1 (bK R C f w) = -1 ∧ B.2.length < 36 then ((fun j => if j = bK R C f w then B.1 f + nI 1 else B.1 j), B.2 ++ [bK R C f w]) else B
def bI (σ : xs) (R C f : Nat) (B : xBf) : Nat → xBf
  | 0 => B
  | w + 1 => bW σ R C f (bI σ R C f B w) w
def bO (σ : xs) (R C : Nat) : Nat → Nat → xBf → xBf
  | 0, _, B => B
  | k + 1, i, B => if i < B.2.length ∧ i < 36 then bO σ R C k (i + 1) (bI σ R C (B.2.getD i 0) B 4) else B
theorem bS_7 (σ : xs) (B : xBf) (j : Nat) : si (bS σ B) 7 j = B.1 j := rfl
theorem bS_8 (σ : xs) (B : xBf) (j : Nat) : si (bS σ B) 8 j = if j < B.2.length then nI (B.2.getD j 0) else si σ 8 j := rfl
theorem bS_o (σ : xs) (B : xBf) {a : Nat} (h7 : a ≠ 7) (h8 : a ≠ 8) (j : Nat) : si (bS σ B) a j = si σ a j := by
  unfold bS
  rw [si_wA, if_neg h8, si_wA, if_neg h7]
theorem bS_w {σ : xs} {B : xBf} {k : Nat} {v : Int32} : wI (wI (bS σ B) 7 k v) 8 B.2.length (nI k) = bS σ ((fun j => if j = k then v else B.1 j), B.2 ++ [k]) := by
  have e : up2 (up2 (si (bS σ B)) 7 k v) 8 B.2.length (nI k) = si (bS σ ((fun j => if j = k then v else B.1 j), B.2 ++ [k])) := by
    funext a j
    rw [up2_at, up2_at]
    by_cases h8 : a = 8
    · subst h8
      rw [if_neg (by omega : ¬ (8 = 7 ∧ j = k)), bS_8, bS_8]
      have hl : ((B.2 ++ [k]).length) = B.2.length + 1 := by simp
      dsimp only
      rw [hl]
      by_cases hj : j = B.2.length
      · subst hj
        rw [if_pos ⟨rfl, rfl⟩, if_pos (by omega)]
        simp
      · rw [if_neg (fun q => hj q.2)]
        by_cases h : j < B.2.length
        · rw [if_pos h, if_pos (by omega)]
          simp [List.getD_eq_getElem?_getD, List.getElem?_append_left h]
        · rw [if_neg h, if_neg (by omega)]
    · rw [if_neg (fun q => h8 q.1)]
      by_cases h7 : a = 7
      · subst h7
        rw [bS_7, bS_7]
        by_cases hk : j = k
        · simp [hk]
        · simp [hk]
      · rw [if_neg (fun q => h7 q.1), bS_o σ B h7 h8, bS_o σ _ h7 h8]
  show (σ.1, up2 (up2 (si (bS σ B)) 7 k v) 8 B.2.length (nI k), σ.2.2) = _
  rw [e]
  rfl
theorem nI_cl {x : Int32} (h : 0 ≤ x.toInt) : nI x.toNatClampNeg = x := by
  apply Int32.toInt_inj.mp
  have h2 : x.toNatClampNeg < 2 ^ 31 := by
    show x.toInt.toNat < 2 ^ 31
    have := Int32.toInt_lt x
    omega
  rw [nI_toInt h2]
  show ((x.toInt.toNat : Nat) : Int) = x.toInt
  omega
theorem bW_len {σ : xs} {R C f w : Nat} {B : xBf} (h : B.2.length ≤ 36) : B.2.length ≤ (bW σ R C f B w).2.length ∧ (bW σ R C f B w).2.length ≤ 36 := by
  unfold bW
  split
  · rename_i c
    simp
    omega
  · exact ⟨Nat.le_refl _, h⟩
theorem bI_len {σ : xs} {R C f : Nat} {B : xBf} (h : B.2.length ≤ 36) : ∀ w, B.2.length ≤ (bI σ R C f B w).2.length ∧ (bI σ R C f B w).2.length ≤ 36
  | 0 => ⟨Nat.le_refl _, h⟩
  | w + 1 => by
    have h1 := bI_len (σ := σ) (R := R) (C := C) (f := f) h w
    have h2 := bW_len (σ := σ) (R := R) (C := C) (f := f) (w := w) h1.2
    exact ⟨Nat.le_trans h1.1 h2.1, h2.2⟩
theorem bW_get {σ : xs} {R C f w i : Nat} {B : xBf} (h : i < B.2.length) : (bW σ R C f B w).2.getD i 0 = B.2.getD i 0 := by
  unfold bW
  split
  · simp [List.getD_eq_getElem?_getD, List.getElem?_append_left h]
  · rfl
theorem bI_get {σ : xs} {R C f i : Nat} {B : xBf} (h36 : B.2.length ≤ 36) (h : i < B.2.length) : ∀ w, (bI σ R C f B w).2.getD i 0 = B.2.getD i 0
  | 0 => rfl
  | w + 1 => by
    have h1 := bI_len (σ := σ) (R := R) (C := C) (f := f) h36 w
    exact (bW_get (Nat.lt_of_lt_of_le h h1.1)).trans (bI_get h36 h w)
/-- all that was found are fields -/
def bF (n : Nat) (B : xBf) : Prop := ∀ k ∈ B.2, k < n
theorem bW_F {σ : xs} {R C f w : Nat} {B : xBf} (h : bF (R * C) B) : bF (R * C) (bW σ R C f B w) := by
  unfold bW
  split
  · rename_i c
    intro k hk
    rcases List.mem_append.mp hk with g | g
    · exact h k g
    · rw [List.mem_singleton.mp g]
      obtain ⟨⟨⟨c1, c2⟩, -⟩, -⟩ := c
      show (X_bes R C f w).toInt.toNat < R * C
      omega
  · exact h
theorem bI_F {σ : xs} {R C f : Nat} {B : xBf} (h : bF (R * C) B) : ∀ w, bF (R * C) (bI σ R C f B w)
  | 0 => h
  | w + 1 => bW_F (bI_F h w)
theorem bF_get {n i : Nat} {B : xBf} (h : bF n B) (hi : i < B.2.length) : B.2.getD i 0 < n := by
  rw [List.getD_eq_getElem?_getD, List.getElem?_eq_getElem hi]
  exact h _ (List.getElem_mem hi)
theorem x_Lake_mf_in {l : xLa} {d : Nat} {σ : xs} {Q : Option Value → xs → Prop} {s i : Nat} {B : xBf} {R C : Nat} (hr : sf σ 5 0 = nI R) (hc : sf σ 5 1 = nI C) (hR : R ≤ 6) (hC : C ≤ 6) (hC0 : 0 < C) (hi0 : i < B.2.length) (h36 : B.2.length ≤ 36) (hF : bF (R * C) B) (hk : ∀ z : Option Int32, T l M_Lake_measureFrom (d + 4) 35 [some (.ref 5), some (.int (nI s)), some (.int (nI (bI σ R C (B.2.getD i 0) B 4).2.length)), some (.int (nI (i + 1))), some (.int (nI 4)), z.map Value.int] [] (bS σ (bI σ R C (B.2.getD i 0) B 4)) Q) : ∀ (m : Nat) (w : Nat) (z : Option Int32), 4 - w = m → w ≤ 4 → T l M_Lake_measureFrom (d + 4) 49 [some (.ref 5), some (.int (nI s)), some (.int (nI (bI σ R C (B.2.getD i 0) B w).2.length)), some (.int (nI i)), some (.int (nI w)), z.map Value.int] [] (bS σ (bI σ R C (B.2.getD i 0) B w)) Q := by
  intro m
  induction m using Nat.strongRecOn with
  | ind m ih =>
    intro w z hm hw
    have hRC : R * C ≤ 36 := Nat.mul_le_mul hR hC
    have hfr := bF_get hF hi0
    have hln := bI_len (σ := σ) (R := R) (C := C) (f := B.2.getD i 0) h36 w
    refine tt_iload d_Lake_measureFrom_49 rfl ?_
    refine tt_iconst (v := nI 4) d_Lake_measureFrom_51 (by decide) ?_
    refine tn_ic_ge (t := 142) (by omega) (by omega) d_Lake_measureFrom_52 (by decide) (fun c_52 => ?_) (fun c_52 => ?_)
    · refine tt_iinc d_Lake_measureFrom_142 rfl (nI_inc _ 1) (by decide) rfl ?_
      refine tt_goto (t := 35) d_Lake_measureFrom_145 (by decide) ?_
      obtain rfl : w = 4 := by omega
      exact hk z
    · refine tt_aload_n d_Lake_measureFrom_55 rfl ?_
      refine tt_aload_n d_Lake_measureFrom_56 rfl ?_
      refine tt_getR d_Lake_measureFrom_57 rfl rfl (by decide) rfl rfl ?_
      refine tt_iload_n d_Lake_measureFrom_60 rfl ?_
      refine tn_iald d_Lake_measureFrom_61 rfl (by decide) (by omega) (show si (bS σ (bI σ R C (B.2.getD i 0) B w)) 8 i = nI (B.2.getD i 0) by rw [bS_8, if_pos (Nat.lt_of_lt_of_le hi0 (bI_len h36 w).1), bI_get h36 hi0]) ?_
      refine tt_iload d_Lake_measureFrom_62 rfl ?_
      refine tt_callV (x_Lake_beside (σ := bS σ (bI σ R C (B.2.getD i 0) B w)) (d := d + 1) (by omega) (by omega) hr hc hR hC hC0) cw_Lake_beside rfl rfl (by decide) rfl (by omega) d_Lake_measureFrom_64 rfl rfl (Nat.le_of_ble_eq_true rfl) (Nat.le_of_ble_eq_true rfl) rfl rfl rfl (fun v σ2 q => ?_)
      obtain ⟨rfl, e9⟩ := q
      rw [e9]
      clear e9
      refine tt_istore d_Lake_measureFrom_67 (by decide) rfl ?_
      refine tt_aload_n d_Lake_measureFrom_69 rfl ?_
      refine tt_iload d_Lake_measureFrom_70 rfl ?_
      refine tt_callV (x_Lake_has (σ := bS σ (bI σ R C (B.2.getD i 0) B w)) (d := d + 1) hr hc hR hC hC0) cw_Lake_has rfl rfl (by decide) rfl (by omega) d_Lake_measureFrom_72 rfl rfl (Nat.le_of_ble_eq_true rfl) (Nat.le_of_ble_eq_true rfl) rfl rfl rfl (fun v σ2 q => ?_)
      obtain ⟨rfl, e9⟩ := q
      rw [e9]
      clear e9
      refine tt_if_eq (t := 136) d_Lake_measureFrom_75 (by decide) (fun c_75 => ?_) (fun c_75 => ?_)
      · refine tt_iinc d_Lake_measureFrom_136 rfl (nI_inc _ 1) (by decide) rfl ?_
        refine tt_goto (t := 49) d_Lake_measureFrom_139 (by decide) ?_
        have q := ih (4 - (w + 1)) (by omega) (w + 1) (some (X_bes R C (B.2.getD i 0) w)) rfl (by omega)
        have q2 : ∀ B2, bI σ R C (B.2.getD i 0) B (w + 1) = B2 → T l M_Lake_measureFrom (d + 4) 49 [some (.ref 5), some (.int (nI s)), some (.int (nI B2.2.length)), some (.int (nI i)), some (.int (nI (w + 1))), some (.int (X_bes R C (B.2.getD i 0) w))] [] (bS σ B2) Q := fun B2 e => by rw [← e]; exact q
        first
          | exact q2 _ (if_neg (nn1 (nn1 (X_in_0 c_75))))
          | exact q2 _ (if_neg (nn1 (nn2 (by rw [bS_o σ _ (by decide) (by decide)] at c_85; exact c_85))))
          | exact q2 _ (if_neg (nn2 (nn1 c_96)))
          | exact q2 _ (if_neg (nn2 (nn2 (Nat.not_lt.mpr c_102))))
      · refine tt_aload_n d_Lake_measureFrom_78 rfl ?_
        refine tt_getR d_Lake_measureFrom_79 rfl rfl (by decide) rfl rfl ?_
        refine tt_iload d_Lake_measureFrom_82 rfl ?_
        refine tt_zald d_Lake_measureFrom_84 rfl (vp_in_iff.mpr ⟨(X_in_1 c_75).1, by have := (X_in_1 c_75).2; omega⟩) ?_
        refine tt_if_ne (t := 136) d_Lake_measureFrom_85 (by decide) (fun c_85 => ?_) (fun c_85 => ?_)
        · refine tt_iinc d_Lake_measureFrom_136 rfl (nI_inc _ 1) (by decide) rfl ?_
          refine tt_goto (t := 49) d_Lake_measureFrom_139 (by decide) ?_
          have q := ih (4 - (w + 1)) (by omega) (w + 1) (some (X_bes R C (B.2.getD i 0) w)) rfl (by omega)
          have q2 : ∀ B2, bI σ R C (B.2.getD i 0) B (w + 1) = B2 → T l M_Lake_measureFrom (d + 4) 49 [some (.ref 5), some (.int (nI s)), some (.int (nI B2.2.length)), some (.int (nI i)), some (.int (nI (w + 1))), some (.int (X_bes R C (B.2.getD i 0) w))] [] (bS σ B2) Q := fun B2 e => by rw [← e]; exact q
          first
            | exact q2 _ (if_neg (nn1 (nn1 (X_in_0 c_75))))
            | exact q2 _ (if_neg (nn1 (nn2 (by rw [bS_o σ _ (by decide) (by decide)] at c_85; exact c_85))))
            | exact q2 _ (if_neg (nn2 (nn1 c_96)))
            | exact q2 _ (if_neg (nn2 (nn2 (Nat.not_lt.mpr c_102))))
        · refine tt_aload_n d_Lake_measureFrom_88 rfl ?_
          refine tt_getR d_Lake_measureFrom_89 rfl rfl (by decide) rfl rfl ?_
          refine tt_iload d_Lake_measureFrom_92 rfl ?_
          refine tt_iald d_Lake_measureFrom_94 rfl (vp_in_iff.mpr ⟨(X_in_1 c_75).1, by have := (X_in_1 c_75).2; omega⟩) ?_
          refine tt_iconst (v := (-1)) d_Lake_measureFrom_95 (by decide) ?_
          refine tt_ic_ne (t := 136) d_Lake_measureFrom_96 (by decide) (fun c_96 => ?_) (fun c_96 => ?_)
          · refine tt_iinc d_Lake_measureFrom_136 rfl (nI_inc _ 1) (by decide) rfl ?_
            refine tt_goto (t := 49) d_Lake_measureFrom_139 (by decide) ?_
            have q := ih (4 - (w + 1)) (by omega) (w + 1) (some (X_bes R C (B.2.getD i 0) w)) rfl (by omega)
            have q2 : ∀ B2, bI σ R C (B.2.getD i 0) B (w + 1) = B2 → T l M_Lake_measureFrom (d + 4) 49 [some (.ref 5), some (.int (nI s)), some (.int (nI B2.2.length)), some (.int (nI i)), some (.int (nI (w + 1))), some (.int (X_bes R C (B.2.getD i 0) w))] [] (bS σ B2) Q := fun B2 e => by rw [← e]; exact q
            first
              | exact q2 _ (if_neg (nn1 (nn1 (X_in_0 c_75))))
              | exact q2 _ (if_neg (nn1 (nn2 (by rw [bS_o σ _ (by decide) (by decide)] at c_85; exact c_85))))
              | exact q2 _ (if_neg (nn2 (nn1 c_96)))
              | exact q2 _ (if_neg (nn2 (nn2 (Nat.not_lt.mpr c_102))))
          · refine tt_iload_n d_Lake_measureFrom_99 rfl ?_
            refine tt_bipush (v := nI 36) d_Lake_measureFrom_100 (by decide) ?_
            refine tn_ic_ge (t := 136) (by omega) (by omega) d_Lake_measureFrom_102 (by decide) (fun c_102 => ?_) (fun c_102 => ?_)
            · refine tt_iinc d_Lake_measureFrom_136 rfl (nI_inc _ 1) (by decide) rfl ?_
              refine tt_goto (t := 49) d_Lake_measureFrom_139 (by decide) ?_
              have q := ih (4 - (w + 1)) (by omega) (w + 1) (some (X_bes R C (B.2.getD i 0) w)) rfl (by omega)
              have q2 : ∀ B2, bI σ R C (B.2.getD i 0) B (w + 1) = B2 → T l M_Lake_measureFrom (d + 4) 49 [some (.ref 5), some (.int (nI s)), some (.int (nI B2.2.length)), some (.int (nI i)), some (.int (nI (w + 1))), some (.int (X_bes R C (B.2.getD i 0) w))] [] (bS σ B2) Q := fun B2 e => by rw [← e]; exact q
              first
                | exact q2 _ (if_neg (nn1 (nn1 (X_in_0 c_75))))
                | exact q2 _ (if_neg (nn1 (nn2 (by rw [bS_o σ _ (by decide) (by decide)] at c_85; exact c_85))))
                | exact q2 _ (if_neg (nn2 (nn1 c_96)))
                | exact q2 _ (if_neg (nn2 (nn2 (Nat.not_lt.mpr c_102))))
            · refine tt_aload_n d_Lake_measureFrom_105 rfl ?_
              refine tt_getR d_Lake_measureFrom_106 rfl rfl (by decide) rfl rfl ?_
              refine tt_iload d_Lake_measureFrom_109 rfl ?_
              refine tt_aload_n d_Lake_measureFrom_111 rfl ?_
              refine tt_getR d_Lake_measureFrom_112 rfl rfl (by decide) rfl rfl ?_
              refine tt_aload_n d_Lake_measureFrom_115 rfl ?_
              refine tt_getR d_Lake_measureFrom_116 rfl rfl (by decide) rfl rfl ?_
              refine tt_iload_n d_Lake_measureFrom_119 rfl ?_
              refine tn_iald d_Lake_measureFrom_120 rfl (by decide) (by omega) (show si (bS σ (bI σ R C (B.2.getD i 0) B w)) 8 i = nI (B.2.getD i 0) by rw [bS_8, if_pos (Nat.lt_of_lt_of_le hi0 (bI_len h36 w).1), bI_get h36 hi0]) ?_
              refine tn_iald d_Lake_measureFrom_121 rfl (by decide) (by omega) rfl ?_
              refine tt_iconst (v := nI 1) d_Lake_measureFrom_122 (by decide) ?_
              refine tt_iadd d_Lake_measureFrom_123 ?_
              refine tt_iast d_Lake_measureFrom_124 rfl (vp_in_iff.mpr ⟨(X_in_1 c_75).1, by have := (X_in_1 c_75).2; omega⟩) ?_
              refine tt_aload_n d_Lake_measureFrom_125 rfl ?_
              refine tt_getR d_Lake_measureFrom_126 rfl rfl (by decide) rfl rfl ?_
              refine tt_iload_n d_Lake_measureFrom_129 rfl ?_
              refine tt_iload d_Lake_measureFrom_130 rfl ?_
              refine tn_iast d_Lake_measureFrom_132 rfl (by decide) (by omega) ?_
              refine tt_iinc d_Lake_measureFrom_133 rfl (nI_inc _ 1) (by decide) rfl ?_
              refine tt_iinc d_Lake_measureFrom_136 rfl (nI_inc _ 1) (by decide) rfl ?_
              refine tt_goto (t := 49) d_Lake_measureFrom_139 (by decide) ?_
              have q := ih (4 - (w + 1)) (by omega) (w + 1) (some (X_bes R C (B.2.getD i 0) w)) rfl (by omega)
              have e : bI σ R C (B.2.getD i 0) B (w + 1) = _ := if_pos ⟨⟨X_in_1 c_75, by rw [bS_o σ _ (by decide) (by decide)] at c_85; exact Classical.not_not.mp c_85⟩, Classical.not_not.mp c_96, c_102⟩
              rw [e] at q
              rw [show nI ((bI σ R C (B.2.getD i 0) B w).2.length + 1) = nI ((bI σ R C (B.2.getD i 0) B w).2 ++ [bK R C (B.2.getD i 0) w]).length by simp]
              refine T_cong ?_ q
              have hbk : nI (bK R C (B.2.getD i 0) w) = X_bes R C (B.2.getD i 0) w := nI_cl (X_in_1 c_75).1
              have := bS_w (σ := σ) (B := bI σ R C (B.2.getD i 0) B w) (k := bK R C (B.2.getD i 0) w) (v := (bI σ R C (B.2.getD i 0) B w).1 (B.2.getD i 0) + nI 1)
              rw [hbk] at this
              exact this

theorem bO_end {σ : xs} {R C k i : Nat} {B : xBf} (h : ¬ (i < B.2.length ∧ i < 36)) : bO σ R C k i B = B := by
  cases k with
  | zero => rfl
  | succ k => exact if_neg h
/-- the search's start -/
def bZ (σ : xs) (s : Nat) : xBf := ((fun j => if j = s then nI 0 else cpN (fun _ => -1) (si σ 7) 36 j), [s])
theorem bZ_S {σ : xs} {s : Nat} : wI (wI (wA σ 7 (cpN (fun _ => -1) (si σ 7) 36)) 8 0 (nI s)) 7 s (nI 0) = bS σ (bZ σ s) := by
  have e : up2 (up2 (si (wA σ 7 (cpN (fun _ => -1) (si σ 7) 36))) 8 0 (nI s)) 7 s (nI 0) = si (bS σ (bZ σ s)) := by
    funext a j
    rw [up2_at, up2_at]
    by_cases h7 : a = 7
    · subst h7
      rw [bS_7]
      unfold bZ
      by_cases hj : j = s
      · simp [hj]
      · simp [hj, si_wA]
    · rw [if_neg (fun q => h7 q.1)]
      by_cases h8 : a = 8
      · subst h8
        rw [bS_8]
        unfold bZ
        by_cases hj : j = 0
        · simp [hj]
        · simp [hj, si_wA]
      · rw [if_neg (fun q => h8 q.1), bS_o σ _ h7 h8, si_wA, if_neg h7]
  show (σ.1, up2 (up2 (si (wA σ 7 (cpN (fun _ => -1) (si σ 7) 36))) 8 0 (nI s)) 7 s (nI 0), σ.2.2) = _
  rw [e]
  rfl
theorem x_Lake_mf_out {l : xLa} {d : Nat} {σ : xs} {s : Nat} {R C : Nat} (hr : sf σ 5 0 = nI R) (hc : sf σ 5 1 = nI C) (hR : R ≤ 6) (hC : C ≤ 6) (hC0 : 0 < C) : ∀ (m : Nat) (i : Nat) (B : xBf) (y z : Option Int32), 36 - i = m → i ≤ 36 → B.2.length ≤ 36 → bF (R * C) B → T l M_Lake_measureFrom (d + 4) 35 [some (.ref 5), some (.int (nI s)), some (.int (nI B.2.length)), some (.int (nI i)), y.map Value.int, z.map Value.int] [] (bS σ B) (fun r σ' => r = none ∧ σ' = bS σ (bO σ R C (36 - i) i B)) := by
  intro m
  induction m using Nat.strongRecOn with
  | ind m ih =>
    intro i B y z hm hi h36 hF
    refine tt_iload_n d_Lake_measureFrom_35 rfl ?_
    refine tt_iload_n d_Lake_measureFrom_36 rfl ?_
    refine tn_ic_ge (t := 148) (by omega) (by omega) d_Lake_measureFrom_37 (by decide) (fun c_37 => ?_) (fun c_37 => ?_)
    · refine tt_vret rfl d_Lake_measureFrom_148 ?_
      exact ⟨rfl, by rw [bO_end (by omega)]⟩
    · refine tt_iload_n d_Lake_measureFrom_40 rfl ?_
      refine tt_bipush (v := nI 36) d_Lake_measureFrom_41 (by decide) ?_
      refine tn_ic_ge (t := 148) (by omega) (by omega) d_Lake_measureFrom_43 (by decide) (fun c_43 => ?_) (fun c_43 => ?_)
      · refine tt_vret rfl d_Lake_measureFrom_148 ?_
        exact ⟨rfl, by rw [bO_end (by omega)]⟩
      · refine tt_iconst (v := nI 0) d_Lake_measureFrom_46 (by decide) ?_
        refine tt_istore d_Lake_measureFrom_47 (by decide) rfl ?_
        refine T.mono (x_Lake_mf_in (Q := fun r σ' => r = none ∧ σ' = bS σ (bO σ R C (36 - (i + 1)) (i + 1) (bI σ R C (B.2.getD i 0) B 4))) hr hc hR hC hC0 c_37 h36 hF (fun z => ih (36 - (i + 1)) (by omega) (i + 1) _ (some (nI 4)) z rfl (by omega) (bI_len h36 4).2 (bI_F hF 4)) 4 0 z (by omega) (by omega)) ?_
        intro v τ q
        refine ⟨q.1, q.2.trans (congrArg (bS σ) ?_)⟩
        rw [show 36 - i = (36 - (i + 1)) + 1 by omega]
        exact (if_pos (And.intro c_37 c_43)).symm

theorem x_Lake_measureFrom {l : xLa} {d : Nat} {σ : xs} {s : Nat} {R C : Nat} (hr : sf σ 5 0 = nI R) (hc : sf σ 5 1 = nI C) (hR : R ≤ 6) (hC : C ≤ 6) (hC0 : 0 < C) (hs : s < R * C) : TE l M_Lake_measureFrom (d + 4) [.ref 5, .int (nI s)] σ (none) (bS σ (bO σ R C 36 0 (bZ σ s))) := by
  show T l M_Lake_measureFrom (d + 4) 0 _ [] σ _
  have hRC : R * C ≤ 36 := Nat.mul_le_mul hR hC
  refine tt_aload_n d_Lake_measureFrom_0 rfl ?_
  refine tt_getR d_Lake_measureFrom_1 rfl rfl (by decide) rfl rfl ?_
  refine tt_iconst (v := (-1)) d_Lake_measureFrom_4 (by decide) ?_
  refine tt_callS (x_fill (d := d + 2) (a := 7) (n := 36) rfl (by decide)) cw_Arrays_fill rfl (by omega) d_Lake_measureFrom_5 rfl rfl (Nat.le_of_ble_eq_true rfl) (Nat.le_of_ble_eq_true rfl) rfl rfl rfl (fun v σ2 q => ?_)
  obtain ⟨rfl, e9⟩ := q
  rw [e9]
  clear e9
  refine tt_aload_n d_Lake_measureFrom_8 rfl ?_
  refine tt_iload_n d_Lake_measureFrom_9 rfl ?_
  refine tt_callV (x_Lake_has (σ := wA σ 7 (cpN (fun _ => -1) (si σ 7) 36)) (d := d + 1) hr hc hR hC hC0) cw_Lake_has rfl rfl (by decide) rfl (by omega) d_Lake_measureFrom_10 rfl rfl (Nat.le_of_ble_eq_true rfl) (Nat.le_of_ble_eq_true rfl) rfl rfl rfl (fun v σ2 q => ?_)
  obtain ⟨rfl, e9⟩ := q
  rw [e9]
  clear e9
  refine tt_if_ne (t := 17) d_Lake_measureFrom_13 (by decide) (fun c_13 => ?_) (fun c_13 => ?_)
  · refine tt_iconst (v := nI 1) d_Lake_measureFrom_17 (by decide) ?_
    refine tt_istore_n d_Lake_measureFrom_18 (by decide) rfl ?_
    refine tt_aload_n d_Lake_measureFrom_19 rfl ?_
    refine tt_getR d_Lake_measureFrom_20 rfl rfl (by decide) rfl rfl ?_
    refine tt_iconst (v := nI 0) d_Lake_measureFrom_23 (by decide) ?_
    refine tt_iload_n d_Lake_measureFrom_24 rfl ?_
    refine tn_iast d_Lake_measureFrom_25 rfl (by decide) (by omega) ?_
    refine tt_aload_n d_Lake_measureFrom_26 rfl ?_
    refine tt_getR d_Lake_measureFrom_27 rfl rfl (by decide) rfl rfl ?_
    refine tt_iload_n d_Lake_measureFrom_30 rfl ?_
    refine tt_iconst (v := nI 0) d_Lake_measureFrom_31 (by decide) ?_
    refine tn_iast d_Lake_measureFrom_32 rfl (by decide) (by omega) ?_
    refine tt_iconst (v := nI 0) d_Lake_measureFrom_33 (by decide) ?_
    refine tt_istore_n d_Lake_measureFrom_34 (by decide) rfl ?_
    refine T_cong bZ_S ?_
    exact x_Lake_mf_out hr hc hR hC hC0 36 0 (bZ σ s) none none (by omega) (by omega) (by simp [bZ]) (fun k hk => by rw [List.mem_singleton.mp hk]; exact hs)
  · exact absurd (by rw [nI_toInt (by omega)]; omega) (X_in_0 (Classical.not_not.mp c_13))

