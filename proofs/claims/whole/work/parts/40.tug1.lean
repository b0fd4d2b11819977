/-! FishFerry$Tug: object 14; pull 15, firstWay 16, secondWay 17, net 18. head, and the small ones. Printed by wip/whole. -/
def hUp (dn : Int32) : Nat := if 0 ≤ dn then 2 else 0
def hLv (rt : Int32) : Nat := if 0 ≤ rt then 1 else 3
def hTn (k : Nat) : Nat := if k = 1 then 2 else 0
def hF1 (more : Int32) (up lv tn : Nat) : Int32 := nI ((if more < 0 then lv else up) + tn) &&& nI 3
def hF2 (more : Int32) (lv k : Nat) : Int32 := if more = 0 ∧ k = 3 then nI lv else -1
def X_hd3 (σ : xs) (i : Nat) (more : Int32) (up lv tn k : Nat) : xs := wI (wI σ 16 i (hF1 more up lv tn)) 17 i (hF2 more lv k)
def X_hd (σ : xs) (i : Nat) (dn rt : Int32) (k : Nat) : xs := X_hd3 σ i (X_abs dn - X_abs rt) (hUp dn) (hLv rt) (hTn k) k
theorem x_head3 {l : xLa} {d : Nat} {σ : xs} {i k : Nat} (hi : i < 8) (hk : si σ 10 i = nI k) (hk3 : k ≤ 3) {dn rt more : Int32} {up lv tn : Nat} (hb : up ≤ 9 ∧ lv ≤ 9 ∧ tn ≤ 9) : T l M_Tug_head (d + 1) 53 [some (.ref 14), some (.int (nI i)), some (.int dn), some (.int rt), some (.int (nI up)), some (.int (nI lv)), some (.int more), some (.int (nI tn))] [] σ (fun r τ => r = none ∧ τ = X_hd3 σ i more up lv tn k) := by
  refine tt_aload_n d_Tug_head_53 rfl ?_
  refine tt_getR d_Tug_head_54 rfl rfl (by decide) rfl rfl ?_
  refine tt_iload_n d_Tug_head_57 rfl ?_
  refine tt_iload d_Tug_head_58 rfl ?_
  refine tt_if_lt (t := 68) d_Tug_head_60 (by decide) (fun c_60 => ?_) (fun c_60 => ?_)
  · refine tt_iload d_Tug_head_68 rfl ?_
    refine tt_iload d_Tug_head_70 rfl ?_
    refine tn_iadd d_Tug_head_72 ?_
    refine tt_iconst (v := nI 3) d_Tug_head_73 (by decide) ?_
    refine tt_iand d_Tug_head_74 ?_
    refine tn_iast d_Tug_head_75 rfl (by decide) (by omega) ?_
    refine tt_aload_n d_Tug_head_76 rfl ?_
    refine tt_getR d_Tug_head_77 rfl rfl (by decide) rfl rfl ?_
    refine tt_iload_n d_Tug_head_80 rfl ?_
    refine tt_iload d_Tug_head_81 rfl ?_
    refine tt_if_ne (t := 104) d_Tug_head_83 (by decide) (fun c_83 => ?_) (fun c_83 => ?_)
    · refine tt_iconst (v := (-1)) d_Tug_head_104 (by decide) ?_
      refine tn_iast d_Tug_head_105 rfl (by decide) (by omega) ?_
      refine tt_vret rfl d_Tug_head_106 ?_
      refine ⟨rfl, ?_⟩
      first
        | exact congr (congrArg (fun a b => wI (wI σ 16 i a) 17 i b) (congrArg (fun z => nI (z + tn) &&& nI 3) (if_pos c_60).symm)) (if_pos (And.intro (Classical.not_not.mp c_83) c_96)).symm
        | exact congr (congrArg (fun a b => wI (wI σ 16 i a) 17 i b) (congrArg (fun z => nI (z + tn) &&& nI 3) (if_neg c_60).symm)) (if_pos (And.intro (Classical.not_not.mp c_83) c_96)).symm
        | exact congr (congrArg (fun a b => wI (wI σ 16 i a) 17 i b) (congrArg (fun z => nI (z + tn) &&& nI 3) (if_pos c_60).symm)) (if_neg (nn2 c_96)).symm
        | exact congr (congrArg (fun a b => wI (wI σ 16 i a) 17 i b) (congrArg (fun z => nI (z + tn) &&& nI 3) (if_neg c_60).symm)) (if_neg (nn2 c_96)).symm
        | exact congr (congrArg (fun a b => wI (wI σ 16 i a) 17 i b) (congrArg (fun z => nI (z + tn) &&& nI 3) (if_pos c_60).symm)) (if_neg (nn1 c_83)).symm
        | exact congr (congrArg (fun a b => wI (wI σ 16 i a) 17 i b) (congrArg (fun z => nI (z + tn) &&& nI 3) (if_neg c_60).symm)) (if_neg (nn1 c_83)).symm
    · refine tt_aload_n d_Tug_head_86 rfl ?_
      refine tt_getR d_Tug_head_87 rfl rfl (by decide) rfl rfl ?_
      refine tt_getR d_Tug_head_90 rfl rfl (by decide) rfl rfl ?_
      refine tt_iload_n d_Tug_head_93 rfl ?_
      refine tn_iald d_Tug_head_94 rfl (by decide) (by omega) (by first | exact hk | exact (show si (wI σ 16 i _) 10 i = nI k by rw [si_wI, if_neg (by omega)]; exact hk)) ?_
      refine tt_iconst (v := nI 3) d_Tug_head_95 (by decide) ?_
      refine tn_ic_ne (t := 104) (by omega) (by omega) d_Tug_head_96 (by decide) (fun c_96 => ?_) (fun c_96 => ?_)
      · refine tt_iconst (v := (-1)) d_Tug_head_104 (by decide) ?_
        refine tn_iast d_Tug_head_105 rfl (by decide) (by omega) ?_
        refine tt_vret rfl d_Tug_head_106 ?_
        refine ⟨rfl, ?_⟩
        first
          | exact congr (congrArg (fun a b => wI (wI σ 16 i a) 17 i b) (congrArg (fun z => nI (z + tn) &&& nI 3) (if_pos c_60).symm)) (if_pos (And.intro (Classical.not_not.mp c_83) c_96)).symm
          | exact congr (congrArg (fun a b => wI (wI σ 16 i a) 17 i b) (congrArg (fun z => nI (z + tn) &&& nI 3) (if_neg c_60).symm)) (if_pos (And.intro (Classical.not_not.mp c_83) c_96)).symm
          | exact congr (congrArg (fun a b => wI (wI σ 16 i a) 17 i b) (congrArg (fun z => nI (z + tn) &&& nI 3) (if_pos c_60).symm)) (if_neg (nn2 c_96)).symm
          | exact congr (congrArg (fun a b => wI (wI σ 16 i a) 17 i b) (congrArg (fun z => nI (z + tn) &&& nI 3) (if_neg c_60).symm)) (if_neg (nn2 c_96)).symm
          | exact congr (congrArg (fun a b => wI (wI σ 16 i a) 17 i b) (congrArg (fun z => nI (z + tn) &&& nI 3) (if_pos c_60).symm)) (if_neg (nn1 c_83)).symm
          | exact congr (congrArg (fun a b => wI (wI σ 16 i a) 17 i b) (congrArg (fun z => nI (z + tn) &&& nI 3) (if_neg c_60).symm)) (if_neg (nn1 c_83)).symm
      · refine tt_iload d_Tug_head_99 rfl ?_
        refine tt_goto (t := 105) d_Tug_head_101 (by decide) ?_
        refine tn_iast d_Tug_head_105 rfl (by decide) (by omega) ?_
        refine tt_vret rfl d_Tug_head_106 ?_
        refine ⟨rfl, ?_⟩
        first
          | exact congr (congrArg (fun a b => wI (wI σ 16 i a) 17 i b) (congrArg (fun z => nI (z + tn) &&& nI 3) (if_pos c_60).symm)) (if_pos (And.intro (Classical.not_not.mp c_83) c_96)).symm
          | exact congr (congrArg (fun a b => wI (wI σ 16 i a) 17 i b) (congrArg (fun z => nI (z + tn) &&& nI 3) (if_neg c_60).symm)) (if_pos (And.intro (Classical.not_not.mp c_83) c_96)).symm
          | exact congr (congrArg (fun a b => wI (wI σ 16 i a) 17 i b) (congrArg (fun z => nI (z + tn) &&& nI 3) (if_pos c_60).symm)) (if_neg (nn2 c_96)).symm
          | exact congr (congrArg (fun a b => wI (wI σ 16 i a) 17 i b) (congrArg (fun z => nI (z + tn) &&& nI 3) (if_neg c_60).symm)) (if_neg (nn2 c_96)).symm
          | exact congr (congrArg (fun a b => wI (wI σ 16 i a) 17 i b) (congrArg (fun z => nI (z + tn) &&& nI 3) (if_pos c_60).symm)) (if_neg (nn1 c_83)).symm
          | exact congr (congrArg (fun a b => wI (wI σ 16 i a) 17 i b) (congrArg (fun z => nI (z + tn) &&& nI 3) (if_neg c_60).symm)) (if_neg (nn1 c_83)).symm
  · refine tt_iload d_Tug_head_63 rfl ?_
    refine tt_goto (t := 70) d_Tug_head_65 (by decide) ?_
    refine tt_iload d_Tug_head_70 rfl ?_
    refine tn_iadd d_Tug_head_72 ?_
    refine tt_iconst (v := nI 3) d_Tug_head_73 (by decide) ?_
    refine tt_iand d_Tug_head_74 ?_
    refine tn_iast d_Tug_head_75 rfl (by decide) (by omega) ?_
    refine tt_aload_n d_Tug_head_76 rfl ?_
    refine tt_getR d_Tug_head_77 rfl rfl (by decide) rfl rfl ?_
    refine tt_iload_n d_Tug_head_80 rfl ?_
    refine tt_iload d_Tug_head_81 rfl ?_
    refine tt_if_ne (t := 104) d_Tug_head_83 (by decide) (fun c_83 => ?_) (fun c_83 => ?_)
    · refine tt_iconst (v := (-1)) d_Tug_head_104 (by decide) ?_
      refine tn_iast d_Tug_head_105 rfl (by decide) (by omega) ?_
      refine tt_vret rfl d_Tug_head_106 ?_
      refine ⟨rfl, ?_⟩
      first
        | exact congr (congrArg (fun a b => wI (wI σ 16 i a) 17 i b) (congrArg (fun z => nI (z + tn) &&& nI 3) (if_pos c_60).symm)) (if_pos (And.intro (Classical.not_not.mp c_83) c_96)).symm
        | exact congr (congrArg (fun a b => wI (wI σ 16 i a) 17 i b) (congrArg (fun z => nI (z + tn) &&& nI 3) (if_neg c_60).symm)) (if_pos (And.intro (Classical.not_not.mp c_83) c_96)).symm
        | exact congr (congrArg (fun a b => wI (wI σ 16 i a) 17 i b) (congrArg (fun z => nI (z + tn) &&& nI 3) (if_pos c_60).symm)) (if_neg (nn2 c_96)).symm
        | exact congr (congrArg (fun a b => wI (wI σ 16 i a) 17 i b) (congrArg (fun z => nI (z + tn) &&& nI 3) (if_neg c_60).symm)) (if_neg (nn2 c_96)).symm
        | exact congr (congrArg (fun a b => wI (wI σ 16 i a) 17 i b) (congrArg (fun z => nI (z + tn) &&& nI 3) (if_pos c_60).symm)) (if_neg (nn1 c_83)).symm
        | exact congr (congrArg (fun a b => wI (wI σ 16 i a) 17 i b) (congrArg (fun z => nI (z + tn) &&& nI 3) (if_neg c_60).symm)) (if_neg (nn1 c_83)).symm
    · refine tt_aload_n d_Tug_head_86 rfl ?_
      refine tt_getR d_Tug_head_87 rfl rfl (by decide) rfl rfl ?_
      refine tt_getR d_Tug_head_90 rfl rfl (by decide) rfl rfl ?_
      refine tt_iload_n d_Tug_head_93 rfl ?_
      refine tn_iald d_Tug_head_94 rfl (by decide) (by omega) (by first | exact hk | exact (show si (wI σ 16 i _) 10 i = nI k by rw [si_wI, if_neg (by omega)]; exact hk)) ?_
      refine tt_iconst (v := nI 3) d_Tug_head_95 (by decide) ?_
      refine tn_ic_ne (t := 104) (by omega) (by omega) d_Tug_head_96 (by decide) (fun c_96 => ?_) (fun c_96 => ?_)
      · refine tt_iconst (v := (-1)) d_Tug_head_104 (by decide) ?_
        refine tn_iast d_Tug_head_105 rfl (by decide) (by omega) ?_
        refine tt_vret rfl d_Tug_head_106 ?_
        refine ⟨rfl, ?_⟩
        first
          | exact congr (congrArg (fun a b => wI (wI σ 16 i a) 17 i b) (congrArg (fun z => nI (z + tn) &&& nI 3) (if_pos c_60).symm)) (if_pos (And.intro (Classical.not_not.mp c_83) c_96)).symm
          | exact congr (congrArg (fun a b => wI (wI σ 16 i a) 17 i b) (congrArg (fun z => nI (z + tn) &&& nI 3) (if_neg c_60).symm)) (if_pos (And.intro (Classical.not_not.mp c_83) c_96)).symm
          | exact congr (congrArg (fun a b => wI (wI σ 16 i a) 17 i b) (congrArg (fun z => nI (z + tn) &&& nI 3) (if_pos c_60).symm)) (if_neg (nn2 c_96)).symm
          | exact congr (congrArg (fun a b => wI (wI σ 16 i a) 17 i b) (congrArg (fun z => nI (z + tn) &&& nI 3) (if_neg c_60).symm)) (if_neg (nn2 c_96)).symm
          | exact congr (congrArg (fun a b => wI (wI σ 16 i a) 17 i b) (congrArg (fun z => nI (z + tn) &&& nI 3) (if_pos c_60).symm)) (if_neg (nn1 c_83)).symm
          | exact congr (congrArg (fun a b => wI (wI σ 16 i a) 17 i b) (congrArg (fun z => nI (z + tn) &&& nI 3) (if_neg c_60).symm)) (if_neg (nn1 c_83)).symm
      · refine tt_iload d_Tug_head_99 rfl ?_
        refine tt_goto (t := 105) d_Tug_head_101 (by decide) ?_
        refine tn_iast d_Tug_head_105 rfl (by decide) (by omega) ?_
        refine tt_vret rfl d_Tug_head_106 ?_
        refine ⟨rfl, ?_⟩
        first
          | exact congr (congrArg (fun a b => wI (wI σ 16 i a) 17 i b) (congrArg (fun z => nI (z + tn) &&& nI 3) (if_pos c_60).symm)) (if_pos (And.intro (Classical.not_not.mp c_83) c_96)).symm
          | exact congr (congrArg (fun a b => wI (wI σ 16 i a) 17 i b) (congrArg (fun z => nI (z + tn) &&& nI 3) (if_neg c_60).symm)) (if_pos (And.intro (Classical.not_not.mp c_83) c_96)).symm
          | exact congr (congrArg (fun a b => wI (wI σ 16 i a) 17 i b) (congrArg (fun z => nI (z + tn) &&& nI 3) (if_pos c_60).symm)) (if_neg (nn2 c_96)).symm
          | exact congr (congrArg (fun a b => wI (wI σ 16 i a) 17 i b) (congrArg (fun z => nI (z + tn) &&& nI 3) (if_neg c_60).symm)) (if_neg (nn2 c_96)).symm
          | exact congr (congrArg (fun a b => wI (wI σ 16 i a) 17 i b) (congrArg (fun z => nI (z + tn) &&& nI 3) (if_pos c_60).symm)) (if_neg (nn1 c_83)).symm
          | exact congr (congrArg (fun a b => wI (wI σ 16 i a) 17 i b) (congrArg (fun z => nI (z + tn) &&& nI 3) (if_neg c_60).symm)) (if_neg (nn1 c_83)).symm

theorem x_head2 {l : xLa} {d : Nat} {σ : xs} {i k : Nat} (hi : i < 8) (hk : si σ 10 i = nI k) (hk3 : k ≤ 3) {dn rt : Int32} {up lv : Nat} (hb : up ≤ 9 ∧ lv ≤ 9) : T l M_Tug_head (d + 1) 22 [some (.ref 14), some (.int (nI i)), some (.int dn), some (.int rt), some (.int (nI up)), some (.int (nI lv)), none, none] [] σ (fun r τ => r = none ∧ τ = X_hd3 σ i (X_abs dn - X_abs rt) up lv (hTn k) k) := by
  refine tt_iload_n d_Tug_head_22 rfl ?_
  refine tt_abs d_Tug_head_23 rfl (Nat.le_of_ble_eq_true rfl) ?_
  refine tt_iload_n d_Tug_head_26 rfl ?_
  refine tt_abs d_Tug_head_27 rfl (Nat.le_of_ble_eq_true rfl) ?_
  refine tt_isub d_Tug_head_30 ?_
  refine tt_istore d_Tug_head_31 (by decide) rfl ?_
  refine tt_aload_n d_Tug_head_33 rfl ?_
  refine tt_getR d_Tug_head_34 rfl rfl (by decide) rfl rfl ?_
  refine tt_getR d_Tug_head_37 rfl rfl (by decide) rfl rfl ?_
  refine tt_iload_n d_Tug_head_40 rfl ?_
  refine tn_iald d_Tug_head_41 rfl (by decide) (by omega) (by first | exact hk | exact (show si (wI σ 16 i _) 10 i = nI k by rw [si_wI, if_neg (by omega)]; exact hk)) ?_
  refine tt_iconst (v := nI 1) d_Tug_head_42 (by decide) ?_
  refine tn_ic_ne (t := 50) (by omega) (by omega) d_Tug_head_43 (by decide) (fun c_43 => ?_) (fun c_43 => ?_)
  · refine tt_iconst (v := nI 0) d_Tug_head_50 (by decide) ?_
    refine tt_istore d_Tug_head_51 (by decide) rfl ?_
    first
      | (have q := x_head3 (l := l) (d := d) (σ := σ) hi hk hk3 (dn := dn) (rt := rt) (more := X_abs dn - X_abs rt) (up := up) (lv := lv) (tn := 0) ⟨hb.1, hb.2, by omega⟩
         rw [show hTn k = 0 from if_neg c_43]; exact q)
      | (have q := x_head3 (l := l) (d := d) (σ := σ) hi hk hk3 (dn := dn) (rt := rt) (more := X_abs dn - X_abs rt) (up := up) (lv := lv) (tn := 2) ⟨hb.1, hb.2, by omega⟩
         rw [show hTn k = 2 from if_pos c_43]; exact q)
  · refine tt_iconst (v := nI 2) d_Tug_head_46 (by decide) ?_
    refine tt_goto (t := 51) d_Tug_head_47 (by decide) ?_
    refine tt_istore d_Tug_head_51 (by decide) rfl ?_
    first
      | (have q := x_head3 (l := l) (d := d) (σ := σ) hi hk hk3 (dn := dn) (rt := rt) (more := X_abs dn - X_abs rt) (up := up) (lv := lv) (tn := 0) ⟨hb.1, hb.2, by omega⟩
         rw [show hTn k = 0 from if_neg c_43]; exact q)
      | (have q := x_head3 (l := l) (d := d) (σ := σ) hi hk hk3 (dn := dn) (rt := rt) (more := X_abs dn - X_abs rt) (up := up) (lv := lv) (tn := 2) ⟨hb.1, hb.2, by omega⟩
         rw [show hTn k = 2 from if_pos c_43]; exact q)

theorem x_head {l : xLa} {d : Nat} {σ : xs} {i k : Nat} (hi : i < 8) (hk : si σ 10 i = nI k) (hk3 : k ≤ 3) {dn rt : Int32} : TE l M_Tug_head (d + 1) [.ref 14, .int (nI i), .int dn, .int rt] σ none (X_hd σ i dn rt k) := by
  show T l M_Tug_head (d + 1) 0 _ [] σ (fun r τ => r = none ∧ τ = X_hd3 σ i (X_abs dn - X_abs rt) (hUp dn) (hLv rt) (hTn k) k)
  refine tt_iload_n d_Tug_head_0 rfl ?_
  refine tt_if_ge (t := 8) d_Tug_head_1 (by decide) (fun c_1 => ?_) (fun c_1 => ?_)
  · refine tt_iconst (v := nI 2) d_Tug_head_8 (by decide) ?_
    refine tt_istore d_Tug_head_9 (by decide) rfl ?_
    refine tt_iload_n d_Tug_head_11 rfl ?_
    refine tt_if_ge (t := 19) d_Tug_head_12 (by decide) (fun c_12 => ?_) (fun c_12 => ?_)
    · refine tt_iconst (v := nI 1) d_Tug_head_19 (by decide) ?_
      refine tt_istore d_Tug_head_20 (by decide) rfl ?_
      first
        | (rw [show hUp dn = 2 from if_pos c_1, show hLv rt = 1 from if_pos c_12]; exact x_head2 hi hk hk3 ⟨by omega, by omega⟩)
        | (rw [show hUp dn = 2 from if_pos c_1, show hLv rt = 3 from if_neg c_12]; exact x_head2 hi hk hk3 ⟨by omega, by omega⟩)
        | (rw [show hUp dn = 0 from if_neg c_1, show hLv rt = 1 from if_pos c_12]; exact x_head2 hi hk hk3 ⟨by omega, by omega⟩)
        | (rw [show hUp dn = 0 from if_neg c_1, show hLv rt = 3 from if_neg c_12]; exact x_head2 hi hk hk3 ⟨by omega, by omega⟩)
    · refine tt_iconst (v := nI 3) d_Tug_head_15 (by decide) ?_
      refine tt_goto (t := 20) d_Tug_head_16 (by decide) ?_
      refine tt_istore d_Tug_head_20 (by decide) rfl ?_
      first
        | (rw [show hUp dn = 2 from if_pos c_1, show hLv rt = 1 from if_pos c_12]; exact x_head2 hi hk hk3 ⟨by omega, by omega⟩)
        | (rw [show hUp dn = 2 from if_pos c_1, show hLv rt = 3 from if_neg c_12]; exact x_head2 hi hk hk3 ⟨by omega, by omega⟩)
        | (rw [show hUp dn = 0 from if_neg c_1, show hLv rt = 1 from if_pos c_12]; exact x_head2 hi hk hk3 ⟨by omega, by omega⟩)
        | (rw [show hUp dn = 0 from if_neg c_1, show hLv rt = 3 from if_neg c_12]; exact x_head2 hi hk hk3 ⟨by omega, by omega⟩)
  · refine tt_iconst (v := nI 0) d_Tug_head_4 (by decide) ?_
    refine tt_goto (t := 9) d_Tug_head_5 (by decide) ?_
    refine tt_istore d_Tug_head_9 (by decide) rfl ?_
    refine tt_iload_n d_Tug_head_11 rfl ?_
    refine tt_if_ge (t := 19) d_Tug_head_12 (by decide) (fun c_12 => ?_) (fun c_12 => ?_)
    · refine tt_iconst (v := nI 1) d_Tug_head_19 (by decide) ?_
      refine tt_istore d_Tug_head_20 (by decide) rfl ?_
      first
        | (rw [show hUp dn = 2 from if_pos c_1, show hLv rt = 1 from if_pos c_12]; exact x_head2 hi hk hk3 ⟨by omega, by omega⟩)
        | (rw [show hUp dn = 2 from if_pos c_1, show hLv rt = 3 from if_neg c_12]; exact x_head2 hi hk hk3 ⟨by omega, by omega⟩)
        | (rw [show hUp dn = 0 from if_neg c_1, show hLv rt = 1 from if_pos c_12]; exact x_head2 hi hk hk3 ⟨by omega, by omega⟩)
        | (rw [show hUp dn = 0 from if_neg c_1, show hLv rt = 3 from if_neg c_12]; exact x_head2 hi hk hk3 ⟨by omega, by omega⟩)
    · refine tt_iconst (v := nI 3) d_Tug_head_15 (by decide) ?_
      refine tt_goto (t := 20) d_Tug_head_16 (by decide) ?_
      refine tt_istore d_Tug_head_20 (by decide) rfl ?_
      first
        | (rw [show hUp dn = 2 from if_pos c_1, show hLv rt = 1 from if_pos c_12]; exact x_head2 hi hk hk3 ⟨by omega, by omega⟩)
        | (rw [show hUp dn = 2 from if_pos c_1, show hLv rt = 3 from if_neg c_12]; exact x_head2 hi hk hk3 ⟨by omega, by omega⟩)
        | (rw [show hUp dn = 0 from if_neg c_1, show hLv rt = 1 from if_pos c_12]; exact x_head2 hi hk hk3 ⟨by omega, by omega⟩)
        | (rw [show hUp dn = 0 from if_neg c_1, show hLv rt = 3 from if_neg c_12]; exact x_head2 hi hk hk3 ⟨by omega, by omega⟩)

