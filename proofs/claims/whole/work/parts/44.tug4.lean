/-! Tug.weigh, goesFrom, headingOf. Printed by wip/whole. -/
/-- the first way of fish i, and the second one where it has two -/
def w1n (e : xe) (v : sv) (i : Nat) : Nat := ((if X_abs (dnV e v i) - X_abs (rtV e v i) < 0 then hLv (rtV e v i) else hUp (dnV e v i)) + hTn (eK e i)) % 4
def w2n (e : xe) (v : sv) (i : Nat) : Nat := hLv (rtV e v i)
theorem hLv_le (x : Int32) : hLv x = 1 ∨ hLv x = 3 := by
  unfold hLv
  split
  · exact Or.inl rfl
  · exact Or.inr rfl
theorem hUp_le (x : Int32) : hUp x ≤ 2 := by
  unfold hUp
  split <;> omega
theorem hTn_le (k : Nat) : hTn k ≤ 2 := by
  unfold hTn
  split <;> omega
theorem w1V_N (e : xe) (v : sv) (i : Nat) : w1V e v i = nI (w1n e v i) := by
  unfold w1V hF1 w1n
  have h1 := hLv_le (rtV e v i)
  have h2 := hUp_le (dnV e v i)
  have h3 := hTn_le (eK e i)
  rw [and3]
  split <;> omega
theorem w1n_lt (e : xe) (v : sv) (i : Nat) : w1n e v i < 4 := Nat.mod_lt _ (by decide)
theorem w2V_N {e : xe} {v : sv} {i : Nat} (h : ¬ w2V e v i = -1) : w2V e v i = nI (w2n e v i) := by
  unfold w2V hF2 at h ⊢
  by_cases c : X_abs (dnV e v i) - X_abs (rtV e v i) = 0 ∧ eK e i = 3
  · rw [if_pos c]; rfl
  · rw [if_neg c] at h; exact absurd rfl h
theorem w2n_lt (e : xe) (v : sv) (i : Nat) : w2n e v i < 4 := by
  have := hLv_le (rtV e v i)
  unfold w2n
  omega
theorem plV_act {e : xe} {v : sv} {i : Nat} (h : ¬ plV e v i = 0) : actV v i = true := by
  by_cases c : actV v i = true
  · exact c
  · rw [plV_0 c] at h; exact absurd rfl h
/-- fish i's pull is weighed, if the set z has it -/
def ntS (e : xe) (v : sv) (z : Int32) (f : Nat → Int32) (i : Nat) : Nat → Int32 := if xbit z (nI i) = 0 ∨ plV e v i = 0 then f else if w2V e v i = -1 then addF f (w1n e v i) (plV e v i) else addF (addF f (w1n e v i) (plV e v i / nI 2)) (w2n e v i) (plV e v i / nI 2)
def ntF (e : xe) (v : sv) (z : Int32) (f : Nat → Int32) : Nat → (Nat → Int32)
  | 0 => f
  | i + 1 => ntS e v z (ntF e v z f i) i
theorem x_weigh_l {l : xLa} {d : Nat} {σ : xs} {e : xe} {v : sv} (hn : sf σ 9 2 = nI (eN e)) (hn8 : eN e ≤ 8) (hM : MS e v (eN e) σ) {z : Int32} {f : Nat → Int32} : ∀ (m : Nat) (i : Nat), eN e - i = m → i ≤ eN e → T l M_Tug_weigh (d + 2) 10 [some (.ref 14), some (.int z), some (.int (nI i))] [] (wA σ 18 (ntF e v z f i)) (fun r τ => r = none ∧ τ = wA σ 18 (ntF e v z f (eN e))) := by
  intro m
  induction m using Nat.strongRecOn with
  | ind m ih =>
    intro i hm hi
    refine tt_iload_n d_Tug_weigh_10 rfl ?_
    refine tt_aload_n d_Tug_weigh_11 rfl ?_
    refine tt_getR d_Tug_weigh_12 rfl rfl (by decide) rfl rfl ?_
    refine tn_get d_Tug_weigh_15 rfl rfl (by decide) rfl (show sf (wA σ 18 (ntF e v z f i)) 9 2 = nI (eN e) from hn) ?_
    refine tn_ic_ge (t := 112) (by omega) (by omega) d_Tug_weigh_18 (by decide) (fun c_18 => ?_) (fun c_18 => ?_)
    · obtain rfl : i = eN e := by omega
      refine tt_vret rfl d_Tug_weigh_112 ?_
      exact ⟨rfl, rfl⟩
    · refine tt_iload_n d_Tug_weigh_21 rfl ?_
      refine tt_iload_n d_Tug_weigh_22 rfl ?_
      refine tt_iushr d_Tug_weigh_23 ?_
      refine tt_iconst (v := nI 1) d_Tug_weigh_24 (by decide) ?_
      refine tt_iand d_Tug_weigh_25 ?_
      refine tt_if_eq (t := 106) d_Tug_weigh_26 (by decide) (fun c_26 => ?_) (fun c_26 => ?_)
      · refine tt_iinc d_Tug_weigh_106 rfl (nI_inc _ 1) (by decide) rfl ?_
        refine tt_goto (t := 10) d_Tug_weigh_109 (by decide) ?_
        have q := ih (eN e - (i + 1)) (by omega) (i + 1) rfl (by omega)
        have q2 : ∀ w, ntF e v z f (i + 1) = w → T l M_Tug_weigh (d + 2) 10 [some (.ref 14), some (.int z), some (.int (nI (i + 1)))] [] (wA σ 18 w) (fun r τ => r = none ∧ τ = wA σ 18 (ntF e v z f (eN e))) := fun w e => by rw [← e]; exact q
        first
          | exact q2 _ (if_pos (Or.inl c_26))
          | exact q2 _ (if_pos (Or.inr (Classical.not_not.mp c_35)))
          | exact q2 _ ((if_neg (nnO c_26 c_35)).trans (if_pos (Classical.not_not.mp c_48)))
          | exact q2 _ ((if_neg (nnO c_26 c_35)).trans (if_neg c_48))
      · refine tt_aload_n d_Tug_weigh_29 rfl ?_
        refine tt_getR d_Tug_weigh_30 rfl rfl (by decide) rfl rfl ?_
        refine tt_iload_n d_Tug_weigh_33 rfl ?_
        refine tn_iald d_Tug_weigh_34 rfl (by decide) (by omega) (show si (wA σ 18 (ntF e v z f i)) 15 i = plV e v i from (hM i (by omega)).1) ?_
        refine tt_if_ne (t := 41) d_Tug_weigh_35 (by decide) (fun c_35 => ?_) (fun c_35 => ?_)
        · have hac := plV_act c_35
          have hw := (hM i (by omega)).2 hac
          refine tt_aload_n d_Tug_weigh_41 rfl ?_
          refine tt_getR d_Tug_weigh_42 rfl rfl (by decide) rfl rfl ?_
          refine tt_iload_n d_Tug_weigh_45 rfl ?_
          refine tn_iald d_Tug_weigh_46 rfl (by decide) (by omega) (show si (wA σ 18 (ntF e v z f i)) 17 i = w2V e v i from hw.2) ?_
          refine tt_iconst (v := (-1)) d_Tug_weigh_47 (by decide) ?_
          refine tt_ic_ne (t := 70) d_Tug_weigh_48 (by decide) (fun c_48 => ?_) (fun c_48 => ?_)
          · refine tt_aload_n d_Tug_weigh_70 rfl ?_
            refine tt_aload_n d_Tug_weigh_71 rfl ?_
            refine tt_getR d_Tug_weigh_72 rfl rfl (by decide) rfl rfl ?_
            refine tt_iload_n d_Tug_weigh_75 rfl ?_
            refine tn_iald d_Tug_weigh_76 rfl (by decide) (by omega) (show si (wA σ 18 (ntF e v z f i)) 16 i = nI (w1n e v i) from hw.1.trans (w1V_N e v i)) ?_
            refine tt_aload_n d_Tug_weigh_77 rfl ?_
            refine tt_getR d_Tug_weigh_78 rfl rfl (by decide) rfl rfl ?_
            refine tt_iload_n d_Tug_weigh_81 rfl ?_
            refine tn_iald d_Tug_weigh_82 rfl (by decide) (by omega) (show si (wA σ 18 (ntF e v z f i)) 15 i = plV e v i from (hM i (by omega)).1) ?_
            refine tt_iconst (v := nI 2) d_Tug_weigh_83 (by decide) ?_
            refine tt_idiv d_Tug_weigh_84 (by decide) ?_
            refine tt_callV (x_addTo (d := d) (σ := σ) (f := ntF e v z f i) (w := w1n e v i) (m := plV e v i / nI 2) (w1n_lt e v i)) cw_Tug_addTo rfl rfl (by decide) rfl (by omega) d_Tug_weigh_85 rfl rfl (Nat.le_of_ble_eq_true rfl) (Nat.le_of_ble_eq_true rfl) rfl rfl rfl (fun v σ2 q => ?_)
            obtain ⟨rfl, e9⟩ := q
            rw [e9]
            clear e9
            refine tt_aload_n d_Tug_weigh_88 rfl ?_
            refine tt_aload_n d_Tug_weigh_89 rfl ?_
            refine tt_getR d_Tug_weigh_90 rfl rfl (by decide) rfl rfl ?_
            refine tt_iload_n d_Tug_weigh_93 rfl ?_
            refine tn_iald d_Tug_weigh_94 rfl (by decide) (by omega) (show si (wA σ 18 (addF (ntF e v z f i) (w1n e v i) (plV e v i / nI 2))) 17 i = nI (w2n e v i) from hw.2.trans (w2V_N c_48)) ?_
            refine tt_aload_n d_Tug_weigh_95 rfl ?_
            refine tt_getR d_Tug_weigh_96 rfl rfl (by decide) rfl rfl ?_
            refine tt_iload_n d_Tug_weigh_99 rfl ?_
            refine tn_iald d_Tug_weigh_100 rfl (by decide) (by omega) (show si (wA σ 18 (addF (ntF e v z f i) (w1n e v i) (plV e v i / nI 2))) 15 i = plV e v i from (hM i (by omega)).1) ?_
            refine tt_iconst (v := nI 2) d_Tug_weigh_101 (by decide) ?_
            refine tt_idiv d_Tug_weigh_102 (by decide) ?_
            refine tt_callV (x_addTo (d := d) (σ := σ) (f := addF (ntF e v z f i) (w1n e v i) (plV e v i / nI 2)) (w := w2n e v i) (m := plV e v i / nI 2) (w2n_lt e v i)) cw_Tug_addTo rfl rfl (by decide) rfl (by omega) d_Tug_weigh_103 rfl rfl (Nat.le_of_ble_eq_true rfl) (Nat.le_of_ble_eq_true rfl) rfl rfl rfl (fun v σ2 q => ?_)
            obtain ⟨rfl, e9⟩ := q
            rw [e9]
            clear e9
            refine tt_iinc d_Tug_weigh_106 rfl (nI_inc _ 1) (by decide) rfl ?_
            refine tt_goto (t := 10) d_Tug_weigh_109 (by decide) ?_
            have q := ih (eN e - (i + 1)) (by omega) (i + 1) rfl (by omega)
            have q2 : ∀ w, ntF e v z f (i + 1) = w → T l M_Tug_weigh (d + 2) 10 [some (.ref 14), some (.int z), some (.int (nI (i + 1)))] [] (wA σ 18 w) (fun r τ => r = none ∧ τ = wA σ 18 (ntF e v z f (eN e))) := fun w e => by rw [← e]; exact q
            first
              | exact q2 _ (if_pos (Or.inl c_26))
              | exact q2 _ (if_pos (Or.inr (Classical.not_not.mp c_35)))
              | exact q2 _ ((if_neg (nnO c_26 c_35)).trans (if_pos (Classical.not_not.mp c_48)))
              | exact q2 _ ((if_neg (nnO c_26 c_35)).trans (if_neg c_48))
          · refine tt_aload_n d_Tug_weigh_51 rfl ?_
            refine tt_aload_n d_Tug_weigh_52 rfl ?_
            refine tt_getR d_Tug_weigh_53 rfl rfl (by decide) rfl rfl ?_
            refine tt_iload_n d_Tug_weigh_56 rfl ?_
            refine tn_iald d_Tug_weigh_57 rfl (by decide) (by omega) (show si (wA σ 18 (ntF e v z f i)) 16 i = nI (w1n e v i) from hw.1.trans (w1V_N e v i)) ?_
            refine tt_aload_n d_Tug_weigh_58 rfl ?_
            refine tt_getR d_Tug_weigh_59 rfl rfl (by decide) rfl rfl ?_
            refine tt_iload_n d_Tug_weigh_62 rfl ?_
            refine tn_iald d_Tug_weigh_63 rfl (by decide) (by omega) (show si (wA σ 18 (ntF e v z f i)) 15 i = plV e v i from (hM i (by omega)).1) ?_
            refine tt_callV (x_addTo (d := d) (σ := σ) (f := ntF e v z f i) (w := w1n e v i) (m := plV e v i) (w1n_lt e v i)) cw_Tug_addTo rfl rfl (by decide) rfl (by omega) d_Tug_weigh_64 rfl rfl (Nat.le_of_ble_eq_true rfl) (Nat.le_of_ble_eq_true rfl) rfl rfl rfl (fun v σ2 q => ?_)
            obtain ⟨rfl, e9⟩ := q
            rw [e9]
            clear e9
            refine tt_goto (t := 106) d_Tug_weigh_67 (by decide) ?_
            refine tt_iinc d_Tug_weigh_106 rfl (nI_inc _ 1) (by decide) rfl ?_
            refine tt_goto (t := 10) d_Tug_weigh_109 (by decide) ?_
            have q := ih (eN e - (i + 1)) (by omega) (i + 1) rfl (by omega)
            have q2 : ∀ w, ntF e v z f (i + 1) = w → T l M_Tug_weigh (d + 2) 10 [some (.ref 14), some (.int z), some (.int (nI (i + 1)))] [] (wA σ 18 w) (fun r τ => r = none ∧ τ = wA σ 18 (ntF e v z f (eN e))) := fun w e => by rw [← e]; exact q
            first
              | exact q2 _ (if_pos (Or.inl c_26))
              | exact q2 _ (if_pos (Or.inr (Classical.not_not.mp c_35)))
              | exact q2 _ ((if_neg (nnO c_26 c_35)).trans (if_pos (Classical.not_not.mp c_48)))
              | exact q2 _ ((if_neg (nnO c_26 c_35)).trans (if_neg c_48))
        · refine tt_goto (t := 106) d_Tug_weigh_38 (by decide) ?_
          refine tt_iinc d_Tug_weigh_106 rfl (nI_inc _ 1) (by decide) rfl ?_
          refine tt_goto (t := 10) d_Tug_weigh_109 (by decide) ?_
          have q := ih (eN e - (i + 1)) (by omega) (i + 1) rfl (by omega)
          have q2 : ∀ w, ntF e v z f (i + 1) = w → T l M_Tug_weigh (d + 2) 10 [some (.ref 14), some (.int z), some (.int (nI (i + 1)))] [] (wA σ 18 w) (fun r τ => r = none ∧ τ = wA σ 18 (ntF e v z f (eN e))) := fun w e => by rw [← e]; exact q
          first
            | exact q2 _ (if_pos (Or.inl c_26))
            | exact q2 _ (if_pos (Or.inr (Classical.not_not.mp c_35)))
            | exact q2 _ ((if_neg (nnO c_26 c_35)).trans (if_pos (Classical.not_not.mp c_48)))
            | exact q2 _ ((if_neg (nnO c_26 c_35)).trans (if_neg c_48))

def zF (σ : xs) : Nat → Int32 := cpN (fun _ => nI 0) (si σ 18) 4
theorem x_weigh {l : xLa} {d : Nat} {σ : xs} {e : xe} {v : sv} (hn : sf σ 9 2 = nI (eN e)) (hn8 : eN e ≤ 8) (hM : MS e v (eN e) σ) {z : Int32} : TE l M_Tug_weigh (d + 2) [.ref 14, .int z] σ (none) (wA σ 18 (ntF e v z (zF σ) (eN e))) := by
  show T l M_Tug_weigh (d + 2) 0 _ [] σ _
  refine tt_aload_n d_Tug_weigh_0 rfl ?_
  refine tt_getR d_Tug_weigh_1 rfl rfl (by decide) rfl rfl ?_
  refine tt_iconst (v := nI 0) d_Tug_weigh_4 (by decide) ?_
  refine tt_callS (x_fill (d := d) (a := 18) (n := 4) rfl (by decide)) cw_Arrays_fill rfl (by omega) d_Tug_weigh_5 rfl rfl (Nat.le_of_ble_eq_true rfl) (Nat.le_of_ble_eq_true rfl) rfl rfl rfl (fun v σ2 q => ?_)
  obtain ⟨rfl, e9⟩ := q
  rw [e9]
  clear e9
  refine tt_iconst (v := nI 0) d_Tug_weigh_8 (by decide) ?_
  refine tt_istore_n d_Tug_weigh_9 (by decide) rfl ?_
  exact x_weigh_l hn hn8 hM (f := zF σ) (eN e) 0 (by omega) (by omega)

/-- the best of the first w ways (0: none, else way + 1), and what it has -/
def bsV (f : Nat → Int32) : Nat → Nat × Int32
  | 0 => (0, nI 0)
  | w + 1 => if (bsV f w).2 < f w then (w + 1, f w) else bsV f w
theorem bsV_le (f : Nat → Int32) : ∀ w, (bsV f w).1 ≤ w
  | 0 => Nat.le_refl _
  | w + 1 => by
    show (if (bsV f w).2 < f w then (w + 1, f w) else bsV f w).1 ≤ w + 1
    have := bsV_le f w
    split
    · exact Nat.le_refl _
    · omega
def b2I : Nat → Int32
  | 0 => -2
  | w + 1 => nI w
theorem b2I_c {b : Nat} (h : b ≤ 4) : (b2I b = -2 ↔ b = 0) ∧ (¬ b = 0 → b2I b = nI (b - 1)) := by
  rcases (show b = 0 ∨ b = 1 ∨ b = 2 ∨ b = 3 ∨ b = 4 by omega) with rfl | rfl | rfl | rfl | rfl <;> exact ⟨by decide, by decide⟩
/-- where the boat at k goes by net pulls f; -2: it sticks -/
def X_go (σ : xs) (R C k : Nat) (f : Nat → Int32) : Int32 := if (bsV f 4).1 = 0 then -2 else if X_bes R C k ((bsV f 4).1 - 1) = -1 ∨ ¬ X_rk σ (R * C) (X_bes R C k ((bsV f 4).1 - 1)) = 0 then -2 else nI ((bsV f 4).1 - 1)
theorem x_go2 {l : xLa} {d : Nat} {σ : xs} {R C k : Nat} (hr : sf σ 5 0 = nI R) (hc : sf σ 5 1 = nI C) (hR : R ≤ 6) (hC : C ≤ 6) (hC0 : 0 < C) (hk : k < 2 ^ 31) : T l M_Tug_goesFrom (d + 4) 42 [some (.ref 14), some (.int (nI k)), some (.int (b2I (bsV (si σ 18) 4).1)), some (.int (bsV (si σ 18) 4).2), some (.int (nI 4))] [] σ (fun r τ => r = some (.int (X_go σ R C k (si σ 18))) ∧ τ = σ) := by
  have hb4 := bsV_le (si σ 18) 4
  refine tt_iload_n d_Tug_goesFrom_42 rfl ?_
  refine tt_bipush (v := (-2)) d_Tug_goesFrom_43 (by decide) ?_
  refine tt_ic_ne (t := 51) d_Tug_goesFrom_45 (by decide) (fun c_45 => ?_) (fun c_45 => ?_)
  · have hb0 : ¬ (bsV (si σ 18) 4).1 = 0 := fun q => c_45 ((b2I_c hb4).1.mpr q)
    refine tt_aload_n d_Tug_goesFrom_51 rfl ?_
    refine tt_getR d_Tug_goesFrom_52 rfl rfl (by decide) rfl rfl ?_
    refine tt_iload_n d_Tug_goesFrom_55 rfl ?_
    refine tt_iload_n (x := nI ((bsV (si σ 18) 4).1 - 1)) d_Tug_goesFrom_56 (congrArg (fun w => some (some (Value.int w))) ((b2I_c hb4).2 hb0)) ?_
    refine tt_callV (x_Lake_beside (d := d + 1) (f := k) (w := (bsV (si σ 18) 4).1 - 1) hk (by omega) hr hc hR hC hC0) cw_Lake_beside rfl rfl (by decide) rfl (by omega) d_Tug_goesFrom_57 rfl rfl (Nat.le_of_ble_eq_true rfl) (Nat.le_of_ble_eq_true rfl) rfl rfl rfl (fun v σ2 q => ?_)
    obtain ⟨rfl, e9⟩ := q
    rw [e9]
    clear e9
    refine tt_istore d_Tug_goesFrom_60 (by decide) rfl ?_
    refine tt_iload d_Tug_goesFrom_62 rfl ?_
    refine tt_iconst (v := (-1)) d_Tug_goesFrom_64 (by decide) ?_
    refine tt_ic_eq (t := 80) d_Tug_goesFrom_65 (by decide) (fun c_65 => ?_) (fun c_65 => ?_)
    · refine tt_bipush (v := (-2)) d_Tug_goesFrom_80 (by decide) ?_
      refine tt_goto (t := 86) d_Tug_goesFrom_82 (by decide) ?_
      refine tt_iret rfl d_Tug_goesFrom_86 ?_
      refine ⟨congrArg (fun w => some (Value.int w)) ?_, rfl⟩
      refine Eq.symm ((if_neg hb0).trans ?_)
      first
        | exact if_pos (Or.inl c_65)
        | exact if_pos (Or.inr c_77)
        | exact if_neg (nnO c_65 (nnN c_77))
    · refine tt_aload_n d_Tug_goesFrom_68 rfl ?_
      refine tt_getR d_Tug_goesFrom_69 rfl rfl (by decide) rfl rfl ?_
      refine tt_iload d_Tug_goesFrom_72 rfl ?_
      refine tt_callV (x_Lake_isRock (d := d) hr hc hR hC hC0) cw_Lake_isRock rfl rfl (by decide) rfl (by omega) d_Tug_goesFrom_74 rfl rfl (Nat.le_of_ble_eq_true rfl) (Nat.le_of_ble_eq_true rfl) rfl rfl rfl (fun v σ2 q => ?_)
      obtain ⟨rfl, e9⟩ := q
      rw [e9]
      clear e9
      refine tt_if_eq (t := 85) d_Tug_goesFrom_77 (by decide) (fun c_77 => ?_) (fun c_77 => ?_)
      · refine tt_iload_n (x := nI ((bsV (si σ 18) 4).1 - 1)) d_Tug_goesFrom_85 (congrArg (fun w => some (some (Value.int w))) ((b2I_c hb4).2 hb0)) ?_
        refine tt_iret rfl d_Tug_goesFrom_86 ?_
        refine ⟨congrArg (fun w => some (Value.int w)) ?_, rfl⟩
        refine Eq.symm ((if_neg hb0).trans ?_)
        first
          | exact if_pos (Or.inl c_65)
          | exact if_pos (Or.inr c_77)
          | exact if_neg (nnO c_65 (nnN c_77))
      · refine tt_bipush (v := (-2)) d_Tug_goesFrom_80 (by decide) ?_
        refine tt_goto (t := 86) d_Tug_goesFrom_82 (by decide) ?_
        refine tt_iret rfl d_Tug_goesFrom_86 ?_
        refine ⟨congrArg (fun w => some (Value.int w)) ?_, rfl⟩
        refine Eq.symm ((if_neg hb0).trans ?_)
        first
          | exact if_pos (Or.inl c_65)
          | exact if_pos (Or.inr c_77)
          | exact if_neg (nnO c_65 (nnN c_77))
  · refine tt_bipush (v := (-2)) d_Tug_goesFrom_48 (by decide) ?_
    refine tt_iret rfl d_Tug_goesFrom_50 ?_
    refine ⟨congrArg (fun w => some (Value.int w)) ?_, rfl⟩
    exact (if_pos ((b2I_c hb4).1.mp (Classical.not_not.mp c_45))).symm

theorem x_go_l {l : xLa} {d : Nat} {σ : xs} {R C k : Nat} (hr : sf σ 5 0 = nI R) (hc : sf σ 5 1 = nI C) (hR : R ≤ 6) (hC : C ≤ 6) (hC0 : 0 < C) (hk : k < 2 ^ 31) : ∀ (m : Nat) (w : Nat), 4 - w = m → w ≤ 4 → T l M_Tug_goesFrom (d + 4) 8 [some (.ref 14), some (.int (nI k)), some (.int (b2I (bsV (si σ 18) w).1)), some (.int (bsV (si σ 18) w).2), some (.int (nI w))] [] σ (fun r τ => r = some (.int (X_go σ R C k (si σ 18))) ∧ τ = σ) := by
  intro m
  induction m using Nat.strongRecOn with
  | ind m ih =>
    intro w hm hw
    refine tt_iload d_Tug_goesFrom_8 rfl ?_
    refine tt_iconst (v := nI 4) d_Tug_goesFrom_10 (by decide) ?_
    refine tn_ic_ge (t := 42) (by omega) (by omega) d_Tug_goesFrom_11 (by decide) (fun c_11 => ?_) (fun c_11 => ?_)
    · obtain rfl : w = 4 := by omega
      exact x_go2 hr hc hR hC hC0 hk
    · refine tt_aload_n d_Tug_goesFrom_14 rfl ?_
      refine tt_getR d_Tug_goesFrom_15 rfl rfl (by decide) rfl rfl ?_
      refine tt_iload d_Tug_goesFrom_18 rfl ?_
      refine tn_iald d_Tug_goesFrom_20 rfl (by decide) (by omega) rfl ?_
      refine tt_iload_n d_Tug_goesFrom_21 rfl ?_
      refine tt_ic_le (t := 36) d_Tug_goesFrom_22 (by decide) (fun c_22 => ?_) (fun c_22 => ?_)
      · refine tt_iinc d_Tug_goesFrom_36 rfl (nI_inc _ 1) (by decide) rfl ?_
        refine tt_goto (t := 8) d_Tug_goesFrom_39 (by decide) ?_
        have q := ih (4 - (w + 1)) (by omega) (w + 1) rfl (by omega)
        have q2 : ∀ b, bsV (si σ 18) (w + 1) = b → T l M_Tug_goesFrom (d + 4) 8 [some (.ref 14), some (.int (nI k)), some (.int (b2I b.1)), some (.int b.2), some (.int (nI (w + 1)))] [] σ (fun r τ => r = some (.int (X_go σ R C k (si σ 18))) ∧ τ = σ) := fun b e => by rw [← e]; exact q
        first
          | exact q2 _ (if_pos (fa_nle c_22))
          | exact q2 _ (if_neg (fa_ngt c_22))
      · refine tt_aload_n d_Tug_goesFrom_25 rfl ?_
        refine tt_getR d_Tug_goesFrom_26 rfl rfl (by decide) rfl rfl ?_
        refine tt_iload d_Tug_goesFrom_29 rfl ?_
        refine tn_iald d_Tug_goesFrom_31 rfl (by decide) (by omega) rfl ?_
        refine tt_istore_n d_Tug_goesFrom_32 (by decide) rfl ?_
        refine tt_iload d_Tug_goesFrom_33 rfl ?_
        refine tt_istore_n d_Tug_goesFrom_35 (by decide) rfl ?_
        refine tt_iinc d_Tug_goesFrom_36 rfl (nI_inc _ 1) (by decide) rfl ?_
        refine tt_goto (t := 8) d_Tug_goesFrom_39 (by decide) ?_
        have q := ih (4 - (w + 1)) (by omega) (w + 1) rfl (by omega)
        have q2 : ∀ b, bsV (si σ 18) (w + 1) = b → T l M_Tug_goesFrom (d + 4) 8 [some (.ref 14), some (.int (nI k)), some (.int (b2I b.1)), some (.int b.2), some (.int (nI (w + 1)))] [] σ (fun r τ => r = some (.int (X_go σ R C k (si σ 18))) ∧ τ = σ) := fun b e => by rw [← e]; exact q
        first
          | exact q2 _ (if_pos (fa_nle c_22))
          | exact q2 _ (if_neg (fa_ngt c_22))

theorem x_goesFrom {l : xLa} {d : Nat} {σ : xs} {R C k : Nat} (hr : sf σ 5 0 = nI R) (hc : sf σ 5 1 = nI C) (hR : R ≤ 6) (hC : C ≤ 6) (hC0 : 0 < C) (hk : k < 2 ^ 31) : TE l M_Tug_goesFrom (d + 4) [.ref 14, .int (nI k)] σ (some (.int (X_go σ R C k (si σ 18)))) (σ) := by
  show T l M_Tug_goesFrom (d + 4) 0 _ [] σ _
  refine tt_bipush (v := (-2)) d_Tug_goesFrom_0 (by decide) ?_
  refine tt_istore_n d_Tug_goesFrom_2 (by decide) rfl ?_
  refine tt_iconst (v := nI 0) d_Tug_goesFrom_3 (by decide) ?_
  refine tt_istore_n d_Tug_goesFrom_4 (by decide) rfl ?_
  refine tt_iconst (v := nI 0) d_Tug_goesFrom_5 (by decide) ?_
  refine tt_istore d_Tug_goesFrom_6 (by decide) rfl ?_
  exact x_go_l hr hc hR hC hC0 hk 4 0 (by omega) (by omega)

