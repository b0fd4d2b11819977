/-! Questions: looks. Printed by wip/whole. -/
def cnF (P : Nat → Bool) : Nat → Nat
  | 0 => 0
  | j + 1 => cnF P j + bN (P j)
theorem cnF_le (P : Nat → Bool) : ∀ n, cnF P n ≤ n
  | 0 => Nat.le_refl _
  | n + 1 => by
    have h1 := cnF_le P n
    have h2 := (bN_c (P n)).1
    show cnF P n + bN (P n) ≤ n + 1
    omega
theorem cnF_pos {P : Nat → Bool} {i : Nat} : ∀ n, i < n → P i = true → 0 < cnF P n
  | 0, h, _ => absurd h (Nat.not_lt_zero i)
  | n + 1, h, hp => by
    show 0 < cnF P n + bN (P n)
    by_cases c : i = n
    · subst c; rw [hp]; show 0 < cnF P i + 1; omega
    · have := cnF_pos n (by omega) hp; omega
theorem cnF_ex {P : Nat → Bool} : ∀ n, 0 < cnF P n → ∃ i, i < n ∧ P i = true
  | 0, h => absurd h (Nat.lt_irrefl 0)
  | n + 1, h => by
    by_cases c : P n = true
    · exact ⟨n, by omega, c⟩
    · have e : bN (P n) = 0 := (bN_c _).2.1.mpr (Bool.eq_false_iff.mpr c)
      have : 0 < cnF P n + bN (P n) := h
      obtain ⟨i, h1, h2⟩ := cnF_ex (P := P) n (by omega)
      exact ⟨i, by omega, h2⟩
/-- how many of the set are on a field, of the first n fish -/
def lkC (w : wv) (h f n : Nat) : Nat := cnF (fun j => (ftN w (eN (wE w))).testBit j && decide (plH w j h = f)) n
theorem lkC_s (w : wv) (h f n : Nat) : lkC w h f (n + 1) = lkC w h f n + bN ((ftN w (eN (wE w))).testBit n && decide (plH w n h = f)) := rfl
theorem lkC_le (w : wv) (h f n : Nat) : lkC w h f n ≤ n := cnF_le _ n
/-- the most of them on one field -/
def lkM (w : wv) (h : Nat) : Nat → Nat
  | 0 => 0
  | i + 1 => max (lkM w h i) (if (ftN w (eN (wE w))).testBit i = true then lkC w h (plH w i h) (eN (wE w)) else 0)
def isMx (w : wv) (h k M : Nat) : Prop := (∀ f, lkC w h f k ≤ M) ∧ (M = 0 ∨ ∃ f, lkC w h f k = M)
theorem isMx_u {w : wv} {h k M N : Nat} (a : isMx w h k M) (b : isMx w h k N) : M = N := by
  obtain ⟨a1, a2⟩ := a
  obtain ⟨b1, b2⟩ := b
  have x : M ≤ N := by
    rcases a2 with q | ⟨f, q⟩
    · omega
    · rw [← q]; exact b1 f
  have y : N ≤ M := by
    rcases b2 with q | ⟨f, q⟩
    · omega
    · rw [← q]; exact a1 f
  omega
theorem lkM_a (w : wv) (h : Nat) : ∀ n, (∀ i, i < n → (ftN w (eN (wE w))).testBit i = true → lkC w h (plH w i h) (eN (wE w)) ≤ lkM w h n) ∧ (lkM w h n = 0 ∨ ∃ f, lkC w h f (eN (wE w)) = lkM w h n)
  | 0 => ⟨fun i hi => absurd hi (Nat.not_lt_zero i), Or.inl rfl⟩
  | n + 1 => by
    obtain ⟨h1, h2⟩ := lkM_a w h n
    have e : lkM w h (n + 1) = max (lkM w h n) (if (ftN w (eN (wE w))).testBit n = true then lkC w h (plH w n h) (eN (wE w)) else 0) := rfl
    refine ⟨fun i hi ht => ?_, ?_⟩
    · by_cases c : i = n
      · subst c; rw [e, if_pos ht]; omega
      · have := h1 i (by omega) ht; rw [e]; omega
    · by_cases c : (ftN w (eN (wE w))).testBit n = true
      · rw [if_pos c] at e
        by_cases d : lkM w h n ≤ lkC w h (plH w n h) (eN (wE w))
        · exact Or.inr ⟨plH w n h, by rw [e]; omega⟩
        · rcases h2 with q | ⟨f, q⟩
          · omega
          · exact Or.inr ⟨f, by rw [e]; omega⟩
      · rw [if_neg c] at e
        rw [e, Nat.max_eq_left (Nat.zero_le _)]; exact h2
theorem lkM_mx (w : wv) (h : Nat) : isMx w h (eN (wE w)) (lkM w h (eN (wE w))) := by
  obtain ⟨h1, h2⟩ := lkM_a w h (eN (wE w))
  refine ⟨fun f => ?_, h2⟩
  by_cases c : lkC w h f (eN (wE w)) = 0
  · omega
  · obtain ⟨i, h3, h4⟩ := cnF_ex (eN (wE w)) (show 0 < lkC w h f (eN (wE w)) by omega)
    obtain ⟨h5, h6⟩ := (Bool.and_eq_true _ _).mp h4
    have h7 := decide_eq_true_iff.mp h6
    have := h1 i h3 h5
    rw [h7] at this; exact this
theorem lkM_le (w : wv) (h n : Nat) (hn : eN (wE w) ≤ 8) : lkM w h n ≤ 8 := by
  rcases (lkM_a w h n).2 with q | ⟨f, q⟩
  · omega
  · rw [← q]; have := lkC_le w h f (eN (wE w)); omega
def lkF (w : wv) : Nat → Nat × Nat
  | 0 => (0, 9)
  | h + 1 => if lkM w h (eN (wE w)) < (lkF w h).2 then (h, lkM w h (eN (wE w))) else lkF w h
theorem lkF_t {w : wv} {h b m : Nat} (hb : (b, m) = lkF w h) (c : lkM w h (eN (wE w)) < m) : (h, lkM w h (eN (wE w))) = lkF w (h + 1) := by
  show _ = if lkM w h (eN (wE w)) < (lkF w h).2 then (h, lkM w h (eN (wE w))) else lkF w h
  rw [← hb, if_pos c]
theorem lkF_f {w : wv} {h b m : Nat} (hb : (b, m) = lkF w h) (c : ¬ lkM w h (eN (wE w)) < m) : (b, m) = lkF w (h + 1) := by
  show _ = if lkM w h (eN (wE w)) < (lkF w h).2 then (h, lkM w h (eN (wE w))) else lkF w h
  rw [← hb, if_neg c]
theorem lkF_le (w : wv) : ∀ h, (lkF w h).2 ≤ 9 ∧ (lkF w h).1 ≤ h
  | 0 => ⟨Nat.le_refl _, Nat.le_refl _⟩
  | h + 1 => by
    have ih := lkF_le w h
    show (if lkM w h (eN (wE w)) < (lkF w h).2 then (h, lkM w h (eN (wE w))) else lkF w h).2 ≤ 9 ∧ (if lkM w h (eN (wE w)) < (lkF w h).2 then (h, lkM w h (eN (wE w))) else lkF w h).1 ≤ h + 1
    split
    · exact ⟨by show lkM w h (eN (wE w)) ≤ 9; omega, by show h ≤ h + 1; omega⟩
    · exact ⟨ih.1, by omega⟩
def q_looks (w : wv) : Int32 × Option (List Int64) := if ftN w (eN (wE w)) = 0 then (-2, none) else (nI (lkF w 21).1, some [(nI (lkF w 21).2).toInt64])
theorem ft_held {w : wv} {i : Nat} (h : (ftN w (eN (wE w))).testBit i = true) : i < eN (wE w) ∧ (wV w 0 5).testBit i = true := by
  unfold ftN at h
  rw [bsN_t, Bool.and_eq_true, decide_eq_true_iff] at h
  exact ⟨h.1, ((Bool.and_eq_true _ _).mp h.2).1⟩
theorem x_most_in {l : xLa} {d : Nat} {σ : xs} {Q : Option Value → xs → Prop} {w : wv} {h : Nat} (ho : okQ w) (hn : sf σ 9 2 = nI (eN (wE w))) (hp : (∀ i, i < eN (wE w) → (wV w 0 5).testBit i = true → PLX w i σ)) (hh : h ≤ 20) {i M : Nat} (hi : i < eN (wE w)) (hk : ∀ z : Int32, T l M_X_mostTogether (d + 1) 97 [some (.ref 0), some (.int (nI (ftN w (eN (wE w))))), some (.int (nI h)), some (.int (nI M)), some (.int (nI i)), some (.int (nI (if (ftN w (eN (wE w))).testBit i = true then lkC w h (plH w i h) (eN (wE w)) else 0))), some (.int (nI (eN (wE w)))), some (.int z)] [] σ Q) : ∀ (m j a : Nat) (z : Option Int32), eN (wE w) - j = m → j ≤ eN (wE w) → (j = eN (wE w) → ∃ y, z = some y) → a = (if (ftN w (eN (wE w))).testBit i = true then lkC w h (plH w i h) j else 0) → T l M_X_mostTogether (d + 1) 23 [some (.ref 0), some (.int (nI (ftN w (eN (wE w))))), some (.int (nI h)), some (.int (nI M)), some (.int (nI i)), some (.int (nI a)), some (.int (nI j)), z.map Value.int] [] σ Q := by
  have hfl := ftN_lt w ho.n8
  have hb8 := ho.n8
  have hti := tbN_c (ftN w (eN (wE w))) i
  have hpl := plH_lt ho i h
  intro m
  induction m using Nat.strongRecOn with
  | ind m ih =>
    intro j a z hm hj hz0 ha
    have htj := tbN_c (ftN w (eN (wE w))) j
    have hpj := plH_lt ho j h
    refine tt_iload d_X_mostTogether_23 rfl ?_
    refine tt_aload_n d_X_mostTogether_25 rfl ?_
    refine tt_getR d_X_mostTogether_26 rfl rfl (by decide) rfl rfl ?_
    refine tn_get d_X_mostTogether_29 rfl rfl (by decide) rfl hn ?_
    refine tn_ic_ge (t := 97) (by omega) (by omega) d_X_mostTogether_32 (by decide) (fun c_32 => ?_) (fun c_32 => ?_)
    · obtain rfl : j = eN (wE w) := by omega
      obtain ⟨y, rfl⟩ := hz0 rfl
      subst ha
      exact hk _
    · refine tt_iload_n d_X_mostTogether_35 rfl ?_
      refine tt_iload d_X_mostTogether_36 rfl ?_
      refine tt_iushr d_X_mostTogether_38 ?_
      refine tt_iconst (v := nI 1) d_X_mostTogether_39 (by decide) ?_
      refine tt_iand d_X_mostTogether_40 ?_
      refine tt_top (xbit_N (by omega) (by omega)) ?_
      refine tt_iconst (v := nI 1) d_X_mostTogether_41 (by decide) ?_
      refine tn_ic_ne (t := 59) (by omega) (by omega) d_X_mostTogether_42 (by decide) (fun c_42 => ?_) (fun c_42 => ?_)
      · have hz : a = (if (ftN w (eN (wE w))).testBit i = true then lkC w h (plH w i h) (j + 1) else 0) := by
          rw [if_neg (fun q => c_42 (hti.2.1.mpr q))] at ha ⊢; exact ha
        refine tt_iconst (v := nI 0) d_X_mostTogether_59 (by decide) ?_
        refine tt_istore (lv2 := [_, _, _, _, _, _, _, _]) d_X_mostTogether_60 (by decide) rfl ?_
        refine tt_iload d_X_mostTogether_62 rfl ?_
        refine tn_if_eq (t := 91) (by omega) d_X_mostTogether_64 (by decide) (fun c_64 => ?_) (fun c_64 => ?_)
        · refine tt_iinc (lv2 := [_, _, _, _, _, _, _, _]) d_X_mostTogether_91 rfl (nI_inc _ 1) (by decide) rfl ?_
          refine tt_goto (t := 23) d_X_mostTogether_94 (by decide) ?_
          exact ih (eN (wE w) - (j + 1)) (by omega) (j + 1) _ (some _) rfl (by omega) (fun _ => ⟨_, rfl⟩) hz
        · omega
      · have hmi := hti.2.1.mp c_42
        have hsi := pl_sh i (by omega)
        refine tt_iload_n d_X_mostTogether_45 rfl ?_
        refine tt_iload d_X_mostTogether_46 rfl ?_
        refine tt_iushr d_X_mostTogether_48 ?_
        refine tt_iconst (v := nI 1) d_X_mostTogether_49 (by decide) ?_
        refine tt_iand d_X_mostTogether_50 ?_
        refine tt_top (xbit_N (by omega) (by omega)) ?_
        refine tt_iconst (v := nI 1) d_X_mostTogether_51 (by decide) ?_
        refine tn_ic_ne (t := 59) (by omega) (by omega) d_X_mostTogether_52 (by decide) (fun c_52 => ?_) (fun c_52 => ?_)
        · have hz : a = (if (ftN w (eN (wE w))).testBit i = true then lkC w h (plH w i h) (j + 1) else 0) := by
            rw [if_pos hmi] at ha ⊢
            rw [lkC_s, Bool.eq_false_iff.mpr (fun q => c_52 (htj.2.1.mpr q)), Bool.false_and, ha]; rfl
          refine tt_iconst (v := nI 0) d_X_mostTogether_59 (by decide) ?_
          refine tt_istore (lv2 := [_, _, _, _, _, _, _, _]) d_X_mostTogether_60 (by decide) rfl ?_
          refine tt_iload d_X_mostTogether_62 rfl ?_
          refine tn_if_eq (t := 91) (by omega) d_X_mostTogether_64 (by decide) (fun c_64 => ?_) (fun c_64 => ?_)
          · refine tt_iinc (lv2 := [_, _, _, _, _, _, _, _]) d_X_mostTogether_91 rfl (nI_inc _ 1) (by decide) rfl ?_
            refine tt_goto (t := 23) d_X_mostTogether_94 (by decide) ?_
            exact ih (eN (wE w) - (j + 1)) (by omega) (j + 1) _ (some _) rfl (by omega) (fun _ => ⟨_, rfl⟩) hz
          · omega
        · have hmj := htj.2.1.mp c_52
          have hsj := pl_sh j (by omega)
          refine tt_iconst (v := nI 1) d_X_mostTogether_55 (by decide) ?_
          refine tt_goto (t := 60) d_X_mostTogether_56 (by decide) ?_
          refine tt_istore (lv2 := [_, _, _, _, _, _, _, _]) d_X_mostTogether_60 (by decide) rfl ?_
          refine tt_iload d_X_mostTogether_62 rfl ?_
          refine tn_if_eq (t := 91) (by omega) d_X_mostTogether_64 (by decide) (fun c_64 => ?_) (fun c_64 => ?_)
          · omega
          · refine tt_aload_n d_X_mostTogether_67 rfl ?_
            refine tt_getR d_X_mostTogether_68 rfl rfl (by decide) rfl rfl ?_
            refine tt_iload d_X_mostTogether_71 rfl ?_
            refine tn_aald d_X_mostTogether_73 rfl (by decide) (by decide) (by omega) hsi.1 ?_
            refine tt_iload_n d_X_mostTogether_74 rfl ?_
            refine tn_iald d_X_mostTogether_75 hsi.2 (by decide) (by omega) (hp i hi (ft_held hmi).2 h hh) ?_
            refine tt_aload_n d_X_mostTogether_76 rfl ?_
            refine tt_getR d_X_mostTogether_77 rfl rfl (by decide) rfl rfl ?_
            refine tt_iload d_X_mostTogether_80 rfl ?_
            refine tn_aald d_X_mostTogether_82 rfl (by decide) (by decide) (by omega) hsj.1 ?_
            refine tt_iload_n d_X_mostTogether_83 rfl ?_
            refine tn_iald d_X_mostTogether_84 hsj.2 (by decide) (by omega) (hp j (by omega) (ft_held hmj).2 h hh) ?_
            refine tn_ic_ne (t := 91) (by omega) (by omega) d_X_mostTogether_85 (by decide) (fun c_85 => ?_) (fun c_85 => ?_)
            · have hz : a = (if (ftN w (eN (wE w))).testBit i = true then lkC w h (plH w i h) (j + 1) else 0) := by
                rw [if_pos hmi] at ha ⊢
                rw [lkC_s, decide_eq_false (fun q => c_85 q.symm), Bool.and_false, ha]; rfl
              refine tt_iinc (lv2 := [_, _, _, _, _, _, _, _]) d_X_mostTogether_91 rfl (nI_inc _ 1) (by decide) rfl ?_
              refine tt_goto (t := 23) d_X_mostTogether_94 (by decide) ?_
              exact ih (eN (wE w) - (j + 1)) (by omega) (j + 1) _ (some _) rfl (by omega) (fun _ => ⟨_, rfl⟩) hz
            · have hz : a + 1 = (if (ftN w (eN (wE w))).testBit i = true then lkC w h (plH w i h) (j + 1) else 0) := by
                rw [if_pos hmi] at ha ⊢
                rw [lkC_s, decide_eq_true c_85.symm, hmj, ha]; rfl
              refine tt_iinc (lv2 := [_, _, _, _, _, _, _, _]) d_X_mostTogether_88 rfl (nI_inc _ 1) (by decide) rfl ?_
              refine tt_iinc (lv2 := [_, _, _, _, _, _, _, _]) d_X_mostTogether_91 rfl (nI_inc _ 1) (by decide) rfl ?_
              refine tt_goto (t := 23) d_X_mostTogether_94 (by decide) ?_
              exact ih (eN (wE w) - (j + 1)) (by omega) (j + 1) _ (some _) rfl (by omega) (fun _ => ⟨_, rfl⟩) hz

theorem x_most_l {l : xLa} {d : Nat} {σ : xs} {w : wv} {h : Nat} (ho : okQ w) (hn : sf σ 9 2 = nI (eN (wE w))) (hp : (∀ i, i < eN (wE w) → (wV w 0 5).testBit i = true → PLX w i σ)) (hh : h ≤ 20) : ∀ (m i M : Nat) (z5 z6 z7 : Option Int32), eN (wE w) - i = m → i ≤ eN (wE w) → M = lkM w h i → T l M_X_mostTogether (d + 1) 5 [some (.ref 0), some (.int (nI (ftN w (eN (wE w))))), some (.int (nI h)), some (.int (nI M)), some (.int (nI i)), z5.map Value.int, z6.map Value.int, z7.map Value.int] [] σ (fun r τ => r = some (.int (nI (lkM w h (eN (wE w))))) ∧ τ = σ) := by
  have hb8 := ho.n8
  intro m
  induction m using Nat.strongRecOn with
  | ind m ih =>
    intro i M z5 z6 z7 hm hi hM
    have hl1 := lkM_le w h i ho.n8
    have hl2 : (if (ftN w (eN (wE w))).testBit i = true then lkC w h (plH w i h) (eN (wE w)) else 0) ≤ 8 := by
      have := lkC_le w h (plH w i h) (eN (wE w))
      split <;> omega
    rw [← hM] at hl1
    refine tt_iload d_X_mostTogether_5 rfl ?_
    refine tt_aload_n d_X_mostTogether_7 rfl ?_
    refine tt_getR d_X_mostTogether_8 rfl rfl (by decide) rfl rfl ?_
    refine tn_get d_X_mostTogether_11 rfl rfl (by decide) rfl hn ?_
    refine tn_ic_ge (t := 110) (by omega) (by omega) d_X_mostTogether_14 (by decide) (fun c_14 => ?_) (fun c_14 => ?_)
    · obtain rfl : i = eN (wE w) := by omega
      subst hM
      refine tt_iload_n d_X_mostTogether_110 rfl ?_
      refine tt_iret rfl d_X_mostTogether_111 ?_
      exact ⟨rfl, rfl⟩
    · refine tt_iconst (v := nI 0) d_X_mostTogether_17 (by decide) ?_
      refine tt_istore (lv2 := [_, _, _, _, _, _, _, _]) d_X_mostTogether_18 (by decide) rfl ?_
      refine tt_iconst (v := nI 0) d_X_mostTogether_20 (by decide) ?_
      refine tt_istore (lv2 := [_, _, _, _, _, _, _, _]) d_X_mostTogether_21 (by decide) rfl ?_
      refine x_most_in ho hn hp hh (by omega) (fun z => ?_) (eN (wE w)) 0 0 z7 rfl (by omega) (fun q => by omega) (by split <;> rfl)
      refine tt_iload_n d_X_mostTogether_97 rfl ?_
      refine tt_iload d_X_mostTogether_98 rfl ?_
      refine tn_max (by omega) (by omega) d_X_mostTogether_100 rfl (Nat.le_of_ble_eq_true rfl) ?_
      refine tt_istore_n (lv2 := [_, _, _, _, _, _, _, _]) d_X_mostTogether_103 (by decide) rfl ?_
      refine tt_iinc (lv2 := [_, _, _, _, _, _, _, _]) d_X_mostTogether_104 rfl (nI_inc _ 1) (by decide) rfl ?_
      refine tt_goto (t := 5) d_X_mostTogether_107 (by decide) ?_
      exact ih (eN (wE w) - (i + 1)) (by omega) (i + 1) _ (some _) (some _) (some _) rfl (by omega) (by rw [hM]; rfl)

theorem x_most {l : xLa} {d : Nat} {σ : xs} {w : wv} {h : Nat} (ho : okQ w) (hn : sf σ 9 2 = nI (eN (wE w))) (hp : (∀ i, i < eN (wE w) → (wV w 0 5).testBit i = true → PLX w i σ)) (hh : h ≤ 20) : TE l M_X_mostTogether (d + 1) [.ref 0, .int (nI (ftN w (eN (wE w)))), .int (nI h)] σ (some (.int (nI (lkM w h (eN (wE w)))))) σ := by
  show T l M_X_mostTogether (d + 1) 0 _ [] σ _
  refine tt_iconst (v := nI 0) d_X_mostTogether_0 (by decide) ?_
  refine tt_istore_n (lv2 := [_, _, _, _, _, _, _, _]) d_X_mostTogether_1 (by decide) rfl ?_
  refine tt_iconst (v := nI 0) d_X_mostTogether_2 (by decide) ?_
  refine tt_istore (lv2 := [_, _, _, _, _, _, _, _]) d_X_mostTogether_3 (by decide) rfl ?_
  exact x_most_l ho hn hp hh (eN (wE w)) 0 0 none none none rfl (by omega) rfl

set_option maxHeartbeats 4000000 in
theorem x_looks_l {l : xLa} {d : Nat} {σ : xs} {w : wv} (ho : okQ w) : ∀ (m : Nat) (h0 b m2 : Nat) (z : Option Int32) (τ : xs), 21 - h0 = m → h0 ≤ 21 → XQ w σ τ → (∀ i, i < eN (wE w) → (wV w 0 5).testBit i = true → PLX w i τ) → (b, m2) = lkF w h0 → T l M_X_looks (d + 30) 20 [some (.ref 0), some (.int (nI (ftN w (eN (wE w))))), some (.int (nI b)), some (.int (nI m2)), some (.int (nI h0)), z.map Value.int] [] τ (fun r τ => r = some (.int (nI (lkF w 21).1)) ∧ XW τ (stD w (some [(nI (lkF w 21).2).toInt64])) ∧ XF σ τ) := by
  have hb0 := ho.fb
  have hb8 := ho.n8
  intro m
  induction m using Nat.strongRecOn with
  | ind m ih =>
    intro h0 b m2 z τ hm hh h hp hb
    have hle := lkF_le w h0
    rw [← hb] at hle
    dsimp only at hle
    have hml := lkM_le w h0 (eN (wE w)) ho.n8
    refine tt_iload d_X_looks_20 rfl ?_
    refine tt_bipush (v := nI 20) d_X_looks_22 (by decide) ?_
    refine tn_ic_gt (t := 54) (by omega) (by omega) d_X_looks_24 (by decide) (fun c_24 => ?_) (fun c_24 => ?_)
    · obtain rfl : h0 = 21 := by omega
      rw [← hb]
      refine tt_aload_n d_X_looks_54 rfl ?_
      refine tt_getR d_X_looks_55 rfl rfl (by decide) rfl rfl ?_
      refine tt_callV (xq_start (d := d) h) cw_Told_start rfl rfl (by decide) rfl (by omega) d_X_looks_58 rfl rfl (Nat.le_of_ble_eq_true rfl) (Nat.le_of_ble_eq_true rfl) rfl rfl rfl (fun v σ2 q => ?_)
      obtain ⟨rfl, h, hd, hf⟩ := q
      refine tt_aload_n d_X_looks_61 rfl ?_
      refine tt_getR d_X_looks_62 rfl rfl (by decide) rfl rfl ?_
      refine tt_iload_n d_X_looks_65 rfl ?_
      refine tt_i2l d_X_looks_66 ?_
      refine tt_callV (xq_add (d := d) h hd (Nat.le_of_ble_eq_true rfl)) cw_Told_add rfl rfl (by decide) rfl (by omega) d_X_looks_67 rfl rfl (Nat.le_of_ble_eq_true rfl) (Nat.le_of_ble_eq_true rfl) rfl rfl rfl (fun v σ2 q => ?_)
      obtain ⟨rfl, h, hd, hf⟩ := q
      refine tt_iload_n d_X_looks_70 rfl ?_
      refine tt_iret rfl d_X_looks_71 ?_
      exact ⟨rfl, h.done hd, h.2.1⟩
    · refine tt_aload_n d_X_looks_27 rfl ?_
      refine tt_iload_n d_X_looks_28 rfl ?_
      refine tt_iload d_X_looks_29 rfl ?_
      refine tt_callV (x_most (d := d) ho h.n hp (by omega)) cw_X_mostTogether rfl rfl (by decide) rfl (by omega) d_X_looks_31 rfl rfl (Nat.le_of_ble_eq_true rfl) (Nat.le_of_ble_eq_true rfl) rfl rfl rfl (fun v σ2 q => ?_)
      obtain ⟨rfl, e9⟩ := q
      rw [e9]
      clear e9
      refine tt_istore (lv2 := [_, _, _, _, _, _]) d_X_looks_34 (by decide) rfl ?_
      refine tt_iload d_X_looks_36 rfl ?_
      refine tt_iload_n d_X_looks_38 rfl ?_
      refine tn_ic_ge (t := 48) (by omega) (by omega) d_X_looks_39 (by decide) (fun c_39 => ?_) (fun c_39 => ?_)
      · have hz := lkF_f hb (by omega)
        refine tt_iinc (lv2 := [_, _, _, _, _, _]) d_X_looks_48 rfl (nI_inc _ 1) (by decide) rfl ?_
        refine tt_goto (t := 20) d_X_looks_51 (by decide) ?_
        exact ih (21 - (h0 + 1)) (by omega) (h0 + 1) _ _ (some _) _ rfl (by omega) h hp hz
      · have hz := lkF_t hb (by omega)
        refine tt_iload d_X_looks_42 rfl ?_
        refine tt_istore_n (lv2 := [_, _, _, _, _, _]) d_X_looks_44 (by decide) rfl ?_
        refine tt_iload d_X_looks_45 rfl ?_
        refine tt_istore_n (lv2 := [_, _, _, _, _, _]) d_X_looks_47 (by decide) rfl ?_
        refine tt_iinc (lv2 := [_, _, _, _, _, _]) d_X_looks_48 rfl (nI_inc _ 1) (by decide) rfl ?_
        refine tt_goto (t := 20) d_X_looks_51 (by decide) ?_
        exact ih (21 - (h0 + 1)) (by omega) (h0 + 1) _ _ (some _) _ rfl (by omega) h hp hz

set_option maxHeartbeats 4000000 in
theorem xc_looks {l : xLa} {d : Nat} {σ : xs} {w : wv} (ho : okQ w) (hw : XW σ w) (hg : okG (wS w)) : TC l M_X_looks (d + 30) [.ref 0] σ (fun r τ => r = some (.int ((q_looks w).1)) ∧ XW τ (stD w ((q_looks w).2)) ∧ XF σ τ) := by
  show T l M_X_looks (d + 30) 0 _ [] σ _
  refine T_lv (lv2 := [_, _, _, _, _, _]) rfl ?_
  have h := XQ.rf hw.v
  have hd0 := hw.2.2.2.1
  have hb0 := ho.fb
  have hb8 := ho.n8
  have hfl := ftN_lt w ho.n8
  unfold q_looks
  refine tt_aload_n d_X_looks_0 rfl ?_
  refine tt_callV (xq_fitting (d := d) h hg ho) cw_X_fitting rfl rfl (by decide) rfl (by omega) d_X_looks_1 rfl rfl (Nat.le_of_ble_eq_true rfl) (Nat.le_of_ble_eq_true rfl) rfl rfl rfl (fun v σ2 q => ?_)
  obtain ⟨rfl, h, hu, hp⟩ := q
  replace hd0 := hd0.tn hu
  refine tt_istore_n (lv2 := [_, _, _, _, _, _]) d_X_looks_4 (by decide) rfl ?_
  refine tt_iload_n d_X_looks_5 rfl ?_
  refine tn_if_ne (t := 12) (by omega) d_X_looks_6 (by decide) (fun c_6 => ?_) (fun c_6 => ?_)
  · rw [if_neg c_6]
    refine tt_iconst (v := nI 0) d_X_looks_12 (by decide) ?_
    refine tt_istore_n (lv2 := [_, _, _, _, _, _]) d_X_looks_13 (by decide) rfl ?_
    refine tt_bipush (v := nI 9) d_X_looks_14 (by decide) ?_
    refine tt_istore_n (lv2 := [_, _, _, _, _, _]) d_X_looks_16 (by decide) rfl ?_
    refine tt_iconst (v := nI 0) d_X_looks_17 (by decide) ?_
    refine tt_istore (lv2 := [_, _, _, _, _, _]) d_X_looks_18 (by decide) rfl ?_
    exact x_looks_l ho 21 0 0 9 none _ rfl (by omega) h hp rfl
  · rw [if_pos c_6]
    refine tt_bipush (v := (-2)) d_X_looks_9 (by decide) ?_
    refine tt_iret rfl d_X_looks_11 ?_
    exact ⟨rfl, h.none hd0, h.2.1⟩

theorem yw_of {σ τ : xs} {w : wv} {c j : Nat} {x : Int32} (h : YQ c w σ τ) : YQ c w σ (wI τ 181 j x) := h.fq (Fq.wI (by unfold YqA; omega))
/-- the counts of the first k fish -/
def OFY (w : wv) (h k : Nat) (τ : xs) : Prop := ∀ f, f < eR (wE w) * eC (wE w) → si τ 181 f = nI (lkC w h f k)
theorem PLY.o {w : wv} {i j : Nat} {τ : xs} {x : Int32} (h : PLY w i τ) : PLY w i (wI τ 181 j x) := fun k hk => (h k hk)
theorem plH_f {w : wv} (ho : okQ w) (i : Nat) {h : Nat} (hh : h ≤ 1000) : plH w i h < eR (wE w) * eC (wE w) := (ok_lgh ho i hh).1.1
theorem mx_in {w : wv} {h k M : Nat} (a : isMx w h k M) (hm : (ftN w (eN (wE w))).testBit k = true) : isMx w h (k + 1) (max M (lkC w h (plH w k h) k + 1)) := by
  obtain ⟨a1, a2⟩ := a
  have e : ∀ f, lkC w h f (k + 1) = lkC w h f k + (if plH w k h = f then 1 else 0) := fun f => by
    rw [lkC_s, hm, Bool.true_and]
    by_cases c : plH w k h = f
    · rw [decide_eq_true c, if_pos c]; rfl
    · rw [decide_eq_false c, if_neg c]; rfl
  refine ⟨fun f => ?_, ?_⟩
  · rw [e]
    have := a1 f
    by_cases c : plH w k h = f
    · rw [if_pos c, ← c]; omega
    · rw [if_neg c]; omega
  · by_cases c : M ≤ lkC w h (plH w k h) k + 1
    · exact Or.inr ⟨plH w k h, by rw [e, if_pos rfl]; omega⟩
    · rcases a2 with q | ⟨f, q⟩
      · omega
      · refine Or.inr ⟨f, ?_⟩
        rw [e]
        by_cases c2 : plH w k h = f
        · rw [← c2] at q; omega
        · rw [if_neg c2]; omega
theorem mx_out {w : wv} {h k M : Nat} (a : isMx w h k M) (hm : ¬ (ftN w (eN (wE w))).testBit k = true) : isMx w h (k + 1) (max M (lkC w h 0 k + 0)) ∧ ∀ f, lkC w h f (k + 1) = lkC w h f k := by
  have e : ∀ f, lkC w h f (k + 1) = lkC w h f k := fun f => by
    rw [lkC_s, Bool.eq_false_iff.mpr hm, Bool.false_and]; rfl
  have e2 : max M (lkC w h 0 k + 0) = M := by have := a.1 0; omega
  rw [e2]
  refine ⟨⟨fun f => by rw [e]; exact a.1 f, ?_⟩, e⟩
  rcases a.2 with q | ⟨f, q⟩
  · exact Or.inl q
  · exact Or.inr ⟨f, by rw [e]; exact q⟩
set_option maxHeartbeats 4000000 in
theorem y_lk1 {l : xLa} {d : Nat} {σ : xs} {c : Nat} {w : wv} {h m2 : Nat} {bi : Int32} {z7 : Option Int32} (hh : h ≤ 20) (ho : okQ w) : ∀ (m : Nat) (f : Nat) (τ : xs), eR (wE w) * eC (wE w) - f = m → f ≤ eR (wE w) * eC (wE w) → YQ c w σ τ → (∀ i, i < eN (wE w) → (wV w 0 5).testBit i = true → PLY w i τ) → (∀ g, g < f → si τ 181 g = nI 0) → (∀ τ, YQ c w σ τ → (∀ i, i < eN (wE w) → (wV w 0 5).testBit i = true → PLY w i τ) → OFY w h 0 τ → T l M_Y_looks (d + 150) 65 [some (.ref 154), some (.int (nI (ftN w (eN (wE w))))), some (.int bi), some (.int (nI m2)), some (.int (nI h)), some (.int (nI 0)), some (.int (nI 0)), z7.map Value.int] [] τ (fun r τ => r = some (.int (nI (lkF w 21).1)) ∧ YW τ c (stD w (some [(nI (lkF w 21).2).toInt64])) ∧ YF σ τ)) → T l M_Y_looks (d + 150) 39 [some (.ref 154), some (.int (nI (ftN w (eN (wE w))))), some (.int bi), some (.int (nI m2)), some (.int (nI h)), some (.int (nI 0)), some (.int (nI f)), z7.map Value.int] [] τ (fun r τ => r = some (.int (nI (lkF w 21).1)) ∧ YW τ c (stD w (some [(nI (lkF w 21).2).toInt64])) ∧ YF σ τ) := by
  have hb0 := ho.fb
  have hb8 := ho.n8
  intro m
  induction m using Nat.strongRecOn with
  | ind m ih =>
    intro f τ hm hf h hp hz hk
    refine tt_iload d_Y_looks_39 rfl ?_
    refine tt_aload_n d_Y_looks_41 rfl ?_
    refine tt_callV (y_fields (d := d) h.e.1.1 h.e.1.2.1 ho.1.1.2.1 ho.1.1.2.2.2.1 ho.cp) cw_Y_fields rfl rfl (by decide) rfl (by omega) d_Y_looks_42 rfl rfl (Nat.le_of_ble_eq_true rfl) (Nat.le_of_ble_eq_true rfl) rfl rfl rfl (fun v σ2 q => ?_)
    obtain ⟨rfl, e9⟩ := q
    rw [e9]
    clear e9
    refine tn_ic_ge (t := 62) (by omega) (by omega) d_Y_looks_45 (by decide) (fun c_45 => ?_) (fun c_45 => ?_)
    · refine tt_iconst (v := nI 0) d_Y_looks_62 (by decide) ?_
      refine tt_istore (lv2 := [_, _, _, _, _, _, _, _]) d_Y_looks_63 (by decide) rfl ?_
      exact hk _ h hp (fun g hg => hz g (by omega))
    · refine tt_aload_n d_Y_looks_48 rfl ?_
      refine tt_getR d_Y_looks_49 rfl rfl (by decide) rfl rfl ?_
      refine tt_iload d_Y_looks_52 rfl ?_
      refine tt_iconst (v := nI 0) d_Y_looks_54 (by decide) ?_
      refine tn_iast d_Y_looks_55 rfl (by decide) (by omega) ?_
      replace h := yw_of (j := f) (x := nI 0) h
      replace hp : ∀ i, i < eN (wE w) → (wV w 0 5).testBit i = true → PLY w i (wI τ 181 f (nI 0)) := fun i h1 h2 => (hp i h1 h2).o
      replace hz : ∀ g, g < f + 1 → si (wI τ 181 f (nI 0)) 181 g = nI 0 := fun g hg => by
        rw [si_wI]
        by_cases q : g = f
        · rw [if_pos ⟨rfl, q⟩]
        · rw [if_neg (fun y => q y.2)]; exact hz g (by omega)
      refine tt_iinc (lv2 := [_, _, _, _, _, _, _, _]) d_Y_looks_56 rfl (nI_inc _ 1) (by decide) rfl ?_
      refine tt_goto (t := 39) d_Y_looks_59 (by decide) ?_
      exact ih (eR (wE w) * eC (wE w) - (f + 1)) (by omega) (f + 1) _ rfl (by omega) h hp hz hk

set_option maxHeartbeats 4000000 in
theorem y_lk2 {l : xLa} {d : Nat} {σ : xs} {c : Nat} {w : wv} {h0 m2 : Nat} {bi : Int32} (hh : h0 ≤ 20) (ho : okQ w) : ∀ (m : Nat) (k M : Nat) (z7 : Option Int32) (τ : xs), eN (wE w) - k = m → k ≤ eN (wE w) → YQ c w σ τ → (∀ i, i < eN (wE w) → (wV w 0 5).testBit i = true → PLY w i τ) → OFY w h0 k τ → isMx w h0 k M → (∀ (τ : xs) (z7 : Option Int32), YQ c w σ τ → (∀ i, i < eN (wE w) → (wV w 0 5).testBit i = true → PLY w i τ) → T l M_Y_looks (d + 150) 142 [some (.ref 154), some (.int (nI (ftN w (eN (wE w))))), some (.int bi), some (.int (nI m2)), some (.int (nI h0)), some (.int (nI (lkM w h0 (eN (wE w))))), some (.int (nI (eN (wE w)))), z7.map Value.int] [] τ (fun r τ => r = some (.int (nI (lkF w 21).1)) ∧ YW τ c (stD w (some [(nI (lkF w 21).2).toInt64])) ∧ YF σ τ)) → T l M_Y_looks (d + 150) 65 [some (.ref 154), some (.int (nI (ftN w (eN (wE w))))), some (.int bi), some (.int (nI m2)), some (.int (nI h0)), some (.int (nI M)), some (.int (nI k)), z7.map Value.int] [] τ (fun r τ => r = some (.int (nI (lkF w 21).1)) ∧ YW τ c (stD w (some [(nI (lkF w 21).2).toInt64])) ∧ YF σ τ) := by
  have hb0 := ho.fb
  have hb8 := ho.n8
  intro m
  induction m using Nat.strongRecOn with
  | ind m ih =>
    intro k M z7 τ hm hk0 h hp hO hM hk
    have hfl := ftN_lt w ho.n8
    have htb := tbN_c (ftN w (eN (wE w))) k
    have hc1 := lkC_le w h0 (plH w k h0) k
    have hc0 := lkC_le w h0 0 k
    have hMl : M ≤ 8 := by
      rcases hM.2 with q | ⟨f, q⟩
      · omega
      · have := lkC_le w h0 f k; omega
    have hR2 := ho.1.1.1
    have hf0 : 0 < eR (wE w) * eC (wE w) := Nat.mul_pos (by omega) ho.cp
    refine tt_iload d_Y_looks_65 rfl ?_
    refine tt_aload_n d_Y_looks_67 rfl ?_
    refine tn_get d_Y_looks_68 rfl rfl (by decide) rfl h.e.1.2.2.1 ?_
    refine tn_ic_ge (t := 142) (by omega) (by omega) d_Y_looks_71 (by decide) (fun c_71 => ?_) (fun c_71 => ?_)
    · obtain rfl : k = eN (wE w) := by omega
      obtain rfl : M = lkM w h0 (eN (wE w)) := isMx_u hM (lkM_mx w h0)
      exact hk _ z7 h hp
    · have hpf := plH_f ho k (h := h0) (by omega)
      refine tt_iload_n d_Y_looks_74 rfl ?_
      refine tt_i2l d_Y_looks_75 ?_
      refine tt_iload d_Y_looks_76 rfl ?_
      refine tt_callS (y_hasN (d := d) (by omega) (by omega)) cw_Y_has rfl (by omega) d_Y_looks_78 rfl rfl (Nat.le_of_ble_eq_true rfl) (Nat.le_of_ble_eq_true rfl) rfl rfl rfl (fun v σ2 q => ?_)
      obtain ⟨rfl, e9⟩ := q
      rw [e9]
      clear e9
      refine tn_if_eq (t := 99) (by omega) d_Y_looks_81 (by decide) (fun c_81 => ?_) (fun c_81 => ?_)
      · have hnm : ¬ (ftN w (eN (wE w))).testBit k = true := htb.2.2.mp c_81
        have hmo := mx_out hM hnm
        refine tt_iconst (v := nI 0) d_Y_looks_99 (by decide) ?_
        refine tt_istore (lv2 := [_, _, _, _, _, _, _, _]) d_Y_looks_100 (by decide) rfl ?_
        refine tt_aload_n d_Y_looks_102 rfl ?_
        refine tt_getR d_Y_looks_103 rfl rfl (by decide) rfl rfl ?_
        refine tt_iload d_Y_looks_106 rfl ?_
        refine tt_dup2 d_Y_looks_108 rfl rfl ?_
        refine tn_iald d_Y_looks_109 rfl (by decide) (by omega) (hO 0 hf0) ?_
        refine tt_iload_n d_Y_looks_110 rfl ?_
        refine tt_i2l d_Y_looks_111 ?_
        refine tt_iload d_Y_looks_112 rfl ?_
        refine tt_callS (y_hasN (d := d) hfl (by omega)) cw_Y_has rfl (by omega) d_Y_looks_114 rfl rfl (Nat.le_of_ble_eq_true rfl) (Nat.le_of_ble_eq_true rfl) rfl rfl rfl (fun v σ2 q => ?_)
        obtain ⟨rfl, e9⟩ := q
        rw [e9]
        clear e9
        refine tt_callS (y_flagN (d := d) (by omega)) cw_Y_flag rfl (by omega) d_Y_looks_117 rfl rfl (Nat.le_of_ble_eq_true rfl) (Nat.le_of_ble_eq_true rfl) rfl rfl rfl (fun v σ2 q => ?_)
        obtain ⟨rfl, e9⟩ := q
        rw [e9]
        clear e9
        refine tn_iadd d_Y_looks_120 ?_
        refine tn_iast d_Y_looks_121 rfl (by decide) (by omega) ?_
        refine tt_iload d_Y_looks_122 rfl ?_
        refine tt_aload_n d_Y_looks_124 rfl ?_
        refine tt_getR d_Y_looks_125 rfl rfl (by decide) rfl rfl ?_
        refine tt_iload d_Y_looks_128 rfl ?_
        refine tn_iald d_Y_looks_130 rfl (by decide) (by omega) (show si (wI τ 181 (0) (nI (lkC w h0 (0) k + tbN (ftN w (eN (wE w))) k))) 181 (0) = nI (lkC w h0 (0) k + tbN (ftN w (eN (wE w))) k) from by rw [si_wI, if_pos ⟨rfl, rfl⟩]) ?_
        refine tn_max (by omega) (by omega) d_Y_looks_131 rfl (Nat.le_of_ble_eq_true rfl) ?_
        refine tt_istore (lv2 := [_, _, _, _, _, _, _, _]) d_Y_looks_134 (by decide) rfl ?_
        refine tt_iinc (lv2 := [_, _, _, _, _, _, _, _]) d_Y_looks_136 rfl (nI_inc _ 1) (by decide) rfl ?_
        refine tt_goto (t := 65) d_Y_looks_139 (by decide) ?_
        replace h := yw_of (j := 0) (x := nI (lkC w h0 0 k + tbN (ftN w (eN (wE w))) k)) h
        rw [htb.2.2.mpr hnm] at h ⊢
        exact ih (eN (wE w) - (k + 1)) (by omega) (k + 1) _ (some _) _ rfl (by omega) h (fun i h1 h2 => (hp i h1 h2).o) (fun g hg => by
          rw [si_wI, hmo.2]
          by_cases q : g = 0
          · rw [if_pos ⟨rfl, q⟩, q, Nat.add_zero]
          · rw [if_neg (fun y => q y.2)]; exact hO g hg) hmo.1 hk
      · have hmm : (ftN w (eN (wE w))).testBit k = true := htb.2.1.mp (by omega)
        have hmo := mx_in hM hmm
        refine tt_aload_n d_Y_looks_84 rfl ?_
        refine tt_getR d_Y_looks_85 rfl rfl (by decide) rfl rfl ?_
        refine tt_iload d_Y_looks_88 rfl ?_
        refine tt_iload d_Y_looks_90 rfl ?_
        refine tt_callS (y_place (d := d)) cw_Y_place rfl (by omega) d_Y_looks_92 rfl rfl (Nat.le_of_ble_eq_true rfl) (Nat.le_of_ble_eq_true rfl) rfl rfl rfl (fun v σ2 q => ?_)
        obtain ⟨rfl, e9⟩ := q
        rw [e9]
        clear e9
        refine tn_iald d_Y_looks_95 rfl (by decide) (by omega) (hp k (by omega) (ft_held hmm).2 h0 hh) ?_
        refine tt_goto (t := 100) d_Y_looks_96 (by decide) ?_
        refine tt_istore (lv2 := [_, _, _, _, _, _, _, _]) d_Y_looks_100 (by decide) rfl ?_
        refine tt_aload_n d_Y_looks_102 rfl ?_
        refine tt_getR d_Y_looks_103 rfl rfl (by decide) rfl rfl ?_
        refine tt_iload d_Y_looks_106 rfl ?_
        refine tt_dup2 d_Y_looks_108 rfl rfl ?_
        refine tn_iald d_Y_looks_109 rfl (by decide) (by omega) (hO (plH w k h0) hpf) ?_
        refine tt_iload_n d_Y_looks_110 rfl ?_
        refine tt_i2l d_Y_looks_111 ?_
        refine tt_iload d_Y_looks_112 rfl ?_
        refine tt_callS (y_hasN (d := d) hfl (by omega)) cw_Y_has rfl (by omega) d_Y_looks_114 rfl rfl (Nat.le_of_ble_eq_true rfl) (Nat.le_of_ble_eq_true rfl) rfl rfl rfl (fun v σ2 q => ?_)
        obtain ⟨rfl, e9⟩ := q
        rw [e9]
        clear e9
        refine tt_callS (y_flagN (d := d) (by omega)) cw_Y_flag rfl (by omega) d_Y_looks_117 rfl rfl (Nat.le_of_ble_eq_true rfl) (Nat.le_of_ble_eq_true rfl) rfl rfl rfl (fun v σ2 q => ?_)
        obtain ⟨rfl, e9⟩ := q
        rw [e9]
        clear e9
        refine tn_iadd d_Y_looks_120 ?_
        refine tn_iast d_Y_looks_121 rfl (by decide) (by omega) ?_
        refine tt_iload d_Y_looks_122 rfl ?_
        refine tt_aload_n d_Y_looks_124 rfl ?_
        refine tt_getR d_Y_looks_125 rfl rfl (by decide) rfl rfl ?_
        refine tt_iload d_Y_looks_128 rfl ?_
        refine tn_iald d_Y_looks_130 rfl (by decide) (by omega) (show si (wI τ 181 (plH w k h0) (nI (lkC w h0 (plH w k h0) k + tbN (ftN w (eN (wE w))) k))) 181 (plH w k h0) = nI (lkC w h0 (plH w k h0) k + tbN (ftN w (eN (wE w))) k) from by rw [si_wI, if_pos ⟨rfl, rfl⟩]) ?_
        refine tn_max (by omega) (by omega) d_Y_looks_131 rfl (Nat.le_of_ble_eq_true rfl) ?_
        refine tt_istore (lv2 := [_, _, _, _, _, _, _, _]) d_Y_looks_134 (by decide) rfl ?_
        refine tt_iinc (lv2 := [_, _, _, _, _, _, _, _]) d_Y_looks_136 rfl (nI_inc _ 1) (by decide) rfl ?_
        refine tt_goto (t := 65) d_Y_looks_139 (by decide) ?_
        replace h := yw_of (j := plH w k h0) (x := nI (lkC w h0 (plH w k h0) k + tbN (ftN w (eN (wE w))) k)) h
        rw [htb.2.1.mpr hmm] at h ⊢
        exact ih (eN (wE w) - (k + 1)) (by omega) (k + 1) _ (some _) _ rfl (by omega) h (fun i h1 h2 => (hp i h1 h2).o) (fun g hg => by
          rw [si_wI]
          by_cases q : g = plH w k h0
          · rw [if_pos ⟨rfl, q⟩, q, lkC_s, hmm, decide_eq_true rfl]; rfl
          · rw [if_neg (fun y => q y.2), lkC_s, decide_eq_false (fun y => q y.symm), Bool.and_false]; exact hO g hg) hmo hk

theorem lk_step_t {w : wv} {h0 m2 : Nat} {bi : Int32} (hb8 : eN (wE w) ≤ 8) (h : (h0 = 0 ∧ bi = -1 ∧ m2 = 1000000) ∨ (0 < h0 ∧ ∃ b, bi = nI b ∧ (b, m2) = lkF w h0)) (c : lkM w h0 (eN (wE w)) < m2) : (h0 + 1 = 0 ∧ nI h0 = -1 ∧ min m2 (lkM w h0 (eN (wE w))) = 1000000) ∨ (0 < h0 + 1 ∧ ∃ b, nI h0 = nI b ∧ (b, min m2 (lkM w h0 (eN (wE w)))) = lkF w (h0 + 1)) := by
  refine Or.inr ⟨by omega, h0, rfl, ?_⟩
  rw [Nat.min_eq_right (by omega)]
  rcases h with ⟨rfl, _, _⟩ | ⟨_, b, _, h2⟩
  · have := lkM_le w 0 (eN (wE w)) hb8
    exact lkF_t (b := 0) (m := 9) rfl (by omega)
  · exact lkF_t h2 c
theorem lk_step_f {w : wv} {h0 m2 : Nat} {bi : Int32} (hb8 : eN (wE w) ≤ 8) (h : (h0 = 0 ∧ bi = -1 ∧ m2 = 1000000) ∨ (0 < h0 ∧ ∃ b, bi = nI b ∧ (b, m2) = lkF w h0)) (c : ¬ lkM w h0 (eN (wE w)) < m2) : (h0 + 1 = 0 ∧ bi = -1 ∧ min m2 (lkM w h0 (eN (wE w))) = 1000000) ∨ (0 < h0 + 1 ∧ ∃ b, bi = nI b ∧ (b, min m2 (lkM w h0 (eN (wE w)))) = lkF w (h0 + 1)) := by
  have := lkM_le w h0 (eN (wE w)) hb8
  rcases h with ⟨_, _, h2⟩ | ⟨_, b, h1, h2⟩
  · omega
  · exact Or.inr ⟨by omega, b, h1, by rw [Nat.min_eq_left (by omega)]; exact lkF_f h2 c⟩
theorem lk_m2 {w : wv} {h0 m2 : Nat} {bi : Int32} (h : (h0 = 0 ∧ bi = -1 ∧ m2 = 1000000) ∨ (0 < h0 ∧ ∃ b, bi = nI b ∧ (b, m2) = lkF w h0)) : m2 ≤ 1000000 := by
  rcases h with ⟨_, _, h2⟩ | ⟨_, b, h1, h2⟩
  · omega
  · have := (lkF_le w h0).1
    rw [← h2] at this
    dsimp only at this
    omega
set_option maxHeartbeats 4000000 in
theorem y_looks_l {l : xLa} {d : Nat} {σ : xs} {c : Nat} {w : wv} (ho : okQ w) : ∀ (m : Nat) (h0 m2 : Nat) (bi : Int32) (z5 z6 z7 : Option Int32) (τ : xs), 21 - h0 = m → h0 ≤ 21 → YQ c w σ τ → (∀ i, i < eN (wE w) → (wV w 0 5).testBit i = true → PLY w i τ) → ((h0 = 0 ∧ bi = -1 ∧ m2 = 1000000) ∨ (0 < h0 ∧ ∃ b, bi = nI b ∧ (b, m2) = lkF w h0)) → T l M_Y_looks (d + 150) 26 [some (.ref 154), some (.int (nI (ftN w (eN (wE w))))), some (.int bi), some (.int (nI m2)), some (.int (nI h0)), z5.map Value.int, z6.map Value.int, z7.map Value.int] [] τ (fun r τ => r = some (.int (nI (lkF w 21).1)) ∧ YW τ c (stD w (some [(nI (lkF w 21).2).toInt64])) ∧ YF σ τ) := by
  have hb0 := ho.fb
  have hb8 := ho.n8
  intro m
  induction m using Nat.strongRecOn with
  | ind m ih =>
    intro h0 m2 bi z5 z6 z7 τ hm hh h hp hK
    have hml := lkM_le w h0 (eN (wE w)) ho.n8
    have hm2 := lk_m2 hK
    refine tt_iload d_Y_looks_26 rfl ?_
    refine tt_bipush (v := nI 20) d_Y_looks_28 (by decide) ?_
    refine tn_ic_gt (t := 168) (by omega) (by omega) d_Y_looks_30 (by decide) (fun c_30 => ?_) (fun c_30 => ?_)
    · obtain rfl : h0 = 21 := by omega
      obtain ⟨b, rfl, hb⟩ : ∃ b, bi = nI b ∧ (b, m2) = lkF w 21 := by
        rcases hK with ⟨q, _⟩ | ⟨_, q⟩
        · omega
        · exact q
      rw [← hb]
      refine tt_aload_n d_Y_looks_168 rfl ?_
      refine tt_iconst (v := nI 0) d_Y_looks_169 (by decide) ?_
      refine tt_putI d_Y_looks_170 rfl rfl (by decide) rfl (xpok_int rfl) rfl ?_
      replace h := h.td0
      have hd := YD_0t h
      refine tt_aload_n d_Y_looks_173 rfl ?_
      refine tt_iload_n d_Y_looks_174 rfl ?_
      refine tt_i2l d_Y_looks_175 ?_
      refine tt_callV (yq_add (d := d) h hd (Nat.le_of_ble_eq_true rfl)) cw_Y_enters rfl rfl (by decide) rfl (by omega) d_Y_looks_176 rfl rfl (Nat.le_of_ble_eq_true rfl) (Nat.le_of_ble_eq_true rfl) rfl rfl rfl (fun v σ2 q => ?_)
      obtain ⟨rfl, h, hd, hf⟩ := q
      refine tt_iload_n d_Y_looks_179 rfl ?_
      refine tt_iret rfl d_Y_looks_180 ?_
      exact ⟨rfl, h.done hd, h.2⟩
    · refine tt_iconst (v := nI 0) d_Y_looks_33 (by decide) ?_
      refine tt_istore (lv2 := [_, _, _, _, _, _, _, _]) d_Y_looks_34 (by decide) rfl ?_
      refine tt_iconst (v := nI 0) d_Y_looks_36 (by decide) ?_
      refine tt_istore (lv2 := [_, _, _, _, _, _, _, _]) d_Y_looks_37 (by decide) rfl ?_
      refine y_lk1 (by omega) ho (eR (wE w) * eC (wE w)) 0 _ rfl (by omega) h hp (fun g hg => absurd hg (Nat.not_lt_zero g)) (fun τ h hp hO => ?_)
      refine y_lk2 (by omega) ho (eN (wE w)) 0 0 z7 _ rfl (by omega) h hp hO ⟨fun f => Nat.le_refl _, Or.inl rfl⟩ (fun τ z7 h hp => ?_)
      refine tt_iload d_Y_looks_142 rfl ?_
      refine tt_iload_n d_Y_looks_144 rfl ?_
      refine tn_ic_ge (t := 153) (by omega) (by omega) d_Y_looks_145 (by decide) (fun c_145 => ?_) (fun c_145 => ?_)
      · have hz := lk_step_f ho.n8 hK (by omega)
        refine tt_iload_n d_Y_looks_153 rfl ?_
        refine tt_istore_n (lv2 := [_, _, _, _, _, _, _, _]) d_Y_looks_154 (by decide) rfl ?_
        refine tt_iload_n d_Y_looks_155 rfl ?_
        refine tt_iload d_Y_looks_156 rfl ?_
        refine tn_min (by omega) (by omega) d_Y_looks_158 rfl (Nat.le_of_ble_eq_true rfl) ?_
        refine tt_istore_n (lv2 := [_, _, _, _, _, _, _, _]) d_Y_looks_161 (by decide) rfl ?_
        refine tt_iinc (lv2 := [_, _, _, _, _, _, _, _]) d_Y_looks_162 rfl (nI_inc _ 1) (by decide) rfl ?_
        refine tt_goto (t := 26) d_Y_looks_165 (by decide) ?_
        exact ih (21 - (h0 + 1)) (by omega) (h0 + 1) _ _ (some _) (some _) z7 _ rfl (by omega) h hp hz
      · have hz := lk_step_t ho.n8 hK (by omega)
        refine tt_iload d_Y_looks_148 rfl ?_
        refine tt_goto (t := 154) d_Y_looks_150 (by decide) ?_
        refine tt_istore_n (lv2 := [_, _, _, _, _, _, _, _]) d_Y_looks_154 (by decide) rfl ?_
        refine tt_iload_n d_Y_looks_155 rfl ?_
        refine tt_iload d_Y_looks_156 rfl ?_
        refine tn_min (by omega) (by omega) d_Y_looks_158 rfl (Nat.le_of_ble_eq_true rfl) ?_
        refine tt_istore_n (lv2 := [_, _, _, _, _, _, _, _]) d_Y_looks_161 (by decide) rfl ?_
        refine tt_iinc (lv2 := [_, _, _, _, _, _, _, _]) d_Y_looks_162 rfl (nI_inc _ 1) (by decide) rfl ?_
        refine tt_goto (t := 26) d_Y_looks_165 (by decide) ?_
        exact ih (21 - (h0 + 1)) (by omega) (h0 + 1) _ _ (some _) (some _) z7 _ rfl (by omega) h hp hz

set_option maxHeartbeats 4000000 in
theorem yc_looks {l : xLa} {d c : Nat} {σ : xs} {w : wv} (ho : okQ w) (hw : YW σ c w) (hg : okG (wS w)) : TC l M_Y_looks (d + 150) [.ref 154] σ (fun r τ => r = some (.int ((q_looks w).1)) ∧ YW τ c (stD w ((q_looks w).2)) ∧ YF σ τ) := by
  show T l M_Y_looks (d + 150) 0 _ [] σ _
  refine T_lv (lv2 := [_, _, _, _, _, _, _, _]) rfl ?_
  have h := YQ.rf hw.v
  have hd0 := hw.2.2.2.1
  have hb0 := ho.fb
  have hb8 := ho.n8
  have hfl := ftN_lt w ho.n8
  unfold q_looks
  refine tt_aload_n d_Y_looks_0 rfl ?_
  refine tt_iconst (v := nI 0) d_Y_looks_1 (by decide) ?_
  refine tt_putI d_Y_looks_2 rfl rfl (by decide) rfl (xpok_int rfl) rfl ?_
  replace h := h.thr (x := nI 0)
  replace hd0 := hd0.thr (x := nI 0)
  refine tt_aload_n d_Y_looks_5 rfl ?_
  refine tt_callV (yq_fitting (d := d) h hg ho) cw_Y_fitting rfl rfl (by decide) rfl (by omega) d_Y_looks_6 rfl rfl (Nat.le_of_ble_eq_true rfl) (Nat.le_of_ble_eq_true rfl) rfl rfl rfl (fun v σ2 q => ?_)
  obtain ⟨rfl, h, hu, hp⟩ := q
  replace hd0 := hd0.un hu
  refine tt_istore_n (lv2 := [_, _, _, _, _, _, _, _]) d_Y_looks_9 (by decide) rfl ?_
  refine tt_iload_n d_Y_looks_10 rfl ?_
  refine tn_if_ne (t := 17) (by omega) d_Y_looks_11 (by decide) (fun c_11 => ?_) (fun c_11 => ?_)
  · rw [if_neg c_11]
    refine tt_iconst (v := (-1)) d_Y_looks_17 (by decide) ?_
    refine tt_istore_n (lv2 := [_, _, _, _, _, _, _, _]) d_Y_looks_18 (by decide) rfl ?_
    refine tt_ldc_w d_Y_looks_19 rfl ?_
    refine tt_top (y := nI 1000000) rfl ?_
    refine tt_istore_n (lv2 := [_, _, _, _, _, _, _, _]) d_Y_looks_22 (by decide) rfl ?_
    refine tt_iconst (v := nI 0) d_Y_looks_23 (by decide) ?_
    refine tt_istore (lv2 := [_, _, _, _, _, _, _, _]) d_Y_looks_24 (by decide) rfl ?_
    exact y_looks_l ho 21 0 1000000 (-1) none none none _ rfl (by omega) h hp (Or.inl ⟨rfl, rfl, rfl⟩)
  · rw [if_pos c_11]
    refine tt_bipush (v := (-2)) d_Y_looks_14 (by decide) ?_
    refine tt_iret rfl d_Y_looks_16 ?_
    exact ⟨rfl, h.none hd0, h.2⟩

