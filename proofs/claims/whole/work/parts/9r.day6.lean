/-! day: the reference. Printed by wip/whole. -/
section
variable {x : Nat × (Nat → Nat)} {a k : Nat}
theorem dg_6 {q : Nat} : (dgN (cpX x 60) q = 0 ↔ 60 ≤ q ∨ dgN x q = 0) ∧ ∀ L, 1 ≤ L → (dgN (cpX x 60) q < L ↔ 60 ≤ q ∨ dgN x q < L) := by
  by_cases c : q < 60
  · obtain ⟨e1, e2, e3⟩ := cp_at (x := x) (m := 60) c
    rw [e2]
    exact ⟨by omega, fun L hL => by omega⟩
  · have h : dgN (cpX x 60) q = 0 := Decidable.byContradiction (fun z => by
      have := (dg_le.2.1 z).1
      have h2 : q < min x.1 60 := this
      omega)
    exact ⟨by omega, fun L hL => by omega⟩
theorem ak_6 (h : a < 60) : akN (cpX x 60) a = akN x a := by
  unfold akN
  rw [(cp_at (x := x) (m := 60) h).1]
theorem ra_le : raB x a ≤ 1 := by
  unfold raB
  repeat' split
  all_goals omega
theorem ra_z (h60 : a < 60) (hn : a < x.1) (h : raB (cpX x 60) a = 0) : dyF x (k + 1) a = raA (cpX x 60) a + 1 := by
  have hn' : ¬ x.1 ≤ a := by omega
  unfold raB at h
  unfold raA
  rw [ak_6 h60] at h ⊢
  by_cases c0 : akN x a = 0
  · rw [if_pos c0]; exact dy_2 hn' (Or.inr c0)
  · have hq : ¬ (60 ≤ a ∨ akN x a = 0) := by omega
    rw [if_neg c0] at h ⊢
    have hL : 1 ≤ (if akN x a = 4 then 2 else 1) := by split <;> omega
    by_cases c1 : dgN (cpX x 60) (a + 1) < (if akN x a = 4 then 2 else 1)
    · rw [if_pos c1]; exact dy_3 hn' hq ((dg_6.2 _ hL).mp c1)
    · have c1' := fun z => c1 ((dg_6.2 _ hL).mpr z)
      rw [if_neg c1] at h ⊢
      by_cases c5 : akN x a = 5
      · rw [if_neg (nnN c5)] at h ⊢
        by_cases c2 : dgN (cpX x 60) (a + 2) = 0
        · rw [if_pos c2]; exact dy_5 hn' hq c1' c5 (dg_6.1.mp c2)
        · have c2' := fun z => c2 (dg_6.1.mpr z)
          rw [if_neg c2] at h ⊢
          by_cases c3 : dgN (cpX x 60) (a + 3) = 0
          · rw [if_pos c3]; exact dy_6 hn' hq c1' c5 c2' (dg_6.1.mp c3)
          · have c3' := fun z => c3 (dg_6.1.mpr z)
            rw [if_neg c3] at h ⊢
            by_cases c4 : dgN (cpX x 60) (a + 4) = 0
            · rw [if_pos c4]; exact dy_7 hn' hq c1' c5 c2' c3' (dg_6.1.mp c4)
            · rw [if_neg c4] at h; omega
      · rw [if_pos c5] at h; omega
theorem ra_1 (h60 : a < 60) (hn : a < x.1) (h : raB (cpX x 60) a = 1) : dyF x (k + 1) a = dyF x k (a + alN (akN x a)) ∧ raA (cpX x 60) a = a + alN (akN x a) ∧ acG x a := by
  have hn' : ¬ x.1 ≤ a := by omega
  unfold raB at h
  unfold raA
  rw [ak_6 h60] at h ⊢
  by_cases c0 : akN x a = 0
  · rw [if_pos c0] at h; omega
  · have hq : ¬ (60 ≤ a ∨ akN x a = 0) := by omega
    rw [if_neg c0] at h ⊢
    have hL : 1 ≤ (if akN x a = 4 then 2 else 1) := by split <;> omega
    by_cases c1 : dgN (cpX x 60) (a + 1) < (if akN x a = 4 then 2 else 1)
    · rw [if_pos c1] at h; omega
    · have c1' := fun z => c1 ((dg_6.2 _ hL).mpr z)
      have g1 : (if akN x a = 4 then 2 else 1) ≤ dgN x (a + 1) := Decidable.byContradiction (fun z => c1' (Or.inr (by omega)))
      rw [if_neg c1] at h ⊢
      by_cases c5 : akN x a = 5
      · rw [if_neg (nnN c5)] at h ⊢
        by_cases c2 : dgN (cpX x 60) (a + 2) = 0
        · rw [if_pos c2] at h; omega
        · have c2' : ¬ (60 ≤ a + 2 ∨ dgN x (a + 2) = 0) := fun z => c2 (dg_6.1.mpr z)
          rw [if_neg c2] at h ⊢
          by_cases c3 : dgN (cpX x 60) (a + 3) = 0
          · rw [if_pos c3] at h; omega
          · have c3' : ¬ (60 ≤ a + 3 ∨ dgN x (a + 3) = 0) := fun z => c3 (dg_6.1.mpr z)
            rw [if_neg c3] at h ⊢
            by_cases c4 : dgN (cpX x 60) (a + 4) = 0
            · rw [if_pos c4] at h; omega
            · have c4' : ¬ (60 ≤ a + 4 ∨ dgN x (a + 4) = 0) := fun z => c4 (dg_6.1.mpr z)
              rw [if_neg c4, dy_8 hn' hq c1' c5 c2' c3' c4', show alN (akN x a) = 5 from if_pos c5]
              exact ⟨rfl, rfl, c0, g1, fun _ => ⟨by omega, by omega, by omega⟩⟩
      · rw [if_pos c5, dy_4 hn' hq c1' c5, show alN (akN x a) = 2 from if_neg c5]
        exact ⟨rfl, rfl, c0, g1, fun z => absurd z c5⟩
theorem AJ.cp {τ : xs} {j : Nat} (h : AJ τ (cpX x 60) j a) (h60 : a + alN (akN x a) ≤ 60) : AJ τ x j a := by
  have hl : 2 ≤ alN (akN x a) := by unfold alN; split <;> omega
  obtain ⟨h1, h2, h3⟩ := h
  rw [ak_6 (by omega)] at h1 h3
  rw [(cp_at (x := x) (m := 60) (show a + 1 < 60 by omega)).2.1] at h2
  refine ⟨h1, h2, fun q => ?_⟩
  have h5 : alN (akN x a) = 5 := if_pos q
  have := h3 q
  rw [(cp_at (x := x) (m := 60) (show a + 2 < 60 by omega)).2.1, (cp_at (x := x) (m := 60) (show a + 3 < 60 by omega)).2.1, (cp_at (x := x) (m := 60) (show a + 4 < 60 by omega)).2.1] at this
  exact this
theorem df_a {to N q : Nat} (h : q ≤ to) (ht : to = min N 60) : foI N 60 0 to q = ftI (q + 1) := by
  unfold foI ftI
  rw [if_neg (c := q + 1 = 0) (by omega), Nat.add_sub_cancel]
  by_cases c : 60 < N ∧ ((0 = 1 ∧ q = to) ∨ 60 ≤ q)
  · rw [if_pos c, show q = 60 by omega]
  · rw [if_neg c, if_neg (by omega)]
theorem df_b (ht : a = min x.1 60) (hk : x.1 + 1 ≤ a + (k + 1)) : foI x.1 60 1 (min x.1 60) a = ftI (dyF x (k + 1) a) := by
  unfold foI ftI
  by_cases c : 60 < x.1
  · rw [if_pos (by omega), dy_2 (by omega) (Or.inl (by omega)), if_neg (by omega), show a + 1 - 1 = 60 by omega]
  · rw [if_neg (by omega), if_pos (by omega), dy_1 (by omega), if_pos rfl]
end
theorem K17.fq {A : Nat → Prop} {F : Nat → Nat → Prop} {J : Nat → Prop} {σ τ : xs} (h : Fq A F J σ τ) (ha : ∀ c, 172 ≤ c → c ≤ 176 → ¬ A c) (hf : ¬ F 154 40) : K17 σ τ := ⟨fun c h1 h2 => h.1 c (ha c h1 h2), h.2.1 154 40 hf⟩
set_option maxHeartbeats 4000000 in
theorem y_day_e {l : xLa} {d c : Nat} {σ τ : xs} {w : wv} {n : Nat} {v : sv} {z1 z2 z3 : Int32} (ho : okQ w) (hA : dyA (wX w) = 0) (hl : (wU w).length ≤ 15) (hJ : dyJ (wX w) ≤ 40) (hn : n = (dyV w (dyJ (wX w))).2) (hv : v = (dyV w (dyJ (wX w))).1) (hn40 : n ≤ 40) (hw : YW τ c (stV (txC w) v)) (hF : YF σ τ) (hu : rO1 τ (38 * (wU w).length) (eN (wE w)) (wV w)) (h40 : sf τ 154 40 = nI (dyJ (wX w))) : T l M_Y_day (d + 150) 88 [some (.ref 154), some (.int z1), some (.int z2), some (.int z3), some (.int (nI n))] [] τ (fun r τ => r = some (.int (a_day w).1) ∧ YW τ c (a_day w).2 ∧ YF σ τ) := by
  have hb8 := ho.n8
  have h := YQ.rf hw.v
  have hP := hu
  unfold a_day
  rw [if_pos hA, ← hn, ← hv]
  refine tt_aload_n d_Y_day_88 rfl ?_
  refine tt_iconst (v := nI 0) d_Y_day_89 (by decide) ?_
  refine tt_putI d_Y_day_90 rfl rfl (by decide) rfl (xpok_int rfl) rfl ?_
  replace h := h.td0
  have hd := YD_0t h
  refine tt_aload_n d_Y_day_93 rfl ?_
  refine tt_iload d_Y_day_94 rfl ?_
  refine tt_aload_n d_Y_day_96 rfl ?_
  refine tn_get d_Y_day_97 rfl rfl (by decide) rfl h40 ?_
  refine tn_ic_ge (t := 107) (by omega) (by omega) d_Y_day_100 (by decide) (fun c_100 => ?_) (fun c_100 => ?_)
  · have hz : (if n < dyJ (wX w) then (1 : Int64) else 0) = (nI 0).toInt64 := by rw [if_neg (by omega)]; rfl
    rw [hz]
    refine tt_iconst (v := nI 0) d_Y_day_107 (by decide) ?_
    refine tt_callS (y_flag (d := d)) cw_Y_flag rfl (by omega) d_Y_day_108 rfl rfl (Nat.le_of_ble_eq_true rfl) (Nat.le_of_ble_eq_true rfl) rfl rfl rfl (fun v σ2 q => ?_)
    obtain ⟨rfl, e9⟩ := q
    rw [e9]
    clear e9
    first | rw [show flI (nI 1) = nI 1 from rfl] | rw [show flI (nI 0) = nI 0 from rfl]
    refine tt_i2l d_Y_day_111 ?_
    refine tt_callV (yq_add (d := d) h hd (Nat.le_of_ble_eq_true rfl)) cw_Y_enters rfl rfl (by decide) rfl (by omega) d_Y_day_112 rfl rfl (Nat.le_of_ble_eq_true rfl) (Nat.le_of_ble_eq_true rfl) rfl rfl rfl (fun v σ2 q => ?_)
    obtain ⟨rfl, h, hd, hf⟩ := q
    replace hP := hf.ro hP
    refine tt_aload_n d_Y_day_115 rfl ?_
    refine tt_aload_n d_Y_day_116 rfl ?_
    refine tt_getR d_Y_day_117 rfl rfl (by decide) rfl rfl ?_
    refine tt_iconst (v := nI 0) d_Y_day_120 (by decide) ?_
    refine tn_iald d_Y_day_121 rfl (by decide) (by omega) (h.1.2.1.1.1) ?_
    refine tt_i2l d_Y_day_122 ?_
    refine tt_callV (yq_add (d := d) h hd (Nat.le_of_ble_eq_true rfl)) cw_Y_enters rfl rfl (by decide) rfl (by omega) d_Y_day_123 rfl rfl (Nat.le_of_ble_eq_true rfl) (Nat.le_of_ble_eq_true rfl) rfl rfl rfl (fun v σ2 q => ?_)
    obtain ⟨rfl, h, hd, hf⟩ := q
    replace hP := hf.ro hP
    refine tt_iload d_Y_day_126 rfl ?_
    refine tn_if_le (t := 140) (by omega) d_Y_day_128 (by decide) (fun c_128 => ?_) (fun c_128 => ?_)
    · have hdw : dyW w v n = stV (txC w) v := if_pos (by omega)
      rw [hdw, show n = 0 by omega]
      refine tt_iconst (v := nI 0) d_Y_day_140 (by decide) ?_
      refine tt_iret rfl d_Y_day_141 ?_
      exact ⟨rfl, h.done hd, hF.tr h.2⟩
    · have hdw : dyW w v n = stU (stV (txC w) v) (wV w) := if_neg (by omega)
      rw [hdw]
      refine tt_aload_n d_Y_day_131 rfl ?_
      refine tt_iload d_Y_day_132 rfl ?_
      refine tt_callV (y_adds (d := d) (w := stD (stV (txC w) v) (some _)) hb8 hl (h.done hd) hP) cw_Y_adds rfl rfl (by decide) rfl (by omega) d_Y_day_134 rfl rfl (Nat.le_of_ble_eq_true rfl) (Nat.le_of_ble_eq_true rfl) rfl rfl rfl (fun v σ2 q => ?_)
      obtain ⟨rfl, k7, k8⟩ := q
      refine tt_goto (t := 141) d_Y_day_137 (by decide) ?_
      refine tt_iret rfl d_Y_day_141 ?_
      exact ⟨rfl, k7, hF.tr (h.2.tr k8)⟩
  · have hz : (if n < dyJ (wX w) then (1 : Int64) else 0) = (nI 1).toInt64 := by rw [if_pos (by omega)]; rfl
    rw [hz]
    refine tt_iconst (v := nI 1) d_Y_day_103 (by decide) ?_
    refine tt_goto (t := 108) d_Y_day_104 (by decide) ?_
    refine tt_callS (y_flag (d := d)) cw_Y_flag rfl (by omega) d_Y_day_108 rfl rfl (Nat.le_of_ble_eq_true rfl) (Nat.le_of_ble_eq_true rfl) rfl rfl rfl (fun v σ2 q => ?_)
    obtain ⟨rfl, e9⟩ := q
    rw [e9]
    clear e9
    first | rw [show flI (nI 1) = nI 1 from rfl] | rw [show flI (nI 0) = nI 0 from rfl]
    refine tt_i2l d_Y_day_111 ?_
    refine tt_callV (yq_add (d := d) h hd (Nat.le_of_ble_eq_true rfl)) cw_Y_enters rfl rfl (by decide) rfl (by omega) d_Y_day_112 rfl rfl (Nat.le_of_ble_eq_true rfl) (Nat.le_of_ble_eq_true rfl) rfl rfl rfl (fun v σ2 q => ?_)
    obtain ⟨rfl, h, hd, hf⟩ := q
    replace hP := hf.ro hP
    refine tt_aload_n d_Y_day_115 rfl ?_
    refine tt_aload_n d_Y_day_116 rfl ?_
    refine tt_getR d_Y_day_117 rfl rfl (by decide) rfl rfl ?_
    refine tt_iconst (v := nI 0) d_Y_day_120 (by decide) ?_
    refine tn_iald d_Y_day_121 rfl (by decide) (by omega) (h.1.2.1.1.1) ?_
    refine tt_i2l d_Y_day_122 ?_
    refine tt_callV (yq_add (d := d) h hd (Nat.le_of_ble_eq_true rfl)) cw_Y_enters rfl rfl (by decide) rfl (by omega) d_Y_day_123 rfl rfl (Nat.le_of_ble_eq_true rfl) (Nat.le_of_ble_eq_true rfl) rfl rfl rfl (fun v σ2 q => ?_)
    obtain ⟨rfl, h, hd, hf⟩ := q
    replace hP := hf.ro hP
    refine tt_iload d_Y_day_126 rfl ?_
    refine tn_if_le (t := 140) (by omega) d_Y_day_128 (by decide) (fun c_128 => ?_) (fun c_128 => ?_)
    · have hdw : dyW w v n = stV (txC w) v := if_pos (by omega)
      rw [hdw, show n = 0 by omega]
      refine tt_iconst (v := nI 0) d_Y_day_140 (by decide) ?_
      refine tt_iret rfl d_Y_day_141 ?_
      exact ⟨rfl, h.done hd, hF.tr h.2⟩
    · have hdw : dyW w v n = stU (stV (txC w) v) (wV w) := if_neg (by omega)
      rw [hdw]
      refine tt_aload_n d_Y_day_131 rfl ?_
      refine tt_iload d_Y_day_132 rfl ?_
      refine tt_callV (y_adds (d := d) (w := stD (stV (txC w) v) (some _)) hb8 hl (h.done hd) hP) cw_Y_adds rfl rfl (by decide) rfl (by omega) d_Y_day_134 rfl rfl (Nat.le_of_ble_eq_true rfl) (Nat.le_of_ble_eq_true rfl) rfl rfl rfl (fun v σ2 q => ?_)
      obtain ⟨rfl, k7, k8⟩ := q
      refine tt_goto (t := 141) d_Y_day_137 (by decide) ?_
      refine tt_iret rfl d_Y_day_141 ?_
      exact ⟨rfl, k7, hF.tr (h.2.tr k8)⟩

set_option maxHeartbeats 4000000 in
theorem y_day2 {l : xLa} {d : Nat} {σ : xs} {c : Nat} {w : wv} {z1 z2 z3 : Int32} (ho : okQ w) (hh : wV w 0 4 + 1000 < 2 ^ 29) (hX : okX (wX w)) (hA : dyA (wX w) = 0) (hl : (wU w).length ≤ 15) (b2 : ∀ j, j < dyJ (wX w) → pqN (wX w) 0 j < (wX w).1 ∧ acG (wX w) (pqN (wX w) 0 j)) (b4 : dyJ (wX w) ≤ 40) : ∀ (m : Nat) (j : Nat) (τ : xs), dyJ (wX w) - j = m → j ≤ dyJ (wX w) → (dyV w j).2 = j → YW τ c (stV (txC w) (dyV w j).1) → YF σ τ → (rO1 τ (38 * (wU w).length) (eN (wE w)) (wV w)) → sf τ 154 40 = nI (dyJ (wX w)) → (∀ i, i < dyJ (wX w) → AJ τ (wX w) i (pqN (wX w) 0 i)) → T l M_Y_day (d + 150) 64 [some (.ref 154), some (.int z1), some (.int z2), some (.int z3), some (.int (nI j))] [] τ (fun r τ => r = some (.int (a_day w).1) ∧ YW τ c (a_day w).2 ∧ YF σ τ) := by
  have hb0 := ho.fb
  have hb8 := ho.n8
  intro m
  induction m using Nat.strongRecOn with
  | ind m ih =>
    intro j τ hm hj hdn hw hF hu h40 haj
    obtain ⟨k1, k2, k3⟩ := ok_dyV ho hh hX hA j hj
    have hok : okQ (stV (txC w) (dyV w j).1) := k1
    refine tt_iload d_Y_day_64 rfl ?_
    refine tt_aload_n d_Y_day_66 rfl ?_
    refine tn_get d_Y_day_67 rfl rfl (by decide) rfl h40 ?_
    refine tn_ic_ge (t := 88) (by omega) (by omega) d_Y_day_70 (by decide) (fun c_70 => ?_) (fun c_70 => ?_)
    · obtain rfl : j = dyJ (wX w) := by omega
      exact y_day_e ho hA hl b4 hdn.symm rfl (by omega) hw hF hu h40
    · obtain ⟨g1, g2⟩ := b2 j (by omega)
      have hyy := dyV_y hdn
      have hy2 := congrArg Prod.snd hyy
      have hy1 := congrArg Prod.fst hyy
      dsimp only at hy1 hy2
      refine tt_aload_n d_Y_day_73 rfl ?_
      refine tt_iload d_Y_day_74 rfl ?_
      refine tt_callV (y_does (d := d) (x := wX w) (q := pqN (wX w) 0 j) hok (by show (dyV w j).1 0 4 + 100 < _; omega) hw (by omega) g2 (haj j (by omega))) cw_Y_does rfl rfl (by decide) rfl (by omega) d_Y_day_76 rfl rfl (Nat.le_of_ble_eq_true rfl) (Nat.le_of_ble_eq_true rfl) rfl rfl rfl (fun v σ2 q => ?_)
      obtain ⟨rfl, hw2, hF2, k71, k17⟩ := q
      replace hF := hF.tr hF2
      replace hw2 : YW σ2 c (stV (txC w) (acC (stV w (dyV w j).1) (wX w) (pqN (wX w) 0 j)).2) := hw2
      rw [← hy1] at hw2
      replace hu : rO1 σ2 (38 * (wU w).length) (eN (wE w)) (wV w) := by unfold rO1; rw [k71]; exact hu
      replace h40 := k17.2.trans h40
      replace haj : ∀ i, i < dyJ (wX w) → AJ σ2 (wX w) i (pqN (wX w) 0 i) := fun i q => (haj i q).k k17
      rw [show acC (stV (txC w) (dyV w j).1) (wX w) (pqN (wX w) 0 j) = acC (stV w (dyV w j).1) (wX w) (pqN (wX w) 0 j) from rfl]
      have hbl : acB (acC (stV w (dyV w j).1) (wX w) (pqN (wX w) 0 j)).1 ≤ 1 := by unfold acB; split <;> omega
      refine tn_if_eq (t := 88) (by omega) d_Y_day_79 (by decide) (fun c_79 => ?_) (fun c_79 => ?_)
      · have hnr : (acC (stV w (dyV w j).1) (wX w) (pqN (wX w) 0 j)).1 < 0 := Decidable.byContradiction (fun z => by unfold acB at c_79; rw [if_neg z] at c_79; omega)
        rw [if_pos hnr] at hy2
        have hst := dyV_st (w := w) (j := j + 1) (by omega) (dyJ (wX w) - (j + 1))
        rw [show j + 1 + (dyJ (wX w) - (j + 1)) = dyJ (wX w) by omega] at hst
        exact y_day_e ho hA hl b4 (by rw [hst, hy2]) (by rw [hst]) (by omega) hw2 hF hu h40
      · have hnr : ¬ (acC (stV w (dyV w j).1) (wX w) (pqN (wX w) 0 j)).1 < 0 := fun z => by unfold acB at c_79; rw [if_pos z] at c_79; exact c_79 rfl
        rw [if_neg hnr] at hy2
        refine tt_iinc (lv2 := [_, _, _, _, _]) d_Y_day_82 rfl (nI_inc _ 1) (by decide) rfl ?_
        refine tt_goto (t := 64) d_Y_day_85 (by decide) ?_
        exact ih (dyJ (wX w) - (j + 1)) (by omega) (j + 1) _ rfl (by omega) hy2 hw2 hF hu h40 haj

theorem AJ.h17 {τ υ : xs} {x : Nat × (Nat → Nat)} {j i q : Nat} (h : AJ τ x i q) (hs : H17 τ υ j) (hi : i < j) : AJ υ x i q := by
  unfold AJ
  rw [hs 172 i (by omega) (by omega) hi, hs 173 i (by omega) (by omega) hi, hs 174 i (by omega) (by omega) hi, hs 175 i (by omega) (by omega) hi, hs 176 i (by omega) (by omega) hi]
  exact h
set_option maxHeartbeats 4000000 in
theorem y_day1 {l : xLa} {d : Nat} {σ : xs} {c : Nat} {w : wv} (ho : okQ w) (hh : wV w 0 4 + 1000 < 2 ^ 29) (hX : okX (wX w)) (hl : (wU w).length ≤ 15) : ∀ (m : Nat) (j k : Nat) (τ : xs), k = m → dyA (wX w) = dyF (wX w) k (pqN (wX w) 0 j) → (wX w).1 + 1 ≤ pqN (wX w) 0 j + k → (∀ i, i < j → pqN (wX w) 0 i < (wX w).1) → YQ c (txC w) σ τ → YD τ (wD w) → RT τ (cpX (wX w) 60).2 (cpX (wX w) 60).1 (pqN (wX w) 0 j) → sf τ 154 40 = nI j → (∀ i, i < j → AJ τ (wX w) i (pqN (wX w) 0 i)) → T l M_Y_day (d + 150) 23 [some (.ref 154), some (.int (nI (wX w).1)), some (.int (nI 1)), none, none] [] τ (fun r τ => r = some (.int (a_day w).1) ∧ YW τ c (a_day w).2 ∧ YF σ τ) := by
  have hb0 := ho.fb
  have hb8 := ho.n8
  intro m
  induction m using Nat.strongRecOn with
  | ind m ih =>
    intro j k τ hm hfi hk hlt h hd hR hmn haj
    have hx1 := hX.1
    have hfl : dyA (wX w) < 1000 := by have := dy_le (x := wX w) 81 0; unfold dyA; omega
    have hrl := ra_le (x := cpX (wX w) 60) (a := pqN (wX w) 0 j)
    have hpg := pq_ge (x := wX w) (q := 0) j
    have hto : (cpX (wX w) 60).1 = min (wX w).1 60 := rfl
    have hr2 := hR.2.2.2.2
    obtain ⟨k0, rfl⟩ : ∃ k0, k = k0 + 1 := ⟨k - 1, by omega⟩
    refine tt_aload_n d_Y_day_23 rfl ?_
    refine tn_get d_Y_day_24 rfl rfl (by decide) rfl hR.2.1 ?_
    refine tt_aload_n d_Y_day_27 rfl ?_
    refine tn_get d_Y_day_28 rfl rfl (by decide) rfl hR.1 ?_
    refine tn_ic_ge (t := 42) (by omega) (by omega) d_Y_day_31 (by decide) (fun c_31 => ?_) (fun c_31 => ?_)
    · have hRf := hR
      have hb1 : 1 ≤ 1 := Nat.le_refl 1
      have hae : pqN (wX w) 0 j = min (wX w).1 60 := by omega
      have hFA : foI (wX w).1 60 1 (cpX (wX w) 60).1 (pqN (wX w) 0 j) = ftI (dyA (wX w)) := by rw [hfi]; exact df_b hae hk
      refine tt_aload_n d_Y_day_42 rfl ?_
      refine tt_iload_n d_Y_day_43 rfl ?_
      refine tt_bipush (v := nI 60) d_Y_day_44 (by decide) ?_
      refine tt_iload_n d_Y_day_46 rfl ?_
      refine tt_callV (y_faultOf (d := d) (m := 60) hRf (by omega) (by decide) hb1) cw_Y_faultOf rfl rfl (by decide) rfl (by omega) d_Y_day_47 rfl rfl (Nat.le_of_ble_eq_true rfl) (Nat.le_of_ble_eq_true rfl) rfl rfl rfl (fun v σ2 q => ?_)
      obtain ⟨rfl, e9⟩ := q
      rw [e9, hFA]
      clear e9
      refine tt_istore_n (lv2 := [_, _, _, _, _]) d_Y_day_50 (by decide) rfl ?_
      refine tt_iload_n d_Y_day_51 rfl ?_
      refine tt_if_ge (t := 57) d_Y_day_52 (by decide) (fun c_52 => ?_) (fun c_52 => ?_)
      · have hA : dyA (wX w) = 0 := (ft_c hfl).mp c_52
        obtain ⟨b1, b2, b3, b4⟩ := dyJ_c hX hA
        have hn60 : pqN (wX w) 0 j = (wX w).1 := by
          by_cases z : (wX w).1 ≤ 60
          · omega
          · rw [hfi, dy_2 (by omega) (Or.inl (by omega))] at hA; omega
        have hJj : dyJ (wX w) = j := by
          unfold dyJ
          rw [fst_is 61 0 j (Nat.zero_le _) (by omega) (decide_eq_true hn60) (fun i _ hi q => by have := hlt i hi; have := of_decide_eq_true q; omega)]
          rfl
        refine tt_aload_n d_Y_day_57 rfl ?_
        refine tt_callV (y_putsBy2 (d := d) (w := txC w) hb8 hl (h.ww hd)) cw_Y_putsBy rfl rfl (by decide) rfl (by omega) d_Y_day_58 rfl rfl (Nat.le_of_ble_eq_true rfl) (Nat.le_of_ble_eq_true rfl) rfl rfl rfl (fun v σ2 q => ?_)
        obtain ⟨rfl, hw1, hF1, hu, hf1⟩ := q
        have k17 : K17 _ σ2 := K17.fq hf1 (fun c h1 h2 => by omega) id
        replace hmn := k17.2.trans hmn
        replace haj : ∀ i, i < j → AJ σ2 (wX w) i (pqN (wX w) 0 i) := fun i q => (haj i q).k k17
        rw [← hJj] at hmn haj
        refine tt_iconst (v := nI 0) d_Y_day_61 (by decide) ?_
        refine tt_istore (lv2 := [_, _, _, _, _]) d_Y_day_62 (by decide) rfl ?_
        exact y_day2 ho hh hX hA hl b2 b4 (dyJ (wX w)) 0 _ rfl (Nat.zero_le _) rfl hw1 (h.2.tr hF1) hu hmn haj
      · refine tt_iload_n d_Y_day_55 rfl ?_
        refine tt_iret rfl d_Y_day_56 ?_
        have hA : ¬ dyA (wX w) = 0 := fun q => c_52 ((ft_c hfl).mpr q)
        unfold a_day
        rw [if_neg hA]
        refine ⟨?_, h.ww hd, h.2⟩
        unfold ftI
        rw [if_neg hA]
    · have ha60 : pqN (wX w) 0 j < 60 := by omega
      have han : pqN (wX w) 0 j < (wX w).1 := by omega
      refine tt_aload_n d_Y_day_34 rfl ?_
      refine tt_callV (y_readsAct (d := d) (j := j) (a := pqN (wX w) 0 j) ho hX h hd hR hmn (by omega)) cw_Y_readsAct rfl rfl (by decide) rfl (by omega) d_Y_day_35 rfl rfl (Nat.le_of_ble_eq_true rfl) (Nat.le_of_ble_eq_true rfl) rfl rfl rfl (fun v σ2 q => ?_)
      obtain ⟨rfl, h, hd, hR3, hs17, hr1⟩ := q
      replace haj : ∀ i, i < j → AJ σ2 (wX w) i (pqN (wX w) 0 i) := fun i q => AJ.h17 (haj i q) hs17 q
      refine tt_istore_n (lv2 := [_, _, _, _, _]) d_Y_day_38 (by decide) rfl ?_
      refine tt_goto (t := 19) d_Y_day_39 (by decide) ?_
      refine tt_iload_n d_Y_day_19 rfl ?_
      refine tn_if_eq (t := 42) (by omega) d_Y_day_20 (by decide) (fun c_20 => ?_) (fun c_20 => ?_)
      · have hb1 := hrl
        have hRf := hR3
        have hFA : foI (wX w).1 60 (raB (cpX (wX w) 60) (pqN (wX w) 0 j)) (cpX (wX w) 60).1 (raA (cpX (wX w) 60) (pqN (wX w) 0 j)) = ftI (dyA (wX w)) := by rw [c_20, hfi, ra_z ha60 han c_20]; exact df_a hR3.2.2.2.2 rfl
        refine tt_aload_n d_Y_day_42 rfl ?_
        refine tt_iload_n d_Y_day_43 rfl ?_
        refine tt_bipush (v := nI 60) d_Y_day_44 (by decide) ?_
        refine tt_iload_n d_Y_day_46 rfl ?_
        refine tt_callV (y_faultOf (d := d) (m := 60) hRf (by omega) (by decide) hb1) cw_Y_faultOf rfl rfl (by decide) rfl (by omega) d_Y_day_47 rfl rfl (Nat.le_of_ble_eq_true rfl) (Nat.le_of_ble_eq_true rfl) rfl rfl rfl (fun v σ2 q => ?_)
        obtain ⟨rfl, e9⟩ := q
        rw [e9, hFA]
        clear e9
        refine tt_istore_n (lv2 := [_, _, _, _, _]) d_Y_day_50 (by decide) rfl ?_
        refine tt_iload_n d_Y_day_51 rfl ?_
        refine tt_if_ge (t := 57) d_Y_day_52 (by decide) (fun c_52 => ?_) (fun c_52 => ?_)
        · exact absurd ((ft_c hfl).mp c_52) (by rw [hfi, ra_z ha60 han c_20]; omega)
        · refine tt_iload_n d_Y_day_55 rfl ?_
          refine tt_iret rfl d_Y_day_56 ?_
          have hA : ¬ dyA (wX w) = 0 := fun q => c_52 ((ft_c hfl).mpr q)
          unfold a_day
          rw [if_neg hA]
          refine ⟨?_, h.ww hd, h.2⟩
          unfold ftI
          rw [if_neg hA]
      · have hr0 : raB (cpX (wX w) 60) (pqN (wX w) 0 j) = 1 := by omega
        obtain ⟨g1, g2, g3⟩ := ra_1 (k := k0) ha60 han hr0
        obtain ⟨r1, r2⟩ := hr1 hr0
        rw [g2] at hR3
        have hq60 : pqN (wX w) 0 j + alN (akN (wX w) (pqN (wX w) 0 j)) ≤ 60 := by have := hR3.2.2.2.2; omega
        replace r2 := r2.cp hq60
        rw [hr0]
        refine ih k0 (by omega) (j + 1) k0 _ rfl (hfi.trans g1) (by show _ ≤ pqN (wX w) 0 j + alN (akN (wX w) (pqN (wX w) 0 j)) + k0; have : 2 ≤ alN (akN (wX w) (pqN (wX w) 0 j)) := (by unfold alN; split <;> omega); omega) (fun i q => ?_) h hd hR3 r1 (fun i q => ?_)
        · by_cases ci : i = j
          · rw [ci]; exact han
          · exact hlt i (by omega)
        · by_cases ci : i = j
          · rw [ci]; exact r2
          · exact haj i (by omega)

set_option maxHeartbeats 4000000 in
theorem yc_day {l : xLa} {d c : Nat} {σ : xs} {w : wv} (ho : okQ w) (hw : YW σ c w)  (hh : wV w 0 4 + 1000 < 2 ^ 29) (hX : okX (wX w)) (hl : (wU w).length ≤ 15) : TC l M_Y_day (d + 150) [.ref 154] σ (fun r τ => r = some (.int (a_day w).1) ∧ YW τ c (a_day w).2 ∧ YF σ τ) := by
  show T l M_Y_day (d + 150) 0 _ [] σ _
  refine T_lv (lv2 := [_, _, _, _, _]) rfl ?_
  have h := YQ.rf hw.v
  have hd0 := hw.2.2.2.1
  have hb0 := ho.fb
  have hb8 := ho.n8
  have hx1 := hX.1
  refine tt_aload_n d_Y_day_0 rfl ?_
  refine tt_iconst (v := nI 0) d_Y_day_1 (by decide) ?_
  refine tt_putI d_Y_day_2 rfl rfl (by decide) rfl (xpok_int rfl) rfl ?_
  replace h := h.thr (x := nI 0)
  replace hd0 := hd0.thr (x := nI 0)
  refine tt_aload_n d_Y_day_5 rfl ?_
  refine tt_bipush (v := nI 60) d_Y_day_6 (by decide) ?_
  refine tt_callV (y_begins (d := d) h hd0 hX (by decide)) cw_Y_begins rfl rfl (by decide) rfl (by omega) d_Y_day_8 rfl rfl (Nat.le_of_ble_eq_true rfl) (Nat.le_of_ble_eq_true rfl) rfl rfl rfl (fun v σ2 q => ?_)
  obtain ⟨rfl, h, hd, hR, hn18⟩ := q
  refine tt_istore_n (lv2 := [_, _, _, _, _]) d_Y_day_11 (by decide) rfl ?_
  refine tt_aload_n d_Y_day_12 rfl ?_
  refine tt_iconst (v := nI 0) d_Y_day_13 (by decide) ?_
  refine tt_putI d_Y_day_14 rfl rfl (by decide) rfl (xpok_int rfl) rfl ?_
  replace h := yq_40 (x := nI 0) h
  replace hR := RT_40 (x := nI 0) hR
  replace hd := hd40 (x := nI 0) hd
  have h40 := sf_at h
  refine tt_iconst (v := nI 1) d_Y_day_17 (by decide) ?_
  refine tt_istore_n (lv2 := [_, _, _, _, _]) d_Y_day_18 (by decide) rfl ?_
  refine tt_iload_n d_Y_day_19 rfl ?_
  refine tn_if_eq (t := 42) (by omega) d_Y_day_20 (by decide) (fun c_20 => ?_) (fun c_20 => ?_)
  · omega
  · exact y_day1 ho hh hX hl 81 0 81 _ rfl rfl (by show (wX w).1 + 1 ≤ 0 + 81; omega) (fun i q => absurd q (Nat.not_lt_zero i)) h hd hR h40 (fun i q => absurd q (Nat.not_lt_zero i))

