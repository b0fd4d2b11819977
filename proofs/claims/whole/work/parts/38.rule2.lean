/-! Rule.reckon, Rule.pullBy. Printed by wip/whole. -/
theorem wA_id {σ : xs} {a : Nat} : wA σ a (si σ a) = σ := by
  have e : (fun b => if b = a then si σ a else si σ b) = si σ := by
    funext b
    by_cases h : b = a
    · rw [if_pos h, h]
    · rw [if_neg h]
  show (σ.1, (fun b => if b = a then si σ a else si σ b), σ.2.2) = σ
  rw [e]
  rfl
/-- a rule's code: n codes c that may stand there, that leave something -/
def isC (σ : xs) (u n : Nat) (c : Nat → Nat) : Prop := sf σ u 1 = nI n ∧ n ≤ 40 ∧ (∀ i, i < n → si σ (u + 1) i = nI (c i) ∧ okc (c i)) ∧ ∀ key, 0 < (gL key c n).length
theorem x_reckon {l : xLa} {d : Nat} {σ : xs} {u n : Nat} {key : Int32} {c : Nat → Nat} (hu : isR u) (hc : isC σ u n c) : TC l M_Rule_reckon (d + 2) [.ref u, .int key] σ (fun r σ' => r = some (.int ((gL key c n).getD 0 0)) ∧ ∃ f, σ' = wA σ (u + 2) f) := by
  obtain ⟨hn, hn40, hcd, hne⟩ := hc
  show T l M_Rule_reckon (d + 2) 0 _ [] σ _
  refine tt_iconst (v := nI 0) d_Rule_reckon_0 (by decide) ?_
  refine tt_istore_n d_Rule_reckon_1 (by decide) rfl ?_
  refine tt_iconst (v := nI 0) d_Rule_reckon_2 (by decide) ?_
  refine tt_istore_n d_Rule_reckon_3 (by decide) rfl ?_
  have q := x_reckon_l (l := l) (d := d) (σ := σ) (key := key) hu hn hn40 hcd (hne key) n 0 (si σ (u + 2)) none none (by omega) (by omega) (fun j hj => absurd hj (Nat.not_lt_zero j))
  rw [wA_id] at q
  exact q

/-- only arrays of a kind are changed -/
def Sc (P : Nat → Prop) (σ τ : xs) : Prop := sf τ = sf σ ∧ sj τ = sj σ ∧ sp τ = sp σ ∧ so τ = so σ ∧ ∀ a, ¬ P a → si τ a = si σ a
theorem Sc.rf {P : Nat → Prop} {σ : xs} : Sc P σ σ := ⟨rfl, rfl, rfl, rfl, fun _ _ => rfl⟩
theorem Sc.tr {P : Nat → Prop} {σ τ υ : xs} (h : Sc P σ τ) (g : Sc P τ υ) : Sc P σ υ := ⟨g.1.trans h.1, g.2.1.trans h.2.1, g.2.2.1.trans h.2.2.1, g.2.2.2.1.trans h.2.2.2.1, fun a ha => (g.2.2.2.2 a ha).trans (h.2.2.2.2 a ha)⟩
theorem Sc.mono {P R : Nat → Prop} {σ τ : xs} (h : Sc P σ τ) (hp : ∀ a, P a → R a) : Sc R σ τ := ⟨h.1, h.2.1, h.2.2.1, h.2.2.2.1, fun a ha => h.2.2.2.2 a (fun q => ha (hp a q))⟩
theorem Sc.wA {P : Nat → Prop} {σ : xs} {a : Nat} {f : Nat → Int32} (h : P a) : Sc P σ (wA σ a f) := ⟨rfl, rfl, rfl, rfl, fun b hb => by
  show (if b = a then f else si σ b) = si σ b
  rw [if_neg (fun q => hb (by rw [q]; exact h))]⟩
theorem Sc.wI {P : Nat → Prop} {σ : xs} {a j : Nat} {v : Int32} (h : P a) : Sc P σ (wI σ a j v) := ⟨rfl, rfl, rfl, rfl, fun b hb => up2_o (fun q => hb (by rw [q]; exact h))⟩
def X_clp (v : Int32) : Int32 := let m := (if v < nI 9 then v else nI 9); if nI 0 < m then m else nI 0
theorem X_clp_N (v : Int32) : ∃ k : Nat, k ≤ 9 ∧ X_clp v = nI k := by
  unfold X_clp
  dsimp only
  by_cases h : v < nI 9
  · rw [if_pos h]
    by_cases h2 : nI 0 < v
    · rw [if_pos h2]
      rw [fa_lt', nI_toInt (by decide)] at h h2
      refine ⟨v.toInt.toNat, by omega, ?_⟩
      apply Int32.toInt_inj.mp
      rw [nI_toInt (by omega)]
      omega
    · rw [if_neg h2]; exact ⟨0, by omega, rfl⟩
  · rw [if_neg h, if_pos (by decide)]
    exact ⟨9, by omega, rfl⟩
theorem X_clp_b (v : Int32) : (X_clp v).toInt8.toInt32 = X_clp v := by
  obtain ⟨k, hk, e⟩ := X_clp_N v
  rw [e]
  exact (show ∀ k, k ≤ 9 → (nI k).toInt8.toInt32 = nI k by decide +kernel) k hk
/-- the pull that a rule gives to a key -/
def V (c : Nat → Nat) (n : Nat) (key : Int32) : Int32 := X_clp ((gL key c n).getD 0 0)
/-- what is noted is right -/
def CI (σ : xs) (u : Nat) (W : Int32 → Int32) : Prop := ∀ s, s < 1024 → si σ (u + 4) s = -1 ∨ si σ (u + 5) s = W (si σ (u + 4) s)
theorem ush22 (x : Int32) : ∃ j : Nat, j < 1024 ∧ ush x (nI 22) = nI j := by
  have h := pk_ushr x (nI 22) 22 (by decide)
  have hx : x.toBitVec.toNat < 2 ^ 32 := x.toBitVec.isLt
  refine ⟨x.toBitVec.toNat / 2 ^ 22, by omega, ?_⟩
  apply Int32.toBitVec_inj.mp
  apply BitVec.eq_of_toNat_eq
  rw [show (nI (x.toBitVec.toNat / 2 ^ 22)).toBitVec.toNat = x.toBitVec.toNat / 2 ^ 22 from pk_tn (by omega)]
  exact h
def Pu (u : Nat) : Nat → Prop := fun a => a = u + 2 ∨ a = u + 4 ∨ a = u + 5
theorem x_pullBy {l : xLa} {d : Nat} {σ : xs} {u n : Nat} {key : Int32} {c : Nat → Nat} (hu : isR u) (hc : isC σ u n c) (hk : ¬ key = -1) (hci : CI σ u (V c n)) : TC l M_Rule_pullBy (d + 3) [.ref u, .int key] σ (fun r τ => r = some (.int (V c n key)) ∧ Sc (Pu u) σ τ ∧ CI τ u (V c n)) := by
  obtain ⟨j, hj, ej⟩ := ush22 (key * -1640531535)
  show T l M_Rule_pullBy (d + 3) 0 _ [] σ _
  refine tt_iload_n d_Rule_pullBy_0 rfl ?_
  refine tt_ldc d_Rule_pullBy_1 rfl ?_
  refine tt_imul d_Rule_pullBy_3 ?_
  refine tt_bipush (v := nI 22) d_Rule_pullBy_4 (by decide) ?_
  refine tt_iushr d_Rule_pullBy_6 ?_
  refine tt_top (y := nI j) ej ?_
  refine tt_istore_n d_Rule_pullBy_7 (by decide) rfl ?_
  refine tt_aload_n d_Rule_pullBy_8 rfl ?_
  refine tt_getR d_Rule_pullBy_9 rfl (xR_sh hu) (by decide) ((xR_r hu).2.2.2.1) (xR_0 hu _ (by decide)) ?_
  refine tt_iload_n d_Rule_pullBy_12 rfl ?_
  refine tn_iald d_Rule_pullBy_13 ((xR_a hu).2.2.2.1) (by decide) hj rfl ?_
  refine tt_iload_n d_Rule_pullBy_14 rfl ?_
  refine tt_ic_eq (t := 46) d_Rule_pullBy_15 (by decide) (fun c_15 => ?_) (fun c_15 => ?_)
  · refine tt_aload_n d_Rule_pullBy_46 rfl ?_
    refine tt_getR d_Rule_pullBy_47 rfl (xR_sh hu) (by decide) ((xR_r hu).2.2.2.2) (xR_0 hu _ (by decide)) ?_
    refine tt_iload_n d_Rule_pullBy_50 rfl ?_
    refine tn_bald d_Rule_pullBy_51 ((xR_a hu).2.2.2.2) (by decide) hj rfl ?_
    refine tt_iret rfl d_Rule_pullBy_52 ?_
    first
      | (rcases hci j hj with g | g
         · exact absurd (c_15.symm.trans g) hk
         · exact ⟨by rw [g, c_15], Sc.rf, hci⟩)
      | (refine ⟨by rw [si_wI, if_pos ⟨rfl, rfl⟩], ?_, ?_⟩
         · exact ((Sc.wI (Or.inr (Or.inl rfl))).tr (Sc.wA (Or.inl rfl))).tr (Sc.wI (Or.inr (Or.inr rfl)))
         · intro s hs
           by_cases e : s = j
           · subst e
             right
             rw [si_wI, if_pos ⟨rfl, rfl⟩, si_wI, if_neg (by omega), si_wA, if_neg (by omega), si_wI, if_pos ⟨rfl, rfl⟩]
           · rw [si_wI, if_neg (by omega), si_wA, if_neg (by omega), si_wI, if_neg (fun q => e q.2), si_wI, if_neg (fun q => e q.2), si_wA, if_neg (by omega), si_wI, if_neg (by omega)]
             exact hci s hs)
  · refine tt_aload_n d_Rule_pullBy_18 rfl ?_
    refine tt_getR d_Rule_pullBy_19 rfl (xR_sh hu) (by decide) ((xR_r hu).2.2.2.1) (xR_0 hu _ (by decide)) ?_
    refine tt_iload_n d_Rule_pullBy_22 rfl ?_
    refine tt_iload_n d_Rule_pullBy_23 rfl ?_
    refine tn_iast d_Rule_pullBy_24 ((xR_a hu).2.2.2.1) (by decide) hj ?_
    refine tt_aload_n d_Rule_pullBy_25 rfl ?_
    refine tt_getR d_Rule_pullBy_26 rfl (xR_sh hu) (by decide) ((xR_r hu).2.2.2.2) (xR_0 hu _ (by decide)) ?_
    refine tt_iload_n d_Rule_pullBy_29 rfl ?_
    refine tt_iconst (v := nI 0) d_Rule_pullBy_30 (by decide) ?_
    refine tt_bipush (v := nI 9) d_Rule_pullBy_31 (by decide) ?_
    refine tt_aload_n d_Rule_pullBy_33 rfl ?_
    refine tt_iload_n d_Rule_pullBy_34 rfl ?_
    refine tt_callV (x_reckon (d := d) (σ := wI σ (u + 4) j key) (key := key) hu ⟨hc.1, hc.2.1, fun i hi => by rw [si_wI, if_neg (by omega)]; exact hc.2.2.1 i hi, hc.2.2.2⟩) cw_Rule_reckon rfl (xR_sh hu) (by decide) rfl (by omega) d_Rule_pullBy_35 rfl rfl (Nat.le_of_ble_eq_true rfl) (Nat.le_of_ble_eq_true rfl) rfl rfl rfl (fun v σ2 q => ?_)
    obtain ⟨rfl, f, e9⟩ := q
    rw [e9]
    clear e9
    refine tt_min d_Rule_pullBy_38 rfl (Nat.le_of_ble_eq_true rfl) ?_
    refine tt_max d_Rule_pullBy_41 rfl (Nat.le_of_ble_eq_true rfl) ?_
    refine tt_i2b d_Rule_pullBy_44 ?_
    refine tn_bast d_Rule_pullBy_45 ((xR_a hu).2.2.2.2) (by decide) hj (show vp_nar .byte _ = V c n key from (pk_vb _).trans (X_clp_b _)) ?_
    refine tt_aload_n d_Rule_pullBy_46 rfl ?_
    refine tt_getR d_Rule_pullBy_47 rfl (xR_sh hu) (by decide) ((xR_r hu).2.2.2.2) (xR_0 hu _ (by decide)) ?_
    refine tt_iload_n d_Rule_pullBy_50 rfl ?_
    refine tn_bald d_Rule_pullBy_51 ((xR_a hu).2.2.2.2) (by decide) hj rfl ?_
    refine tt_iret rfl d_Rule_pullBy_52 ?_
    first
      | (rcases hci j hj with g | g
         · exact absurd (c_15.symm.trans g) hk
         · exact ⟨by rw [g, c_15], Sc.rf, hci⟩)
      | (refine ⟨by rw [si_wI, if_pos ⟨rfl, rfl⟩], ?_, ?_⟩
         · exact ((Sc.wI (Or.inr (Or.inl rfl))).tr (Sc.wA (Or.inl rfl))).tr (Sc.wI (Or.inr (Or.inr rfl)))
         · intro s hs
           by_cases e : s = j
           · subst e
             right
             rw [si_wI, if_pos ⟨rfl, rfl⟩, si_wI, if_neg (by omega), si_wA, if_neg (by omega), si_wI, if_pos ⟨rfl, rfl⟩]
           · rw [si_wI, if_neg (by omega), si_wA, if_neg (by omega), si_wI, if_neg (fun q => e q.2), si_wI, if_neg (fun q => e q.2), si_wA, if_neg (by omega), si_wI, if_neg (by omega)]
             exact hci s hs)

