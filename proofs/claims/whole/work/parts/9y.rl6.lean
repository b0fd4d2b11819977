/-! rule: the class. Printed by wip/whole. -/
theorem mk_wP {σ : xs} {b : Nat} : uF (mk σ) 0 15 (.ref b) = mk (wP σ b (so σ)) := by
  have hF' : up2 (hF (mk σ)) 0 15 (.ref b) = mkF (wP σ b (so σ)) := by
    funext a j
    unfold up2
    by_cases e : a = 0 ∧ j = 15
    · rw [if_pos e]
      exact (if_pos e).symm
    · rw [if_neg e]
      exact (show mkF σ a j = _ from if_neg e).trans (show mkF (wP σ b (so σ)) a j = _ from if_neg e).symm
  show ((mk σ).1, up2 (hF (mk σ)) 0 15 (.ref b), (mk σ).2.2) = mk (wP σ b (so σ))
  rw [hF']
  rfl
theorem mk_wO {σ : xs} {b : Nat} : uF (mk σ) 0 16 (.ref b) = mk (wP σ (sp σ) b) := by
  have hF' : up2 (hF (mk σ)) 0 16 (.ref b) = mkF (wP σ (sp σ) b) := by
    funext a j
    unfold up2
    by_cases e : a = 0 ∧ j = 16
    · rw [if_pos e]
      obtain ⟨rfl, rfl⟩ := e
      rfl
    · rw [if_neg e]
      show mkF σ a j = mkF (wP σ (sp σ) b) a j
      by_cases e2 : a = 0 ∧ j = 15
      · obtain ⟨rfl, rfl⟩ := e2
        rfl
      · exact ((show mkF σ a j = _ from if_neg e2).trans (if_neg e)).trans ((show mkF (wP σ (sp σ) b) a j = _ from if_neg e2).trans (if_neg e)).symm
  show ((mk σ).1, up2 (hF (mk σ)) 0 16 (.ref b), (mk σ).2.2) = mk (wP σ (sp σ) b)
  rw [hF']
  rfl
section
variable {l : xLa} {M : mT} {d pc : Nat} {lv : List (Option Value)} {r : List Value} {σ : xs} {Q : Option Value → xs → Prop}
theorem xpok_r {j b : Nat} (hj : j = 15 ∨ j = 16) : xpok 11 j (.ref b) = true := by
  rcases hj with rfl | rfl
  · have e : narrow (xty 11 15) (.ref b) = .ref b := rfl
    have f : fits (xty 11 15) (.ref b) = true := rfl
    unfold xpok
    rw [e, f]
    simp
  · have e : narrow (xty 11 16) (.ref b) = .ref b := rfl
    have f : fits (xty 11 16) (.ref b) = true := rfl
    unfold xpok
    rw [e, f]
    simp
theorem tt_putP {i ns p b : Nat} (hd : decode (mCd M) pc = .ok (.putfield i, 3)) (hl : xlk xFL M.1 i = some (11, 15, ns, p)) (k : T l M (d + 1) (pc + 3) lv r (wP σ b (so σ)) Q) : T l M (d + 1) pc lv (.ref b :: .ref 0 :: r) σ Q := E.step (x := (pc + 3, lv, r, mk (wP σ b (so σ)))) (Nat.le_add_left 1 d) hd (by have h9 : (mk σ).1[0]? = some (0, 11, 17) := rfl; have hf : (xT 11 15).2.2.2 = false := rfl; simp [stpI, s_put, h9, hl, hf, xpok_r (j := 15) (b := b) (Or.inl rfl), mk_wP]) k
theorem tt_putO {i ns p b : Nat} (hd : decode (mCd M) pc = .ok (.putfield i, 3)) (hl : xlk xFL M.1 i = some (11, 16, ns, p)) (k : T l M (d + 1) (pc + 3) lv r (wP σ (sp σ) b) Q) : T l M (d + 1) pc lv (.ref b :: .ref 0 :: r) σ Q := E.step (x := (pc + 3, lv, r, mk (wP σ (sp σ) b))) (Nat.le_add_left 1 d) hd (by have h9 : (mk σ).1[0]? = some (0, 11, 17) := rfl; have hf : (xT 11 16).2.2.2 = false := rfl; simp [stpI, s_put, h9, hl, hf, xpok_r (j := 16) (b := b) (Or.inr rfl), mk_wO]) k
end
/-- a rule as it was told -/
def rlE (e : xe) (x : Nat × (Nat → Nat)) : xe := ((fun k => if k = 4 then rlM x else e.1 k), eK e, eS e, eF e, eB e, rlW x)
def rlO (w : wv) : wv := (rlE (wE w) (wX w), wV w, (0, (wX w).2), wD w, wU w, wK w, wS w)
theorem rn_b {x : Nat × (Nat → Nat)} : ∀ (k q : Nat) (S : rst) (r : Nat), rn x k q S = .inl r → r < q + k
  | 0, q, S, r, h => by cases h
  | k + 1, q, S, r, h => by
    cases e : tk S (x.2 q) with
    | none =>
      rw [rn_n e] at h
      cases h
      omega
    | some S' =>
      rw [rn_s e] at h
      have := rn_b k (q + 1) S' r h
      omega
theorem rlF_b {x : Nat × (Nat → Nat)} : rlF x ≤ 41 := by
  by_cases h0 : x.1 = 0
  · rw [show rlF x = 0 from if_pos h0]; omega
  · cases e : rn x (min 40 x.1) 0 rs0 with
    | inl q => rw [rlF_l h0 e]; have := rn_b _ _ _ _ e; omega
    | inr S =>
      rw [rlF_r h0 e]
      split <;> omega
def a_rule (w : wv) : Int32 × wv := if rlF (wX w) = 0 then (nI 0, rlO w) else ((-1) - nI (rlF (wX w) - 1), txC w)
section
variable {σ τ : xs} {w : wv}
theorem XW.rlf (h : XW σ w) (hp : Fp (so σ) σ τ) : XW (wF τ 1 1 (nI 0)) (txC w) ∧ XF σ (wF τ 1 1 (nI 0)) := by
  have hf : Fq (fun c => c = so σ + 1 ∨ c = so σ + 3 ∨ c = so σ + 4) (fun c k => c = so σ ∨ (c = 1 ∧ k = 1)) (fun _ => False) σ (wF τ 1 1 (nI 0)) := Fq.tr (Fq.mono hp (fun _ q => q) (fun _ _ q => Or.inl q) (fun _ q => q)) (Fq.wF (Or.inr ⟨rfl, rfl⟩))
  have es : sp (wF τ 1 1 (nI 0)) = sp σ := hp.2.2.2.1
  have eo : so (wF τ 1 1 (nI 0)) = so σ := hp.2.2.2.2
  have hR := isR_2 h.1.2.1 h.1.2.2.1 h.1.2.2.2.1
  obtain ⟨⟨⟨⟨a1, a2, a3, a4⟩, a5, a6, a7, a8⟩, b1, b2, b3, b4⟩, v, x, d, u, k, s⟩ := h
  refine ⟨⟨⟨⟨⟨?_, ?_, ?_, ?_⟩, fun i hi => ?_, fun i hi => ?_, fun f hf2 => ?_, ?_⟩, ?_, ?_, ?_, ?_⟩, v.fq hf (fun k hk => by omega) (fun k hk => by omega), ⟨rfl, fun i hi => absurd hi (Nat.not_lt_zero i)⟩, d.fq hf id (by omega), u.fq hf (fun c h1 h2 => by omega) (fun c k h1 h2 => by omega), k.fq hf (fun c h1 h2 => by omega) (fun c k h1 h2 => by omega) (by omega), s.fq hf (fun c h1 h2 => by omega) (by omega)⟩, hf.XF (fun c hc => by omega) (fun c k hc => by omega) (fun c hc => id)⟩
  · rw [hf.2.1 5 0 (by omega)]; exact a1
  · rw [hf.2.1 5 1 (by omega)]; exact a2
  · rw [hf.2.1 9 2 (by omega)]; exact a3
  · rw [hf.2.1 12 1 (by omega)]; exact a4
  · rw [hf.1 10 (by omega), hf.1 11 (by omega)]; exact a5 i hi
  · rw [hf.1 13 (by omega)]; exact a6 i hi
  · rw [hf.1 6 (by omega)]; exact a7 f hf2
  · rw [es]; exact a8.fq hf (by omega) (by omega)
  · rw [es]; exact b1
  · rw [eo]; exact b2
  · rw [es, eo]; exact b3
  · rw [es]; exact b4.fq hf (by omega) (by omega)
theorem XW.rul (h : XW σ w) (hp : Fp (so σ) σ τ) (hc : isC τ (so σ) (rlM (wX w)) (rlW (wX w))) (hn : CI τ (so σ) (V (rlW (wX w)) (rlM (wX w)))) : XW (wP (wF τ 1 1 (nI 0)) (so σ) (sp σ)) (rlO w) ∧ XF σ (wP (wF τ 1 1 (nI 0)) (so σ) (sp σ)) := by
  obtain ⟨g, gF⟩ := h.rlf hp
  have hR := isR_2 h.1.2.1 h.1.2.2.1 h.1.2.2.2.1
  have b1 := h.1.2.1
  have b2 := h.1.2.2.1
  have b3 := h.1.2.2.2.1
  obtain ⟨⟨⟨⟨a1, a2, a3, a4⟩, a5, a6, a7, a8⟩, -, -, -, -⟩, v, x, d, u, k, s⟩ := g
  have hc2 : isC (wF τ 1 1 (nI 0)) (so σ) (rlM (wX w)) (rlW (wX w)) := hc.fq (A := fun _ => False) (F := fun c k => c = 1 ∧ k = 1) (J := fun _ => False) (Fq.wF ⟨rfl, rfl⟩) id (by omega)
  exact ⟨⟨⟨⟨⟨a1, a2, a3, a4⟩, a5, a6, a7, hc2⟩, b2, b1, fun z => b3 z.symm, hn⟩, v, x, d, u, k, s⟩, gF⟩
end

set_option maxHeartbeats 4000000 in
theorem xc_rule {l : xLa} {d : Nat} {σ : xs} {w : wv} (ho : okQ w) (hw : XW σ w) (hX : okX (wX w)) : TC l M_X_rule (d + 30) [.ref 0] σ (fun r τ => r = some (.int (a_rule w).1) ∧ XW τ (a_rule w).2 ∧ XF σ τ) := by
  have hb := rlF_b (x := wX w)
  show T l M_X_rule (d + 30) 0 _ [] σ _
  refine T_lv (lv2 := [_, _, _]) rfl ?_
  refine tt_aload_n d_X_rule_0 rfl ?_
  refine tt_getO d_X_rule_1 rfl ?_
  refine tt_aload_n d_X_rule_4 rfl ?_
  refine tt_getR d_X_rule_5 rfl rfl (by decide) rfl rfl ?_
  refine tt_callV (x_read (d := d) hw.1.2.2.1 hw.2.2.1 hX) cw_Rule_read rfl (xR_sh hw.1.2.2.1) (by decide) rfl (by omega) d_X_rule_8 rfl rfl (Nat.le_of_ble_eq_true rfl) (Nat.le_of_ble_eq_true rfl) rfl rfl rfl (fun v σ2 q => ?_)
  obtain ⟨rfl, hp, hc⟩ := q
  refine tt_istore_n (lv2 := [_, _, _]) d_X_rule_11 (by decide) rfl ?_
  refine tt_aload_n d_X_rule_12 rfl ?_
  refine tt_getR d_X_rule_13 rfl rfl (by decide) rfl rfl ?_
  refine tt_callV (x_Text_clear (d := d)) cw_Text_clear rfl rfl (by decide) rfl (by omega) d_X_rule_16 rfl rfl (Nat.le_of_ble_eq_true rfl) (Nat.le_of_ble_eq_true rfl) rfl rfl rfl (fun v σ2 q => ?_)
  obtain ⟨rfl, e9⟩ := q
  rw [e9]
  clear e9
  refine tt_iload_n d_X_rule_19 rfl ?_
  refine tt_iconst (v := (-1)) d_X_rule_20 (by decide) ?_
  refine tt_ic_eq (t := 28) d_X_rule_21 (by decide) (fun c_21 => ?_) (fun c_21 => ?_)
  · have cf : rlF (wX w) = 0 := (gI_c (by omega)).1.mp c_21
    have ea : a_rule w = (nI 0, rlO w) := if_pos cf
    rw [ea]
    obtain ⟨h1, h2⟩ := hc cf
    refine tt_aload_n d_X_rule_28 rfl ?_
    refine tt_getP d_X_rule_29 rfl ?_
    refine tt_astore_n (lv2 := [_, _, _]) d_X_rule_32 (by decide) rfl ?_
    refine tt_aload_n d_X_rule_33 rfl ?_
    refine tt_aload_n d_X_rule_34 rfl ?_
    refine tt_getO d_X_rule_35 rfl ?_
    refine tt_putP d_X_rule_38 rfl ?_
    refine tt_aload_n d_X_rule_41 rfl ?_
    refine tt_aload_n d_X_rule_42 rfl ?_
    refine tt_putO d_X_rule_43 rfl ?_
    refine tt_iconst (v := nI 0) d_X_rule_46 (by decide) ?_
    refine tt_iret rfl d_X_rule_47 ?_
    have q := hw.rul hp h1 h2
    have es := hp.2.2.2.1
    have eo := hp.2.2.2.2
    rw [← es, ← eo] at q
    exact ⟨rfl, q⟩
  · have cf : ¬ rlF (wX w) = 0 := fun z => c_21 (by rw [z]; rfl)
    have ea : a_rule w = ((-1) - nI (rlF (wX w) - 1), txC w) := if_neg cf
    rw [ea]
    refine tt_iconst (v := (-1)) d_X_rule_24 (by decide) ?_
    refine tt_iload_n d_X_rule_25 rfl ?_
    refine tt_isub d_X_rule_26 ?_
    refine tt_iret rfl d_X_rule_27 ?_
    exact ⟨by rw [show gI (rlF (wX w)) = nI (rlF (wX w) - 1) from (gI_c (by omega)).2 cf], hw.rlf hp⟩

