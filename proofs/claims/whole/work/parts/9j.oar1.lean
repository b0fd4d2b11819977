/-! oar: the class. Printed by wip/whole. -/
theorem X_push_20 {σ : xs} {w : wv} {k : Nat} (h : XW σ w) (hl : (wU w).length ≤ 15) (hk : k < 15) (e3 : ∀ j, j < (wU w).length → ST σ (37 + 5 * ((k + 14 - j) % 15)) ((wU w).getD j v0)) : XW (X_push σ 20 k (wU w).length) (stU w (wV w)) ∧ XF σ (X_push σ 20 k (wU w).length) := by
  have f1 : Fq (fun c => 37 + 5 * k + 1 ≤ c ∧ c ≤ 37 + 5 * k + 4) (fun c j => c = 37 + 5 * k) (fun _ => False) σ (X_copy σ (37 + 5 * k) 20) := Fq_copy (isS_p hk) isS_20 (fun c hc => hc) (fun k hk => rfl)
  have f2 : Fq (fun _ => False) (fun c j => c = 35) (fun _ => False) (X_copy σ (37 + 5 * k) 20) (X_push σ 20 k (wU w).length) := Fq.tr (Fq.wF rfl) (Fq.wF rfl)
  have f3 : Fq (fun c => 37 + 5 * k + 1 ≤ c ∧ c ≤ 37 + 5 * k + 4) (fun c j => c = 37 + 5 * k ∨ c = 35) (fun _ => False) σ (X_push σ 20 k (wU w).length) := Fq.tr (f1.mono (fun _ q => q) (fun _ _ q => Or.inl q) (fun _ q => q)) (f2.mono (fun _ q => q.elim) (fun _ _ q => Or.inr q) (fun _ q => q))
  refine h.putN (f3.mono (fun c hc => by omega) (fun c j hc => by unfold wF_; omega) (fun _ q => q.elim)) (h.2.1.fq f3 (fun j hj => by omega) (fun j hj => by omega)) (h.2.2.2.1.fq f3 id (by omega)) ⟨(k + 1) % 15, Nat.mod_lt _ (by decide), rfl, by rw [tk_len]; rfl, fun j hj => ?_⟩
  rw [tk_len] at hj
  rw [tk_get (by omega)]
  cases j with
  | zero =>
    rw [show ((k + 1) % 15 + 14 - 0) % 15 = k by omega]
    exact (ST_copy (isS_p hk) isS_20 h.2.1).fq f2 (fun _ _ => id) (fun j hj => by omega)
  | succ j =>
    rw [show ((k + 1) % 15 + 14 - (j + 1)) % 15 = (k + 14 - j) % 15 by omega]
    exact (e3 j (by omega)).fq f3 (fun i hi => by omega) (fun i hi => by omega)
theorem x_push20 {l : xLa} {d : Nat} {σ : xs} {w : wv} (hl : (wU w).length ≤ 15) (hw : XW σ w) : TC l M_Past_push (d + 2) [.ref 35, .ref 20] σ (fun r τ => r = none ∧ XW τ (stU w (wV w)) ∧ XF σ τ) := by
  obtain ⟨k, hk, e1, e2, e3⟩ := hw.2.2.2.2.1
  refine T.mono (x_Past_push (d := d) isS_20 e1 hk e2 hl) ?_
  rintro r υ ⟨rfl, rfl⟩
  have y := X_push_20 hw hl hk e3
  exact ⟨rfl, y.1, y.2⟩
/-- whether the fish of a digit can be promised something -/
def cbT (w : wv) (f : Nat) : Nat := if f = 0 then 0 else if f - 1 < eN (wE w) then cbN (wE w) (wV w) (f - 1) else 0
theorem cbT_I {w : wv} (h8 : eN (wE w) ≤ 8) {f : Nat} (hf : f ≤ 10) : cbI w (gI f) = cbT w f := by
  unfold cbT
  by_cases c : f = 0
  · rw [if_pos c, c]
    unfold cbI inN
    rw [if_neg (by rw [show (gI 0).toInt = -1 from rfl]; omega)]
  · rw [if_neg c, (gI_c (by omega)).2 c]
    by_cases c2 : f - 1 < eN (wE w)
    · rw [if_pos c2, cbI_N c2 h8]
    · rw [if_neg c2]
      unfold cbI inN
      rw [nI_toInt (by omega), if_neg (by omega)]
theorem cbT_1 {w : wv} {f : Nat} (h : ¬ cbT w f = 0) : ¬ f = 0 ∧ f - 1 < eN (wE w) ∧ ¬ cbN (wE w) (wV w) (f - 1) = 0 := by
  unfold cbT at h
  by_cases c : f = 0
  · rw [if_pos c] at h; exact absurd rfl h
  · rw [if_neg c] at h
    by_cases c2 : f - 1 < eN (wE w)
    · rw [if_pos c2] at h; exact ⟨c, c2, h⟩
    · rw [if_neg c2] at h; exact absurd rfl h
/-- the fault in a text of the oar -/
def oaF (w : wv) : Nat → Nat → Nat
  | 0, q => q + 1
  | k + 1, q => if cbT w (dgN (wX w) q) = 0 then q + 1 else if ¬ (1 ≤ dgN (wX w) (q + 1) ∧ dgN (wX w) (q + 1) ≤ eR (wE w)) then q + 2 else if ¬ (1 ≤ dgN (wX w) (q + 2) ∧ dgN (wX w) (q + 2) ≤ eC (wE w)) then q + 3 else if dgN (wX w) (q + 3) = 0 then q + 4 else if q + 4 = (wX w).1 then 0 else if ¬ atN (wX w) (q + 4) = 60 then q + 5 else oaF w k (q + 5)
/-- a line that stands -/
def oaG (w : wv) (q : Nat) : Prop := ¬ cbT w (dgN (wX w) q) = 0 ∧ (1 ≤ dgN (wX w) (q + 1) ∧ dgN (wX w) (q + 1) ≤ eR (wE w)) ∧ (1 ≤ dgN (wX w) (q + 2) ∧ dgN (wX w) (q + 2) ≤ eC (wE w)) ∧ ¬ dgN (wX w) (q + 3) = 0
section
variable {w : wv} {k q : Nat}
theorem oa_1 (h : cbT w (dgN (wX w) q) = 0) : oaF w (k + 1) q = q + 1 := if_pos h
theorem oa_2 (h : ¬ cbT w (dgN (wX w) q) = 0) (h2 : ¬ (1 ≤ dgN (wX w) (q + 1) ∧ dgN (wX w) (q + 1) ≤ eR (wE w))) : oaF w (k + 1) q = q + 2 := (if_neg h).trans (if_pos h2)
theorem oa_3 (h : ¬ cbT w (dgN (wX w) q) = 0) (h2 : 1 ≤ dgN (wX w) (q + 1) ∧ dgN (wX w) (q + 1) ≤ eR (wE w)) (h3 : ¬ (1 ≤ dgN (wX w) (q + 2) ∧ dgN (wX w) (q + 2) ≤ eC (wE w))) : oaF w (k + 1) q = q + 3 := (if_neg h).trans ((if_neg (nnN h2)).trans (if_pos h3))
theorem oa_4 (h : ¬ cbT w (dgN (wX w) q) = 0) (h2 : 1 ≤ dgN (wX w) (q + 1) ∧ dgN (wX w) (q + 1) ≤ eR (wE w)) (h3 : 1 ≤ dgN (wX w) (q + 2) ∧ dgN (wX w) (q + 2) ≤ eC (wE w)) (h4 : dgN (wX w) (q + 3) = 0) : oaF w (k + 1) q = q + 4 := (if_neg h).trans ((if_neg (nnN h2)).trans ((if_neg (nnN h3)).trans (if_pos h4)))
theorem oa_5 (h : oaG w q) (h5 : q + 4 = (wX w).1) : oaF w (k + 1) q = 0 := (if_neg h.1).trans ((if_neg (nnN h.2.1)).trans ((if_neg (nnN h.2.2.1)).trans ((if_neg h.2.2.2).trans (if_pos h5))))
theorem oa_6 (h : oaG w q) (h5 : ¬ q + 4 = (wX w).1) (h6 : ¬ atN (wX w) (q + 4) = 60) : oaF w (k + 1) q = q + 5 := (if_neg h.1).trans ((if_neg (nnN h.2.1)).trans ((if_neg (nnN h.2.2.1)).trans ((if_neg h.2.2.2).trans ((if_neg h5).trans (if_pos h6)))))
theorem oa_7 (h : oaG w q) (h5 : ¬ q + 4 = (wX w).1) (h6 : atN (wX w) (q + 4) = 60) : oaF w (k + 1) q = oaF w k (q + 5) := (if_neg h.1).trans ((if_neg (nnN h.2.1)).trans ((if_neg (nnN h.2.2.1)).trans ((if_neg h.2.2.2).trans ((if_neg h5).trans (if_neg (nnN h6))))))
theorem oa_c : ∀ k q, (oaF w k q ≤ q + 5 * k + 1) ∧ (oaF w k q = 0 → ∃ L, 1 ≤ L ∧ L ≤ k ∧ (wX w).1 + 1 = q + 5 * L ∧ ∀ j, j < L → oaG w (q + 5 * j))
  | 0, q => ⟨by show q + 1 ≤ _; omega, fun h => by have : q + 1 = 0 := h; omega⟩
  | k + 1, q => by
    obtain ⟨i1, i2⟩ := oa_c k (q + 5)
    by_cases h : cbT w (dgN (wX w) q) = 0
    · rw [oa_1 h]; exact ⟨by omega, fun z => by omega⟩
    · by_cases h2 : 1 ≤ dgN (wX w) (q + 1) ∧ dgN (wX w) (q + 1) ≤ eR (wE w)
      · by_cases h3 : 1 ≤ dgN (wX w) (q + 2) ∧ dgN (wX w) (q + 2) ≤ eC (wE w)
        · by_cases h4 : dgN (wX w) (q + 3) = 0
          · rw [oa_4 h h2 h3 h4]; exact ⟨by omega, fun z => by omega⟩
          · have hG : oaG w q := ⟨h, h2, h3, h4⟩
            by_cases h5 : q + 4 = (wX w).1
            · rw [oa_5 hG h5]
              refine ⟨by omega, fun _ => ⟨1, by omega, by omega, by omega, fun j hj => ?_⟩⟩
              obtain rfl : j = 0 := by omega
              exact hG
            · by_cases h6 : atN (wX w) (q + 4) = 60
              · rw [oa_7 hG h5 h6]
                refine ⟨by omega, fun z => ?_⟩
                obtain ⟨L, a1, a2, a3, a4⟩ := i2 z
                refine ⟨L + 1, by omega, by omega, by omega, fun j hj => ?_⟩
                cases j with
                | zero => exact hG
                | succ j =>
                  have := a4 j (by omega)
                  rw [show q + 5 + 5 * j = q + 5 * (j + 1) by omega] at this
                  exact this
              · rw [oa_6 hG h5 h6]; exact ⟨by omega, fun z => by omega⟩
        · rw [oa_3 h h2 h3]; exact ⟨by omega, fun z => by omega⟩
      · rw [oa_2 h h2]; exact ⟨by omega, fun z => by omega⟩
end
def oaA (w : wv) : Nat := oaF w 12 0
def oaL (x : Nat × (Nat → Nat)) : Nat := (x.1 + 1) / 5
/-- the promises of the first lines are made -/
def oaV (w : wv) : Nat → sv
  | 0 => wV w
  | j + 1 => pvV (oaV w j) (dgN (wX w) (5 * j) - 1) ((dgN (wX w) (5 * j + 1) - 1) * eC (wE w) + (dgN (wX w) (5 * j + 2) - 1)) (dgN (wX w) (5 * j + 3) - 1)
def oaW (w : wv) : wv := stU (stV (txC w) (oaV w (oaL (wX w)))) (wV w)
def a_oar (w : wv) : Int32 × wv := if (wX w).1 = 0 then (nI 0, txC w) else if oaA w = 0 then (nI (oaL (wX w)), oaW w) else ((-1) - nI (oaA w - 1), txC w)
theorem oaL_c {w : wv} (h : oaA w = 0) : 1 ≤ oaL (wX w) ∧ oaL (wX w) ≤ 12 ∧ (wX w).1 + 1 = 5 * oaL (wX w) ∧ ∀ j, j < oaL (wX w) → oaG w (5 * j) := by
  obtain ⟨L, a1, a2, a3, a4⟩ := (oa_c 12 0).2 h
  have : oaL (wX w) = L := by unfold oaL; omega
  rw [this]
  refine ⟨a1, a2, by omega, fun j hj => ?_⟩
  have := a4 j hj
  rw [Nat.zero_add] at this
  exact this
/-- the field of a line -/
theorem oa_f {w : wv} {q : Nat} (hG : oaG w q) : (dgN (wX w) (q + 1) - 1) * eC (wE w) + (dgN (wX w) (q + 2) - 1) < eR (wE w) * eC (wE w) := by
  obtain ⟨_, h2, h3, _⟩ := hG
  have h4 : (dgN (wX w) (q + 1) - 1 + 1) * eC (wE w) ≤ eR (wE w) * eC (wE w) := Nat.mul_le_mul_right _ (by omega)
  rw [Nat.succ_mul] at h4
  omega
theorem oaV_2 {w : wv} {i : Nat} : ∀ j, (oaV w j) 2 i = wV w 2 i ∧ (oaV w j) 0 = wV w 0
  | 0 => ⟨rfl, rfl⟩
  | j + 1 => ⟨(oaV_2 j).1, by
    funext k
    exact (show (oaV w (j + 1)) 0 k = (oaV w j) 0 k from rfl).trans (congrFun (oaV_2 (i := i) j).2 k)⟩
theorem ok_oaV {w : wv} (ho : okQ w) (hA : oaA w = 0) : ∀ j, j ≤ oaL (wX w) → okV (wE w) (oaV w j)
  | 0, _ => ho.2.1
  | j + 1, hj => by
    have hG := (oaL_c hA).2.2.2 j (by omega)
    have hf := oa_f hG
    have hd := (dg_le (x := wX w) (j := 5 * j + 3)).1
    exact ok_4 (ok_3 (ok_oaV ho hA j (by omega)) (by omega)) (by omega)
/-- the next promise, as the acts say it -/
theorem oa_prom {w : wv} {j : Nat} (ho : okQ w) (hG : oaG w (5 * j)) {w' : wv} (hE : wE w' = wE w) (hV : wV w' = oaV w j) : (c_prom w' (nI (dgN (wX w) (5 * j) - 1)) (nI ((dgN (wX w) (5 * j + 1) - 1) * eC (wE w) + (dgN (wX w) (5 * j + 2) - 1))) (nI (dgN (wX w) (5 * j + 3) - 1))).2 = oaV w (j + 1) := by
  have hf := oa_f hG
  have hb := ho.fb
  have h8 := ho.n8
  obtain ⟨k1, k2, k3⟩ := cbT_1 hG.1
  have hd := (dg_le (x := wX w) (j := 5 * j + 3)).1
  have hn : ¬ (eK (wE w) (dgN (wX w) (5 * j) - 1) = 2 ∨ wV w 2 (dgN (wX w) (5 * j) - 1) = 0) := fun q => k3 (if_pos q)
  unfold c_prom
  rw [hE, hV, inN_N k2 (by omega), inN_N hf (by omega)]
  have e3 : rgN (nI (dgN (wX w) (5 * j + 3) - 1)) 0 9 = some (dgN (wX w) (5 * j + 3) - 1) := by
    unfold rgN
    rw [nI_toInt (by omega), if_pos (by omega)]
    simp
  rw [e3]
  dsimp only
  rw [if_neg (fun q => hn (Or.inl q)), (oaV_2 j).1, if_neg (fun q => hn (Or.inr q))]
  rfl
theorem X_fa_N {R C r c : Nat} (hr : r < R) (hc : c < C) (hR : R ≤ 6) (hC : C ≤ 6) : X_fa R C (nI r) (nI c) = nI (r * C + c) := by
  unfold X_fa
  rw [if_pos ⟨nI_nn (by omega), nI_lt hr (by omega), nI_nn (by omega), nI_lt hc (by omega)⟩, pk_mul, nI_add]
set_option maxHeartbeats 4000000 in
theorem x_oarF_l {l : xLa} {d : Nat} {σ τ : xs} {w : wv} (h : XQ w σ τ) (ho : okQ w) (hX : okX (wX w)) : ∀ (m a pp : Nat) (z1 z2 : Option Int32), 12 - a = m → a ≤ 12 → pp ≤ 5 * a → T l M_X_oarFault (d + 10) 4 [some (.ref 0), some (.int (nI pp)), some (.int (nI a)), z1.map Value.int, z2.map Value.int] [] τ (fun r υ => r = some (.int (gI (oaF w (12 - a) pp))) ∧ υ = τ) := by
  have hb8 := ho.n8
  have hx : XT τ (wX w) := h.1.2.2.1
  have hx1 := hX.1
  have hR6 := ho.1.1.2.1
  have hC6 := ho.1.1.2.2.2.1
  intro m
  induction m using Nat.strongRecOn with
  | ind m ih =>
    intro a pp z1 z2 hm ha hq
    have hd0 := (dg_le (x := wX w) (j := pp)).1
    have hd1 := (dg_le (x := wX w) (j := pp + 1)).1
    have hd2 := (dg_le (x := wX w) (j := pp + 2)).1
    have hd3 := (dg_le (x := wX w) (j := pp + 3)).1
    have ha4 := atx_lt (j := pp + 4) hX
    have hcl : cbT w (dgN (wX w) pp) ≤ 1 := by unfold cbT; split <;> (try omega); split <;> (try omega); exact cb_le _ _ _
    refine tt_iload_n d_X_oarFault_4 rfl ?_
    refine tt_bipush (v := nI 12) d_X_oarFault_5 (by decide) ?_
    refine tn_ic_ge (t := 147) (by omega) (by omega) d_X_oarFault_7 (by decide) (fun c_7 => ?_) (fun c_7 => ?_)
    · obtain rfl : a = 12 := by omega
      refine tt_iload_n d_X_oarFault_147 rfl ?_
      refine tt_iret rfl d_X_oarFault_148 ?_
      exact ⟨rfl, rfl⟩
    · rw [show 12 - a = 12 - (a + 1) + 1 by omega]
      refine tt_aload_n d_X_oarFault_10 rfl ?_
      refine tt_aload_n d_X_oarFault_11 rfl ?_
      refine tt_getR d_X_oarFault_12 rfl rfl (by decide) rfl rfl ?_
      refine tt_iload_n d_X_oarFault_15 rfl ?_
      refine tt_callV (x_Text_digit (d := d) (n := (wX w).1) (j := pp) hx.1 hX.1 (by omega)) cw_Text_digit rfl rfl (by decide) rfl (by omega) d_X_oarFault_16 rfl rfl (Nat.le_of_ble_eq_true rfl) (Nat.le_of_ble_eq_true rfl) rfl rfl rfl (fun v σ2 q => ?_)
      obtain ⟨rfl, e9⟩ := q
      rw [e9, X_dig_N hx hX]
      clear e9
      refine tt_callV (x_canBe (d := d) h ho) cw_X_canBePromised rfl rfl (by decide) rfl (by omega) d_X_oarFault_19 rfl rfl (Nat.le_of_ble_eq_true rfl) (Nat.le_of_ble_eq_true rfl) rfl rfl rfl (fun v σ2 q => ?_)
      obtain ⟨rfl, e9⟩ := q
      rw [e9, cbT_I hb8 (by omega)]
      clear e9
      refine tn_if_ne (t := 27) (by omega) d_X_oarFault_22 (by decide) (fun c_22 => ?_) (fun c_22 => ?_)
      · refine tt_aload_n d_X_oarFault_27 rfl ?_
        refine tt_getR d_X_oarFault_28 rfl rfl (by decide) rfl rfl ?_
        refine tt_iload_n d_X_oarFault_31 rfl ?_
        refine tt_iconst (v := nI 1) d_X_oarFault_32 (by decide) ?_
        refine tn_iadd d_X_oarFault_33 ?_
        refine tt_callV (x_Text_digit (d := d) (n := (wX w).1) (j := pp + 1) hx.1 hX.1 (by omega)) cw_Text_digit rfl rfl (by decide) rfl (by omega) d_X_oarFault_34 rfl rfl (Nat.le_of_ble_eq_true rfl) (Nat.le_of_ble_eq_true rfl) rfl rfl rfl (fun v σ2 q => ?_)
        obtain ⟨rfl, e9⟩ := q
        rw [e9, X_dig_N hx hX]
        clear e9
        refine tt_istore_n (lv2 := [_, _, _, _, _]) d_X_oarFault_37 (by decide) rfl ?_
        refine tt_iload_n d_X_oarFault_38 rfl ?_
        refine tt_if_lt (t := 53) d_X_oarFault_39 (by decide) (fun c_39 => ?_) (fun c_39 => ?_)
        · have h2 : ¬ (1 ≤ dgN (wX w) (pp + 1) ∧ dgN (wX w) (pp + 1) ≤ eR (wE w)) := fun z => by have := (gI_lt (show dgN (wX w) (pp + 1) < 2 ^ 30 by omega)).mp c_39; omega
          rw [oa_2 c_22 h2]
          refine tt_iload_n d_X_oarFault_53 rfl ?_
          refine tt_iconst (v := nI 1) d_X_oarFault_54 (by decide) ?_
          refine tn_iadd d_X_oarFault_55 ?_
          refine tt_iret rfl d_X_oarFault_56 ?_
          exact ⟨rfl, rfl⟩
        · have h20 : ¬ dgN (wX w) (pp + 1) = 0 := fun z => c_39 ((gI_lt (by omega)).mpr z)
          refine tt_iload_n d_X_oarFault_42 rfl ?_
          refine tt_aload_n d_X_oarFault_43 rfl ?_
          refine tt_getR d_X_oarFault_44 rfl rfl (by decide) rfl rfl ?_
          refine tn_get d_X_oarFault_47 rfl rfl (by decide) rfl h.r ?_
          refine tt_ic_lt (t := 57) d_X_oarFault_50 (by decide) (fun c_50 => ?_) (fun c_50 => ?_)
          · have h2 : 1 ≤ dgN (wX w) (pp + 1) ∧ dgN (wX w) (pp + 1) ≤ eR (wE w) := by have := (gI_ltN (a := dgN (wX w) (pp + 1)) (b := eR (wE w) + 1) (by omega) (by omega)).mp c_50; omega
            refine tt_aload_n d_X_oarFault_57 rfl ?_
            refine tt_getR d_X_oarFault_58 rfl rfl (by decide) rfl rfl ?_
            refine tt_iload_n d_X_oarFault_61 rfl ?_
            refine tt_iconst (v := nI 2) d_X_oarFault_62 (by decide) ?_
            refine tn_iadd d_X_oarFault_63 ?_
            refine tt_callV (x_Text_digit (d := d) (n := (wX w).1) (j := pp + 2) hx.1 hX.1 (by omega)) cw_Text_digit rfl rfl (by decide) rfl (by omega) d_X_oarFault_64 rfl rfl (Nat.le_of_ble_eq_true rfl) (Nat.le_of_ble_eq_true rfl) rfl rfl rfl (fun v σ2 q => ?_)
            obtain ⟨rfl, e9⟩ := q
            rw [e9, X_dig_N hx hX]
            clear e9
            refine tt_istore (lv2 := [_, _, _, _, _]) d_X_oarFault_67 (by decide) rfl ?_
            refine tt_iload d_X_oarFault_69 rfl ?_
            refine tt_if_lt (t := 86) d_X_oarFault_71 (by decide) (fun c_71 => ?_) (fun c_71 => ?_)
            · have h3 : ¬ (1 ≤ dgN (wX w) (pp + 2) ∧ dgN (wX w) (pp + 2) ≤ eC (wE w)) := fun z => by have := (gI_lt (show dgN (wX w) (pp + 2) < 2 ^ 30 by omega)).mp c_71; omega
              rw [oa_3 c_22 h2 h3]
              refine tt_iload_n d_X_oarFault_86 rfl ?_
              refine tt_iconst (v := nI 2) d_X_oarFault_87 (by decide) ?_
              refine tn_iadd d_X_oarFault_88 ?_
              refine tt_iret rfl d_X_oarFault_89 ?_
              exact ⟨rfl, rfl⟩
            · have h30 : ¬ dgN (wX w) (pp + 2) = 0 := fun z => c_71 ((gI_lt (by omega)).mpr z)
              refine tt_iload d_X_oarFault_74 rfl ?_
              refine tt_aload_n d_X_oarFault_76 rfl ?_
              refine tt_getR d_X_oarFault_77 rfl rfl (by decide) rfl rfl ?_
              refine tn_get d_X_oarFault_80 rfl rfl (by decide) rfl h.cl ?_
              refine tt_ic_lt (t := 90) d_X_oarFault_83 (by decide) (fun c_83 => ?_) (fun c_83 => ?_)
              · have h3 : 1 ≤ dgN (wX w) (pp + 2) ∧ dgN (wX w) (pp + 2) ≤ eC (wE w) := by have := (gI_ltN (a := dgN (wX w) (pp + 2)) (b := eC (wE w) + 1) (by omega) (by omega)).mp c_83; omega
                refine tt_aload_n d_X_oarFault_90 rfl ?_
                refine tt_getR d_X_oarFault_91 rfl rfl (by decide) rfl rfl ?_
                refine tt_iload_n d_X_oarFault_94 rfl ?_
                refine tt_iconst (v := nI 3) d_X_oarFault_95 (by decide) ?_
                refine tn_iadd d_X_oarFault_96 ?_
                refine tt_callV (x_Text_digit (d := d) (n := (wX w).1) (j := pp + 3) hx.1 hX.1 (by omega)) cw_Text_digit rfl rfl (by decide) rfl (by omega) d_X_oarFault_97 rfl rfl (Nat.le_of_ble_eq_true rfl) (Nat.le_of_ble_eq_true rfl) rfl rfl rfl (fun v σ2 q => ?_)
                obtain ⟨rfl, e9⟩ := q
                rw [e9, X_dig_N hx hX]
                clear e9
                refine tt_if_ge (t := 107) d_X_oarFault_100 (by decide) (fun c_100 => ?_) (fun c_100 => ?_)
                · have h4 : ¬ dgN (wX w) (pp + 3) = 0 := fun z => by rw [z] at c_100; exact absurd c_100 (by decide)
                  have hG : oaG w pp := ⟨c_22, h2, h3, h4⟩
                  refine tt_iinc (lv2 := [_, _, _, _, _]) d_X_oarFault_107 rfl (nI_inc _ 4) (by decide) rfl ?_
                  refine tt_iload_n d_X_oarFault_110 rfl ?_
                  refine tt_aload_n d_X_oarFault_111 rfl ?_
                  refine tt_getR d_X_oarFault_112 rfl rfl (by decide) rfl rfl ?_
                  refine tt_callV (x_Text_length (d := d)) cw_Text_length rfl rfl (by decide) rfl (by omega) d_X_oarFault_115 rfl rfl (Nat.le_of_ble_eq_true rfl) (Nat.le_of_ble_eq_true rfl) rfl rfl rfl (fun v σ2 q => ?_)
                  obtain ⟨rfl, e9⟩ := q
                  rw [e9, hx.1]
                  clear e9
                  refine tn_ic_ne (t := 123) (by omega) (by omega) d_X_oarFault_118 (by decide) (fun c_118 => ?_) (fun c_118 => ?_)
                  · refine tt_aload_n d_X_oarFault_123 rfl ?_
                    refine tt_getR d_X_oarFault_124 rfl rfl (by decide) rfl rfl ?_
                    refine tt_iload_n d_X_oarFault_127 rfl ?_
                    refine tt_callV (x_Text_at (d := d) (n := (wX w).1) (j := pp + 4) hx.1 hX.1 (by omega)) cw_Text_at rfl rfl (by decide) rfl (by omega) d_X_oarFault_128 rfl rfl (Nat.le_of_ble_eq_true rfl) (Nat.le_of_ble_eq_true rfl) rfl rfl rfl (fun v σ2 q => ?_)
                    obtain ⟨rfl, e9⟩ := q
                    rw [e9, X_at_N hx]
                    clear e9
                    refine tt_bipush (v := nI 59) d_X_oarFault_131 (by decide) ?_
                    refine tt_ic_eq (t := 138) d_X_oarFault_133 (by decide) (fun c_133 => ?_) (fun c_133 => ?_)
                    · have h60 : atN (wX w) (pp + 4) = 60 := (gI_eqN (by omega) (by omega)).mp c_133
                      rw [oa_7 hG c_118 h60]
                      refine tt_iinc (lv2 := [_, _, _, _, _]) d_X_oarFault_138 rfl (nI_inc _ 1) (by decide) rfl ?_
                      refine tt_iinc (lv2 := [_, _, _, _, _]) d_X_oarFault_141 rfl (nI_inc _ 1) (by decide) rfl ?_
                      refine tt_goto (t := 4) d_X_oarFault_144 (by decide) ?_
                      exact ih (12 - (a + 1)) (by omega) (a + 1) (pp + 4 + 1) (some _) (some _) rfl (by omega) (by omega)
                    · have h60 : ¬ atN (wX w) (pp + 4) = 60 := fun z => c_133 ((gI_eqN (by omega) (by omega)).mpr z)
                      rw [oa_6 hG c_118 h60]
                      refine tt_iload_n d_X_oarFault_136 rfl ?_
                      refine tt_iret rfl d_X_oarFault_137 ?_
                      exact ⟨rfl, rfl⟩
                  · rw [oa_5 hG (by omega)]
                    refine tt_iconst (v := (-1)) d_X_oarFault_121 (by decide) ?_
                    refine tt_iret rfl d_X_oarFault_122 ?_
                    exact ⟨rfl, rfl⟩
                · have h4 : dgN (wX w) (pp + 3) = 0 := Decidable.byContradiction (fun z => c_100 (by rw [(gI_c (by omega)).2 z]; exact nI_nn (by omega)))
                  rw [oa_4 c_22 h2 h3 h4]
                  refine tt_iload_n d_X_oarFault_103 rfl ?_
                  refine tt_iconst (v := nI 3) d_X_oarFault_104 (by decide) ?_
                  refine tn_iadd d_X_oarFault_105 ?_
                  refine tt_iret rfl d_X_oarFault_106 ?_
                  exact ⟨rfl, rfl⟩
              · have h3 : ¬ (1 ≤ dgN (wX w) (pp + 2) ∧ dgN (wX w) (pp + 2) ≤ eC (wE w)) := fun z => c_83 ((gI_ltN (a := dgN (wX w) (pp + 2)) (b := eC (wE w) + 1) (by omega) (by omega)).mpr (by omega))
                rw [oa_3 c_22 h2 h3]
                refine tt_iload_n d_X_oarFault_86 rfl ?_
                refine tt_iconst (v := nI 2) d_X_oarFault_87 (by decide) ?_
                refine tn_iadd d_X_oarFault_88 ?_
                refine tt_iret rfl d_X_oarFault_89 ?_
                exact ⟨rfl, rfl⟩
          · have h2 : ¬ (1 ≤ dgN (wX w) (pp + 1) ∧ dgN (wX w) (pp + 1) ≤ eR (wE w)) := fun z => c_50 ((gI_ltN (a := dgN (wX w) (pp + 1)) (b := eR (wE w) + 1) (by omega) (by omega)).mpr (by omega))
            rw [oa_2 c_22 h2]
            refine tt_iload_n d_X_oarFault_53 rfl ?_
            refine tt_iconst (v := nI 1) d_X_oarFault_54 (by decide) ?_
            refine tn_iadd d_X_oarFault_55 ?_
            refine tt_iret rfl d_X_oarFault_56 ?_
            exact ⟨rfl, rfl⟩
      · rw [oa_1 (by omega)]
        refine tt_iload_n d_X_oarFault_25 rfl ?_
        refine tt_iret rfl d_X_oarFault_26 ?_
        exact ⟨rfl, rfl⟩

theorem x_oarF {l : xLa} {d : Nat} {σ τ : xs} {w : wv} (h : XQ w σ τ) (ho : okQ w) (hX : okX (wX w)) : TE l M_X_oarFault (d + 10) [.ref 0] τ (some (.int (gI (oaA w)))) τ := by
  show T l M_X_oarFault (d + 10) 0 _ [] τ _
  refine T_lv (lv2 := [_, _, _, _, _]) rfl ?_
  refine tt_iconst (v := nI 0) d_X_oarFault_0 (by decide) ?_
  refine tt_istore_n (lv2 := [_, _, _, _, _]) d_X_oarFault_1 (by decide) rfl ?_
  refine tt_iconst (v := nI 0) d_X_oarFault_2 (by decide) ?_
  refine tt_istore_n (lv2 := [_, _, _, _, _]) d_X_oarFault_3 (by decide) rfl ?_
  exact x_oarF_l h ho hX 12 0 0 none none rfl (by omega) (by omega)

set_option maxHeartbeats 4000000 in
theorem x_addP_l {l : xLa} {d : Nat} {σ : xs} {w : wv} (ho : okQ w) (hX : okX (wX w)) (hA : oaA w = 0) : ∀ (m j : Nat) (τ : xs) (z : Option Int32), oaL (wX w) - j = m → j ≤ oaL (wX w) → XW τ (stV (stU w (wV w)) (oaV w j)) → XF σ τ → T l M_X_addPromises (d + 15) 4 [some (.ref 0), some (.int (nI j)), some (.int (nI (5 * j))), z.map Value.int] [] τ (fun r υ => r = some (.int (nI (oaL (wX w)))) ∧ XW υ (stV (stU w (wV w)) (oaV w (oaL (wX w)))) ∧ XF σ υ) := by
  have hb8 := ho.n8
  have hb0 := ho.fb
  obtain ⟨k1, k2, k3, k4⟩ := oaL_c hA
  have hx1 := hX.1
  have hR6 := ho.1.1.2.1
  have hC6 := ho.1.1.2.2.2.1
  intro m
  induction m using Nat.strongRecOn with
  | ind m ih =>
    intro j τ z hm hj hw hF
    have hx : XT τ (wX w) := hw.2.2.1
    have hok : okQ (stV (stU w (wV w)) (oaV w j)) := ⟨ho.1, ok_oaV ho hA j hj, by show (oaV w j) 0 4 < _; rw [(oaV_2 (i := 0) j).2]; exact ho.2.2⟩
    have hd0 := (dg_le (x := wX w) (j := 5 * j)).1
    have hd1 := (dg_le (x := wX w) (j := 5 * j + 1)).1
    have hd2 := (dg_le (x := wX w) (j := 5 * j + 2)).1
    have hd3 := (dg_le (x := wX w) (j := 5 * j + 3)).1
    refine tt_iload_n d_X_addPromises_4 rfl ?_
    refine tt_aload_n d_X_addPromises_5 rfl ?_
    refine tt_getR d_X_addPromises_6 rfl rfl (by decide) rfl rfl ?_
    refine tt_callV (x_Text_length (d := d)) cw_Text_length rfl rfl (by decide) rfl (by omega) d_X_addPromises_9 rfl rfl (Nat.le_of_ble_eq_true rfl) (Nat.le_of_ble_eq_true rfl) rfl rfl rfl (fun v σ2 q => ?_)
    obtain ⟨rfl, e9⟩ := q
    rw [e9, hx.1]
    clear e9
    refine tn_ic_ge (t := 80) (by omega) (by omega) d_X_addPromises_12 (by decide) (fun c_12 => ?_) (fun c_12 => ?_)
    · obtain rfl : j = oaL (wX w) := by omega
      refine tt_iload_n d_X_addPromises_80 rfl ?_
      refine tt_iret rfl d_X_addPromises_81 ?_
      exact ⟨rfl, hw, hF⟩
    · have hG := k4 j (by omega)
      obtain ⟨c1, c2, c3⟩ := cbT_1 hG.1
      have hpr := oa_prom ho hG (w' := stV (stU w (wV w)) (oaV w j)) rfl rfl
      have hG2 := hG.2.1
      have hG3 := hG.2.2.1
      have hG4 := hG.2.2.2
      refine tt_aload_n d_X_addPromises_15 rfl ?_
      refine tt_getR d_X_addPromises_16 rfl rfl (by decide) rfl rfl ?_
      refine tt_aload_n d_X_addPromises_19 rfl ?_
      refine tt_getR d_X_addPromises_20 rfl rfl (by decide) rfl rfl ?_
      refine tt_iload_n d_X_addPromises_23 rfl ?_
      refine tt_iconst (v := nI 1) d_X_addPromises_24 (by decide) ?_
      refine tn_iadd d_X_addPromises_25 ?_
      refine tt_callV (x_Text_digit (d := d) (n := (wX w).1) (j := 5 * j + 1) hx.1 hX.1 (by omega)) cw_Text_digit rfl rfl (by decide) rfl (by omega) d_X_addPromises_26 rfl rfl (Nat.le_of_ble_eq_true rfl) (Nat.le_of_ble_eq_true rfl) rfl rfl rfl (fun v σ2 q => ?_)
      obtain ⟨rfl, e9⟩ := q
      rw [e9, X_dig_N hx hX]
      clear e9
      refine tt_aload_n d_X_addPromises_29 rfl ?_
      refine tt_getR d_X_addPromises_30 rfl rfl (by decide) rfl rfl ?_
      refine tt_iload_n d_X_addPromises_33 rfl ?_
      refine tt_iconst (v := nI 2) d_X_addPromises_34 (by decide) ?_
      refine tn_iadd d_X_addPromises_35 ?_
      refine tt_callV (x_Text_digit (d := d) (n := (wX w).1) (j := 5 * j + 2) hx.1 hX.1 (by omega)) cw_Text_digit rfl rfl (by decide) rfl (by omega) d_X_addPromises_36 rfl rfl (Nat.le_of_ble_eq_true rfl) (Nat.le_of_ble_eq_true rfl) rfl rfl rfl (fun v σ2 q => ?_)
      obtain ⟨rfl, e9⟩ := q
      rw [e9, X_dig_N hx hX]
      clear e9
      refine tt_callV (x_Lake_fieldAt (d := d) (R := eR (wE w)) (C := eC (wE w)) hw.1.1.1.1 hw.1.1.1.2.1 hR6 hC6 (by omega)) cw_Lake_fieldAt rfl rfl (by decide) rfl (by omega) d_X_addPromises_39 rfl rfl (Nat.le_of_ble_eq_true rfl) (Nat.le_of_ble_eq_true rfl) rfl rfl rfl (fun v σ2 q => ?_)
      obtain ⟨rfl, e9⟩ := q
      rw [e9, (gI_c (show dgN (wX w) (5 * j + 1) < 2 ^ 31 by omega)).2 (by omega), (gI_c (show dgN (wX w) (5 * j + 2) < 2 ^ 31 by omega)).2 (by omega), X_fa_N (by omega) (by omega) hR6 hC6]
      clear e9
      refine tt_istore_n (lv2 := [_, _, _, _]) d_X_addPromises_42 (by decide) rfl ?_
      refine tt_aload_n d_X_addPromises_43 rfl ?_
      refine tt_aload_n d_X_addPromises_44 rfl ?_
      refine tt_getR d_X_addPromises_45 rfl rfl (by decide) rfl rfl ?_
      refine tt_aload_n d_X_addPromises_48 rfl ?_
      refine tt_getR d_X_addPromises_49 rfl rfl (by decide) rfl rfl ?_
      refine tt_iload_n d_X_addPromises_52 rfl ?_
      refine tt_callV (x_Text_digit (d := d) (n := (wX w).1) (j := 5 * j) hx.1 hX.1 (by omega)) cw_Text_digit rfl rfl (by decide) rfl (by omega) d_X_addPromises_53 rfl rfl (Nat.le_of_ble_eq_true rfl) (Nat.le_of_ble_eq_true rfl) rfl rfl rfl (fun v σ2 q => ?_)
      obtain ⟨rfl, e9⟩ := q
      rw [e9, X_dig_N hx hX]
      clear e9
      refine tt_iload_n d_X_addPromises_56 rfl ?_
      refine tt_aload_n d_X_addPromises_57 rfl ?_
      refine tt_getR d_X_addPromises_58 rfl rfl (by decide) rfl rfl ?_
      refine tt_iload_n d_X_addPromises_61 rfl ?_
      refine tt_iconst (v := nI 3) d_X_addPromises_62 (by decide) ?_
      refine tn_iadd d_X_addPromises_63 ?_
      refine tt_callV (x_Text_digit (d := d) (n := (wX w).1) (j := 5 * j + 3) hx.1 hX.1 (by omega)) cw_Text_digit rfl rfl (by decide) rfl (by omega) d_X_addPromises_64 rfl rfl (Nat.le_of_ble_eq_true rfl) (Nat.le_of_ble_eq_true rfl) rfl rfl rfl (fun v σ2 q => ?_)
      obtain ⟨rfl, e9⟩ := q
      rw [e9, X_dig_N hx hX]
      clear e9
      rw [(gI_c (show dgN (wX w) (5 * j) < 2 ^ 31 by omega)).2 (by omega), (gI_c (show dgN (wX w) (5 * j + 3) < 2 ^ 31 by omega)).2 hG4]
      refine tt_callV (x_makeP (d := d) hok hw) cw_X_makePromise rfl rfl (by decide) rfl (by omega) d_X_addPromises_67 rfl rfl (Nat.le_of_ble_eq_true rfl) (Nat.le_of_ble_eq_true rfl) rfl rfl rfl (fun v σ2 q => ?_)
      obtain ⟨rfl, hw2, hF2, -⟩ := q
      rw [hpr] at hw2
      refine tt_pop d_X_addPromises_70 rfl ?_
      refine tt_iinc (lv2 := [_, _, _, _]) d_X_addPromises_71 rfl (nI_inc _ 1) (by decide) rfl ?_
      refine tt_iinc (lv2 := [_, _, _, _]) d_X_addPromises_74 rfl (nI_inc _ 5) (by decide) rfl ?_
      refine tt_goto (t := 4) d_X_addPromises_77 (by decide) ?_
      rw [show 5 * j + 5 = 5 * (j + 1) by omega]
      exact ih (oaL (wX w) - (j + 1)) (by omega) (j + 1) _ (some _) rfl (by omega) hw2 (hF.tr hF2)

theorem x_addP {l : xLa} {d : Nat} {σ : xs} {w : wv} (ho : okQ w) (hX : okX (wX w)) (hA : oaA w = 0) (hw : XW σ (stU w (wV w))) : TC l M_X_addPromises (d + 15) [.ref 0] σ (fun r υ => r = some (.int (nI (oaL (wX w)))) ∧ XW υ (stV (stU w (wV w)) (oaV w (oaL (wX w)))) ∧ XF σ υ) := by
  show T l M_X_addPromises (d + 15) 0 _ [] σ _
  refine T_lv (lv2 := [_, _, _, _]) rfl ?_
  refine tt_iconst (v := nI 0) d_X_addPromises_0 (by decide) ?_
  refine tt_istore_n (lv2 := [_, _, _, _]) d_X_addPromises_1 (by decide) rfl ?_
  refine tt_iconst (v := nI 0) d_X_addPromises_2 (by decide) ?_
  refine tt_istore_n (lv2 := [_, _, _, _]) d_X_addPromises_3 (by decide) rfl ?_
  exact x_addP_l ho hX hA _ 0 _ none rfl (Nat.zero_le _) hw XF.rf

set_option maxHeartbeats 4000000 in
theorem xc_oar {l : xLa} {d : Nat} {σ : xs} {w : wv} (ho : okQ w) (hw : XW σ w)  (hX : okX (wX w)) (hl : (wU w).length ≤ 15) : TC l M_X_oar (d + 30) [.ref 0] σ (fun r τ => r = some (.int (a_oar w).1) ∧ XW τ (a_oar w).2 ∧ XF σ τ) := by
  show T l M_X_oar (d + 30) 0 _ [] σ _
  refine T_lv (lv2 := [_, _, _]) rfl ?_
  have h := XQ.rf hw.v
  have hd0 := hw.2.2.2.1
  have hb0 := ho.fb
  have hb8 := ho.n8
  have hx := hw.2.2.1
  have hx1 := hX.1
  have hfl := (oa_c (w := w) 12 0).1
  have hg := gI_1 (g := oaA w) (by unfold oaA; omega)
  unfold a_oar
  by_cases c0 : (wX w).1 = 0
  · rw [if_pos c0]
    refine tt_aload_n d_X_oar_0 rfl ?_
    refine tt_getR d_X_oar_1 rfl rfl (by decide) rfl rfl ?_
    refine tt_callV (x_Text_length (d := d)) cw_Text_length rfl rfl (by decide) rfl (by omega) d_X_oar_4 rfl rfl (Nat.le_of_ble_eq_true rfl) (Nat.le_of_ble_eq_true rfl) rfl rfl rfl (fun v σ2 q => ?_)
    obtain ⟨rfl, e9⟩ := q
    rw [e9, hx.1]
    clear e9
    refine tn_if_ne (t := 12) (by omega) d_X_oar_7 (by decide) (fun c_7 => ?_) (fun c_7 => ?_)
    · omega
    · refine tt_iconst (v := nI 0) d_X_oar_10 (by decide) ?_
      refine tt_iret rfl d_X_oar_11 ?_
      refine ⟨rfl, ?_, XF.rf⟩
      obtain ⟨a, v, x, d, u, k, s⟩ := hw
      exact ⟨a, v, ⟨by rw [x.1, c0]; rfl, fun i hi => absurd hi (Nat.not_lt_zero i)⟩, d, u, k, s⟩
  · rw [if_neg c0]
    by_cases cf : oaA w = 0
    · rw [if_pos cf]
      refine tt_aload_n d_X_oar_0 rfl ?_
      refine tt_getR d_X_oar_1 rfl rfl (by decide) rfl rfl ?_
      refine tt_callV (x_Text_length (d := d)) cw_Text_length rfl rfl (by decide) rfl (by omega) d_X_oar_4 rfl rfl (Nat.le_of_ble_eq_true rfl) (Nat.le_of_ble_eq_true rfl) rfl rfl rfl (fun v σ2 q => ?_)
      obtain ⟨rfl, e9⟩ := q
      rw [e9, hx.1]
      clear e9
      refine tn_if_ne (t := 12) (by omega) d_X_oar_7 (by decide) (fun c_7 => ?_) (fun c_7 => ?_)
      · refine tt_aload_n d_X_oar_12 rfl ?_
        refine tt_callV (x_oarF (d := d) h ho hX) cw_X_oarFault rfl rfl (by decide) rfl (by omega) d_X_oar_13 rfl rfl (Nat.le_of_ble_eq_true rfl) (Nat.le_of_ble_eq_true rfl) rfl rfl rfl (fun v σ2 q => ?_)
        obtain ⟨rfl, e9⟩ := q
        rw [e9]
        clear e9
        refine tt_istore_n (lv2 := [_, _, _]) d_X_oar_16 (by decide) rfl ?_
        refine tt_iconst (v := nI 0) d_X_oar_17 (by decide) ?_
        refine tt_istore_n (lv2 := [_, _, _]) d_X_oar_18 (by decide) rfl ?_
        refine tt_iload_n d_X_oar_19 rfl ?_
        refine tt_iconst (v := (-1)) d_X_oar_20 (by decide) ?_
        refine tt_ic_ne (t := 40) d_X_oar_21 (by decide) (fun c_21 => ?_) (fun c_21 => ?_)
        · exact absurd (hg.mpr cf) c_21
        · refine tt_aload_n d_X_oar_24 rfl ?_
          refine tt_getR d_X_oar_25 rfl rfl (by decide) rfl rfl ?_
          refine tt_aload_n d_X_oar_28 rfl ?_
          refine tt_getR d_X_oar_29 rfl rfl (by decide) rfl rfl ?_
          refine tt_callV (x_push20 (d := d) hl hw) cw_Past_push rfl rfl (by decide) rfl (by omega) d_X_oar_32 rfl rfl (Nat.le_of_ble_eq_true rfl) (Nat.le_of_ble_eq_true rfl) rfl rfl rfl (fun v σ2 q => ?_)
          obtain ⟨rfl, hw1, hF1⟩ := q
          refine tt_aload_n d_X_oar_35 rfl ?_
          refine tt_callV (x_addP (d := d) ho hX cf hw1) cw_X_addPromises rfl rfl (by decide) rfl (by omega) d_X_oar_36 rfl rfl (Nat.le_of_ble_eq_true rfl) (Nat.le_of_ble_eq_true rfl) rfl rfl rfl (fun v σ2 q => ?_)
          obtain ⟨rfl, hw2, hF⟩ := q
          have hz := hw2.tx
          refine tt_istore_n (lv2 := [_, _, _]) d_X_oar_39 (by decide) rfl ?_
          refine tt_aload_n d_X_oar_40 rfl ?_
          refine tt_getR d_X_oar_41 rfl rfl (by decide) rfl rfl ?_
          refine tt_callV (x_Text_clear (d := d)) cw_Text_clear rfl rfl (by decide) rfl (by omega) d_X_oar_44 rfl rfl (Nat.le_of_ble_eq_true rfl) (Nat.le_of_ble_eq_true rfl) rfl rfl rfl (fun v σ2 q => ?_)
          obtain ⟨rfl, e9⟩ := q
          rw [e9]
          clear e9
          refine tt_iload_n d_X_oar_47 rfl ?_
          refine tt_iconst (v := (-1)) d_X_oar_48 (by decide) ?_
          refine tt_ic_ne (t := 56) d_X_oar_49 (by decide) (fun c_49 => ?_) (fun c_49 => ?_)
          · exact absurd (hg.mpr cf) c_49
          · refine tt_iload_n d_X_oar_52 rfl ?_
            refine tt_goto (t := 59) d_X_oar_53 (by decide) ?_
            refine tt_iret rfl d_X_oar_59 ?_
            exact ⟨rfl, hz.1, hF1.tr (hF.tr hz.2)⟩
      · omega
    · rw [if_neg cf]
      refine tt_aload_n d_X_oar_0 rfl ?_
      refine tt_getR d_X_oar_1 rfl rfl (by decide) rfl rfl ?_
      refine tt_callV (x_Text_length (d := d)) cw_Text_length rfl rfl (by decide) rfl (by omega) d_X_oar_4 rfl rfl (Nat.le_of_ble_eq_true rfl) (Nat.le_of_ble_eq_true rfl) rfl rfl rfl (fun v σ2 q => ?_)
      obtain ⟨rfl, e9⟩ := q
      rw [e9, hx.1]
      clear e9
      refine tn_if_ne (t := 12) (by omega) d_X_oar_7 (by decide) (fun c_7 => ?_) (fun c_7 => ?_)
      · refine tt_aload_n d_X_oar_12 rfl ?_
        refine tt_callV (x_oarF (d := d) h ho hX) cw_X_oarFault rfl rfl (by decide) rfl (by omega) d_X_oar_13 rfl rfl (Nat.le_of_ble_eq_true rfl) (Nat.le_of_ble_eq_true rfl) rfl rfl rfl (fun v σ2 q => ?_)
        obtain ⟨rfl, e9⟩ := q
        rw [e9]
        clear e9
        refine tt_istore_n (lv2 := [_, _, _]) d_X_oar_16 (by decide) rfl ?_
        refine tt_iconst (v := nI 0) d_X_oar_17 (by decide) ?_
        refine tt_istore_n (lv2 := [_, _, _]) d_X_oar_18 (by decide) rfl ?_
        refine tt_iload_n d_X_oar_19 rfl ?_
        refine tt_iconst (v := (-1)) d_X_oar_20 (by decide) ?_
        refine tt_ic_ne (t := 40) d_X_oar_21 (by decide) (fun c_21 => ?_) (fun c_21 => ?_)
        · refine tt_aload_n d_X_oar_40 rfl ?_
          refine tt_getR d_X_oar_41 rfl rfl (by decide) rfl rfl ?_
          refine tt_callV (x_Text_clear (d := d)) cw_Text_clear rfl rfl (by decide) rfl (by omega) d_X_oar_44 rfl rfl (Nat.le_of_ble_eq_true rfl) (Nat.le_of_ble_eq_true rfl) rfl rfl rfl (fun v σ2 q => ?_)
          obtain ⟨rfl, e9⟩ := q
          rw [e9]
          clear e9
          refine tt_iload_n d_X_oar_47 rfl ?_
          refine tt_iconst (v := (-1)) d_X_oar_48 (by decide) ?_
          refine tt_ic_ne (t := 56) d_X_oar_49 (by decide) (fun c_49 => ?_) (fun c_49 => ?_)
          · refine tt_iconst (v := (-1)) d_X_oar_56 (by decide) ?_
            refine tt_iload_n d_X_oar_57 rfl ?_
            rw [(gI_c (show oaA w < 2 ^ 31 by unfold oaA; omega)).2 cf]
            refine tt_isub d_X_oar_58 ?_
            refine tt_iret rfl d_X_oar_59 ?_
            exact ⟨rfl, hw.tx⟩
          · exact absurd (hg.mp (Decidable.not_not.mp c_49)) cf
        · exact absurd (hg.mp (Decidable.not_not.mp c_21)) cf
      · omega

