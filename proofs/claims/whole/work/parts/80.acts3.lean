/-! Small calls: undo, again, keep. Printed by wip/whole. -/
section
variable {A : Nat → Prop} {F : Nat → Nat → Prop} {J : Nat → Prop} {σ τ : xs} {w : wv} {c : Nat}
def vA (u o : Nat) : Nat → Prop := fun c => XqA u o c ∨ (20 ≤ c ∧ c ≤ 24) ∨ (35 ≤ c ∧ c ≤ 111)
def vF (u o : Nat) : Nat → Nat → Prop := fun c k => XqF u o c k ∨ (20 ≤ c ∧ c ≤ 24) ∨ (35 ≤ c ∧ c ≤ 111)
/-- the class's world with another now, told and past -/
theorem XW.putV {v : sv} {t : Nat × (Nat → Int64)} {u : List sv} (h : XW σ w) (hf : Fq (vA (sp σ) (so σ)) (vF (sp σ) (so σ)) XqJ σ τ) (hc : CI τ (sp σ) (V (eW (wE w)) (eM (wE w)))) (hv : ST τ 20 v) (hd : XD τ t) (hu : XP τ u) : XW τ (wE w, v, wX w, t, u, wK w, wS w) ∧ XF σ τ := by
  have hR := h.v.R
  obtain ⟨a, _, x, _, _, k, s⟩ := h
  exact ⟨⟨a.fq hf hc (fun c hc => by unfold vA XqA; omega) (fun c k hc => by unfold vF XqF XqA; omega), hv, x.fq hf (by unfold vA XqA; omega) (by unfold vF XqF XqA; omega), hd, hu, k.fq hf (fun c h1 h2 => by unfold vA XqA; omega) (fun c k h1 h2 => by unfold vF XqF XqA; omega) (by unfold vF XqF XqA; omega), s.fq hf (fun c h1 h2 => by unfold vA XqA; omega) (by unfold vF XqF XqA; omega)⟩, hf.XF (fun c hc => by unfold vA XqA; omega) (fun c k hc => by unfold vF XqF XqA; omega) (fun c hc => by unfold XqJ; omega)⟩
/-- the same where no rule's notes are touched -/
def wA_ : Nat → Prop := fun c => (14 ≤ c ∧ c ≤ 111)
def wF_ : Nat → Nat → Prop := fun c _ => c = 3 ∨ (19 ≤ c ∧ c ≤ 20) ∨ c = 25 ∨ c = 30 ∨ (35 ≤ c ∧ c ≤ 111)
theorem XW.putN {v : sv} {t : Nat × (Nat → Int64)} {u : List sv} (h : XW σ w) (hf : Fq (fun c => 15 ≤ c ∧ c ≤ 111) wF_ XqJ σ τ) (hv : ST τ 20 v) (hd : XD τ t) (hu : XP τ u) : XW τ (wE w, v, wX w, t, u, wK w, wS w) ∧ XF σ τ := by
  have hR := h.v.R
  exact h.putV (hf.mono (fun c hc => by unfold vA XqA; omega) (fun c k hc => by unfold wF_ at hc; unfold vF XqF XqA; omega) (fun _ q => q)) (h.1.2.2.2.2.fq hf (by omega) (by omega)) hv hd hu
theorem XW.putK {kp : Nat → Option sv} (h : XW σ w) (hf : Fq (fun c => 139 ≤ c ∧ c ≤ 153) (fun c k => (139 ≤ c ∧ c ≤ 153) ∨ (c = 0 ∧ k = 14)) (fun _ => False) σ τ) (hk : XK τ kp) : XW τ (wE w, wV w, wX w, wD w, wU w, kp, wS w) ∧ XF σ τ := by
  obtain ⟨a, b, x, d, u, _, s⟩ := h
  exact ⟨⟨a.fr hf (fun c hc => by omega) (fun c k hc => by omega), b.fq hf (fun k hk => by omega) (fun k hk => by omega), x.fq hf (by omega) (by omega), d.fq hf id (by omega), u.fq hf (fun c h1 h2 => by omega) (fun c k h1 h2 => by omega), hk, s.fq hf (fun c h1 h2 => by omega) (by omega)⟩, hf.XF (fun c hc => by omega) (fun c k hc => by omega) (fun c hc => id)⟩
def yA : Nat → Prop := fun c => YqA c ∨ c = 160 ∨ c = 171
def yF : Nat → Nat → Prop := fun c k => YqF c k ∨ (c = 154 ∧ k = 30)
theorem YW.putV {v : sv} {t : Nat × (Nat → Int64)} {u : List sv} (h : YW σ c w) (hf : Fq yA yF YqJ σ τ) (hv : SY τ 160 (eN (wE w)) v) (hd : YD τ t) (hu : YP τ (eN (wE w)) u) : YW τ c (wE w, v, wX w, t, u, wK w, wS w) ∧ YF σ τ := by
  obtain ⟨a, _, x, _, _, k, s⟩ := h
  exact ⟨⟨a.fq hf (fun c hc => by unfold yA YqA; omega) (fun k hk => by unfold yF YqF; omega), hv, x.fq hf (by unfold yA YqA; omega) (by unfold yF YqF; omega), hd, hu, k.fq hf (fun c h1 h2 => by unfold yA YqA; omega) (by unfold yF YqF; omega), s.fq hf (fun c h1 h2 => by unfold yA YqA; omega) (by unfold yF YqF; omega)⟩, hf.YF (fun c hc => by unfold yA YqA; omega) (fun c k hc => by unfold yF YqF; omega) (fun c hc => by unfold YqJ; omega)⟩
theorem YW.putK {kp : Nat → Option sv} (h : YW σ c w) (hf : Fq (fun c => 186 ≤ c ∧ c ≤ 188) (fun _ _ => False) (fun _ => False) σ τ) (hk : YK τ (eN (wE w)) c kp) : YW τ c (wE w, wV w, wX w, wD w, wU w, kp, wS w) ∧ YF σ τ := by
  obtain ⟨a, b, x, d, u, _, s⟩ := h
  exact ⟨⟨a.fq hf (fun c hc => by omega) (fun k hk => id), SY_o b (hf.1 160 (by omega)), x.fq hf (by omega) id, d.fq hf id id, u.fq hf (by omega) id, hk, s.fq hf (fun c h1 h2 => by omega) id⟩, hf.YF (fun c hc => by omega) (fun c k hc => id) (fun c hc => id)⟩
end
def a_undo (w : wv) : Int32 × wv := match wU w with
  | [] => (-1, w)
  | v :: u => (nI u.length, (wE w, v, wX w, wD w, u, wK w, wS w))
def uqK (kp : Nat → Option sv) (i : Nat) (v : sv) : Nat → Option sv := fun j => if j = i then some v else kp j
def a_keep (w : wv) (n : Int32) : Int32 × wv := match inN n 3 with
  | none => (nI 0, w)
  | some i => (nI 1, (wE w, wV w, wX w, wD w, wU w, uqK (wK w) i (wV w), wS w))
def a_again (w : wv) (n : Int32) : Int32 × wv := match inN n 3 with
  | none => (nI 0, w)
  | some i => match wK w i with
    | none => (nI 0, w)
    | some v => (nI 1, (wE w, v, wX w, wD w, [], wK w, wS w))
theorem isS_p {k : Nat} (h : k < 15) : isS (37 + 5 * k) := by
  have : ∀ k, k < 15 → 37 + 5 * k ∈ xStates := by decide
  exact this k h
theorem isS_k {k : Nat} (h : k < 3) : isS (139 + 5 * k) := by
  have : ∀ k, k < 3 → 139 + 5 * k ∈ xStates := by decide
  exact this k h
theorem XP_len {σ : xs} {u : List sv} (h : XP σ u) : sf σ 35 2 = nI u.length := by
  obtain ⟨k, hk, e1, e2, e3⟩ := h
  exact e2
theorem nI_sub1 (n : Nat) : nI (n + 1) - nI 1 = nI n := by
  rw [← nI_add, Int32.add_sub_cancel]
theorem cp_st {τ : xs} {b i n : Nat} {g : Nat → Int32} (h : ∀ j, j < i → si τ b (n + j) = g j) : ∀ j, j < i + 1 → si (wI τ b (n + i) (g i)) b (n + j) = g j := fun j hj => by
  rw [si_wI]
  by_cases c : j = i
  · rw [if_pos ⟨rfl, by omega⟩, c]
  · rw [if_neg (fun q => c (by omega))]
    exact h j (by omega)
theorem cs_st {τ : xs} {b i : Nat} {g : Nat → Int32} (h : ∀ j, j < i → si τ b j = g j) : ∀ j, j < i + 1 → si (wI τ b i (g i)) b j = g j := fun j hj => by
  rw [si_wI]
  by_cases c : j = i
  · rw [if_pos ⟨rfl, c⟩, c]
  · rw [if_neg (fun q => c q.2)]
    exact h j (by omega)
theorem XP_nil {σ : xs} {u : List sv} (h : XP σ u) : XP (wF σ 35 2 (nI 0)) [] := by
  obtain ⟨k, hk, e1, e2, e3⟩ := h
  exact ⟨k, hk, e1, rfl, fun j hj => absurd hj (Nat.not_lt_zero j)⟩
theorem X_pop_w {σ : xs} {w : wv} {v : sv} {u : List sv} {k : Nat} (h : XW σ w) (hU : wU w = v :: u) (hl : (wU w).length ≤ 15) (hk : k < 15) (e3 : ∀ j, j < (wU w).length → ST σ (37 + 5 * ((k + 14 - j) % 15)) ((wU w).getD j v0)) : XW (X_pop σ 20 k (wU w).length) (wE w, v, wX w, wD w, u, wK w, wS w) ∧ XF σ (X_pop σ 20 k (wU w).length) := by
  have hm : (k + 15 - 1) % 15 < 15 := Nat.mod_lt _ (by decide)
  rw [hU] at e3 hl ⊢
  have hl' : u.length + 1 ≤ 15 := hl
  have f1 : Fq (fun c => 15 ≤ c ∧ c ≤ 111) wF_ XqJ σ (wF (wF σ 35 1 (nI ((k + 15 - 1) % 15))) 35 2 (nI ((v :: u).length - 1))) := Fq.tr (Fq.wF (by unfold wF_; omega)) (Fq.wF (by unfold wF_; omega))
  have f2 : Fq (fun c => 15 ≤ c ∧ c ≤ 111) wF_ XqJ (wF (wF σ 35 1 (nI ((k + 15 - 1) % 15))) 35 2 (nI ((v :: u).length - 1))) (X_pop σ 20 k (v :: u).length) := Fq_copy isS_20 (isS_p hm) (fun c hc => by omega) (fun k hk => by unfold wF_; omega)
  have f3 : Fq (fun c => 21 ≤ c ∧ c ≤ 24) (fun c k => c = 20) (fun _ => False) (wF (wF σ 35 1 (nI ((k + 15 - 1) % 15))) 35 2 (nI ((v :: u).length - 1))) (X_pop σ 20 k (v :: u).length) := Fq_copy isS_20 (isS_p hm) (fun c hc => by omega) (fun k hk => rfl)
  have g1 : Fq (fun _ => False) (fun c k => c = 35) (fun _ => False) σ (wF (wF σ 35 1 (nI ((k + 15 - 1) % 15))) 35 2 (nI ((v :: u).length - 1))) := Fq.tr (Fq.wF rfl) (Fq.wF rfl)
  refine h.putN (f1.tr f2) ?_ ((h.2.2.2.1.fq g1 id (by omega)).fq f3 id (by omega)) ⟨(k + 15 - 1) % 15, hm, ?_, ?_, fun j hj => ?_⟩
  · refine ST_copy isS_20 (isS_p hm) ?_
    have := e3 0 (by show 0 < u.length + 1; omega)
    rw [show (k + 14 - 0) % 15 = (k + 15 - 1) % 15 by omega] at this
    exact this.fq g1 (fun _ _ => id) (fun k hk => by omega)
  · exact (f3.2.1 35 1 (by omega)).trans rfl
  · exact (f3.2.1 35 2 (by omega)).trans rfl
  · have := e3 (j + 1) (by show j + 1 < u.length + 1; omega)
    rw [show (k + 14 - (j + 1)) % 15 = ((k + 15 - 1) % 15 + 14 - j) % 15 by omega] at this
    exact (this.fq g1 (fun _ _ => id) (fun k hk => by omega)).fq f3 (fun k hk => by omega) (fun k hk => by omega)
set_option maxHeartbeats 4000000 in
theorem xc_undo {l : xLa} {d : Nat} {σ : xs} {w : wv} (ho : okQ w) (hw : XW σ w) (hl : (wU w).length ≤ 15) : TC l M_X_undo (d + 30) [.ref 0] σ (fun r τ => r = some (.int (a_undo w).1) ∧ XW τ (a_undo w).2 ∧ XF σ τ) := by
  show T l M_X_undo (d + 30) 0 _ [] σ _
  refine T_lv (lv2 := [_]) rfl ?_
  have h := XQ.rf hw.v
  have hd0 := hw.2.2.2.1
  have hb0 := ho.fb
  have hb8 := ho.n8
  obtain ⟨k, hk, e1, e2, e3⟩ := hw.2.2.2.2.1
  rcases hU : wU w with _ | ⟨v, u⟩
  · have hqv : a_undo w = (-1, w) := by unfold a_undo; rw [hU]
    have h0 : (wU w).length = 0 := by rw [hU]; rfl
    rw [hqv]
    refine tt_aload_n d_X_undo_0 rfl ?_
    refine tt_getR d_X_undo_1 rfl rfl (by decide) rfl rfl ?_
    refine tt_aload_n d_X_undo_4 rfl ?_
    refine tt_getR d_X_undo_5 rfl rfl (by decide) rfl rfl ?_
    refine tt_callV (x_Past_pop (d := d) isS_20 e1 hk e2 hl) cw_Past_pop rfl rfl (by decide) rfl (by omega) d_X_undo_8 rfl rfl (Nat.le_of_ble_eq_true rfl) (Nat.le_of_ble_eq_true rfl) rfl rfl rfl (fun v σ2 q => ?_)
    obtain ⟨rfl, e9⟩ := q
    rw [if_pos h0] at e9
    rw [e9, if_pos h0]
    clear e9
    refine tn_if_eq (t := 24) (by omega) d_X_undo_11 (by decide) (fun c_11 => ?_) (fun c_11 => ?_)
    · refine tt_iconst (v := (-1)) d_X_undo_24 (by decide) ?_
      refine tt_iret rfl d_X_undo_25 ?_
      exact ⟨rfl, h.ww hd0, h.2.1⟩
    · exact absurd rfl c_11
  · have hqv : a_undo w = (nI u.length, (wE w, v, wX w, wD w, u, wK w, wS w)) := by unfold a_undo; rw [hU]
    have h0 : (wU w).length = u.length + 1 := by rw [hU]; rfl
    rw [hqv]
    refine tt_aload_n d_X_undo_0 rfl ?_
    refine tt_getR d_X_undo_1 rfl rfl (by decide) rfl rfl ?_
    refine tt_aload_n d_X_undo_4 rfl ?_
    refine tt_getR d_X_undo_5 rfl rfl (by decide) rfl rfl ?_
    refine tt_callV (x_Past_pop (d := d) isS_20 e1 hk e2 hl) cw_Past_pop rfl rfl (by decide) rfl (by omega) d_X_undo_8 rfl rfl (Nat.le_of_ble_eq_true rfl) (Nat.le_of_ble_eq_true rfl) rfl rfl rfl (fun v σ2 q => ?_)
    obtain ⟨rfl, e9⟩ := q
    rw [if_neg (by omega)] at e9
    rw [e9, if_neg (by omega)]
    clear e9
    have y := X_pop_w hw hU hl hk e3
    have y2 := XP_len y.1.2.2.2.2.1
    refine tn_if_eq (t := 24) (by omega) d_X_undo_11 (by decide) (fun c_11 => ?_) (fun c_11 => ?_)
    · exact absurd c_11 (by decide)
    · refine tt_aload_n d_X_undo_14 rfl ?_
      refine tt_getR d_X_undo_15 rfl rfl (by decide) rfl rfl ?_
      refine tn_get d_X_undo_18 rfl rfl (by decide) rfl y2 ?_
      refine tt_goto (t := 25) d_X_undo_21 (by decide) ?_
      refine tt_iret rfl d_X_undo_25 ?_
      exact ⟨rfl, y.1, y.2⟩

set_option maxHeartbeats 4000000 in
theorem y_undo_l {l : xLa} {d : Nat} {σ : xs} {c : Nat} {w : wv} {u : Nat} (ho : okQ w) (hu : u < 15) (hn : sf σ 154 30 = nI u) : ∀ (m : Nat) (i : Nat) (τ : xs), 38 - i = m → i ≤ 38 → Fq (fun c => c = 160) (fun _ _ => False) (fun _ => False) σ τ → (∀ j, j < i → si τ 160 j = si σ 171 (38 * u + j)) → T l M_Y_undo (d + 150) 26 [some (.ref 154), some (.int (nI i))] [] τ (fun r υ => r = some (.int (nI u)) ∧ Fq (fun c => c = 160) (fun _ _ => False) (fun _ => False) σ υ ∧ ∀ j, j < 38 → si υ 160 j = si σ 171 (38 * u + j)) := by
  have hb0 := ho.fb
  have hb8 := ho.n8
  intro m
  induction m using Nat.strongRecOn with
  | ind m ih =>
    intro i τ hm hi hF hX
    refine tt_iload_n d_Y_undo_26 rfl ?_
    refine tt_bipush (v := nI 38) d_Y_undo_27 (by decide) ?_
    refine tn_ic_ge (t := 58) (by omega) (by omega) d_Y_undo_29 (by decide) (fun c_29 => ?_) (fun c_29 => ?_)
    · obtain rfl : i = 38 := by omega
      refine tt_aload_n d_Y_undo_58 rfl ?_
      refine tn_get d_Y_undo_59 rfl rfl (by decide) rfl ((hF.2.1 154 30 id).trans hn) ?_
      refine tt_iret rfl d_Y_undo_62 ?_
      exact ⟨rfl, hF, hX⟩
    · refine tt_aload_n d_Y_undo_32 rfl ?_
      refine tt_getR d_Y_undo_33 rfl rfl (by decide) rfl rfl ?_
      refine tt_iload_n d_Y_undo_36 rfl ?_
      refine tt_aload_n d_Y_undo_37 rfl ?_
      refine tt_getR d_Y_undo_38 rfl rfl (by decide) rfl rfl ?_
      refine tt_bipush (v := nI 38) d_Y_undo_41 (by decide) ?_
      refine tt_aload_n d_Y_undo_43 rfl ?_
      refine tn_get d_Y_undo_44 rfl rfl (by decide) rfl ((hF.2.1 154 30 id).trans hn) ?_
      refine tn_imul d_Y_undo_47 ?_
      refine tt_iload_n d_Y_undo_48 rfl ?_
      refine tn_iadd d_Y_undo_49 ?_
      refine tn_iald d_Y_undo_50 rfl (by decide) (by omega) (show si τ 171 (38 * u + i) = si σ 171 (38 * u + i) from by rw [hF.1 171 (by omega)]) ?_
      refine tn_iast d_Y_undo_51 rfl (by decide) (by omega) ?_
      refine tt_iinc (lv2 := [_, _]) d_Y_undo_52 rfl (nI_inc _ 1) (by decide) rfl ?_
      refine tt_goto (t := 26) d_Y_undo_55 (by decide) ?_
      exact ih (38 - (i + 1)) (by omega) (i + 1) _ rfl (by omega) (hF.tr (Fq.wI rfl)) (cs_st hX)

theorem Y_pop_w {σ τ : xs} {c : Nat} {w : wv} {v : sv} {u : List sv} (h8 : eN (wE w) ≤ 8) (h : YW σ c w) (hU : wU w = v :: u) (hf : Fq (fun c => c = 160) (fun _ _ => False) (fun _ => False) (wF σ 154 30 (nI u.length)) τ) (hX : ∀ j, j < 38 → si τ 160 j = si σ 171 (38 * u.length + j)) : YW τ c (wE w, v, wX w, wD w, u, wK w, wS w) ∧ YF σ τ := by
  have f1 : Fq (fun c => c = 160) (fun c k => c = 154 ∧ k = 30) (fun _ => False) σ τ := Fq.tr (Fq.wF ⟨rfl, rfl⟩) (hf.mono (fun _ q => q) (fun _ _ q => q.elim) (fun _ q => q))
  have hP := h.2.2.2.2.1
  rw [hU] at hP
  refine h.putV (f1.mono (fun c hc => by unfold yA; omega) (fun c k hc => by unfold yF; omega) (fun _ q => q.elim)) ?_ (h.2.2.2.1.fq f1 id (by omega)) ⟨(hf.2.1 154 30 id).trans rfl, fun j hj => ?_⟩
  · have := hP.2 0 (by show 0 < u.length + 1; omega)
    exact rO_c h8 this (fun k hk => by rw [hX k hk]; rfl)
  · have := hP.2 (j + 1) (by show j + 1 < u.length + 1; omega)
    rw [f1.1 171 (by omega)]
    have e : (v :: u).length - 1 - (j + 1) = u.length - 1 - j := by show u.length + 1 - 1 - (j + 1) = _; omega
    rw [e] at this
    exact this
set_option maxHeartbeats 4000000 in
theorem yc_undo {l : xLa} {d c : Nat} {σ : xs} {w : wv} (ho : okQ w) (hw : YW σ c w) (hl : (wU w).length ≤ 15) : TC l M_Y_undo (d + 150) [.ref 154] σ (fun r τ => r = some (.int (a_undo w).1) ∧ YW τ c (a_undo w).2 ∧ YF σ τ) := by
  show T l M_Y_undo (d + 150) 0 _ [] σ _
  refine T_lv (lv2 := [_, _]) rfl ?_
  have h := YQ.rf hw.v
  have hd0 := hw.2.2.2.1
  have hb0 := ho.fb
  have hb8 := ho.n8
  rcases hU : wU w with _ | ⟨v, u⟩
  · have hqv : a_undo w = (-1, w) := by unfold a_undo; rw [hU]
    have h0 : (wU w).length = 0 := by rw [hU]; rfl
    rw [hqv]
    refine tt_aload_n d_Y_undo_0 rfl ?_
    refine tt_iconst (v := nI 0) d_Y_undo_1 (by decide) ?_
    refine tt_putI d_Y_undo_2 rfl rfl (by decide) rfl (xpok_int rfl) rfl ?_
    replace h := h.thr (x := nI 0)
    replace hd0 := hd0.thr (x := nI 0)
    refine tt_aload_n d_Y_undo_5 rfl ?_
    refine tn_get d_Y_undo_6 rfl rfl (by decide) rfl h.1.2.2.2.1.1 ?_
    refine tn_if_ne (t := 14) (by omega) d_Y_undo_9 (by decide) (fun c_9 => ?_) (fun c_9 => ?_)
    · omega
    · refine tt_iconst (v := (-1)) d_Y_undo_12 (by decide) ?_
      refine tt_iret rfl d_Y_undo_13 ?_
      exact ⟨rfl, h.ww hd0, h.2⟩
  · have hqv : a_undo w = (nI u.length, (wE w, v, wX w, wD w, u, wK w, wS w)) := by unfold a_undo; rw [hU]
    have h0 : (wU w).length = u.length + 1 := by rw [hU]; rfl
    rw [hqv]
    refine tt_aload_n d_Y_undo_0 rfl ?_
    refine tt_iconst (v := nI 0) d_Y_undo_1 (by decide) ?_
    refine tt_putI d_Y_undo_2 rfl rfl (by decide) rfl (xpok_int rfl) rfl ?_
    replace h := h.thr (x := nI 0)
    replace hd0 := hd0.thr (x := nI 0)
    refine tt_aload_n d_Y_undo_5 rfl ?_
    refine tn_get d_Y_undo_6 rfl rfl (by decide) rfl h.1.2.2.2.1.1 ?_
    refine tn_if_ne (t := 14) (by omega) d_Y_undo_9 (by decide) (fun c_9 => ?_) (fun c_9 => ?_)
    · refine tt_aload_n d_Y_undo_14 rfl ?_
      refine tt_dup d_Y_undo_15 rfl ?_
      refine tn_get d_Y_undo_16 rfl rfl (by decide) rfl h.1.2.2.2.1.1 ?_
      refine tt_iconst (v := nI 1) d_Y_undo_19 (by decide) ?_
      refine tt_isub d_Y_undo_20 ?_
      refine tt_top (show nI (wU w).length - nI 1 = nI u.length from by rw [h0]; exact nI_sub1 _) ?_
      refine tt_putI d_Y_undo_21 rfl rfl (by decide) rfl (xpok_int rfl) rfl ?_
      refine tt_iconst (v := nI 0) d_Y_undo_24 (by decide) ?_
      refine tt_istore_n (lv2 := [_, _]) d_Y_undo_25 (by decide) rfl ?_
      refine T.mono (y_undo_l (c := c) (u := u.length) ho (by omega) rfl 38 0 _ rfl (by omega) Fq.rf (fun j hj => absurd hj (Nat.not_lt_zero j))) ?_
      rintro r υ ⟨rfl, z1, z2⟩
      have z := Y_pop_w hb8 (h.ww hd0) hU z1 z2
      exact ⟨rfl, z.1, h.2.tr z.2⟩
    · omega

