/-! Small calls: undo, again, keep. Printed by wip/whole. -/
section
variable {A : Nat → Prop} {F : Nat → Nat → Prop} {J : Nat → Prop} {σ τ : xs} {w : wv} {c : Nat}
def vA (u o : Nat) : Nat → Prop := fun c => XqA u o c ∨ (20 ≤ c ∧ c ≤ 24) ∨ (35 ≤ c ∧ c ≤ 111)
def vF (u o : Nat) : Nat → Nat → Prop := fun c k => XqF u o c k ∨ c = 20 ∨ (35 ≤ c ∧ c ≤ 111)
/-- the class's world with another now, told and past -/
theorem XW.putV {v : sv} {t : Nat × (Nat → Int64)} {u : List sv} (h : XW σ w) (hf : Fq (vA (sp σ) (so σ)) (vF (sp σ) (so σ)) XqJ σ τ) (hc : CI τ (sp σ) (V (eW (wE w)) (eM (wE w)))) (hv : ST τ 20 v) (hd : XD τ t) (hu : XP τ u) : XW τ (wE w, v, wX w, t, u, wK w, wS w) ∧ XF σ τ := by
  have hR := h.v.R
  obtain ⟨a, _, x, _, _, k, s⟩ := h
  exact ⟨⟨a.fq hf hc (fun c hc => by unfold vA XqA; omega) (fun c k hc => by unfold vF XqF XqA; omega), hv, x.fq hf (by unfold vA XqA; omega) (by unfold vF XqF XqA; omega), hd, hu, k.fq hf (fun c h1 h2 => by unfold vA XqA; omega) (fun c k h1 h2 => by unfold vF XqF XqA; omega) (by unfold vF XqF XqA; omega), s.fq hf (fun c h1 h2 => by unfold vA XqA; omega) (by unfold vF XqF XqA; omega)⟩, hf.XF (fun c hc => by unfold vA XqA; omega) (fun c k hc => by unfold vF XqF XqA; omega) (fun c hc => by unfold XqJ; omega)⟩
/-- the same where no rule's notes are touched -/
def wA_ : Nat → Prop := fun c => (14 ≤ c ∧ c ≤ 111)
def wF_ : Nat → Nat → Prop := fun c _ => c = 3 ∨ (19 ≤ c ∧ c ≤ 20) ∨ c = 25 ∨ c = 30 ∨ (35 ≤ c ∧ c ≤ 111)
theorem XW.putN {v : sv} {t : Nat × (Nat → Int64)} {u : List sv} (h : XW σ w) (hf : Fq (fun c => 15 ≤ c ∧ c ≤ 111) wF_ XqJ σ τ) (hv : ST τ 20 v) (hd : XD τ t) (hu : XP τ u) : XW τ (wE w, v, wX w, t, u, wK w, wS w) ∧ XF σ τ := by
  have hR := h.v.R
  exact h.putV (hf.mono (fun c hc => by unfold vA XqA; omega) (fun c k hc => by unfold wF_ at hc; unfold vF XqF XqA; omega) (fun _ q => q)) (h.1.2.2.2.2.fq hf (by omega) (by omega)) hv hd hu
theorem XW.putK {kp : Nat → Option sv} (h : XW σ w) (hf : Fq (fun c => 139 ≤ c ∧ c ≤ 153) (fun c k => (139 ≤ c ∧ c ≤ 153) ∨ (c = 0 ∧ k = 14)) (fun _ => False) σ τ) (hk : XK τ kp) : XW τ (wE w, wV w, wX w, wD w, wU w, kp, wS w) ∧ XF σ τ := by
  obtain ⟨a, b, x, d, u, _, s⟩ := h
  exact ⟨⟨a.fr hf (fun c hc => by omega) (fun c k hc => by omega), b.fq hf (fun k hk => by omega) (fun k hk => by omega), x.fq hf (by omega) (by omega), d.fq hf id (by omega), u.fq hf (fun c h1 h2 => by omega) (fun c k h1 h2 => by omega), hk, s.fq hf (fun c h1 h2 => by omega) (by omega)⟩, hf.XF (fun c hc => by omega) (fun c k hc => by omega) (fun c hc => id)⟩
def yA : Nat → Prop := fun c => YqA c ∨ c = 160 ∨ c = 171
def yF : Nat → Nat → Prop := fun c k => YqF c k ∨ (c = 154 ∧ k = 30)
theorem YW.putV {v : sv} {t : Nat × (Nat → Int64)} {u : List sv} (h : YW σ c w) (hf : Fq yA yF YqJ σ τ) (hv : SY τ 160 (eN (wE w)) v) (hd : YD τ t) (hu : YP τ (eN (wE w)) u) : YW τ c (wE w, v, wX w, t, u, wK w, wS w) ∧ YF σ τ := by
  obtain ⟨a, _, x, _, _, k, s⟩ := h
  exact ⟨⟨a.fq hf (fun c hc => by unfold yA YqA; omega) (fun k hk => by unfold yF YqF; omega), hv, x.fq hf (by unfold yA YqA; omega) (by unfold yF YqF; omega), hd, hu, k.fq hf (fun c h1 h2 => by unfold yA YqA; omega) (by unfold yF YqF; omega), s.fq hf (fun c h1 h2 => by unfold yA YqA; omega) (by unfold yF YqF; omega)⟩, hf.YF (fun c hc => by unfold yA YqA; omega) (fun c k hc => by unfold yF YqF; omega) (fun c hc => by unfold YqJ; omega)⟩
theorem YW.putK {kp : Nat → Option sv} (h : YW σ c w) (hf : Fq (fun c => 186 ≤ c ∧ c ≤ 188) (fun _ _ => False) (fun _ => False) σ τ) (hk : YK τ (eN (wE w)) c kp) : YW τ c (wE w, wV w, wX w, wD w, wU w, kp, wS w) ∧ YF σ τ := by
  obtain ⟨a, b, x, d, u, _, s⟩ := h
  exact ⟨⟨a.fq hf (fun c hc => by omega) (fun k hk => id), SY_o b (hf.1 160 (by omega)), x.fq hf (by omega) id, d.fq hf id id, u.fq hf (by omega) id, hk, s.fq hf (fun c h1 h2 => by omega) id⟩, hf.YF (fun c hc => by omega) (fun c k hc => id) (fun c hc => id)⟩
end
def a_undo (w : wv) : Int32 × wv := match wU w with
  | [] => (-1, w)
  | v :: u => (nI u.length, (wE w, v, wX w, wD w, u, wK w, wS w))
def uqK (kp : Nat → Option sv) (i : Nat) (v : sv) : Nat → Option sv := fun j => if j = i then some v else kp j
def a_keep (w : wv) (n : Int32) : Int32 × wv := match inN n 3 with
  | none => (nI 0, w)
  | some i => (nI 1, (wE w, wV w, wX w, wD w, wU w, uqK (wK w) i (wV w), wS w))
def a_again (w : wv) (n : Int32) : Int32 × wv := match inN n 3 with
  | none => (nI 0, w)
  | some i => match wK w i with
    | none => (nI 0, w)
    | some v => (nI 1, (wE w, v, wX w, wD w, [], wK w, wS w))
theorem isS_p {k : Nat} (h : k < 15) : isS (37 + 5 * k) := by
  have : ∀ k, k < 15 → 37 + 5 * k ∈ xStates := by decide
  exact this k h
theorem isS_k {k : Nat} (h : k < 3) : isS (139 + 5 * k) := by
  have : ∀ k, k < 3 → 139 + 5 * k ∈ xStates := by decide
  exact this k h
theorem XP_nil {σ : xs} {u : List sv} (h : XP σ u) : XP (wF σ 35 2 (nI 0)) [] := by
  obtain ⟨k, hk, e1, e2, e3⟩ := h
  exact ⟨k, hk, e1, rfl, fun j hj => absurd hj (Nat.not_lt_zero j)⟩
theorem X_pop_w {σ : xs} {w : wv} {v : sv} {u : List sv} {k : Nat} (h : XW σ w) (hU : wU w = v :: u) (hl : (wU w).length ≤ 15) (hk : k < 15) (e3 : ∀ j, j < (wU w).length → ST σ (37 + 5 * ((k + 14 - j) % 15)) ((wU w).getD j v0)) : XW (X_pop σ 20 k (wU w).length) (wE w, v, wX w, wD w, u, wK w, wS w) ∧ XF σ (X_pop σ 20 k (wU w).length) := by
  have hm : (k + 15 - 1) % 15 < 15 := Nat.mod_lt _ (by decide)
  rw [hU] at e3 hl ⊢
  have hl' : u.length + 1 ≤ 15 := hl
  have f1 : Fq (fun c => 15 ≤ c ∧ c ≤ 111) wF_ XqJ σ (wF (wF σ 35 1 (nI ((k + 15 - 1) % 15))) 35 2 (nI ((v :: u).length - 1))) := Fq.tr (Fq.wF (by unfold wF_; omega)) (Fq.wF (by unfold wF_; omega))
  have f2 : Fq (fun c => 15 ≤ c ∧ c ≤ 111) wF_ XqJ (wF (wF σ 35 1 (nI ((k + 15 - 1) % 15))) 35 2 (nI ((v :: u).length - 1))) (X_pop σ 20 k (v :: u).length) := Fq_copy isS_20 (isS_p hm) (fun c hc => by omega) (fun k hk => by unfold wF_; omega)
  have f3 : Fq (fun c => 21 ≤ c ∧ c ≤ 24) (fun c k => c = 20) (fun _ => False) (wF (wF σ 35 1 (nI ((k + 15 - 1) % 15))) 35 2 (nI ((v :: u).length - 1))) (X_pop σ 20 k (v :: u).length) := Fq_copy isS_20 (isS_p hm) (fun c hc => by omega) (fun k hk => rfl)
  have g1 : Fq (fun _ => False) (fun c k => c = 35) (fun _ => False) σ (wF (wF σ 35 1 (nI ((k + 15 - 1) % 15))) 35 2 (nI ((v :: u).length - 1))) := Fq.tr (Fq.wF rfl) (Fq.wF rfl)
  refine h.putN (f1.tr f2) ?_ (h.2.2.2.1.fq (f1.tr f2) ?_ ?_) ⟨(k + 15 - 1) % 15, hm, ?_, ?_, fun j hj => ?_⟩
  · refine ST_copy isS_20 (isS_p hm) ?_
    have := e3 0 (by show 0 < u.length + 1; omega)
    rw [show (k + 14 - 0) % 15 = (k + 15 - 1) % 15 by omega] at this
    exact this.fq g1 (fun _ _ => id) (fun k hk => by omega)
  · unfold XqJ
    sorry
  · unfold wF_
    omega
  · exact (f3.2.1 35 1 (by omega)).trans rfl
  · exact (f3.2.1 35 2 (by omega)).trans rfl
  · have := e3 (j + 1) (by show j + 1 < u.length + 1; omega)
    rw [show (k + 14 - (j + 1)) % 15 = ((k + 15 - 1) % 15 + 14 - j) % 15 by omega] at this
    exact (this.fq g1 (fun _ _ => id) (fun k hk => by omega)).fq f3 (fun k hk => by omega) (fun k hk => by omega)
