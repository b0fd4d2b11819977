/-! Steps over water: the reference; measureFrom and laysSteps as questions. Printed by wip/whole. -/
/-- as the reference lays them -/
def nvN (t : Nat) : Nat := if t = 0 then 1000000 else t - 1
/-- what holds while steps are laid: n sweeps are through, in the next one all below f, and the ways of f below w -/
def LV (R C : Nat) (B : Nat → Nat) (s n f w : Nat) (u : Nat → Nat) : Prop :=
  (∀ g, g < R * C → u g ≤ 1000000 ∧ (u g < 1000000 → dR R C B s (u g) g = true)) ∧ (∀ g, g < R * C → ∀ k, k ≤ n → dR R C B s k g = true → u g ≤ k) ∧
  (∀ g, g < R * C → g < f → dR R C B s (n + 1) g = true → u g ≤ n + 1) ∧ (f < R * C → B f = 0 → ∀ v, v < w → ¬ beN R C f v = 0 → dR R C B s n (beN R C f v - 1) = true → u f ≤ n + 1)
section
variable {R C s n f w : Nat} {B u : Nat → Nat}
def lvU (R C : Nat) (B : Nat → Nat) (f w : Nat) (u : Nat → Nat) : Nat → Nat := fun g => if g = f then (if ¬ beN R C f w = 0 ∧ B f = 0 then min (u f) (u (beN R C f w - 1) + 1) else u f) else u g
theorem lvU_le (g : Nat) : lvU R C B f w u g ≤ u g := by
  unfold lvU
  by_cases c : g = f
  · rw [if_pos c, c]
    split <;> omega
  · rw [if_neg c]; exact Nat.le_refl _
theorem LV_w (hR : R ≤ 6) (hC : C ≤ 6) (hw : w < 4) (hf : f < R * C) (h : LV R C B s n f w u) : LV R C B s n f (w + 1) (lvU R C B f w u) := by
  obtain ⟨a1, a2, a3, a4⟩ := h
  have le := @lvU_le R C f w B u
  refine ⟨fun g hg => ?_, fun g hg k hk hd => Nat.le_trans (le g) (a2 g hg k hk hd), fun g hg hgf hd => Nat.le_trans (le g) (a3 g hg hgf hd), fun _ hB v hv h0 hd => ?_⟩
  · refine ⟨Nat.le_trans (le g) (a1 g hg).1, ?_⟩
    unfold lvU
    by_cases c : g = f
    · rw [if_pos c]
      subst c
      by_cases c2 : ¬ beN R C g w = 0 ∧ B g = 0
      · rw [if_pos c2]
        intro hlt
        have hq : beN R C g w - 1 < R * C := by
          rcases be_c hR hC hw hf with q | q
          · exact absurd q c2.1
          · exact q.1
        by_cases c3 : u g ≤ u (beN R C g w - 1) + 1
        · rw [Nat.min_eq_left c3] at hlt ⊢
          exact (a1 g hg).2 hlt
        · rw [Nat.min_eq_right (by omega)] at hlt ⊢
          exact dR_t.mpr (Or.inr ⟨c2.2, w, hw, c2.1, (a1 _ hq).2 (by omega)⟩)
      · rw [if_neg c2]; exact (a1 g hg).2
    · rw [if_neg c]; exact (a1 g hg).2
  · by_cases c : v = w
    · subst c
      have hq : beN R C f v - 1 < R * C := by
        rcases be_c hR hC hw hf with q | q
        · exact absurd q h0
        · exact q.1
      have := a2 _ hq n (Nat.le_refl _) hd
      unfold lvU
      rw [if_pos rfl, if_pos ⟨h0, hB⟩]
      omega
    · exact Nat.le_trans (le f) (a4 hf hB v (by omega) h0 hd)
theorem LV_f (hf : f < R * C) (h : LV R C B s n f 4 u) : LV R C B s n (f + 1) 0 u := by
  obtain ⟨a1, a2, a3, a4⟩ := h
  refine ⟨a1, a2, fun g hg hgf hd => ?_, fun _ _ v hv => absurd hv (Nat.not_lt_zero v)⟩
  by_cases c : g = f
  · subst c
    rcases dR_t.mp hd with q | ⟨q1, v, q2, q3, q4⟩
    · have := a2 g hg n (Nat.le_refl _) q; omega
    · exact a4 hf q1 v q2 q3 q4
  · exact a3 g hg (by omega) hd
theorem LV_n (h : LV R C B s n (R * C) 0 u) : LV R C B s (n + 1) 0 0 u := by
  obtain ⟨a1, a2, a3, a4⟩ := h
  refine ⟨a1, fun g hg k hk hd => ?_, fun g _ hg => absurd hg (Nat.not_lt_zero g), fun _ _ v hv => absurd hv (Nat.not_lt_zero v)⟩
  by_cases c : k = n + 1
  · subst c; exact a3 g hg hg hd
  · exact a2 g hg k (by omega) hd
theorem LV_0 (hs : s < R * C) (hu : ∀ g, g < R * C → u g = if g = s then 0 else 1000000) : LV R C B s 0 0 0 u := by
  refine ⟨fun g hg => ?_, fun g hg k hk hd => ?_, fun g _ hg => absurd hg (Nat.not_lt_zero g), fun _ _ v hv => absurd hv (Nat.not_lt_zero v)⟩
  · rw [hu g hg]
    by_cases c : g = s
    · rw [if_pos c]; exact ⟨by omega, fun _ => dR_0.mpr c⟩
    · rw [if_neg c]; exact ⟨Nat.le_refl _, fun q => by omega⟩
  · obtain rfl : k = 0 := by omega
    rw [hu g hg, if_pos (dR_0.mp hd)]; exact Nat.le_refl _
theorem LV_e (hR : R ≤ 6) (hC : C ≤ 6) (hs : s < R * C) (h : LV R C B s (R * C) 0 0 u) : ∀ g, g < R * C → u g = nvN (dT R C B s g) ∧ dT R C B s g ≤ 37 := by
  obtain ⟨a1, a2, a3, a4⟩ := h
  have h36 : R * C ≤ 36 := Nat.mul_le_mul hR hC
  intro g hg
  have := dT_of (t := fun g => if u g < 1000000 then u g + 1 else 0) (B := B) hR hC hs (fun f hf k hk => ?_) (fun n hn f hf hd => ?_) hg
  · obtain ⟨q1, q2⟩ := this
    refine ⟨?_, q2⟩
    rw [← q1]
    have := (a1 g hg).1
    show u g = nvN (if u g < 1000000 then u g + 1 else 0)
    unfold nvN
    by_cases c : u g < 1000000
    · rw [if_pos c, if_neg (by omega)]; omega
    · rw [if_neg c, if_pos rfl]; omega
  · replace hk : (if u f < 1000000 then u f + 1 else 0) = k + 1 := hk
    by_cases c : u f < 1000000
    · rw [if_pos c] at hk
      obtain rfl : k = u f := by omega
      exact (a1 f hf).2 c
    · rw [if_neg c] at hk; omega
  · have := a2 f hf n hn hd
    exact ⟨u f, this, if_pos (by omega)⟩
end
theorem nvN_c {t : Nat} (h : t ≤ 37) : nvN t ≤ 1000000 ∧ (nvN t < 1000000 ↔ ¬ t = 0) ∧ (¬ t = 0 → nvN t = t - 1) := by
  unfold nvN
  by_cases c : t = 0
  · rw [if_pos c]; exact ⟨Nat.le_refl _, ⟨fun q => by omega, fun q => absurd c q⟩, fun q => absurd c q⟩
  · rw [if_neg c]; exact ⟨by omega, ⟨fun _ => c, fun _ => by omega⟩, fun _ => rfl⟩
/-- the steps of a world -/
def dW (w : wv) (s f : Nat) : Nat := dT (eR (wE w)) (eC (wE w)) (eB (wE w)) s f
section
variable {l : xLa} {d c : Nat} {σ τ : xs} {w : wv}
theorem xq_mf {s : Nat} (h : XQ w σ τ) (ho : okQ w) (hs : s < eR (wE w) * eC (wE w)) : TC l M_Lake_measureFrom (d + 4) [.ref 5, .int (nI s)] τ (fun r υ => r = none ∧ XQ w σ υ ∧ Tn τ υ ∧ ∀ f, f < eR (wE w) * eC (wE w) → si υ 7 f = gI (dW w s f) ∧ dW w s f ≤ 37) := by
  refine T.mono (x_Lake_measureFrom (d := d) (σ := τ) h.r h.cl ho.1.1.2.1 ho.1.1.2.2.2.1 ho.cp hs) ?_
  rintro r υ ⟨rfl, rfl⟩
  have hr := h.e.2.2.2.1
  have h1 := ho.1.2.2.2
  refine ⟨rfl, h.f0 (Fq.tr (Fq.wA (by unfold sA; omega)) (Fq.wA (by unfold sA; omega))), ⟨rfl, rfl⟩, fun f hf => ?_⟩
  exact bfs_d ho.1.1.2.1 ho.1.1.2.2.2.1 hs hr h1 f hf
end
theorem yq_w182 {c : Nat} {σ τ : xs} {w : wv} {i : Nat} {x : Int32} (h : YQ c w σ τ) : YQ c w σ (wI τ 182 i x) := h.fq (Fq.wI (by unfold YqA; omega))
theorem rk_0 {e : xe} {f : Nat} (h : okE e) (hf : f < 36) : eB e f ≤ 1 := h.2.2.2 f hf
set_option maxHeartbeats 4000000 in
theorem y_lays_l {l : xLa} {d : Nat} {σ : xs} {c : Nat} {w : wv} {s : Nat} {σ0 : xs} (hs : s < eR (wE w) * eC (wE w)) (ho : okQ w) : ∀ (m : Nat) (n f v : Nat) (u : Nat → Nat) (z : Option Int32) (τ : xs), (eR (wE w) * eC (wE w) - n) * 1000 + (eR (wE w) * eC (wE w) - f) * 10 + (4 - v) = m → n < eR (wE w) * eC (wE w) → f < eR (wE w) * eC (wE w) → v ≤ 4 → YQ c w σ τ → Un σ0 τ → LV (eR (wE w)) (eC (wE w)) (eB (wE w)) s n f v u → (∀ g, g < eR (wE w) * eC (wE w) → si τ 182 g = nI (u g)) → T l M_Y_laysSteps (d + 4) 57 [some (.ref 154), some (.int (nI s)), some (.int (nI n)), some (.int (nI f)), some (.int (nI v)), z.map Value.int] [] τ (fun r υ => r = none ∧ YQ c w σ υ ∧ Un σ0 υ ∧ ∀ f, f < eR (wE w) * eC (wE w) → si υ 182 f = nI (nvN (dW w s f)) ∧ dW w s f ≤ 37) := by
  have hb0 := ho.fb
  have hb8 := ho.n8
  intro m
  induction m using Nat.strongRecOn with
  | ind m ih =>
    intro n f v u z τ hm hn hf hv h ht hL hU
    have huf := (hL.1 f hf).1
    refine tt_iload d_Y_laysSteps_57 rfl ?_
    refine tt_iconst (v := nI 4) d_Y_laysSteps_59 (by decide) ?_
    refine tn_ic_ge (t := 125) (by omega) (by omega) d_Y_laysSteps_60 (by decide) (fun c_60 => ?_) (fun c_60 => ?_)
    · obtain rfl : v = 4 := by omega
      refine tt_iinc (lv2 := [_, _, _, _, _, _]) d_Y_laysSteps_125 rfl (nI_inc _ 1) (by decide) rfl ?_
      refine tt_goto (t := 46) d_Y_laysSteps_128 (by decide) ?_
      refine tt_iload_n d_Y_laysSteps_46 rfl ?_
      refine tt_aload_n d_Y_laysSteps_47 rfl ?_
      refine tt_callV (y_fields (d := d) h.e.1.1 h.e.1.2.1 ho.1.1.2.1 ho.1.1.2.2.2.1 ho.cp) cw_Y_fields rfl rfl (by decide) rfl (by omega) d_Y_laysSteps_48 rfl rfl (Nat.le_of_ble_eq_true rfl) (Nat.le_of_ble_eq_true rfl) rfl rfl rfl (fun v σ2 q => ?_)
      obtain ⟨rfl, e9⟩ := q
      rw [e9]
      clear e9
      refine tn_ic_ge (t := 131) (by omega) (by omega) d_Y_laysSteps_51 (by decide) (fun c_51 => ?_) (fun c_51 => ?_)
      · have hfe : f + 1 = eR (wE w) * eC (wE w) := by omega
        refine tt_iinc (lv2 := [_, _, _, _, _, _]) d_Y_laysSteps_131 rfl (nI_inc _ 1) (by decide) rfl ?_
        refine tt_goto (t := 36) d_Y_laysSteps_134 (by decide) ?_
        refine tt_iload_n d_Y_laysSteps_36 rfl ?_
        refine tt_aload_n d_Y_laysSteps_37 rfl ?_
        refine tt_callV (y_fields (d := d) h.e.1.1 h.e.1.2.1 ho.1.1.2.1 ho.1.1.2.2.2.1 ho.cp) cw_Y_fields rfl rfl (by decide) rfl (by omega) d_Y_laysSteps_38 rfl rfl (Nat.le_of_ble_eq_true rfl) (Nat.le_of_ble_eq_true rfl) rfl rfl rfl (fun v σ2 q => ?_)
        obtain ⟨rfl, e9⟩ := q
        rw [e9]
        clear e9
        refine tn_ic_ge (t := 137) (by omega) (by omega) d_Y_laysSteps_41 (by decide) (fun c_41 => ?_) (fun c_41 => ?_)
        · have hne : n + 1 = eR (wE w) * eC (wE w) := by omega
          refine tt_vret rfl d_Y_laysSteps_137 ?_
          refine ⟨rfl, h, ht, fun g hg => ?_⟩
          have hz := LV_f hf hL
          rw [hfe] at hz
          have hz2 := LV_n hz
          rw [hne] at hz2
          have hq := LV_e ho.1.1.2.1 ho.1.1.2.2.2.1 hs hz2 g hg
          exact ⟨by rw [hU g hg, hq.1]; rfl, hq.2⟩
        · refine tt_iconst (v := nI 0) d_Y_laysSteps_44 (by decide) ?_
          refine tt_istore_n (lv2 := [_, _, _, _, _, _]) d_Y_laysSteps_45 (by decide) rfl ?_
          refine tt_iload_n d_Y_laysSteps_46 rfl ?_
          refine tt_aload_n d_Y_laysSteps_47 rfl ?_
          refine tt_callV (y_fields (d := d) h.e.1.1 h.e.1.2.1 ho.1.1.2.1 ho.1.1.2.2.2.1 ho.cp) cw_Y_fields rfl rfl (by decide) rfl (by omega) d_Y_laysSteps_48 rfl rfl (Nat.le_of_ble_eq_true rfl) (Nat.le_of_ble_eq_true rfl) rfl rfl rfl (fun v σ2 q => ?_)
          obtain ⟨rfl, e9⟩ := q
          rw [e9]
          clear e9
          refine tn_ic_ge (t := 131) (by omega) (by omega) d_Y_laysSteps_51 (by decide) (fun c_51 => ?_) (fun c_51 => ?_)
          · omega
          · refine tt_iconst (v := nI 0) d_Y_laysSteps_54 (by decide) ?_
            refine tt_istore (lv2 := [_, _, _, _, _, _]) d_Y_laysSteps_55 (by decide) rfl ?_
            have hz := LV_f hf hL
            rw [hfe] at hz
            exact ih ((eR (wE w) * eC (wE w) - (n + 1)) * 1000 + (eR (wE w) * eC (wE w) - 0) * 10 + (4 - 0)) (by omega) (n + 1) 0 0 u z _ rfl (by omega) (by omega) (by omega) h ht (LV_n hz) hU
      · refine tt_iconst (v := nI 0) d_Y_laysSteps_54 (by decide) ?_
        refine tt_istore (lv2 := [_, _, _, _, _, _]) d_Y_laysSteps_55 (by decide) rfl ?_
        exact ih ((eR (wE w) * eC (wE w) - n) * 1000 + (eR (wE w) * eC (wE w) - (f + 1)) * 10 + (4 - 0)) (by omega) n (f + 1) 0 u z _ rfl hn (by omega) (by omega) h ht (LV_f hf hL) hU
    · refine tt_aload_n d_Y_laysSteps_63 rfl ?_
      refine tt_iload_n d_Y_laysSteps_64 rfl ?_
      refine tt_iload d_Y_laysSteps_65 rfl ?_
      refine tt_callV (y_beside (d := d) (by omega) (by omega) h.e.1.1 h.e.1.2.1 ho.1.1.2.1 ho.1.1.2.2.2.1 ho.cp) cw_Y_beside rfl rfl (by decide) rfl (by omega) d_Y_laysSteps_67 rfl rfl (Nat.le_of_ble_eq_true rfl) (Nat.le_of_ble_eq_true rfl) rfl rfl rfl (fun v σ2 q => ?_)
      obtain ⟨rfl, e9⟩ := q
      rw [e9, be_g ho.1.1.2.1 ho.1.1.2.2.2.1 (by omega) hf]
      clear e9
      have hbs := be_c (R := eR (wE w)) (C := eC (wE w)) (f := f) (w := v) ho.1.1.2.1 ho.1.1.2.2.2.1 (by omega) hf
      have hbl : beN (eR (wE w)) (eC (wE w)) f v < 2 ^ 30 := by omega
      refine tt_istore (lv2 := [_, _, _, _, _, _]) d_Y_laysSteps_70 (by decide) rfl ?_
      refine tt_aload_n d_Y_laysSteps_72 rfl ?_
      refine tt_getR d_Y_laysSteps_73 rfl rfl (by decide) rfl rfl ?_
      refine tt_iload_n d_Y_laysSteps_76 rfl ?_
      refine tt_iload d_Y_laysSteps_77 rfl ?_
      refine tt_if_lt (t := 112) d_Y_laysSteps_79 (by decide) (fun c_79 => ?_) (fun c_79 => ?_)
      · have hb1 := (gI_lt hbl).mp c_79
        refine tt_aload_n d_Y_laysSteps_112 rfl ?_
        refine tt_getR d_Y_laysSteps_113 rfl rfl (by decide) rfl rfl ?_
        refine tt_iload_n d_Y_laysSteps_116 rfl ?_
        refine tn_iald d_Y_laysSteps_117 rfl (by decide) (by omega) (hU _ (by omega)) ?_
        refine tn_iast d_Y_laysSteps_118 rfl (by decide) (by omega) ?_
        refine tt_iinc (lv2 := [_, _, _, _, _, _]) d_Y_laysSteps_119 rfl (nI_inc _ 1) (by decide) rfl ?_
        refine tt_goto (t := 57) d_Y_laysSteps_122 (by decide) ?_
        have e0 : nI (lvU (eR (wE w)) (eC (wE w)) (eB (wE w)) f v u f) = nI (u f) := by
          unfold lvU
          rw [if_pos rfl, if_neg (fun q => q.1 hb1)]
        refine ih ((eR (wE w) * eC (wE w) - n) * 1000 + (eR (wE w) * eC (wE w) - f) * 10 + (4 - (v + 1))) (by omega) n f (v + 1) (lvU (eR (wE w)) (eC (wE w)) (eB (wE w)) f v u) (some _) _ rfl hn hf (by omega) (yq_w182 h) ht (LV_w ho.1.1.2.1 ho.1.1.2.2.2.1 (by omega) hf hL) (fun g hg => ?_)
        rw [si_wI]
        by_cases c9 : g = f
        · rw [if_pos ⟨rfl, c9⟩, c9, e0]
        · rw [if_neg (fun q => c9 q.2), hU g hg]
          unfold lvU
          rw [if_neg c9]
      · have hb1 : ¬ beN (eR (wE w)) (eC (wE w)) f v = 0 := fun q => c_79 ((gI_lt hbl).mpr q)
        have hb2 : beN (eR (wE w)) (eC (wE w)) f v - 1 < eR (wE w) * eC (wE w) := by omega
        have hug := (hL.1 _ hb2).1
        refine tt_aload_n d_Y_laysSteps_82 rfl ?_
        refine tt_getR d_Y_laysSteps_83 rfl rfl (by decide) rfl rfl ?_
        refine tt_iload_n d_Y_laysSteps_86 rfl ?_
        refine tn_zald d_Y_laysSteps_87 rfl (by decide) (by omega) (h.e.2.2.2 _ (by omega)) ?_
        have hrk := rk_0 (f := f) ho.1 (by omega)
        refine tn_if_ne (t := 112) (by omega) d_Y_laysSteps_88 (by decide) (fun c_88 => ?_) (fun c_88 => ?_)
        · refine tt_aload_n d_Y_laysSteps_112 rfl ?_
          refine tt_getR d_Y_laysSteps_113 rfl rfl (by decide) rfl rfl ?_
          refine tt_iload_n d_Y_laysSteps_116 rfl ?_
          refine tn_iald d_Y_laysSteps_117 rfl (by decide) (by omega) (hU _ (by omega)) ?_
          refine tn_iast d_Y_laysSteps_118 rfl (by decide) (by omega) ?_
          refine tt_iinc (lv2 := [_, _, _, _, _, _]) d_Y_laysSteps_119 rfl (nI_inc _ 1) (by decide) rfl ?_
          refine tt_goto (t := 57) d_Y_laysSteps_122 (by decide) ?_
          have e0 : nI (lvU (eR (wE w)) (eC (wE w)) (eB (wE w)) f v u f) = nI (u f) := by
            unfold lvU
            rw [if_pos rfl, if_neg (fun q => c_88 q.2)]
          refine ih ((eR (wE w) * eC (wE w) - n) * 1000 + (eR (wE w) * eC (wE w) - f) * 10 + (4 - (v + 1))) (by omega) n f (v + 1) (lvU (eR (wE w)) (eC (wE w)) (eB (wE w)) f v u) (some _) _ rfl hn hf (by omega) (yq_w182 h) ht (LV_w ho.1.1.2.1 ho.1.1.2.2.2.1 (by omega) hf hL) (fun g hg => ?_)
          rw [si_wI]
          by_cases c9 : g = f
          · rw [if_pos ⟨rfl, c9⟩, c9, e0]
          · rw [if_neg (fun q => c9 q.2), hU g hg]
            unfold lvU
            rw [if_neg c9]
        · refine tt_aload_n d_Y_laysSteps_91 rfl ?_
          refine tt_getR d_Y_laysSteps_92 rfl rfl (by decide) rfl rfl ?_
          refine tt_iload_n d_Y_laysSteps_95 rfl ?_
          refine tn_iald d_Y_laysSteps_96 rfl (by decide) (by omega) (hU _ (by omega)) ?_
          refine tt_aload_n d_Y_laysSteps_97 rfl ?_
          refine tt_getR d_Y_laysSteps_98 rfl rfl (by decide) rfl rfl ?_
          refine tt_iload (x := nI (beN (eR (wE w)) (eC (wE w)) f v - 1)) d_Y_laysSteps_101 (congrArg (fun z => some (some (Value.int z))) ((gI_c (show beN (eR (wE w)) (eC (wE w)) f v < 2 ^ 31 by omega)).2 hb1)) ?_
          refine tn_iald d_Y_laysSteps_103 rfl (by decide) (by omega) (hU _ (by omega)) ?_
          refine tt_iconst (v := nI 1) d_Y_laysSteps_104 (by decide) ?_
          refine tn_iadd d_Y_laysSteps_105 ?_
          refine tn_min (by omega) (by omega) d_Y_laysSteps_106 rfl (Nat.le_of_ble_eq_true rfl) ?_
          refine tt_goto (t := 118) d_Y_laysSteps_109 (by decide) ?_
          refine tn_iast d_Y_laysSteps_118 rfl (by decide) (by omega) ?_
          refine tt_iinc (lv2 := [_, _, _, _, _, _]) d_Y_laysSteps_119 rfl (nI_inc _ 1) (by decide) rfl ?_
          refine tt_goto (t := 57) d_Y_laysSteps_122 (by decide) ?_
          have e0 : nI (lvU (eR (wE w)) (eC (wE w)) (eB (wE w)) f v u f) = nI (min (u f) (u (beN (eR (wE w)) (eC (wE w)) f v - 1) + 1)) := by
            unfold lvU
            rw [if_pos rfl, if_pos ⟨hb1, c_88⟩]
          refine ih ((eR (wE w) * eC (wE w) - n) * 1000 + (eR (wE w) * eC (wE w) - f) * 10 + (4 - (v + 1))) (by omega) n f (v + 1) (lvU (eR (wE w)) (eC (wE w)) (eB (wE w)) f v u) (some _) _ rfl hn hf (by omega) (yq_w182 h) ht (LV_w ho.1.1.2.1 ho.1.1.2.2.2.1 (by omega) hf hL) (fun g hg => ?_)
          rw [si_wI]
          by_cases c9 : g = f
          · rw [if_pos ⟨rfl, c9⟩, c9, e0]
          · rw [if_neg (fun q => c9 q.2), hU g hg]
            unfold lvU
            rw [if_neg c9]

set_option maxHeartbeats 4000000 in
theorem y_lays_i {l : xLa} {d : Nat} {σ : xs} {c : Nat} {w : wv} {s : Nat} {σ0 : xs} (hs : s < eR (wE w) * eC (wE w)) (ho : okQ w) : ∀ (m : Nat) (i : Nat) (τ : xs), eR (wE w) * eC (wE w) - i = m → i ≤ eR (wE w) * eC (wE w) → YQ c w σ τ → Un σ0 τ → (∀ g, g < i → si τ 182 g = nI (if g = s then 0 else 1000000)) → T l M_Y_laysSteps (d + 4) 2 [some (.ref 154), some (.int (nI s)), some (.int (nI i)), none, none, none] [] τ (fun r υ => r = none ∧ YQ c w σ υ ∧ Un σ0 υ ∧ ∀ f, f < eR (wE w) * eC (wE w) → si υ 182 f = nI (nvN (dW w s f)) ∧ dW w s f ≤ 37) := by
  have hb0 := ho.fb
  have hb8 := ho.n8
  intro m
  induction m using Nat.strongRecOn with
  | ind m ih =>
    intro i τ hm hi h ht hU
    refine tt_iload_n d_Y_laysSteps_2 rfl ?_
    refine tt_aload_n d_Y_laysSteps_3 rfl ?_
    refine tt_callV (y_fields (d := d) h.e.1.1 h.e.1.2.1 ho.1.1.2.1 ho.1.1.2.2.2.1 ho.cp) cw_Y_fields rfl rfl (by decide) rfl (by omega) d_Y_laysSteps_4 rfl rfl (Nat.le_of_ble_eq_true rfl) (Nat.le_of_ble_eq_true rfl) rfl rfl rfl (fun v σ2 q => ?_)
    obtain ⟨rfl, e9⟩ := q
    rw [e9]
    clear e9
    refine tn_ic_ge (t := 34) (by omega) (by omega) d_Y_laysSteps_7 (by decide) (fun c_7 => ?_) (fun c_7 => ?_)
    · obtain rfl : i = eR (wE w) * eC (wE w) := by omega
      refine tt_iconst (v := nI 0) d_Y_laysSteps_34 (by decide) ?_
      refine tt_istore_n (lv2 := [_, _, _, _, _, _]) d_Y_laysSteps_35 (by decide) rfl ?_
      refine tt_iload_n d_Y_laysSteps_36 rfl ?_
      refine tt_aload_n d_Y_laysSteps_37 rfl ?_
      refine tt_callV (y_fields (d := d) h.e.1.1 h.e.1.2.1 ho.1.1.2.1 ho.1.1.2.2.2.1 ho.cp) cw_Y_fields rfl rfl (by decide) rfl (by omega) d_Y_laysSteps_38 rfl rfl (Nat.le_of_ble_eq_true rfl) (Nat.le_of_ble_eq_true rfl) rfl rfl rfl (fun v σ2 q => ?_)
      obtain ⟨rfl, e9⟩ := q
      rw [e9]
      clear e9
      refine tn_ic_ge (t := 137) (by omega) (by omega) d_Y_laysSteps_41 (by decide) (fun c_41 => ?_) (fun c_41 => ?_)
      · omega
      · refine tt_iconst (v := nI 0) d_Y_laysSteps_44 (by decide) ?_
        refine tt_istore_n (lv2 := [_, _, _, _, _, _]) d_Y_laysSteps_45 (by decide) rfl ?_
        refine tt_iload_n d_Y_laysSteps_46 rfl ?_
        refine tt_aload_n d_Y_laysSteps_47 rfl ?_
        refine tt_callV (y_fields (d := d) h.e.1.1 h.e.1.2.1 ho.1.1.2.1 ho.1.1.2.2.2.1 ho.cp) cw_Y_fields rfl rfl (by decide) rfl (by omega) d_Y_laysSteps_48 rfl rfl (Nat.le_of_ble_eq_true rfl) (Nat.le_of_ble_eq_true rfl) rfl rfl rfl (fun v σ2 q => ?_)
        obtain ⟨rfl, e9⟩ := q
        rw [e9]
        clear e9
        refine tn_ic_ge (t := 131) (by omega) (by omega) d_Y_laysSteps_51 (by decide) (fun c_51 => ?_) (fun c_51 => ?_)
        · omega
        · refine tt_iconst (v := nI 0) d_Y_laysSteps_54 (by decide) ?_
          refine tt_istore (lv2 := [_, _, _, _, _, _]) d_Y_laysSteps_55 (by decide) rfl ?_
          refine y_lays_l hs ho _ 0 0 0 (fun g => if g = s then 0 else 1000000) none _ rfl (by omega) (by omega) (by omega) h ht (LV_0 hs (fun _ _ => rfl)) hU
    · refine tt_aload_n d_Y_laysSteps_10 rfl ?_
      refine tt_getR d_Y_laysSteps_11 rfl rfl (by decide) rfl rfl ?_
      refine tt_iload_n d_Y_laysSteps_14 rfl ?_
      refine tt_iload_n d_Y_laysSteps_15 rfl ?_
      refine tt_iload_n d_Y_laysSteps_16 rfl ?_
      refine tn_ic_ne (t := 24) (by omega) (by omega) d_Y_laysSteps_17 (by decide) (fun c_17 => ?_) (fun c_17 => ?_)
      · refine tt_ldc_w (v := nI 1000000) d_Y_laysSteps_24 rfl ?_
        refine tn_iast d_Y_laysSteps_27 rfl (by decide) (by omega) ?_
        refine tt_iinc (lv2 := [_, _, _, _, _, _]) d_Y_laysSteps_28 rfl (nI_inc _ 1) (by decide) rfl ?_
        refine tt_goto (t := 2) d_Y_laysSteps_31 (by decide) ?_
        refine ih (eR (wE w) * eC (wE w) - (i + 1)) (by omega) (i + 1) _ rfl (by omega) (yq_w182 h) ht (fun g hg => ?_)
        rw [si_wI]
        by_cases c9 : g = i
        · rw [if_pos ⟨rfl, c9⟩, c9, if_neg c_17]
        · rw [if_neg (fun q => c9 q.2)]; exact hU g (by omega)
      · refine tt_iconst (v := nI 0) d_Y_laysSteps_20 (by decide) ?_
        refine tt_goto (t := 27) d_Y_laysSteps_21 (by decide) ?_
        refine tn_iast d_Y_laysSteps_27 rfl (by decide) (by omega) ?_
        refine tt_iinc (lv2 := [_, _, _, _, _, _]) d_Y_laysSteps_28 rfl (nI_inc _ 1) (by decide) rfl ?_
        refine tt_goto (t := 2) d_Y_laysSteps_31 (by decide) ?_
        refine ih (eR (wE w) * eC (wE w) - (i + 1)) (by omega) (i + 1) _ rfl (by omega) (yq_w182 h) ht (fun g hg => ?_)
        rw [si_wI]
        by_cases c9 : g = i
        · rw [if_pos ⟨rfl, c9⟩, c9, if_pos c_17]
        · rw [if_neg (fun q => c9 q.2)]; exact hU g (by omega)

theorem yq_lays {l : xLa} {d c : Nat} {σ τ : xs} {w : wv} {s : Nat} (h : YQ c w σ τ) (ho : okQ w) (hs : s < eR (wE w) * eC (wE w)) : TC l M_Y_laysSteps (d + 4) [.ref 154, .int (nI s)] τ (fun r υ => r = none ∧ YQ c w σ υ ∧ Un τ υ ∧ ∀ f, f < eR (wE w) * eC (wE w) → si υ 182 f = nI (nvN (dW w s f)) ∧ dW w s f ≤ 37) := by
  show T l M_Y_laysSteps (d + 4) 0 _ [] τ _
  refine T_lv (lv2 := [_, _, _, _, _, _]) rfl ?_
  refine tt_iconst (v := nI 0) d_Y_laysSteps_0 (by decide) ?_
  refine tt_istore_n (lv2 := [_, _, _, _, _, _]) d_Y_laysSteps_1 (by decide) rfl ?_
  exact y_lays_i hs ho (eR (wE w) * eC (wE w)) 0 _ rfl (by omega) h Un.rf (fun g hg => absurd hg (Nat.not_lt_zero g))

