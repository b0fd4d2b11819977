/-! Small calls: forget, end, seen. Printed by wip/whole. -/
section
variable {A : Nat → Prop} {F : Nat → Nat → Prop} {J : Nat → Prop} {σ τ : xs} {w : wv} {c : Nat}
theorem XE.fr {e : xe} (h : XE σ e) (hf : Fq A F J σ τ) (ha : ∀ c, c = 6 ∨ c = 10 ∨ c = 11 ∨ c = 13 ∨ (127 ≤ c ∧ c ≤ 138) → ¬ A c) (hF : ∀ c k, c = 5 ∨ c = 9 ∨ c = 12 ∨ (127 ≤ c ∧ c ≤ 138) → ¬ F c k) : XE τ e := by
  have hR := isR_2 h.2.1 h.2.2.1 h.2.2.2.1
  exact h.fq hf (h.2.2.2.2.fq hf (ha _ (by omega)) (ha _ (by omega))) (fun c hc => ha c (by omega)) (fun c k hc => hF c k (by omega))
/-- the class's world with other sights -/
theorem XW.putS {g : Nat × (Nat → Nat) × (Nat → Nat) × (Nat → Nat)} (h : XW σ w) (hf : Fq (fun c => 113 ≤ c ∧ c ≤ 115) (fun c k => c = 112 ∧ k = 3) (fun _ => False) σ τ) (hg : XS τ g) : XW τ (wE w, wV w, wX w, wD w, wU w, wK w, g) ∧ XF σ τ := by
  obtain ⟨a, b, x, d, u, k, _⟩ := h
  exact ⟨⟨a.fr hf (fun c hc => by omega) (fun c k hc => by omega), b.fq hf (fun k hk => by omega) (fun k hk => by omega), x.fq hf (by omega) (by omega), d.fq hf id (by omega), u.fq hf (fun c h1 h2 => by omega) (fun c k h1 h2 => by omega), k.fq hf (fun c h1 h2 => by omega) (fun c k h1 h2 => by omega) (by omega), hg⟩, hf.XF (fun c hc => by omega) (fun c k hc => by omega) (fun c hc => id)⟩
theorem XW.putX {t : Nat × (Nat → Nat)} (h : XW σ w) (hf : Fq (fun c => c = 2) (fun c k => c = 1 ∧ k = 1) (fun _ => False) σ τ) (ht : XT τ t) : XW τ (wE w, wV w, t, wD w, wU w, wK w, wS w) ∧ XF σ τ := by
  obtain ⟨a, b, _, d, u, k, s⟩ := h
  exact ⟨⟨a.fr hf (fun c hc => by omega) (fun c k hc => by omega), b.fq hf (fun k hk => by omega) (fun k hk => by omega), ht, d.fq hf id (by omega), u.fq hf (fun c h1 h2 => by omega) (fun c k h1 h2 => by omega), k.fq hf (fun c h1 h2 => by omega) (fun c k h1 h2 => by omega) (by omega), s.fq hf (fun c h1 h2 => by omega) (by omega)⟩, hf.XF (fun c hc => by omega) (fun c k hc => by omega) (fun c hc => id)⟩
theorem YW.putS {g : Nat × (Nat → Nat) × (Nat → Nat) × (Nat → Nat)} (h : YW σ c w) (hf : Fq (fun c => 177 ≤ c ∧ c ≤ 179) (fun c k => c = 154 ∧ k = 41) (fun _ => False) σ τ) (hg : YS τ g) : YW τ c (wE w, wV w, wX w, wD w, wU w, wK w, g) ∧ YF σ τ := by
  obtain ⟨a, b, x, d, u, k, _⟩ := h
  exact ⟨⟨a.fq hf (fun c hc => by omega) (fun k hk => by omega), SY_o b (hf.1 160 (by omega)), x.fq hf (by omega) (by omega), d.fq hf id (by omega), u.fq hf (by omega) (by omega), k.fq hf (fun c h1 h2 => by omega) (by omega), hg⟩, hf.YF (fun c hc => by omega) (fun c k hc => by omega) (fun c hc => id)⟩
theorem YW.putX {t : Nat × (Nat → Nat)} (h : YW σ c w) (hf : Fq (fun c => c = 162) (fun c k => c = 154 ∧ k = 15) (fun _ => False) σ τ) (ht : YT τ t) : YW τ c (wE w, wV w, t, wD w, wU w, wK w, wS w) ∧ YF σ τ := by
  obtain ⟨a, b, _, d, u, k, s⟩ := h
  exact ⟨⟨a.fq hf (fun c hc => by omega) (fun k hk => by omega), SY_o b (hf.1 160 (by omega)), ht, d.fq hf id (by omega), u.fq hf (by omega) (by omega), k.fq hf (fun c h1 h2 => by omega) (by omega), s.fq hf (fun c h1 h2 => by omega) (by omega)⟩, hf.YF (fun c hc => by omega) (fun c k hc => by omega) (fun c hc => id)⟩
theorem XQ.ww (h : XQ w σ τ) (hd : XD τ (wD w)) : XW τ w := h.1.wd hd
theorem YQ.ww (h : YQ c w σ τ) (hd : YD τ (wD w)) : YW τ c w := h.1.wd hd
end
/-! forget -/
def a_forget (w : wv) : Int32 × wv := (nI (wS w).1, (wE w, wV w, wX w, wD w, wU w, wK w, (0, (wS w).2)))
def uqN (f : Nat → Nat) (n x : Nat) : Nat → Nat := fun i => if i = n then x else f i
def gadd (g : Nat × (Nat → Nat) × (Nat → Nat) × (Nat → Nat)) (a b z : Nat) : Nat × (Nat → Nat) × (Nat → Nat) × (Nat → Nat) := (g.1 + 1, uqN g.2.1 g.1 a, uqN g.2.2.1 g.1 b, uqN g.2.2.2 g.1 z)
def a_seen (w : wv) (n f s : Int32) : Int32 × wv := match rgN n 0 20, inN f (eR (wE w) * eC (wE w)), rgN s 0 1 with
  | some a, some b, some z => if (wS w).1 < 10 then (nI ((wS w).1 + 1), (wE w, wV w, wX w, wD w, wU w, wK w, gadd (wS w) a b z)) else (-1, w)
  | _, _, _ => (-1, w)
def a_end (w : wv) (n : Int32) : Int32 × wv := match rgN n 0 (wX w).1 with
  | some m => (nI 1, (wE w, wV w, (m, (wX w).2), wD w, wU w, wK w, wS w))
  | none => (nI 0, w)
theorem XS_0 {σ : xs} {g : (Nat → Nat) × (Nat → Nat) × (Nat → Nat)} : XS (wF σ 112 3 (nI 0)) (0, g) := ⟨rfl, fun i hi => absurd hi (Nat.not_lt_zero i)⟩
theorem YS_0 {σ : xs} {g : (Nat → Nat) × (Nat → Nat) × (Nat → Nat)} : YS (wF σ 154 41 (nI 0)) (0, g) := ⟨rfl, fun i hi => absurd hi (Nat.not_lt_zero i)⟩
theorem uqN_at {σ : xs} {a : Nat} {f : Nat → Nat} {n x : Nat} (h : ∀ i, i < n → si σ a i = nI (f i)) : ∀ i, i < n + 1 → (if i = n then nI x else si σ a i) = nI (uqN f n x i) := fun i hi => by
  unfold uqN
  by_cases c : i = n
  · rw [if_pos c, if_pos c]
  · rw [if_neg c, if_neg c, h i (by omega)]
theorem XS_add {σ : xs} {g : Nat × (Nat → Nat) × (Nat → Nat) × (Nat → Nat)} {a b z : Nat} (h : XS σ g) : XS (X_gadd σ g.1 (nI a) (nI b) (nI z)) (gadd g a b z) := by
  refine ⟨rfl, fun i hi => ?_⟩
  have hi' : i < g.1 + 1 := hi
  have h1 := uqN_at (x := a) (fun i hi => (h.2 i hi).1) i hi'
  have h2 := uqN_at (x := b) (fun i hi => (h.2 i hi).2.1) i hi'
  have h3 := uqN_at (x := z) (fun i hi => (h.2 i hi).2.2) i hi'
  unfold X_gadd
  refine ⟨Eq.trans ?_ h1, Eq.trans ?_ h2, Eq.trans ?_ h3⟩ <;> simp [si_wI, si_wF]
theorem YS_add {σ : xs} {g : Nat × (Nat → Nat) × (Nat → Nat) × (Nat → Nat)} {a b z : Nat} (h : YS σ g) : YS (wF (wI (wI (wI σ 177 g.1 (nI a)) 178 g.1 (nI b)) 179 g.1 (nI z)) 154 41 (nI (g.1 + 1))) (gadd g a b z) := by
  refine ⟨rfl, fun i hi => ?_⟩
  have hi' : i < g.1 + 1 := hi
  have h1 := uqN_at (x := a) (fun i hi => (h.2 i hi).1) i hi'
  have h2 := uqN_at (x := b) (fun i hi => (h.2 i hi).2.1) i hi'
  have h3 := uqN_at (x := z) (fun i hi => (h.2 i hi).2.2) i hi'
  refine ⟨Eq.trans ?_ h1, Eq.trans ?_ h2, Eq.trans ?_ h3⟩ <;> simp [si_wI, si_wF]
theorem Fq_gadd {σ : xs} {n : Nat} {a b z : Int32} : Fq (fun c => 113 ≤ c ∧ c ≤ 115) (fun c k => c = 112 ∧ k = 3) (fun _ => False) σ (X_gadd σ n a b z) := Fq.tr (Fq.tr (Fq.tr (Fq.wI (by omega)) (Fq.wI (by omega))) (Fq.wI (by omega))) (Fq.wF ⟨rfl, rfl⟩)
theorem Gq_gadd {σ : xs} {n : Nat} {a b z y : Int32} : Fq (fun c => 177 ≤ c ∧ c ≤ 179) (fun c k => c = 154 ∧ k = 41) (fun _ => False) σ (wF (wI (wI (wI σ 177 n a) 178 n b) 179 n z) 154 41 y) := Fq.tr (Fq.tr (Fq.tr (Fq.wI (by omega)) (Fq.wI (by omega))) (Fq.wI (by omega))) (Fq.wF ⟨rfl, rfl⟩)
set_option maxHeartbeats 4000000 in
theorem xc_forget {l : xLa} {d : Nat} {σ : xs} {w : wv} (ho : okQ w) (hw : XW σ w)  : TC l M_X_forget (d + 30) [.ref 0] σ (fun r τ => r = some (.int (a_forget w).1) ∧ XW τ (a_forget w).2 ∧ XF σ τ) := by
  show T l M_X_forget (d + 30) 0 _ [] σ _
  refine T_lv (lv2 := [_, _]) rfl ?_
  have h := XQ.rf hw.v
  have hd0 := hw.2.2.2.1
  have hb0 := ho.fb
  have hb8 := ho.n8
  refine tt_aload_n d_X_forget_0 rfl ?_
  refine tt_getR d_X_forget_1 rfl rfl (by decide) rfl rfl ?_
  refine tn_get d_X_forget_4 rfl rfl (by decide) rfl h.1.2.2.2.2.2.1 ?_
  refine tt_istore_n (lv2 := [_, _]) d_X_forget_7 (by decide) rfl ?_
  refine tt_aload_n d_X_forget_8 rfl ?_
  refine tt_getR d_X_forget_9 rfl rfl (by decide) rfl rfl ?_
  refine tt_callV (x_Sights_clear (d := d)) cw_Sights_clear rfl rfl (by decide) rfl (by omega) d_X_forget_12 rfl rfl (Nat.le_of_ble_eq_true rfl) (Nat.le_of_ble_eq_true rfl) rfl rfl rfl (fun v σ2 q => ?_)
  obtain ⟨rfl, rfl⟩ := q
  refine tt_iload_n d_X_forget_15 rfl ?_
  refine tt_iret rfl d_X_forget_16 ?_
  have z := hw.putS (Fq.wF ⟨rfl, rfl⟩) (XS_0 (σ := σ) (g := (wS w).2))
  exact ⟨rfl, z.1, z.2⟩

set_option maxHeartbeats 4000000 in
theorem yc_forget {l : xLa} {d c : Nat} {σ : xs} {w : wv} (ho : okQ w) (hw : YW σ c w)  : TC l M_Y_forget (d + 150) [.ref 154] σ (fun r τ => r = some (.int (a_forget w).1) ∧ YW τ c (a_forget w).2 ∧ YF σ τ) := by
  show T l M_Y_forget (d + 150) 0 _ [] σ _
  refine T_lv (lv2 := [_, _]) rfl ?_
  have h := YQ.rf hw.v
  have hd0 := hw.2.2.2.1
  have hb0 := ho.fb
  have hb8 := ho.n8
  refine tt_aload_n d_Y_forget_0 rfl ?_
  refine tt_iconst (v := nI 0) d_Y_forget_1 (by decide) ?_
  refine tt_putI d_Y_forget_2 rfl rfl (by decide) rfl (xpok_int rfl) rfl ?_
  replace h := h.thr (x := nI 0)
  replace hd0 := hd0.thr (x := nI 0)
  refine tt_aload_n d_Y_forget_5 rfl ?_
  refine tn_get d_Y_forget_6 rfl rfl (by decide) rfl h.1.2.2.2.2.2.1 ?_
  refine tt_istore_n (lv2 := [_, _]) d_Y_forget_9 (by decide) rfl ?_
  refine tt_aload_n d_Y_forget_10 rfl ?_
  refine tt_iconst (v := nI 0) d_Y_forget_11 (by decide) ?_
  refine tt_putI d_Y_forget_12 rfl rfl (by decide) rfl (xpok_int rfl) rfl ?_
  refine tt_iload_n d_Y_forget_15 rfl ?_
  refine tt_iret rfl d_Y_forget_16 ?_
  have z := (h.ww hd0).putS (Fq.wF ⟨rfl, rfl⟩) (YS_0 (g := (wS w).2))
  exact ⟨rfl, z.1, h.2.tr z.2⟩

set_option maxHeartbeats 4000000 in
theorem xc_end {l : xLa} {d : Nat} {σ : xs} {w : wv} (ho : okQ w) (hw : XW σ w) (hx : (wX w).1 ≤ 80) {n : Int32} : TC l M_X_end (d + 30) [.ref 0, .int n] σ (fun r τ => r = some (.int (a_end w n).1) ∧ XW τ (a_end w n).2 ∧ XF σ τ) := by
  show T l M_X_end (d + 30) 0 _ [] σ _
  refine T_lv (lv2 := [_, _]) rfl ?_
  have h := XQ.rf hw.v
  have hd0 := hw.2.2.2.1
  have hb0 := ho.fb
  have hb8 := ho.n8
  have hX := hw.2.2.1
  rcases rgN_c n 0 (wX w).1 with ⟨m, hm1, hm2, hm3, rfl, hq⟩ | ⟨hq, hb⟩
  · unfold a_end
    rw [hq]
    dsimp only
    have hc : ¬ (nI m < 0 ∨ sf σ 1 1 < nI m) := by rw [hX.1, show (0 : Int32) = nI 0 from rfl, rg_lt (by decide), rg_lt hm3, nI_toInt hm3, nI_toInt (by omega)]; omega
    refine tt_aload_n d_X_end_0 rfl ?_
    refine tt_getR d_X_end_1 rfl rfl (by decide) rfl rfl ?_
    refine tt_iload_n d_X_end_4 rfl ?_
    refine tt_callV (x_Text_shorten (d := d)) cw_Text_shorten rfl rfl (by decide) rfl (by omega) d_X_end_5 rfl rfl (Nat.le_of_ble_eq_true rfl) (Nat.le_of_ble_eq_true rfl) rfl rfl rfl (fun v σ2 q => ?_)
    obtain ⟨rfl, e9⟩ := q
    rw [if_neg hc] at e9
    rw [e9, if_neg hc]
    clear e9
    refine tt_zret rfl rfl d_X_end_8 ?_
    have z := hw.putX (t := (m, (wX w).2)) (Fq.wF ⟨rfl, rfl⟩) ⟨rfl, fun i hi => hX.2 i (by have : i < m := hi; omega)⟩
    exact ⟨rfl, z.1, z.2⟩
  · unfold a_end
    rw [hq]
    dsimp only
    have hc : n < 0 ∨ sf σ 1 1 < n := Decidable.byContradiction (fun z => rg_f (a := 0) (b := (wX w).1) (by omega) (by decide) hb (fun y => z (Or.inl y)) (by rw [← hX.1]; exact Decidable.byContradiction (fun y => z (Or.inr (Int32.not_le.mp y)))))
    refine tt_aload_n d_X_end_0 rfl ?_
    refine tt_getR d_X_end_1 rfl rfl (by decide) rfl rfl ?_
    refine tt_iload_n d_X_end_4 rfl ?_
    refine tt_callV (x_Text_shorten (d := d)) cw_Text_shorten rfl rfl (by decide) rfl (by omega) d_X_end_5 rfl rfl (Nat.le_of_ble_eq_true rfl) (Nat.le_of_ble_eq_true rfl) rfl rfl rfl (fun v σ2 q => ?_)
    obtain ⟨rfl, e9⟩ := q
    rw [if_pos hc] at e9
    rw [e9, if_pos hc]
    clear e9
    refine tt_zret rfl rfl d_X_end_8 ?_
    exact ⟨rfl, h.ww hd0, h.2.1⟩

set_option maxHeartbeats 4000000 in
theorem yc_end {l : xLa} {d c : Nat} {σ : xs} {w : wv} (ho : okQ w) (hw : YW σ c w) (hx : (wX w).1 ≤ 80) {n : Int32} : TC l M_Y_end (d + 150) [.ref 154, .int n] σ (fun r τ => r = some (.int (a_end w n).1) ∧ YW τ c (a_end w n).2 ∧ YF σ τ) := by
  show T l M_Y_end (d + 150) 0 _ [] σ _
  refine T_lv (lv2 := [_, _]) rfl ?_
  have h := YQ.rf hw.v
  have hd0 := hw.2.2.2.1
  have hb0 := ho.fb
  have hb8 := ho.n8
  have hX := hw.2.2.1
  rcases rgN_c n 0 (wX w).1 with ⟨m, hm1, hm2, hm3, rfl, hq⟩ | ⟨hq, hb⟩
  · unfold a_end
    rw [hq]
    dsimp only
    refine tt_aload_n d_Y_end_0 rfl ?_
    refine tt_iconst (v := nI 0) d_Y_end_1 (by decide) ?_
    refine tt_putI d_Y_end_2 rfl rfl (by decide) rfl (xpok_int rfl) rfl ?_
    replace h := h.thr (x := nI 0)
    replace hd0 := hd0.thr (x := nI 0)
    refine tt_iload_n d_Y_end_5 rfl ?_
    refine tt_i2l d_Y_end_6 ?_
    refine tt_lconst (v := 0) d_Y_end_7 (by decide) ?_
    refine tt_aload_n d_Y_end_8 rfl ?_
    refine tn_get d_Y_end_9 rfl rfl (by decide) rfl h.1.2.2.1.1 ?_
    refine tt_i2l d_Y_end_12 ?_
    refine tt_callS (y_in (d := d)) cw_Y_in rfl (by omega) d_Y_end_13 rfl rfl (Nat.le_of_ble_eq_true rfl) (Nat.le_of_ble_eq_true rfl) rfl rfl rfl (fun v σ2 q => ?_)
    obtain ⟨rfl, e9⟩ := q
    rw [e9, show Yin (nI m).toInt64 0 (nI (wX w).1).toInt64 = nI 1 from Yin_t (a := 0) (b := (wX w).1) rfl (nI_l (by omega)) (by omega) hm2 (by omega)]
    clear e9
    refine tn_if_ne (t := 21) (by omega) d_Y_end_16 (by decide) (fun c_16 => ?_) (fun c_16 => ?_)
    · refine tt_aload_n d_Y_end_21 rfl ?_
      refine tt_iload_n d_Y_end_22 rfl ?_
      refine tt_putI d_Y_end_23 rfl rfl (by decide) rfl (xpok_int rfl) rfl ?_
      refine tt_iconst (v := nI 1) d_Y_end_26 (by decide) ?_
      refine tt_zret rfl rfl d_Y_end_27 ?_
      have z := (h.ww hd0).putX (t := (m, (wX w).2)) (Fq.wF ⟨rfl, rfl⟩) ⟨rfl, fun i hi => hX.2 i (by have : i < m := hi; omega)⟩
      exact ⟨rfl, z.1, h.2.tr z.2⟩
    · exact absurd c_16 (by decide)
  · unfold a_end
    rw [hq]
    dsimp only
    refine tt_aload_n d_Y_end_0 rfl ?_
    refine tt_iconst (v := nI 0) d_Y_end_1 (by decide) ?_
    refine tt_putI d_Y_end_2 rfl rfl (by decide) rfl (xpok_int rfl) rfl ?_
    replace h := h.thr (x := nI 0)
    replace hd0 := hd0.thr (x := nI 0)
    refine tt_iload_n d_Y_end_5 rfl ?_
    refine tt_i2l d_Y_end_6 ?_
    refine tt_lconst (v := 0) d_Y_end_7 (by decide) ?_
    refine tt_aload_n d_Y_end_8 rfl ?_
    refine tn_get d_Y_end_9 rfl rfl (by decide) rfl h.1.2.2.1.1 ?_
    refine tt_i2l d_Y_end_12 ?_
    refine tt_callS (y_in (d := d)) cw_Y_in rfl (by omega) d_Y_end_13 rfl rfl (Nat.le_of_ble_eq_true rfl) (Nat.le_of_ble_eq_true rfl) rfl rfl rfl (fun v σ2 q => ?_)
    obtain ⟨rfl, e9⟩ := q
    rw [e9, show Yin n.toInt64 0 (nI (wX w).1).toInt64 = nI 0 from Yin_f (a := 0) (b := (wX w).1) rfl (nI_l (by omega)) (by decide) (by omega) hb]
    clear e9
    refine tn_if_ne (t := 21) (by omega) d_Y_end_16 (by decide) (fun c_16 => ?_) (fun c_16 => ?_)
    · exact absurd rfl c_16
    · refine tt_iconst (v := nI 0) d_Y_end_19 (by decide) ?_
      refine tt_zret rfl rfl d_Y_end_20 ?_
      exact ⟨rfl, h.ww hd0, h.2⟩

set_option maxHeartbeats 4000000 in
theorem xc_seen {l : xLa} {d : Nat} {σ : xs} {w : wv} (ho : okQ w) (hw : XW σ w) (hS0 : (wS w).1 ≤ 10) {n f s : Int32} : TC l M_X_seen (d + 30) [.ref 0, .int n, .int f, .int s] σ (fun r τ => r = some (.int (a_seen w n f s).1) ∧ XW τ (a_seen w n f s).2 ∧ XF σ τ) := by
  show T l M_X_seen (d + 30) 0 _ [] σ _
  refine T_lv (lv2 := [_, _, _, _]) rfl ?_
  have h := XQ.rf hw.v
  have hd0 := hw.2.2.2.1
  have hb0 := ho.fb
  have hb8 := ho.n8
  rcases rgN_c n 0 20 with ⟨a, ha1, ha2, ha3, rfl, hq1⟩ | ⟨hq1, hb1⟩
  · rcases inN_c f (eR (wE w) * eC (wE w)) with ⟨m, hm, rfl, hq2⟩ | ⟨hq2, hb⟩
    · rcases rgN_c s 0 1 with ⟨z, hz1, hz2, hz3, rfl, hq3⟩ | ⟨hq3, hb3⟩
      · have hqv : a_seen w (nI a) (nI m) (nI z) = if (wS w).1 < 10 then (nI ((wS w).1 + 1), (wE w, wV w, wX w, wD w, wU w, wK w, gadd (wS w) a m z)) else (-1, w) := by unfold a_seen; rw [hq1, hq2, hq3]
        rw [hqv]
        have hg := hw.2.2.2.2.2.2
        by_cases c9 : (wS w).1 < 10
        · rw [if_pos c9]
          rcases (show z = 0 ∨ z = 1 by omega) with rfl | rfl
          · skip
            refine tt_iload_n d_X_seen_0 rfl ?_
            refine tn_if_lt (t := 30) (by omega) d_X_seen_1 (by decide) ?_
            refine tt_iload_n d_X_seen_4 rfl ?_
            refine tt_bipush (v := nI 20) d_X_seen_5 (by decide) ?_
            refine tn_ic_gt (t := 30) (by omega) (by omega) d_X_seen_7 (by decide) (fun c_7 => ?_) (fun c_7 => ?_)
            · omega
            · refine tt_aload_n d_X_seen_10 rfl ?_
              refine tt_getR d_X_seen_11 rfl rfl (by decide) rfl rfl ?_
              refine tt_iload_n d_X_seen_14 rfl ?_
              refine tt_callV (x_Lake_has (d := d) h.r h.cl ho.1.1.2.1 ho.1.1.2.2.2.1 ho.cp) cw_Lake_has rfl rfl (by decide) rfl (by omega) d_X_seen_15 rfl rfl (Nat.le_of_ble_eq_true rfl) (Nat.le_of_ble_eq_true rfl) rfl rfl rfl (fun v σ2 q => ?_)
              obtain ⟨rfl, e9⟩ := q
              rw [e9, X_in_N hm (by omega)]
              clear e9
              refine tn_if_eq (t := 30) (by omega) d_X_seen_18 (by decide) (fun c_18 => ?_) (fun c_18 => ?_)
              · exact absurd c_18 (by decide)
              · refine tt_iload_n d_X_seen_21 rfl ?_
                refine tn_if_lt (t := 30) (by omega) d_X_seen_22 (by decide) ?_
                refine tt_iload_n d_X_seen_25 rfl ?_
                refine tt_iconst (v := nI 1) d_X_seen_26 (by decide) ?_
                refine tn_ic_le (t := 32) (by omega) (by omega) d_X_seen_27 (by decide) (fun c_27 => ?_) (fun c_27 => ?_)
                · refine tt_aload_n d_X_seen_32 rfl ?_
                  refine tt_getR d_X_seen_33 rfl rfl (by decide) rfl rfl ?_
                  refine tt_iload_n d_X_seen_36 rfl ?_
                  refine tt_iload_n d_X_seen_37 rfl ?_
                  refine tt_iload_n d_X_seen_38 rfl ?_
                  refine tt_iconst (v := nI 1) d_X_seen_39 (by decide) ?_
                  refine tn_ic_ne (t := 47) (by omega) (by omega) d_X_seen_40 (by decide) (fun c_40 => ?_) (fun c_40 => ?_)
                  · refine tt_iconst (v := nI 0) d_X_seen_47 (by decide) ?_
                    refine tt_callV (x_Sights_add (d := d) (a := nI a) (b := nI m) (c := nI 0) hg.1 hS0 rfl) cw_Sights_add rfl rfl (by decide) rfl (by omega) d_X_seen_48 rfl rfl (Nat.le_of_ble_eq_true rfl) (Nat.le_of_ble_eq_true rfl) rfl rfl rfl (fun v σ2 q => ?_)
                    obtain ⟨rfl, e9⟩ := q
                    rw [if_pos c9] at e9
                    rw [e9, if_pos c9]
                    clear e9
                    refine tn_if_eq (t := 64) (by omega) d_X_seen_51 (by decide) (fun c_51 => ?_) (fun c_51 => ?_)
                    · exact absurd c_51 (by decide)
                    · refine tt_aload_n d_X_seen_54 rfl ?_
                      refine tt_getR d_X_seen_55 rfl rfl (by decide) rfl rfl ?_
                      refine tn_get d_X_seen_58 rfl rfl (by decide) rfl (show _ = nI ((wS w).1 + 1) from rfl) ?_
                      refine tt_goto (t := 65) d_X_seen_61 (by decide) ?_
                      refine tt_iret rfl d_X_seen_65 ?_
                      have y := hw.putS Fq_gadd (XS_add (a := a) (b := m) (z := 0) hg)
                      exact ⟨rfl, y.1, y.2⟩
                  · omega
                · omega
          · skip
            refine tt_iload_n d_X_seen_0 rfl ?_
            refine tn_if_lt (t := 30) (by omega) d_X_seen_1 (by decide) ?_
            refine tt_iload_n d_X_seen_4 rfl ?_
            refine tt_bipush (v := nI 20) d_X_seen_5 (by decide) ?_
            refine tn_ic_gt (t := 30) (by omega) (by omega) d_X_seen_7 (by decide) (fun c_7 => ?_) (fun c_7 => ?_)
            · omega
            · refine tt_aload_n d_X_seen_10 rfl ?_
              refine tt_getR d_X_seen_11 rfl rfl (by decide) rfl rfl ?_
              refine tt_iload_n d_X_seen_14 rfl ?_
              refine tt_callV (x_Lake_has (d := d) h.r h.cl ho.1.1.2.1 ho.1.1.2.2.2.1 ho.cp) cw_Lake_has rfl rfl (by decide) rfl (by omega) d_X_seen_15 rfl rfl (Nat.le_of_ble_eq_true rfl) (Nat.le_of_ble_eq_true rfl) rfl rfl rfl (fun v σ2 q => ?_)
              obtain ⟨rfl, e9⟩ := q
              rw [e9, X_in_N hm (by omega)]
              clear e9
              refine tn_if_eq (t := 30) (by omega) d_X_seen_18 (by decide) (fun c_18 => ?_) (fun c_18 => ?_)
              · exact absurd c_18 (by decide)
              · refine tt_iload_n d_X_seen_21 rfl ?_
                refine tn_if_lt (t := 30) (by omega) d_X_seen_22 (by decide) ?_
                refine tt_iload_n d_X_seen_25 rfl ?_
                refine tt_iconst (v := nI 1) d_X_seen_26 (by decide) ?_
                refine tn_ic_le (t := 32) (by omega) (by omega) d_X_seen_27 (by decide) (fun c_27 => ?_) (fun c_27 => ?_)
                · refine tt_aload_n d_X_seen_32 rfl ?_
                  refine tt_getR d_X_seen_33 rfl rfl (by decide) rfl rfl ?_
                  refine tt_iload_n d_X_seen_36 rfl ?_
                  refine tt_iload_n d_X_seen_37 rfl ?_
                  refine tt_iload_n d_X_seen_38 rfl ?_
                  refine tt_iconst (v := nI 1) d_X_seen_39 (by decide) ?_
                  refine tn_ic_ne (t := 47) (by omega) (by omega) d_X_seen_40 (by decide) (fun c_40 => ?_) (fun c_40 => ?_)
                  · omega
                  · refine tt_iconst (v := nI 1) d_X_seen_43 (by decide) ?_
                    refine tt_goto (t := 48) d_X_seen_44 (by decide) ?_
                    refine tt_callV (x_Sights_add (d := d) (a := nI a) (b := nI m) (c := nI 1) hg.1 hS0 rfl) cw_Sights_add rfl rfl (by decide) rfl (by omega) d_X_seen_48 rfl rfl (Nat.le_of_ble_eq_true rfl) (Nat.le_of_ble_eq_true rfl) rfl rfl rfl (fun v σ2 q => ?_)
                    obtain ⟨rfl, e9⟩ := q
                    rw [if_pos c9] at e9
                    rw [e9, if_pos c9]
                    clear e9
                    refine tn_if_eq (t := 64) (by omega) d_X_seen_51 (by decide) (fun c_51 => ?_) (fun c_51 => ?_)
                    · exact absurd c_51 (by decide)
                    · refine tt_aload_n d_X_seen_54 rfl ?_
                      refine tt_getR d_X_seen_55 rfl rfl (by decide) rfl rfl ?_
                      refine tn_get d_X_seen_58 rfl rfl (by decide) rfl (show _ = nI ((wS w).1 + 1) from rfl) ?_
                      refine tt_goto (t := 65) d_X_seen_61 (by decide) ?_
                      refine tt_iret rfl d_X_seen_65 ?_
                      have y := hw.putS Fq_gadd (XS_add (a := a) (b := m) (z := 1) hg)
                      exact ⟨rfl, y.1, y.2⟩
                · omega
        · rw [if_neg c9]
          rcases (show z = 0 ∨ z = 1 by omega) with rfl | rfl
          · skip
            refine tt_iload_n d_X_seen_0 rfl ?_
            refine tn_if_lt (t := 30) (by omega) d_X_seen_1 (by decide) ?_
            refine tt_iload_n d_X_seen_4 rfl ?_
            refine tt_bipush (v := nI 20) d_X_seen_5 (by decide) ?_
            refine tn_ic_gt (t := 30) (by omega) (by omega) d_X_seen_7 (by decide) (fun c_7 => ?_) (fun c_7 => ?_)
            · omega
            · refine tt_aload_n d_X_seen_10 rfl ?_
              refine tt_getR d_X_seen_11 rfl rfl (by decide) rfl rfl ?_
              refine tt_iload_n d_X_seen_14 rfl ?_
              refine tt_callV (x_Lake_has (d := d) h.r h.cl ho.1.1.2.1 ho.1.1.2.2.2.1 ho.cp) cw_Lake_has rfl rfl (by decide) rfl (by omega) d_X_seen_15 rfl rfl (Nat.le_of_ble_eq_true rfl) (Nat.le_of_ble_eq_true rfl) rfl rfl rfl (fun v σ2 q => ?_)
              obtain ⟨rfl, e9⟩ := q
              rw [e9, X_in_N hm (by omega)]
              clear e9
              refine tn_if_eq (t := 30) (by omega) d_X_seen_18 (by decide) (fun c_18 => ?_) (fun c_18 => ?_)
              · exact absurd c_18 (by decide)
              · refine tt_iload_n d_X_seen_21 rfl ?_
                refine tn_if_lt (t := 30) (by omega) d_X_seen_22 (by decide) ?_
                refine tt_iload_n d_X_seen_25 rfl ?_
                refine tt_iconst (v := nI 1) d_X_seen_26 (by decide) ?_
                refine tn_ic_le (t := 32) (by omega) (by omega) d_X_seen_27 (by decide) (fun c_27 => ?_) (fun c_27 => ?_)
                · refine tt_aload_n d_X_seen_32 rfl ?_
                  refine tt_getR d_X_seen_33 rfl rfl (by decide) rfl rfl ?_
                  refine tt_iload_n d_X_seen_36 rfl ?_
                  refine tt_iload_n d_X_seen_37 rfl ?_
                  refine tt_iload_n d_X_seen_38 rfl ?_
                  refine tt_iconst (v := nI 1) d_X_seen_39 (by decide) ?_
                  refine tn_ic_ne (t := 47) (by omega) (by omega) d_X_seen_40 (by decide) (fun c_40 => ?_) (fun c_40 => ?_)
                  · refine tt_iconst (v := nI 0) d_X_seen_47 (by decide) ?_
                    refine tt_callV (x_Sights_add (d := d) (a := nI a) (b := nI m) (c := nI 0) hg.1 hS0 rfl) cw_Sights_add rfl rfl (by decide) rfl (by omega) d_X_seen_48 rfl rfl (Nat.le_of_ble_eq_true rfl) (Nat.le_of_ble_eq_true rfl) rfl rfl rfl (fun v σ2 q => ?_)
                    obtain ⟨rfl, e9⟩ := q
                    rw [if_neg c9] at e9
                    rw [e9, if_neg c9]
                    clear e9
                    refine tn_if_eq (t := 64) (by omega) d_X_seen_51 (by decide) (fun c_51 => ?_) (fun c_51 => ?_)
                    · refine tt_iconst (v := (-1)) d_X_seen_64 (by decide) ?_
                      refine tt_iret rfl d_X_seen_65 ?_
                      exact ⟨rfl, h.ww hd0, h.2.1⟩
                    · exact absurd rfl c_51
                  · omega
                · omega
          · skip
            refine tt_iload_n d_X_seen_0 rfl ?_
            refine tn_if_lt (t := 30) (by omega) d_X_seen_1 (by decide) ?_
            refine tt_iload_n d_X_seen_4 rfl ?_
            refine tt_bipush (v := nI 20) d_X_seen_5 (by decide) ?_
            refine tn_ic_gt (t := 30) (by omega) (by omega) d_X_seen_7 (by decide) (fun c_7 => ?_) (fun c_7 => ?_)
            · omega
            · refine tt_aload_n d_X_seen_10 rfl ?_
              refine tt_getR d_X_seen_11 rfl rfl (by decide) rfl rfl ?_
              refine tt_iload_n d_X_seen_14 rfl ?_
              refine tt_callV (x_Lake_has (d := d) h.r h.cl ho.1.1.2.1 ho.1.1.2.2.2.1 ho.cp) cw_Lake_has rfl rfl (by decide) rfl (by omega) d_X_seen_15 rfl rfl (Nat.le_of_ble_eq_true rfl) (Nat.le_of_ble_eq_true rfl) rfl rfl rfl (fun v σ2 q => ?_)
              obtain ⟨rfl, e9⟩ := q
              rw [e9, X_in_N hm (by omega)]
              clear e9
              refine tn_if_eq (t := 30) (by omega) d_X_seen_18 (by decide) (fun c_18 => ?_) (fun c_18 => ?_)
              · exact absurd c_18 (by decide)
              · refine tt_iload_n d_X_seen_21 rfl ?_
                refine tn_if_lt (t := 30) (by omega) d_X_seen_22 (by decide) ?_
                refine tt_iload_n d_X_seen_25 rfl ?_
                refine tt_iconst (v := nI 1) d_X_seen_26 (by decide) ?_
                refine tn_ic_le (t := 32) (by omega) (by omega) d_X_seen_27 (by decide) (fun c_27 => ?_) (fun c_27 => ?_)
                · refine tt_aload_n d_X_seen_32 rfl ?_
                  refine tt_getR d_X_seen_33 rfl rfl (by decide) rfl rfl ?_
                  refine tt_iload_n d_X_seen_36 rfl ?_
                  refine tt_iload_n d_X_seen_37 rfl ?_
                  refine tt_iload_n d_X_seen_38 rfl ?_
                  refine tt_iconst (v := nI 1) d_X_seen_39 (by decide) ?_
                  refine tn_ic_ne (t := 47) (by omega) (by omega) d_X_seen_40 (by decide) (fun c_40 => ?_) (fun c_40 => ?_)
                  · omega
                  · refine tt_iconst (v := nI 1) d_X_seen_43 (by decide) ?_
                    refine tt_goto (t := 48) d_X_seen_44 (by decide) ?_
                    refine tt_callV (x_Sights_add (d := d) (a := nI a) (b := nI m) (c := nI 1) hg.1 hS0 rfl) cw_Sights_add rfl rfl (by decide) rfl (by omega) d_X_seen_48 rfl rfl (Nat.le_of_ble_eq_true rfl) (Nat.le_of_ble_eq_true rfl) rfl rfl rfl (fun v σ2 q => ?_)
                    obtain ⟨rfl, e9⟩ := q
                    rw [if_neg c9] at e9
                    rw [e9, if_neg c9]
                    clear e9
                    refine tn_if_eq (t := 64) (by omega) d_X_seen_51 (by decide) (fun c_51 => ?_) (fun c_51 => ?_)
                    · refine tt_iconst (v := (-1)) d_X_seen_64 (by decide) ?_
                      refine tt_iret rfl d_X_seen_65 ?_
                      exact ⟨rfl, h.ww hd0, h.2.1⟩
                    · exact absurd rfl c_51
                · omega
      · have hqv : a_seen w (nI a) (nI m) s = (-1, w) := by unfold a_seen; rw [hq1, hq2, hq3]
        rw [hqv]
        refine tt_iload_n d_X_seen_0 rfl ?_
        refine tn_if_lt (t := 30) (by omega) d_X_seen_1 (by decide) ?_
        refine tt_iload_n d_X_seen_4 rfl ?_
        refine tt_bipush (v := nI 20) d_X_seen_5 (by decide) ?_
        refine tn_ic_gt (t := 30) (by omega) (by omega) d_X_seen_7 (by decide) (fun c_7 => ?_) (fun c_7 => ?_)
        · omega
        · refine tt_aload_n d_X_seen_10 rfl ?_
          refine tt_getR d_X_seen_11 rfl rfl (by decide) rfl rfl ?_
          refine tt_iload_n d_X_seen_14 rfl ?_
          refine tt_callV (x_Lake_has (d := d) h.r h.cl ho.1.1.2.1 ho.1.1.2.2.2.1 ho.cp) cw_Lake_has rfl rfl (by decide) rfl (by omega) d_X_seen_15 rfl rfl (Nat.le_of_ble_eq_true rfl) (Nat.le_of_ble_eq_true rfl) rfl rfl rfl (fun v σ2 q => ?_)
          obtain ⟨rfl, e9⟩ := q
          rw [e9, X_in_N hm (by omega)]
          clear e9
          refine tn_if_eq (t := 30) (by omega) d_X_seen_18 (by decide) (fun c_18 => ?_) (fun c_18 => ?_)
          · exact absurd c_18 (by decide)
          · refine tt_iload_n d_X_seen_21 rfl ?_
            refine tt_if_lt (t := 30) d_X_seen_22 (by decide) (fun c_22 => ?_) (fun c_22 => ?_)
            · refine tt_iconst (v := (-1)) d_X_seen_30 (by decide) ?_
              refine tt_iret rfl d_X_seen_31 ?_
              exact ⟨rfl, h.ww hd0, h.2.1⟩
            · refine tt_iload_n d_X_seen_25 rfl ?_
              refine tt_iconst (v := nI 1) d_X_seen_26 (by decide) ?_
              refine tt_ic_le (t := 32) d_X_seen_27 (by decide) (fun c_27 => ?_) (fun c_27 => ?_)
              · exact (rg_f (a := 0) (b := 1) (by decide) (by decide) hb3 (by rw [nI_0]; exact c_22) c_27).elim
              · refine tt_iconst (v := (-1)) d_X_seen_30 (by decide) ?_
                refine tt_iret rfl d_X_seen_31 ?_
                exact ⟨rfl, h.ww hd0, h.2.1⟩
    · have hqv : a_seen w (nI a) f s = (-1, w) := by unfold a_seen; rw [hq1, hq2]
      rw [hqv]
      refine tt_iload_n d_X_seen_0 rfl ?_
      refine tn_if_lt (t := 30) (by omega) d_X_seen_1 (by decide) ?_
      refine tt_iload_n d_X_seen_4 rfl ?_
      refine tt_bipush (v := nI 20) d_X_seen_5 (by decide) ?_
      refine tn_ic_gt (t := 30) (by omega) (by omega) d_X_seen_7 (by decide) (fun c_7 => ?_) (fun c_7 => ?_)
      · omega
      · refine tt_aload_n d_X_seen_10 rfl ?_
        refine tt_getR d_X_seen_11 rfl rfl (by decide) rfl rfl ?_
        refine tt_iload_n d_X_seen_14 rfl ?_
        refine tt_callV (x_Lake_has (d := d) h.r h.cl ho.1.1.2.1 ho.1.1.2.2.2.1 ho.cp) cw_Lake_has rfl rfl (by decide) rfl (by omega) d_X_seen_15 rfl rfl (Nat.le_of_ble_eq_true rfl) (Nat.le_of_ble_eq_true rfl) rfl rfl rfl (fun v σ2 q => ?_)
        obtain ⟨rfl, e9⟩ := q
        rw [e9, X_in_none hb]
        clear e9
        refine tn_if_eq (t := 30) (by omega) d_X_seen_18 (by decide) (fun c_18 => ?_) (fun c_18 => ?_)
        · refine tt_iconst (v := (-1)) d_X_seen_30 (by decide) ?_
          refine tt_iret rfl d_X_seen_31 ?_
          exact ⟨rfl, h.ww hd0, h.2.1⟩
        · exact absurd rfl c_18
  · have hqv : a_seen w n f s = (-1, w) := by unfold a_seen; rw [hq1]
    rw [hqv]
    refine tt_iload_n d_X_seen_0 rfl ?_
    refine tt_if_lt (t := 30) d_X_seen_1 (by decide) (fun c_1 => ?_) (fun c_1 => ?_)
    · refine tt_iconst (v := (-1)) d_X_seen_30 (by decide) ?_
      refine tt_iret rfl d_X_seen_31 ?_
      exact ⟨rfl, h.ww hd0, h.2.1⟩
    · refine tt_iload_n d_X_seen_4 rfl ?_
      refine tt_bipush (v := nI 20) d_X_seen_5 (by decide) ?_
      refine tt_ic_gt (t := 30) d_X_seen_7 (by decide) (fun c_7 => ?_) (fun c_7 => ?_)
      · refine tt_iconst (v := (-1)) d_X_seen_30 (by decide) ?_
        refine tt_iret rfl d_X_seen_31 ?_
        exact ⟨rfl, h.ww hd0, h.2.1⟩
      · exact (rg_f (a := 0) (b := 20) (by decide) (by decide) hb1 (by rw [nI_0]; exact c_1) (Int32.not_lt.mp c_7)).elim

set_option maxHeartbeats 4000000 in
theorem yc_seen {l : xLa} {d c : Nat} {σ : xs} {w : wv} (ho : okQ w) (hw : YW σ c w) (hS0 : (wS w).1 ≤ 10) {n f s : Int32} : TC l M_Y_seen (d + 150) [.ref 154, .int n, .int f, .int s] σ (fun r τ => r = some (.int (a_seen w n f s).1) ∧ YW τ c (a_seen w n f s).2 ∧ YF σ τ) := by
  show T l M_Y_seen (d + 150) 0 _ [] σ _
  refine T_lv (lv2 := [_, _, _, _]) rfl ?_
  have h := YQ.rf hw.v
  have hd0 := hw.2.2.2.1
  have hb0 := ho.fb
  have hb8 := ho.n8
  rcases rgN_c n 0 20 with ⟨a, ha1, ha2, ha3, rfl, hq1⟩ | ⟨hq1, hb1⟩
  · rcases inN_c f (eR (wE w) * eC (wE w)) with ⟨m, hm, rfl, hq2⟩ | ⟨hq2, hb⟩
    · rcases rgN_c s 0 1 with ⟨z, hz1, hz2, hz3, rfl, hq3⟩ | ⟨hq3, hb3⟩
      · have hqv : a_seen w (nI a) (nI m) (nI z) = if (wS w).1 < 10 then (nI ((wS w).1 + 1), (wE w, wV w, wX w, wD w, wU w, wK w, gadd (wS w) a m z)) else (-1, w) := by unfold a_seen; rw [hq1, hq2, hq3]
        rw [hqv]
        have hg := hw.2.2.2.2.2.2
        by_cases c9 : (wS w).1 < 10
        · rw [if_pos c9]
          refine tt_aload_n d_Y_seen_0 rfl ?_
          refine tt_iconst (v := nI 0) d_Y_seen_1 (by decide) ?_
          refine tt_putI d_Y_seen_2 rfl rfl (by decide) rfl (xpok_int rfl) rfl ?_
          replace h := h.thr (x := nI 0)
          replace hd0 := hd0.thr (x := nI 0)
          refine tt_iload_n d_Y_seen_5 rfl ?_
          refine tt_i2l d_Y_seen_6 ?_
          refine tt_lconst (v := 0) d_Y_seen_7 (by decide) ?_
          refine tt_ldc2_w d_Y_seen_8 rfl ?_
          refine tt_callS (y_in (d := d)) cw_Y_in rfl (by omega) d_Y_seen_11 rfl rfl (Nat.le_of_ble_eq_true rfl) (Nat.le_of_ble_eq_true rfl) rfl rfl rfl (fun v σ2 q => ?_)
          obtain ⟨rfl, e9⟩ := q
          rw [e9, show Yin (nI a).toInt64 0 20 = nI 1 from Yin_t (a := 0) (b := 20) rfl rfl (by omega) (by omega) (by decide)]
          clear e9
          refine tn_if_eq (t := 44) (by omega) d_Y_seen_14 (by decide) (fun c_14 => ?_) (fun c_14 => ?_)
          · exact absurd c_14 (by decide)
          · refine tt_aload_n d_Y_seen_17 rfl ?_
            refine tt_iload_n d_Y_seen_18 rfl ?_
            refine tt_callV (y_isField (d := d) h.e.1.1 h.e.1.2.1 ho.1.1.2.1 ho.1.1.2.2.2.1 ho.cp) cw_Y_isField rfl rfl (by decide) rfl (by omega) d_Y_seen_19 rfl rfl (Nat.le_of_ble_eq_true rfl) (Nat.le_of_ble_eq_true rfl) rfl rfl rfl (fun v σ2 q => ?_)
            obtain ⟨rfl, e9⟩ := q
            rw [e9, X_in_N hm (by omega)]
            clear e9
            refine tn_if_eq (t := 44) (by omega) d_Y_seen_22 (by decide) (fun c_22 => ?_) (fun c_22 => ?_)
            · exact absurd c_22 (by decide)
            · refine tt_iload_n d_Y_seen_25 rfl ?_
              refine tt_i2l d_Y_seen_26 ?_
              refine tt_lconst (v := 0) d_Y_seen_27 (by decide) ?_
              refine tt_lconst (v := 1) d_Y_seen_28 (by decide) ?_
              refine tt_callS (y_in (d := d)) cw_Y_in rfl (by omega) d_Y_seen_29 rfl rfl (Nat.le_of_ble_eq_true rfl) (Nat.le_of_ble_eq_true rfl) rfl rfl rfl (fun v σ2 q => ?_)
              obtain ⟨rfl, e9⟩ := q
              rw [e9, show Yin (nI z).toInt64 0 1 = nI 1 from Yin_t (a := 0) (b := 1) rfl rfl (by omega) (by omega) (by decide)]
              clear e9
              refine tn_if_eq (t := 44) (by omega) d_Y_seen_32 (by decide) (fun c_32 => ?_) (fun c_32 => ?_)
              · exact absurd c_32 (by decide)
              · refine tt_aload_n d_Y_seen_35 rfl ?_
                refine tn_get d_Y_seen_36 rfl rfl (by decide) rfl h.1.2.2.2.2.2.1 ?_
                refine tt_bipush (v := nI 10) d_Y_seen_39 (by decide) ?_
                refine tn_ic_ne (t := 46) (by omega) (by omega) d_Y_seen_41 (by decide) (fun c_41 => ?_) (fun c_41 => ?_)
                · refine tt_aload_n d_Y_seen_46 rfl ?_
                  refine tt_getR d_Y_seen_47 rfl rfl (by decide) rfl rfl ?_
                  refine tt_aload_n d_Y_seen_50 rfl ?_
                  refine tn_get d_Y_seen_51 rfl rfl (by decide) rfl h.1.2.2.2.2.2.1 ?_
                  refine tt_iload_n d_Y_seen_54 rfl ?_
                  refine tn_iast d_Y_seen_55 rfl (by decide) (by omega) ?_
                  refine tt_aload_n d_Y_seen_56 rfl ?_
                  refine tt_getR d_Y_seen_57 rfl rfl (by decide) rfl rfl ?_
                  refine tt_aload_n d_Y_seen_60 rfl ?_
                  refine tn_get d_Y_seen_61 rfl rfl (by decide) rfl h.1.2.2.2.2.2.1 ?_
                  refine tt_iload_n d_Y_seen_64 rfl ?_
                  refine tn_iast d_Y_seen_65 rfl (by decide) (by omega) ?_
                  refine tt_aload_n d_Y_seen_66 rfl ?_
                  refine tt_getR d_Y_seen_67 rfl rfl (by decide) rfl rfl ?_
                  refine tt_aload_n d_Y_seen_70 rfl ?_
                  refine tn_get d_Y_seen_71 rfl rfl (by decide) rfl h.1.2.2.2.2.2.1 ?_
                  refine tt_iload_n d_Y_seen_74 rfl ?_
                  refine tn_iast d_Y_seen_75 rfl (by decide) (by omega) ?_
                  refine tt_aload_n d_Y_seen_76 rfl ?_
                  refine tt_dup d_Y_seen_77 rfl ?_
                  refine tn_get d_Y_seen_78 rfl rfl (by decide) rfl h.1.2.2.2.2.2.1 ?_
                  refine tt_iconst (v := nI 1) d_Y_seen_81 (by decide) ?_
                  refine tn_iadd d_Y_seen_82 ?_
                  refine tt_putI d_Y_seen_83 rfl rfl (by decide) rfl (xpok_int rfl) rfl ?_
                  refine tt_aload_n d_Y_seen_86 rfl ?_
                  refine tn_get d_Y_seen_87 rfl rfl (by decide) rfl (show _ = nI ((wS w).1 + 1) from rfl) ?_
                  refine tt_iret rfl d_Y_seen_90 ?_
                  have y := (h.ww hd0).putS Gq_gadd (YS_add (a := a) (b := m) (z := z) hg)
                  exact ⟨rfl, y.1, h.2.tr y.2⟩
                · omega
        · rw [if_neg c9]
          refine tt_aload_n d_Y_seen_0 rfl ?_
          refine tt_iconst (v := nI 0) d_Y_seen_1 (by decide) ?_
          refine tt_putI d_Y_seen_2 rfl rfl (by decide) rfl (xpok_int rfl) rfl ?_
          replace h := h.thr (x := nI 0)
          replace hd0 := hd0.thr (x := nI 0)
          refine tt_iload_n d_Y_seen_5 rfl ?_
          refine tt_i2l d_Y_seen_6 ?_
          refine tt_lconst (v := 0) d_Y_seen_7 (by decide) ?_
          refine tt_ldc2_w d_Y_seen_8 rfl ?_
          refine tt_callS (y_in (d := d)) cw_Y_in rfl (by omega) d_Y_seen_11 rfl rfl (Nat.le_of_ble_eq_true rfl) (Nat.le_of_ble_eq_true rfl) rfl rfl rfl (fun v σ2 q => ?_)
          obtain ⟨rfl, e9⟩ := q
          rw [e9, show Yin (nI a).toInt64 0 20 = nI 1 from Yin_t (a := 0) (b := 20) rfl rfl (by omega) (by omega) (by decide)]
          clear e9
          refine tn_if_eq (t := 44) (by omega) d_Y_seen_14 (by decide) (fun c_14 => ?_) (fun c_14 => ?_)
          · exact absurd c_14 (by decide)
          · refine tt_aload_n d_Y_seen_17 rfl ?_
            refine tt_iload_n d_Y_seen_18 rfl ?_
            refine tt_callV (y_isField (d := d) h.e.1.1 h.e.1.2.1 ho.1.1.2.1 ho.1.1.2.2.2.1 ho.cp) cw_Y_isField rfl rfl (by decide) rfl (by omega) d_Y_seen_19 rfl rfl (Nat.le_of_ble_eq_true rfl) (Nat.le_of_ble_eq_true rfl) rfl rfl rfl (fun v σ2 q => ?_)
            obtain ⟨rfl, e9⟩ := q
            rw [e9, X_in_N hm (by omega)]
            clear e9
            refine tn_if_eq (t := 44) (by omega) d_Y_seen_22 (by decide) (fun c_22 => ?_) (fun c_22 => ?_)
            · exact absurd c_22 (by decide)
            · refine tt_iload_n d_Y_seen_25 rfl ?_
              refine tt_i2l d_Y_seen_26 ?_
              refine tt_lconst (v := 0) d_Y_seen_27 (by decide) ?_
              refine tt_lconst (v := 1) d_Y_seen_28 (by decide) ?_
              refine tt_callS (y_in (d := d)) cw_Y_in rfl (by omega) d_Y_seen_29 rfl rfl (Nat.le_of_ble_eq_true rfl) (Nat.le_of_ble_eq_true rfl) rfl rfl rfl (fun v σ2 q => ?_)
              obtain ⟨rfl, e9⟩ := q
              rw [e9, show Yin (nI z).toInt64 0 1 = nI 1 from Yin_t (a := 0) (b := 1) rfl rfl (by omega) (by omega) (by decide)]
              clear e9
              refine tn_if_eq (t := 44) (by omega) d_Y_seen_32 (by decide) (fun c_32 => ?_) (fun c_32 => ?_)
              · exact absurd c_32 (by decide)
              · refine tt_aload_n d_Y_seen_35 rfl ?_
                refine tn_get d_Y_seen_36 rfl rfl (by decide) rfl h.1.2.2.2.2.2.1 ?_
                refine tt_bipush (v := nI 10) d_Y_seen_39 (by decide) ?_
                refine tn_ic_ne (t := 46) (by omega) (by omega) d_Y_seen_41 (by decide) (fun c_41 => ?_) (fun c_41 => ?_)
                · omega
                · refine tt_iconst (v := (-1)) d_Y_seen_44 (by decide) ?_
                  refine tt_iret rfl d_Y_seen_45 ?_
                  exact ⟨rfl, h.ww hd0, h.2⟩
      · have hqv : a_seen w (nI a) (nI m) s = (-1, w) := by unfold a_seen; rw [hq1, hq2, hq3]
        rw [hqv]
        refine tt_aload_n d_Y_seen_0 rfl ?_
        refine tt_iconst (v := nI 0) d_Y_seen_1 (by decide) ?_
        refine tt_putI d_Y_seen_2 rfl rfl (by decide) rfl (xpok_int rfl) rfl ?_
        replace h := h.thr (x := nI 0)
        replace hd0 := hd0.thr (x := nI 0)
        refine tt_iload_n d_Y_seen_5 rfl ?_
        refine tt_i2l d_Y_seen_6 ?_
        refine tt_lconst (v := 0) d_Y_seen_7 (by decide) ?_
        refine tt_ldc2_w d_Y_seen_8 rfl ?_
        refine tt_callS (y_in (d := d)) cw_Y_in rfl (by omega) d_Y_seen_11 rfl rfl (Nat.le_of_ble_eq_true rfl) (Nat.le_of_ble_eq_true rfl) rfl rfl rfl (fun v σ2 q => ?_)
        obtain ⟨rfl, e9⟩ := q
        rw [e9, show Yin (nI a).toInt64 0 20 = nI 1 from Yin_t (a := 0) (b := 20) rfl rfl (by omega) (by omega) (by decide)]
        clear e9
        refine tn_if_eq (t := 44) (by omega) d_Y_seen_14 (by decide) (fun c_14 => ?_) (fun c_14 => ?_)
        · exact absurd c_14 (by decide)
        · refine tt_aload_n d_Y_seen_17 rfl ?_
          refine tt_iload_n d_Y_seen_18 rfl ?_
          refine tt_callV (y_isField (d := d) h.e.1.1 h.e.1.2.1 ho.1.1.2.1 ho.1.1.2.2.2.1 ho.cp) cw_Y_isField rfl rfl (by decide) rfl (by omega) d_Y_seen_19 rfl rfl (Nat.le_of_ble_eq_true rfl) (Nat.le_of_ble_eq_true rfl) rfl rfl rfl (fun v σ2 q => ?_)
          obtain ⟨rfl, e9⟩ := q
          rw [e9, X_in_N hm (by omega)]
          clear e9
          refine tn_if_eq (t := 44) (by omega) d_Y_seen_22 (by decide) (fun c_22 => ?_) (fun c_22 => ?_)
          · exact absurd c_22 (by decide)
          · refine tt_iload_n d_Y_seen_25 rfl ?_
            refine tt_i2l d_Y_seen_26 ?_
            refine tt_lconst (v := 0) d_Y_seen_27 (by decide) ?_
            refine tt_lconst (v := 1) d_Y_seen_28 (by decide) ?_
            refine tt_callS (y_in (d := d)) cw_Y_in rfl (by omega) d_Y_seen_29 rfl rfl (Nat.le_of_ble_eq_true rfl) (Nat.le_of_ble_eq_true rfl) rfl rfl rfl (fun v σ2 q => ?_)
            obtain ⟨rfl, e9⟩ := q
            rw [e9, show Yin s.toInt64 0 1 = nI 0 from Yin_f (a := 0) (b := 1) rfl rfl (by decide) (by decide) hb3]
            clear e9
            refine tn_if_eq (t := 44) (by omega) d_Y_seen_32 (by decide) (fun c_32 => ?_) (fun c_32 => ?_)
            · refine tt_iconst (v := (-1)) d_Y_seen_44 (by decide) ?_
              refine tt_iret rfl d_Y_seen_45 ?_
              exact ⟨rfl, h.ww hd0, h.2⟩
            · exact absurd rfl c_32
    · have hqv : a_seen w (nI a) f s = (-1, w) := by unfold a_seen; rw [hq1, hq2]
      rw [hqv]
      refine tt_aload_n d_Y_seen_0 rfl ?_
      refine tt_iconst (v := nI 0) d_Y_seen_1 (by decide) ?_
      refine tt_putI d_Y_seen_2 rfl rfl (by decide) rfl (xpok_int rfl) rfl ?_
      replace h := h.thr (x := nI 0)
      replace hd0 := hd0.thr (x := nI 0)
      refine tt_iload_n d_Y_seen_5 rfl ?_
      refine tt_i2l d_Y_seen_6 ?_
      refine tt_lconst (v := 0) d_Y_seen_7 (by decide) ?_
      refine tt_ldc2_w d_Y_seen_8 rfl ?_
      refine tt_callS (y_in (d := d)) cw_Y_in rfl (by omega) d_Y_seen_11 rfl rfl (Nat.le_of_ble_eq_true rfl) (Nat.le_of_ble_eq_true rfl) rfl rfl rfl (fun v σ2 q => ?_)
      obtain ⟨rfl, e9⟩ := q
      rw [e9, show Yin (nI a).toInt64 0 20 = nI 1 from Yin_t (a := 0) (b := 20) rfl rfl (by omega) (by omega) (by decide)]
      clear e9
      refine tn_if_eq (t := 44) (by omega) d_Y_seen_14 (by decide) (fun c_14 => ?_) (fun c_14 => ?_)
      · exact absurd c_14 (by decide)
      · refine tt_aload_n d_Y_seen_17 rfl ?_
        refine tt_iload_n d_Y_seen_18 rfl ?_
        refine tt_callV (y_isField (d := d) h.e.1.1 h.e.1.2.1 ho.1.1.2.1 ho.1.1.2.2.2.1 ho.cp) cw_Y_isField rfl rfl (by decide) rfl (by omega) d_Y_seen_19 rfl rfl (Nat.le_of_ble_eq_true rfl) (Nat.le_of_ble_eq_true rfl) rfl rfl rfl (fun v σ2 q => ?_)
        obtain ⟨rfl, e9⟩ := q
        rw [e9, X_in_none hb]
        clear e9
        refine tn_if_eq (t := 44) (by omega) d_Y_seen_22 (by decide) (fun c_22 => ?_) (fun c_22 => ?_)
        · refine tt_iconst (v := (-1)) d_Y_seen_44 (by decide) ?_
          refine tt_iret rfl d_Y_seen_45 ?_
          exact ⟨rfl, h.ww hd0, h.2⟩
        · exact absurd rfl c_22
  · have hqv : a_seen w n f s = (-1, w) := by unfold a_seen; rw [hq1]
    rw [hqv]
    refine tt_aload_n d_Y_seen_0 rfl ?_
    refine tt_iconst (v := nI 0) d_Y_seen_1 (by decide) ?_
    refine tt_putI d_Y_seen_2 rfl rfl (by decide) rfl (xpok_int rfl) rfl ?_
    replace h := h.thr (x := nI 0)
    replace hd0 := hd0.thr (x := nI 0)
    refine tt_iload_n d_Y_seen_5 rfl ?_
    refine tt_i2l d_Y_seen_6 ?_
    refine tt_lconst (v := 0) d_Y_seen_7 (by decide) ?_
    refine tt_ldc2_w d_Y_seen_8 rfl ?_
    refine tt_callS (y_in (d := d)) cw_Y_in rfl (by omega) d_Y_seen_11 rfl rfl (Nat.le_of_ble_eq_true rfl) (Nat.le_of_ble_eq_true rfl) rfl rfl rfl (fun v σ2 q => ?_)
    obtain ⟨rfl, e9⟩ := q
    rw [e9, show Yin n.toInt64 0 20 = nI 0 from Yin_f (a := 0) (b := 20) rfl rfl (by decide) (by decide) hb1]
    clear e9
    refine tn_if_eq (t := 44) (by omega) d_Y_seen_14 (by decide) (fun c_14 => ?_) (fun c_14 => ?_)
    · refine tt_iconst (v := (-1)) d_Y_seen_44 (by decide) ?_
      refine tt_iret rfl d_Y_seen_45 ?_
      exact ⟨rfl, h.ww hd0, h.2⟩
    · exact absurd rfl c_14

