/-! Questions: way, farthest. Printed by wip/whole. -/
theorem fst_ex {P : Nat → Bool} : ∀ n i j, i ≤ j → j < i + n → P j = true → ∃ h, h ≤ j ∧ fstN P n i = some h
  | 0, _, _, h1, h2, _ => by omega
  | n + 1, i, j, h1, h2, h3 => by
    by_cases c : P i = true
    · exact ⟨i, h1, if_pos c⟩
    · have : ¬ i = j := fun q => c (q ▸ h3)
      obtain ⟨h, g1, g2⟩ := fst_ex n (i + 1) j (by omega) (by omega) h3
      exact ⟨h, g1, (if_neg c).trans g2⟩
section
variable {R C s f : Nat} {B : Nat → Nat}
theorem dT_a {k : Nat} (h : dT R C B s f = k + 1) : dR R C B s k f = true := by
  unfold dT at h
  cases q : dN R C B s f with
  | none => rw [q] at h; have : 0 = k + 1 := h; omega
  | some m =>
    rw [q] at h
    obtain rfl : m = k := by have : m + 1 = k + 1 := h; omega
    exact (fst_some _ _ _ q).2.2
theorem dT_b (hR : R ≤ 6) (hC : C ≤ 6) (hs : s < R * C) (hf : f < R * C) {n : Nat} (h : dR R C B s n f = true) : ∃ k, k ≤ n ∧ dT R C B s f = k + 1 := by
  obtain ⟨m, h1, h2⟩ : ∃ m, m ≤ n ∧ dN R C B s f = some m := by
    by_cases c : n ≤ R * C
    · exact fst_ex _ 0 n (Nat.zero_le _) (by omega) h
    · obtain ⟨m, h1, h2⟩ := fst_ex (P := fun k => dR R C B s k f) (R * C + 1) 0 (R * C) (Nat.zero_le _) (by omega) (dR_st hR hC hs hf h)
      exact ⟨m, by omega, h2⟩
  refine ⟨m, h1, ?_⟩
  unfold dT
  rw [h2]
theorem dT_s (hR : R ≤ 6) (hC : C ≤ 6) (hs : s < R * C) : dT R C B s s = 1 := by
  obtain ⟨k, h1, h2⟩ := dT_b (B := B) hR hC hs hs (n := 0) (dR_0.mpr rfl)
  omega
theorem dT_1 (h : dT R C B s f = 1) : f = s := dR_0.mp (dT_a h)
/-- a field that is not the first has one before it -/
theorem dT_p (hR : R ≤ 6) (hC : C ≤ 6) (hs : s < R * C) (hf : f < R * C) {m : Nat} (h : dT R C B s f = m + 2) : ∃ v, v < 4 ∧ ¬ beN R C f v = 0 ∧ beN R C f v - 1 < R * C ∧ dT R C B s (beN R C f v - 1) = m + 1 := by
  have no : ∀ k, k ≤ m → ¬ dR R C B s k f = true := fun k hk q => by
    obtain ⟨k2, g1, g2⟩ := dT_b hR hC hs hf q
    omega
  rcases dR_t.mp (dT_a (k := m + 1) h) with q | ⟨q1, v, q2, q3, q4⟩
  · exact absurd q (no m (Nat.le_refl _))
  · have hb : beN R C f v - 1 < R * C := by
      rcases be_c hR hC q2 hf with z | z
      · exact absurd z q3
      · exact z.1
    obtain ⟨k, g1, g2⟩ := dT_b hR hC hs hb q4
    refine ⟨v, q2, q3, hb, ?_⟩
    by_cases c : k = m
    · rw [g2, c]
    · exact absurd (dR_t.mpr (Or.inr ⟨q1, v, q2, q3, dT_a g2⟩)) (no (k + 1) (by omega))
/-- the least field beside f with so many steps (plus 1), of the ways below v -/
def nbN (R C : Nat) (t : Nat → Nat) (f left : Nat) : Nat → Nat
  | 0 => 0
  | v + 1 => if (¬ beN R C f v = 0 ∧ t (beN R C f v - 1) = left + 1) ∧ (nbN R C t f left v = 0 ∨ beN R C f v < nbN R C t f left v) then beN R C f v else nbN R C t f left v
theorem nb_c {t : Nat → Nat} {left : Nat} (hR : R ≤ 6) (hC : C ≤ 6) (hf : f < R * C) : ∀ v, v ≤ 4 → nbN R C t f left v ≤ R * C ∧ (¬ nbN R C t f left v = 0 → t (nbN R C t f left v - 1) = left + 1) ∧ ((∃ u, u < v ∧ ¬ beN R C f u = 0 ∧ t (beN R C f u - 1) = left + 1) → ¬ nbN R C t f left v = 0)
  | 0, _ => ⟨Nat.zero_le _, fun q => absurd rfl q, fun ⟨u, h, _⟩ => absurd h (Nat.not_lt_zero u)⟩
  | v + 1, hv => by
    obtain ⟨h1, h2, h3⟩ := nb_c (t := t) (left := left) hR hC hf v (by omega)
    have hb := be_c hR hC (show v < 4 by omega) hf
    show (if (¬ beN R C f v = 0 ∧ t (beN R C f v - 1) = left + 1) ∧ (nbN R C t f left v = 0 ∨ beN R C f v < nbN R C t f left v) then beN R C f v else nbN R C t f left v) ≤ _ ∧ (¬ (if (¬ beN R C f v = 0 ∧ t (beN R C f v - 1) = left + 1) ∧ (nbN R C t f left v = 0 ∨ beN R C f v < nbN R C t f left v) then beN R C f v else nbN R C t f left v) = 0 → t ((if (¬ beN R C f v = 0 ∧ t (beN R C f v - 1) = left + 1) ∧ (nbN R C t f left v = 0 ∨ beN R C f v < nbN R C t f left v) then beN R C f v else nbN R C t f left v) - 1) = left + 1) ∧ (_ → ¬ (if (¬ beN R C f v = 0 ∧ t (beN R C f v - 1) = left + 1) ∧ (nbN R C t f left v = 0 ∨ beN R C f v < nbN R C t f left v) then beN R C f v else nbN R C t f left v) = 0)
    by_cases c : (¬ beN R C f v = 0 ∧ t (beN R C f v - 1) = left + 1) ∧ (nbN R C t f left v = 0 ∨ beN R C f v < nbN R C t f left v)
    · rw [if_pos c]
      exact ⟨by omega, fun _ => c.1.2, fun _ => c.1.1⟩
    · rw [if_neg c]
      refine ⟨h1, h2, ?_⟩
      rintro ⟨u, g1, g2, g3⟩
      by_cases cu : u = v
      · subst cu
        intro q
        exact c ⟨⟨g2, g3⟩, Or.inl q⟩
      · exact h3 ⟨u, by omega, g2, g3⟩
end
/-- the way from f to s: where it is behind i steps -/
def wyA (w : wv) (s f : Nat) : Nat → Nat
  | 0 => f
  | i + 1 => nbN (eR (wE w)) (eC (wE w)) (dW w s) (wyA w s f i) (dW w s f - 1 - (i + 1)) 4 - 1
theorem wyA_c {w : wv} {s f : Nat} (ho : okQ w) (hs : s < eR (wE w) * eC (wE w)) (hf : f < eR (wE w) * eC (wE w)) (h0 : ¬ dW w s f = 0) : ∀ i, i ≤ dW w s f - 1 → wyA w s f i < eR (wE w) * eC (wE w) ∧ dW w s (wyA w s f i) = dW w s f - i ∧ (i < dW w s f - 1 → ¬ nbN (eR (wE w)) (eC (wE w)) (dW w s) (wyA w s f i) (dW w s f - 1 - (i + 1)) 4 = 0)
  | 0, _ => by
    refine ⟨hf, by show dW w s f = _; omega, fun hi => ?_⟩
    obtain ⟨v, h1, h2, h3, h4⟩ := dT_p (m := dW w s f - 2) ho.1.1.2.1 ho.1.1.2.2.2.1 hs hf (show dW w s f = dW w s f - 2 + 2 by omega)
    exact (nb_c ho.1.1.2.1 ho.1.1.2.2.2.1 hf 4 (Nat.le_refl _)).2.2 ⟨v, h1, h2, by have : dW w s (beN (eR (wE w)) (eC (wE w)) f v - 1) = _ := h4; rw [this]; omega⟩
  | i + 1, hi => by
    obtain ⟨h1, h2, h3⟩ := wyA_c ho hs hf h0 i (by omega)
    have hn := h3 (by omega)
    obtain ⟨g1, g2, g3⟩ := nb_c (t := dW w s) (left := dW w s f - 1 - (i + 1)) ho.1.1.2.1 ho.1.1.2.2.2.1 h1 4 (Nat.le_refl _)
    have e1 : wyA w s f (i + 1) < eR (wE w) * eC (wE w) := by
      show nbN _ _ _ _ _ 4 - 1 < _
      omega
    have e2 : dW w s (wyA w s f (i + 1)) = dW w s f - (i + 1) := by
      show dW w s (nbN _ _ _ _ _ 4 - 1) = _
      rw [g2 hn]; omega
    refine ⟨e1, e2, fun hi2 => ?_⟩
    obtain ⟨v, z1, z2, z3, z4⟩ := dT_p (m := dW w s f - (i + 1) - 2) ho.1.1.2.1 ho.1.1.2.2.2.1 hs e1 (show dW w s (wyA w s f (i + 1)) = dW w s f - (i + 1) - 2 + 2 by omega)
    exact (nb_c ho.1.1.2.1 ho.1.1.2.2.2.1 e1 4 (Nat.le_refl _)).2.2 ⟨v, z1, z2, by have : dW w s (beN (eR (wE w)) (eC (wE w)) (wyA w s f (i + 1)) v - 1) = _ := z4; rw [this]; omega⟩
def wyL (w : wv) (s f n : Nat) : List Int64 := (List.range n).map (fun j => (nI (wyA w s f j)).toInt64)
def q_way (w : wv) (a b : Int32) : Int32 × Option (List Int64) := match inN a (eR (wE w) * eC (wE w)), inN b (eR (wE w) * eC (wE w)) with
  | some f, some s => if (eB (wE w) f = 0 ∧ eB (wE w) s = 0) ∧ ¬ dW w s f = 0 then (nI (dW w s f - 1), some (wyL w s f (dW w s f))) else (-2, none)
  | _, _ => (-1, none)
theorem wyL_n {w : wv} {s f n : Nat} : (wyL w s f n).length = n := by unfold wyL; rw [List.length_map, List.length_range]
theorem wyL_s {w : wv} {s f n : Nat} : wyL w s f n ++ [(nI (wyA w s f n)).toInt64] = wyL w s f (n + 1) := (rng_s (fun j => (nI (wyA w s f j)).toInt64) n).symm
theorem gI_eqN {t k : Nat} (h : t < 2 ^ 30) (hk : k < 2 ^ 30) : gI t = nI k ↔ t = k + 1 := by
  cases t with
  | zero =>
    refine ⟨fun q => ?_, fun q => by omega⟩
    have := congrArg Int32.toInt q
    rw [nI_toInt (by omega)] at this
    have e : (gI 0).toInt = -1 := rfl
    omega
  | succ t =>
    refine ⟨fun q => ?_, fun q => by rw [show gI (t + 1) = nI t from rfl, show t = k by omega]⟩
    have := congrArg Int32.toInt q
    rw [show gI (t + 1) = nI t from rfl, nI_toInt (by omega), nI_toInt (by omega)] at this
    omega
theorem gI_ltN {a b : Nat} (ha : a < 2 ^ 30) (hb : b < 2 ^ 30) : gI a < gI b ↔ a < b := by
  rw [fa_lt']
  have e : ∀ x, x < 2 ^ 30 → (gI x).toInt = (x : Int) - 1 := by
    intro x hx
    cases x with
    | zero => rfl
    | succ x => rw [show gI (x + 1) = nI x from rfl, nI_toInt (by omega)]; omega
  rw [e a ha, e b hb]
  omega
/-- what the class's row of steps says -/
def SX (τ : xs) (w : wv) (s : Nat) : Prop := ∀ f, f < eR (wE w) * eC (wE w) → si τ 7 f = gI (dW w s f) ∧ dW w s f ≤ 37
def SYs (τ : xs) (w : wv) (s : Nat) : Prop := ∀ f, f < eR (wE w) * eC (wE w) → si τ 182 f = nI (nvN (dW w s f)) ∧ dW w s f ≤ 37
theorem X_stp_N {τ : xs} {n f : Nat} (hf : f < n) (hn : n ≤ 36) : X_stp τ n (nI f) = si τ 7 f := by
  unfold X_stp
  rw [nI_toInt (by omega), if_pos (by omega)]
  rfl
theorem X_rk_N {τ σ : xs} {w : wv} {f : Nat} (h : XQ w σ τ) (ho : okQ w) (hf : f < eR (wE w) * eC (wE w)) : X_rk τ (eR (wE w) * eC (wE w)) (nI f) = nI (eB (wE w) f) := by
  have h36 := ho.fb
  unfold X_rk
  rw [nI_toInt (by omega), if_pos (by omega)]
  show (if si τ 6 f = 0 then nI 0 else nI 1) = _
  rw [h.e.2.2.2.1 f (by omega)]
  have := ho.1.2.2.2 f (by omega)
  rcases (show eB (wE w) f = 0 ∨ eB (wE w) f = 1 by omega) with q | q
  · rw [q]; rfl
  · rw [q]; rfl
theorem X_nb_N {τ : xs} {w : wv} {s f left : Nat} (ho : okQ w) (hS : SX τ w s) (hf : f < eR (wE w) * eC (wE w)) (hl : left < 100) : ∀ v, v ≤ 4 → X_nb τ (eR (wE w)) (eC (wE w)) f (nI left) v = gI (nbN (eR (wE w)) (eC (wE w)) (dW w s) f left v)
  | 0, _ => rfl
  | v + 1, hv => by
    have h36 := ho.fb
    have ih := X_nb_N ho hS hf hl v (by omega)
    have hb := be_c ho.1.1.2.1 ho.1.1.2.2.2.1 (show v < 4 by omega) hf
    have hn := (nb_c (t := dW w s) (left := left) ho.1.1.2.1 ho.1.1.2.2.2.1 hf v (by omega)).1
    show (if X_stp τ (eR (wE w) * eC (wE w)) (X_bes (eR (wE w)) (eC (wE w)) f v) = nI left ∧ ¬ X_bes (eR (wE w)) (eC (wE w)) f v = -1 ∧ (X_nb τ (eR (wE w)) (eC (wE w)) f (nI left) v = -1 ∨ X_bes (eR (wE w)) (eC (wE w)) f v < X_nb τ (eR (wE w)) (eC (wE w)) f (nI left) v) then X_bes (eR (wE w)) (eC (wE w)) f v else X_nb τ (eR (wE w)) (eC (wE w)) f (nI left) v) = gI (if (¬ beN (eR (wE w)) (eC (wE w)) f v = 0 ∧ dW w s (beN (eR (wE w)) (eC (wE w)) f v - 1) = left + 1) ∧ (nbN (eR (wE w)) (eC (wE w)) (dW w s) f left v = 0 ∨ beN (eR (wE w)) (eC (wE w)) f v < nbN (eR (wE w)) (eC (wE w)) (dW w s) f left v) then beN (eR (wE w)) (eC (wE w)) f v else nbN (eR (wE w)) (eC (wE w)) (dW w s) f left v)
    rw [ih, be_g ho.1.1.2.1 ho.1.1.2.2.2.1 (show v < 4 by omega) hf]
    have q1 : gI (beN (eR (wE w)) (eC (wE w)) f v) = -1 ↔ beN (eR (wE w)) (eC (wE w)) f v = 0 := gI_1 (by omega)
    have q2 : gI (nbN (eR (wE w)) (eC (wE w)) (dW w s) f left v) = -1 ↔ nbN (eR (wE w)) (eC (wE w)) (dW w s) f left v = 0 := gI_1 (by omega)
    have q3 := gI_ltN (show beN (eR (wE w)) (eC (wE w)) f v < 2 ^ 30 by omega) (show nbN (eR (wE w)) (eC (wE w)) (dW w s) f left v < 2 ^ 30 by omega)
    by_cases c0 : beN (eR (wE w)) (eC (wE w)) f v = 0
    · rw [if_neg (fun z => z.2.1 (q1.mpr c0)), if_neg (fun z => z.1.1 c0)]
    · have q4 : X_stp τ (eR (wE w) * eC (wE w)) (gI (beN (eR (wE w)) (eC (wE w)) f v)) = nI left ↔ dW w s (beN (eR (wE w)) (eC (wE w)) f v - 1) = left + 1 := by
        obtain ⟨z1, z2⟩ := hS (beN (eR (wE w)) (eC (wE w)) f v - 1) (by omega)
        rw [(gI_c (show beN (eR (wE w)) (eC (wE w)) f v < 2 ^ 31 by omega)).2 c0, X_stp_N (by omega) h36, z1]
        exact gI_eqN (by omega) (by omega)
      by_cases c : (¬ beN (eR (wE w)) (eC (wE w)) f v = 0 ∧ dW w s (beN (eR (wE w)) (eC (wE w)) f v - 1) = left + 1) ∧ (nbN (eR (wE w)) (eC (wE w)) (dW w s) f left v = 0 ∨ beN (eR (wE w)) (eC (wE w)) f v < nbN (eR (wE w)) (eC (wE w)) (dW w s) f left v)
      · rw [if_pos c, if_pos ⟨q4.mpr c.1.2, fun z => c.1.1 (q1.mp z), c.2.elim (fun z => Or.inl (q2.mpr z)) (fun z => Or.inr (q3.mpr z))⟩]
      · rw [if_neg c, if_neg (fun z => c ⟨⟨fun y => z.2.1 (q1.mpr y), q4.mp z.1⟩, z.2.2.elim (fun y => Or.inl (q2.mp y)) (fun y => Or.inr (q3.mp y))⟩)]
theorem q_way_r {w : wv} {a b : Int32} (h : (a.toInt < 0 ∨ ((eR (wE w) * eC (wE w) : Nat) : Int) ≤ a.toInt) ∨ (b.toInt < 0 ∨ ((eR (wE w) * eC (wE w) : Nat) : Int) ≤ b.toInt)) : q_way w a b = (-1, none) := by
  unfold q_way inN
  rcases h with h | h
  · rw [if_neg (by omega)]
  · rw [if_neg (c := 0 ≤ b.toInt ∧ b.toInt < _) (by omega)]
    split
    · rename_i q; cases q
    · rfl
theorem nI_n1 {n : Nat} (h : n < 2 ^ 31) : ¬ nI n = -1 := fun q => by
  have := congrArg Int32.toInt q
  rw [nI_toInt h] at this
  have e : (-1 : Int32).toInt = -1 := rfl
  omega
theorem nI_dec {n : Nat} (h : 1 ≤ n) : nI n + (-1) = nI (n - 1) := by
  have := pk_sub (a := n) (b := 1) h
  rw [← this]
  have : ∀ x : Int32, x + -1 = x - 1 := fun x => (Int32.sub_eq_add_neg x 1).symm
  exact this _
set_option maxHeartbeats 4000000 in
theorem x_way_l {l : xLa} {d : Nat} {σ : xs} {w : wv} {s f : Nat} (hs : s < eR (wE w) * eC (wE w)) (hf : f < eR (wE w) * eC (wE w)) (h0 : ¬ dW w s f = 0) (h37 : dW w s f ≤ 37) (ho : okQ w) : ∀ (m : Nat) (i : Nat) (τ : xs), dW w s f - 1 - i = m → i ≤ dW w s f - 1 → XQ w σ τ → SX τ w s → XD τ (dL (wyL w s f (i + 1))) → T l M_X_way (d + 30) 96 [some (.ref 0), some (.int (nI f)), some (.int (nI s)), some (.int (nI (dW w s f - 1))), some (.int (nI (wyA w s f i))), some (.int (nI (dW w s f - 1 - i)))] [] τ (fun r τ => r = some (.int (nI (dW w s f - 1))) ∧ XW τ (stD w (some (wyL w s f (dW w s f)))) ∧ XF σ τ) := by
  have hb0 := ho.fb
  have hb8 := ho.n8
  intro m
  induction m using Nat.strongRecOn with
  | ind m ih =>
    intro i τ hm hi h hS hd
    obtain ⟨y1, y2, y3⟩ := wyA_c ho hs hf h0 i hi
    refine tt_iload d_X_way_96 rfl ?_
    refine tn_if_le (t := 138) (by omega) d_X_way_98 (by decide) (fun c_98 => ?_) (fun c_98 => ?_)
    · obtain rfl : i = dW w s f - 1 := by omega
      rw [show dW w s f - 1 + 1 = dW w s f by omega] at hd
      refine tt_iload_n d_X_way_138 rfl ?_
      refine tt_iret rfl d_X_way_139 ?_
      exact ⟨rfl, h.done hd, h.2.1⟩
    · obtain ⟨z1, z2, z3⟩ := wyA_c ho hs hf h0 (i + 1) (by omega)
      have y4 := y3 (by omega)
      have y5 := (nb_c (t := dW w s) (left := dW w s f - 1 - (i + 1)) ho.1.1.2.1 ho.1.1.2.2.2.1 y1 4 (Nat.le_refl _)).1
      refine tt_iload d_X_way_101 rfl ?_
      refine tt_iconst (v := (-1)) d_X_way_103 (by decide) ?_
      refine tt_ic_eq (t := 138) d_X_way_104 (by decide) (fun c_104 => ?_) (fun c_104 => ?_)
      · exact absurd c_104 (nI_n1 (by omega))
      · refine tt_aload_n d_X_way_107 rfl ?_
        refine tt_getR d_X_way_108 rfl rfl (by decide) rfl rfl ?_
        refine tt_iload d_X_way_111 rfl ?_
        refine tt_iload d_X_way_113 rfl ?_
        refine tt_iconst (v := nI 1) d_X_way_115 (by decide) ?_
        refine tn_isub (by omega) d_X_way_116 ?_
        refine tt_callV (x_Lake_nextBy (d := d) (by omega) h.r h.cl ho.1.1.2.1 ho.1.1.2.2.2.1 ho.cp) cw_Lake_nextBy rfl rfl (by decide) rfl (by omega) d_X_way_117 rfl rfl (Nat.le_of_ble_eq_true rfl) (Nat.le_of_ble_eq_true rfl) rfl rfl rfl (fun v σ2 q => ?_)
        obtain ⟨rfl, e9⟩ := q
        rw [e9, show dW w s f - 1 - i - 1 = dW w s f - 1 - (i + 1) by omega, X_nb_N ho hS y1 (by omega) 4 (Nat.le_refl _), (gI_c (by omega)).2 y4]
        clear e9
        refine tt_istore (lv2 := [_, _, _, _, _, _]) d_X_way_120 (by decide) rfl ?_
        refine tt_aload_n d_X_way_122 rfl ?_
        refine tt_getR d_X_way_123 rfl rfl (by decide) rfl rfl ?_
        refine tt_iload d_X_way_126 rfl ?_
        refine tt_i2l d_X_way_128 ?_
        refine tt_callV (xq_add (d := d) h hd (by rw [wyL_n]; omega)) cw_Told_add rfl rfl (by decide) rfl (by omega) d_X_way_129 rfl rfl (Nat.le_of_ble_eq_true rfl) (Nat.le_of_ble_eq_true rfl) rfl rfl rfl (fun v σ2 q => ?_)
        obtain ⟨rfl, h, hd, hf2⟩ := q
        replace hd : XD _ (dL (wyL w s f (i + 1) ++ [(nI (wyA w s f (i + 1))).toInt64])) := hd
        rw [wyL_s] at hd
        replace hS : SX _ w s := fun g hg => ⟨(congrFun (hf2.si 7) g).trans (hS g hg).1, (hS g hg).2⟩
        refine tt_iinc (lv2 := [_, _, _, _, _, _]) d_X_way_132 rfl (nI_dec (by omega)) (by decide) rfl ?_
        refine tt_goto (t := 96) d_X_way_135 (by decide) ?_
        rw [show dW w s f - 1 - i - 1 = dW w s f - 1 - (i + 1) by omega]
        exact ih (dW w s f - 1 - (i + 1)) (by omega) (i + 1) _ rfl (by omega) h hS hd

set_option maxHeartbeats 4000000 in
theorem xc_way {l : xLa} {d : Nat} {σ : xs} {w : wv} (ho : okQ w) (hw : XW σ w) {a b : Int32} : TC l M_X_way (d + 30) [.ref 0, .int a, .int b] σ (fun r τ => r = some (.int ((q_way w a b).1)) ∧ XW τ (stD w ((q_way w a b).2)) ∧ XF σ τ) := by
  show T l M_X_way (d + 30) 0 _ [] σ _
  refine T_lv (lv2 := [_, _, _, _, _, _]) rfl ?_
  have h := XQ.rf hw.v
  have hd0 := hw.2.2.2.1
  have hb0 := ho.fb
  have hb8 := ho.n8
  rcases inN_c a (eR (wE w) * eC (wE w)) with ⟨f, hf, rfl, hq⟩ | ⟨hq, hb⟩
  · rcases inN_c b (eR (wE w) * eC (wE w)) with ⟨s, hs, rfl, hq2⟩ | ⟨hq2, hb⟩
    · have hqv : q_way w (nI f) (nI s) = if (eB (wE w) f = 0 ∧ eB (wE w) s = 0) ∧ ¬ dW w s f = 0 then (nI (dW w s f - 1), some (wyL w s f (dW w s f))) else (-2, none) := by unfold q_way; rw [hq, hq2]
      rw [hqv]
      have hkf := ho.1.2.2.2 f (by omega)
      have hks := ho.1.2.2.2 s (by omega)
      refine tt_aload_n d_X_way_0 rfl ?_
      refine tt_getR d_X_way_1 rfl rfl (by decide) rfl rfl ?_
      refine tt_iload_n d_X_way_4 rfl ?_
      refine tt_callV (x_Lake_has (d := d) h.r h.cl ho.1.1.2.1 ho.1.1.2.2.2.1 ho.cp) cw_Lake_has rfl rfl (by decide) rfl (by omega) d_X_way_5 rfl rfl (Nat.le_of_ble_eq_true rfl) (Nat.le_of_ble_eq_true rfl) rfl rfl rfl (fun v σ2 q => ?_)
      obtain ⟨rfl, e9⟩ := q
      rw [e9, X_in_N hf (by omega)]
      clear e9
      refine tn_if_eq (t := 22) (by omega) d_X_way_8 (by decide) (fun c_8 => ?_) (fun c_8 => ?_)
      · exact absurd c_8 (by decide)
      · refine tt_aload_n d_X_way_11 rfl ?_
        refine tt_getR d_X_way_12 rfl rfl (by decide) rfl rfl ?_
        refine tt_iload_n d_X_way_15 rfl ?_
        refine tt_callV (x_Lake_has (d := d) h.r h.cl ho.1.1.2.1 ho.1.1.2.2.2.1 ho.cp) cw_Lake_has rfl rfl (by decide) rfl (by omega) d_X_way_16 rfl rfl (Nat.le_of_ble_eq_true rfl) (Nat.le_of_ble_eq_true rfl) rfl rfl rfl (fun v σ2 q => ?_)
        obtain ⟨rfl, e9⟩ := q
        rw [e9, X_in_N hs (by omega)]
        clear e9
        refine tn_if_ne (t := 24) (by omega) d_X_way_19 (by decide) (fun c_19 => ?_) (fun c_19 => ?_)
        · refine tt_aload_n d_X_way_24 rfl ?_
          refine tt_getR d_X_way_25 rfl rfl (by decide) rfl rfl ?_
          refine tt_iload_n d_X_way_28 rfl ?_
          refine tt_callV (x_Lake_isRock (d := d) h.r h.cl ho.1.1.2.1 ho.1.1.2.2.2.1 ho.cp) cw_Lake_isRock rfl rfl (by decide) rfl (by omega) d_X_way_29 rfl rfl (Nat.le_of_ble_eq_true rfl) (Nat.le_of_ble_eq_true rfl) rfl rfl rfl (fun v σ2 q => ?_)
          obtain ⟨rfl, e9⟩ := q
          rw [e9, X_rk_N h ho hf]
          clear e9
          refine tn_if_ne (t := 46) (by omega) d_X_way_32 (by decide) (fun c_32 => ?_) (fun c_32 => ?_)
          · refine tt_bipush (v := (-2)) d_X_way_46 (by decide) ?_
            refine tt_iret rfl d_X_way_48 ?_
            rw [if_neg (fun z => by omega)]
            exact ⟨rfl, h.none hd0, h.2.1⟩
          · refine tt_aload_n d_X_way_35 rfl ?_
            refine tt_getR d_X_way_36 rfl rfl (by decide) rfl rfl ?_
            refine tt_iload_n d_X_way_39 rfl ?_
            refine tt_callV (x_Lake_isRock (d := d) h.r h.cl ho.1.1.2.1 ho.1.1.2.2.2.1 ho.cp) cw_Lake_isRock rfl rfl (by decide) rfl (by omega) d_X_way_40 rfl rfl (Nat.le_of_ble_eq_true rfl) (Nat.le_of_ble_eq_true rfl) rfl rfl rfl (fun v σ2 q => ?_)
            obtain ⟨rfl, e9⟩ := q
            rw [e9, X_rk_N h ho hs]
            clear e9
            refine tn_if_eq (t := 49) (by omega) d_X_way_43 (by decide) (fun c_43 => ?_) (fun c_43 => ?_)
            · refine tt_aload_n d_X_way_49 rfl ?_
              refine tt_getR d_X_way_50 rfl rfl (by decide) rfl rfl ?_
              refine tt_iload_n d_X_way_53 rfl ?_
              refine tt_callV (xq_mf (d := d) h ho hs) cw_Lake_measureFrom rfl rfl (by decide) rfl (by omega) d_X_way_54 rfl rfl (Nat.le_of_ble_eq_true rfl) (Nat.le_of_ble_eq_true rfl) rfl rfl rfl (fun v σ2 q => ?_)
              obtain ⟨rfl, h, hu, hS⟩ := q
              replace hd0 := hd0.tn hu
              have h37 := (hS f hf).2
              refine tt_aload_n d_X_way_57 rfl ?_
              refine tt_getR d_X_way_58 rfl rfl (by decide) rfl rfl ?_
              refine tt_iload_n d_X_way_61 rfl ?_
              refine tt_callV (x_Lake_stepsTo (d := d) h.r h.cl ho.1.1.2.1 ho.1.1.2.2.2.1 ho.cp) cw_Lake_stepsTo rfl rfl (by decide) rfl (by omega) d_X_way_62 rfl rfl (Nat.le_of_ble_eq_true rfl) (Nat.le_of_ble_eq_true rfl) rfl rfl rfl (fun v σ2 q => ?_)
              obtain ⟨rfl, e9⟩ := q
              rw [e9, X_stp_N hf hb0, (hS f hf).1]
              clear e9
              refine tt_istore_n (lv2 := [_, _, _, _, _, _]) d_X_way_65 (by decide) rfl ?_
              refine tt_iload_n d_X_way_66 rfl ?_
              refine tt_iconst (v := (-1)) d_X_way_67 (by decide) ?_
              refine tt_ic_ne (t := 74) d_X_way_68 (by decide) (fun c_68 => ?_) (fun c_68 => ?_)
              · have h0 : ¬ dW w s f = 0 := fun q => c_68 ((gI_1 (by omega)).mpr q)
                rw [if_pos ⟨⟨by omega, by omega⟩, h0⟩, (gI_c (show dW w s f < 2 ^ 31 by omega)).2 h0]
                refine tt_aload_n d_X_way_74 rfl ?_
                refine tt_getR d_X_way_75 rfl rfl (by decide) rfl rfl ?_
                refine tt_callV (xq_start (d := d) h) cw_Told_start rfl rfl (by decide) rfl (by omega) d_X_way_78 rfl rfl (Nat.le_of_ble_eq_true rfl) (Nat.le_of_ble_eq_true rfl) rfl rfl rfl (fun v σ2 q => ?_)
                obtain ⟨rfl, h, hd, hf2⟩ := q
                replace hS : SX _ w s := fun g hg => ⟨(congrFun (hf2.si 7) g).trans (hS g hg).1, (hS g hg).2⟩
                refine tt_aload_n d_X_way_81 rfl ?_
                refine tt_getR d_X_way_82 rfl rfl (by decide) rfl rfl ?_
                refine tt_iload_n d_X_way_85 rfl ?_
                refine tt_i2l d_X_way_86 ?_
                refine tt_callV (xq_add (d := d) h hd (Nat.le_of_ble_eq_true rfl)) cw_Told_add rfl rfl (by decide) rfl (by omega) d_X_way_87 rfl rfl (Nat.le_of_ble_eq_true rfl) (Nat.le_of_ble_eq_true rfl) rfl rfl rfl (fun v σ2 q => ?_)
                obtain ⟨rfl, h, hd, hf2⟩ := q
                replace hS : SX _ w s := fun g hg => ⟨(congrFun (hf2.si 7) g).trans (hS g hg).1, (hS g hg).2⟩
                refine tt_iload_n d_X_way_90 rfl ?_
                refine tt_istore (lv2 := [_, _, _, _, _, _]) d_X_way_91 (by decide) rfl ?_
                refine tt_iload_n d_X_way_93 rfl ?_
                refine tt_istore (lv2 := [_, _, _, _, _, _]) d_X_way_94 (by decide) rfl ?_
                exact x_way_l hs hf h0 h37 ho (dW w s f - 1) 0 _ rfl (by omega) h hS hd
              · rw [if_neg (fun z => z.2 ((gI_1 (by omega)).mp (Decidable.not_not.mp c_68)))]
                refine tt_bipush (v := (-2)) d_X_way_71 (by decide) ?_
                refine tt_iret rfl d_X_way_73 ?_
                exact ⟨rfl, h.none hd0, h.2.1⟩
            · refine tt_bipush (v := (-2)) d_X_way_46 (by decide) ?_
              refine tt_iret rfl d_X_way_48 ?_
              rw [if_neg (fun z => by omega)]
              exact ⟨rfl, h.none hd0, h.2.1⟩
        · exact absurd c_19 (by decide)
    · rw [q_way_r (Or.inr hb)]
      refine tt_aload_n d_X_way_0 rfl ?_
      refine tt_getR d_X_way_1 rfl rfl (by decide) rfl rfl ?_
      refine tt_iload_n d_X_way_4 rfl ?_
      refine tt_callV (x_Lake_has (d := d) h.r h.cl ho.1.1.2.1 ho.1.1.2.2.2.1 ho.cp) cw_Lake_has rfl rfl (by decide) rfl (by omega) d_X_way_5 rfl rfl (Nat.le_of_ble_eq_true rfl) (Nat.le_of_ble_eq_true rfl) rfl rfl rfl (fun v σ2 q => ?_)
      obtain ⟨rfl, e9⟩ := q
      rw [e9, X_in_N hf (by omega)]
      clear e9
      refine tn_if_eq (t := 22) (by omega) d_X_way_8 (by decide) (fun c_8 => ?_) (fun c_8 => ?_)
      · exact absurd c_8 (by decide)
      · refine tt_aload_n d_X_way_11 rfl ?_
        refine tt_getR d_X_way_12 rfl rfl (by decide) rfl rfl ?_
        refine tt_iload_n d_X_way_15 rfl ?_
        refine tt_callV (x_Lake_has (d := d) h.r h.cl ho.1.1.2.1 ho.1.1.2.2.2.1 ho.cp) cw_Lake_has rfl rfl (by decide) rfl (by omega) d_X_way_16 rfl rfl (Nat.le_of_ble_eq_true rfl) (Nat.le_of_ble_eq_true rfl) rfl rfl rfl (fun v σ2 q => ?_)
        obtain ⟨rfl, e9⟩ := q
        rw [e9, X_in_none hb]
        clear e9
        refine tn_if_ne (t := 24) (by omega) d_X_way_19 (by decide) (fun c_19 => ?_) (fun c_19 => ?_)
        · exact absurd c_19 (by decide)
        · refine tt_iconst (v := (-1)) d_X_way_22 (by decide) ?_
          refine tt_iret rfl d_X_way_23 ?_
          exact ⟨rfl, h.none hd0, h.2.1⟩
  · rw [q_way_r (Or.inl hb)]
    refine tt_aload_n d_X_way_0 rfl ?_
    refine tt_getR d_X_way_1 rfl rfl (by decide) rfl rfl ?_
    refine tt_iload_n d_X_way_4 rfl ?_
    refine tt_callV (x_Lake_has (d := d) h.r h.cl ho.1.1.2.1 ho.1.1.2.2.2.1 ho.cp) cw_Lake_has rfl rfl (by decide) rfl (by omega) d_X_way_5 rfl rfl (Nat.le_of_ble_eq_true rfl) (Nat.le_of_ble_eq_true rfl) rfl rfl rfl (fun v σ2 q => ?_)
    obtain ⟨rfl, e9⟩ := q
    rw [e9, X_in_none hb]
    clear e9
    refine tn_if_eq (t := 22) (by omega) d_X_way_8 (by decide) (fun c_8 => ?_) (fun c_8 => ?_)
    · refine tt_iconst (v := (-1)) d_X_way_22 (by decide) ?_
      refine tt_iret rfl d_X_way_23 ?_
      exact ⟨rfl, h.none hd0, h.2.1⟩
    · exact absurd c_8 (by decide)

theorem nI_gdec (n : Nat) : nI n + (-1) = gI n := by
  cases n with
  | zero => rfl
  | succ n => exact nI_dec (by omega)
theorem nI_gsub (n : Nat) : nI n - nI 1 = gI n := by
  rw [← nI_gdec]
  exact Int32.sub_eq_add_neg _ _
set_option maxHeartbeats 4000000 in
theorem y_way_l {l : xLa} {d : Nat} {σ : xs} {c : Nat} {w : wv} {s f : Nat} (hs : s < eR (wE w) * eC (wE w)) (hf : f < eR (wE w) * eC (wE w)) (h0 : ¬ dW w s f = 0) (h37 : dW w s f ≤ 37) (ho : okQ w) : ∀ (m : Nat) (i v : Nat) (z : Option Int32) (τ : xs), (dW w s f - 1 - i) * 10 + (4 - v) = m → i < dW w s f - 1 → v ≤ 4 → YQ c w σ τ → SYs τ w s → YD τ (dL (wyL w s f (i + 1))) → T l M_Y_way (d + 150) 95 [some (.ref 154), some (.int (nI f)), some (.int (nI s)), some (.int (nI (wyA w s f i))), some (.int (nI (dW w s f - 1 - (i + 1)))), some (.int (gI (nbN (eR (wE w)) (eC (wE w)) (dW w s) (wyA w s f i) (dW w s f - 1 - (i + 1)) v))), some (.int (nI v)), z.map Value.int] [] τ (fun r τ => r = some (.int (nI (dW w s f - 1))) ∧ YW τ c (stD w (some (wyL w s f (dW w s f)))) ∧ YF σ τ) := by
  have hb0 := ho.fb
  have hb8 := ho.n8
  intro m
  induction m using Nat.strongRecOn with
  | ind m ih =>
    intro i v z τ hm hi hv h hU hd
    obtain ⟨y1, y2, y3⟩ := wyA_c ho hs hf h0 i (by omega)
    have y4 := y3 hi
    have y5 := nb_c (t := dW w s) (left := dW w s f - 1 - (i + 1)) ho.1.1.2.1 ho.1.1.2.2.2.1 y1
    have y6 := (y5 v hv).1
    have hbs := fun q => be_c (R := eR (wE w)) (C := eC (wE w)) (f := wyA w s f i) (w := v) ho.1.1.2.1 ho.1.1.2.2.2.1 q y1
    refine tt_iload d_Y_way_95 rfl ?_
    refine tt_iconst (v := nI 4) d_Y_way_97 (by decide) ?_
    refine tn_ic_ge (t := 154) (by omega) (by omega) d_Y_way_98 (by decide) (fun c_98 => ?_) (fun c_98 => ?_)
    · obtain rfl : v = 4 := by omega
      rw [(gI_c (by omega)).2 y4]
      obtain ⟨z1, z2, z3⟩ := wyA_c ho hs hf h0 (i + 1) (by omega)
      refine tt_iload d_Y_way_154 rfl ?_
      refine tt_istore_n (lv2 := [_, _, _, _, _, _, _, _]) d_Y_way_156 (by decide) rfl ?_
      refine tt_aload_n d_Y_way_157 rfl ?_
      refine tt_iload_n d_Y_way_158 rfl ?_
      refine tt_i2l d_Y_way_159 ?_
      refine tt_callV (yq_add (d := d) h hd (by rw [wyL_n]; omega)) cw_Y_enters rfl rfl (by decide) rfl (by omega) d_Y_way_160 rfl rfl (Nat.le_of_ble_eq_true rfl) (Nat.le_of_ble_eq_true rfl) rfl rfl rfl (fun v σ2 q => ?_)
      obtain ⟨rfl, h, hd, hf2⟩ := q
      replace hd : YD _ (dL (wyL w s f (i + 1) ++ [(nI (wyA w s f (i + 1))).toInt64])) := hd
      rw [wyL_s] at hd
      replace hU : SYs _ w s := fun g hg => ⟨(congrFun (hf2.si 182) g).trans (hU g hg).1, (hU g hg).2⟩
      refine tt_iinc (lv2 := [_, _, _, _, _, _, _, _]) d_Y_way_163 rfl (nI_gdec _) (by decide) rfl ?_
      refine tt_goto (t := 84) d_Y_way_166 (by decide) ?_
      refine tt_iload d_Y_way_84 rfl ?_
      refine tt_if_lt (t := 169) d_Y_way_86 (by decide) (fun c_86 => ?_) (fun c_86 => ?_)
      · have hl0 := (gI_lt (by omega)).mp c_86
        rw [show i + 1 + 1 = dW w s f by omega] at hd
        have hnv := (nvN_c h37).2.2 h0
        refine tt_aload_n d_Y_way_169 rfl ?_
        refine tt_getR d_Y_way_170 rfl rfl (by decide) rfl rfl ?_
        refine tt_iload_n d_Y_way_173 rfl ?_
        refine tn_iald d_Y_way_174 rfl (by decide) (by omega) (hU _ (by omega)).1 ?_
        refine tt_iret rfl d_Y_way_175 ?_
        rw [hnv]
        exact ⟨rfl, h.done hd, h.2⟩
      · have hl0 : ¬ dW w s f - 1 - (i + 1) = 0 := fun q => c_86 ((gI_lt (by omega)).mpr q)
        rw [(gI_c (show dW w s f - 1 - (i + 1) < 2 ^ 31 by omega)).2 hl0, show dW w s f - 1 - (i + 1) - 1 = dW w s f - 1 - (i + 1 + 1) by omega]
        refine tt_iconst (v := (-1)) d_Y_way_89 (by decide) ?_
        refine tt_istore (lv2 := [_, _, _, _, _, _, _, _]) d_Y_way_90 (by decide) rfl ?_
        refine tt_iconst (v := nI 0) d_Y_way_92 (by decide) ?_
        refine tt_istore (lv2 := [_, _, _, _, _, _, _, _]) d_Y_way_93 (by decide) rfl ?_
        exact ih ((dW w s f - 1 - (i + 1)) * 10 + (4 - 0)) (by omega) (i + 1) 0 z _ rfl (by omega) (by omega) h hU hd
    · replace hbs := hbs (by omega)
      refine tt_aload_n d_Y_way_101 rfl ?_
      refine tt_iload_n d_Y_way_102 rfl ?_
      refine tt_iload d_Y_way_103 rfl ?_
      refine tt_callV (y_beside (d := d) (by omega) (by omega) h.e.1.1 h.e.1.2.1 ho.1.1.2.1 ho.1.1.2.2.2.1 ho.cp) cw_Y_beside rfl rfl (by decide) rfl (by omega) d_Y_way_105 rfl rfl (Nat.le_of_ble_eq_true rfl) (Nat.le_of_ble_eq_true rfl) rfl rfl rfl (fun v σ2 q => ?_)
      obtain ⟨rfl, e9⟩ := q
      rw [e9, be_g ho.1.1.2.1 ho.1.1.2.2.2.1 (by omega) y1]
      clear e9
      have hbl : beN (eR (wE w)) (eC (wE w)) (wyA w s f i) v < 2 ^ 30 := by omega
      refine tt_istore (lv2 := [_, _, _, _, _, _, _, _]) d_Y_way_108 (by decide) rfl ?_
      refine tt_iload d_Y_way_110 rfl ?_
      refine tt_if_lt (t := 144) d_Y_way_112 (by decide) (fun c_112 => ?_) (fun c_112 => ?_)
      · have hb1 := (gI_lt hbl).mp c_112
        refine tt_iload d_Y_way_144 rfl ?_
        refine tt_istore (lv2 := [_, _, _, _, _, _, _, _]) d_Y_way_146 (by decide) rfl ?_
        refine tt_iinc (lv2 := [_, _, _, _, _, _, _, _]) d_Y_way_148 rfl (nI_inc _ 1) (by decide) rfl ?_
        refine tt_goto (t := 95) d_Y_way_151 (by decide) ?_
        have hz : nbN (eR (wE w)) (eC (wE w)) (dW w s) (wyA w s f i) (dW w s f - 1 - (i + 1)) v = nbN (eR (wE w)) (eC (wE w)) (dW w s) (wyA w s f i) (dW w s f - 1 - (i + 1)) (v + 1) := (if_neg (fun z => z.1.1 hb1)).symm
        rw [hz]
        exact ih ((dW w s f - 1 - i) * 10 + (4 - (v + 1))) (by omega) i (v + 1) (some _) _ rfl (by omega) (by omega) h hU hd
      · have hb1 : ¬ beN (eR (wE w)) (eC (wE w)) (wyA w s f i) v = 0 := fun q => c_112 ((gI_lt hbl).mpr q)
        have hb4 := (gI_c (show beN (eR (wE w)) (eC (wE w)) (wyA w s f i) v < 2 ^ 31 by omega)).2 hb1
        have hb5 := (hU (beN (eR (wE w)) (eC (wE w)) (wyA w s f i) v - 1) (by omega)).2
        have hb6 := nvN_c hb5
        refine tt_aload_n d_Y_way_115 rfl ?_
        refine tt_getR d_Y_way_116 rfl rfl (by decide) rfl rfl ?_
        refine tt_iload (x := nI (beN (eR (wE w)) (eC (wE w)) (wyA w s f i) v - 1)) d_Y_way_119 (congrArg (fun z => some (some (Value.int z))) hb4) ?_
        refine tn_iald d_Y_way_121 rfl (by decide) (by omega) (hU _ (by omega)).1 ?_
        refine tt_iload d_Y_way_122 rfl ?_
        refine tn_ic_ne (t := 144) (by omega) (by omega) d_Y_way_124 (by decide) (fun c_124 => ?_) (fun c_124 => ?_)
        · have hb3 : ¬ dW w s (beN (eR (wE w)) (eC (wE w)) (wyA w s f i) v - 1) = dW w s f - 1 - (i + 1) + 1 := by omega
          refine tt_iload d_Y_way_144 rfl ?_
          refine tt_istore (lv2 := [_, _, _, _, _, _, _, _]) d_Y_way_146 (by decide) rfl ?_
          refine tt_iinc (lv2 := [_, _, _, _, _, _, _, _]) d_Y_way_148 rfl (nI_inc _ 1) (by decide) rfl ?_
          refine tt_goto (t := 95) d_Y_way_151 (by decide) ?_
          have hz : nbN (eR (wE w)) (eC (wE w)) (dW w s) (wyA w s f i) (dW w s f - 1 - (i + 1)) v = nbN (eR (wE w)) (eC (wE w)) (dW w s) (wyA w s f i) (dW w s f - 1 - (i + 1)) (v + 1) := (if_neg (fun z => hb3 z.1.2)).symm
          rw [hz]
          exact ih ((dW w s f - 1 - i) * 10 + (4 - (v + 1))) (by omega) i (v + 1) (some _) _ rfl (by omega) (by omega) h hU hd
        · have hb3 : dW w s (beN (eR (wE w)) (eC (wE w)) (wyA w s f i) v - 1) = dW w s f - 1 - (i + 1) + 1 := by omega
          refine tt_iload d_Y_way_127 rfl ?_
          refine tt_if_lt (t := 139) d_Y_way_129 (by decide) (fun c_129 => ?_) (fun c_129 => ?_)
          · have hn0 := (gI_lt (by omega)).mp c_129
            refine tt_iload d_Y_way_139 rfl ?_
            refine tt_goto (t := 146) d_Y_way_141 (by decide) ?_
            refine tt_istore (lv2 := [_, _, _, _, _, _, _, _]) d_Y_way_146 (by decide) rfl ?_
            refine tt_iinc (lv2 := [_, _, _, _, _, _, _, _]) d_Y_way_148 rfl (nI_inc _ 1) (by decide) rfl ?_
            refine tt_goto (t := 95) d_Y_way_151 (by decide) ?_
            have hz : beN (eR (wE w)) (eC (wE w)) (wyA w s f i) v = nbN (eR (wE w)) (eC (wE w)) (dW w s) (wyA w s f i) (dW w s f - 1 - (i + 1)) (v + 1) := (if_pos ⟨⟨hb1, hb3⟩, by omega⟩).symm
            rw [hz]
            exact ih ((dW w s f - 1 - i) * 10 + (4 - (v + 1))) (by omega) i (v + 1) (some _) _ rfl (by omega) (by omega) h hU hd
          · have hn0 : ¬ nbN (eR (wE w)) (eC (wE w)) (dW w s) (wyA w s f i) (dW w s f - 1 - (i + 1)) v = 0 := fun q => c_129 ((gI_lt (by omega)).mpr q)
            have hn1 := (gI_c (show nbN (eR (wE w)) (eC (wE w)) (dW w s) (wyA w s f i) (dW w s f - 1 - (i + 1)) v < 2 ^ 31 by omega)).2 hn0
            refine tt_iload (x := nI (beN (eR (wE w)) (eC (wE w)) (wyA w s f i) v - 1)) d_Y_way_132 (congrArg (fun z => some (some (Value.int z))) hb4) ?_
            refine tt_iload (x := nI (nbN (eR (wE w)) (eC (wE w)) (dW w s) (wyA w s f i) (dW w s f - 1 - (i + 1)) v - 1)) d_Y_way_134 (congrArg (fun z => some (some (Value.int z))) hn1) ?_
            refine tn_ic_ge (t := 144) (by omega) (by omega) d_Y_way_136 (by decide) (fun c_136 => ?_) (fun c_136 => ?_)
            · refine tt_iload d_Y_way_144 rfl ?_
              refine tt_istore (lv2 := [_, _, _, _, _, _, _, _]) d_Y_way_146 (by decide) rfl ?_
              refine tt_iinc (lv2 := [_, _, _, _, _, _, _, _]) d_Y_way_148 rfl (nI_inc _ 1) (by decide) rfl ?_
              refine tt_goto (t := 95) d_Y_way_151 (by decide) ?_
              have hz : nbN (eR (wE w)) (eC (wE w)) (dW w s) (wyA w s f i) (dW w s f - 1 - (i + 1)) v = nbN (eR (wE w)) (eC (wE w)) (dW w s) (wyA w s f i) (dW w s f - 1 - (i + 1)) (v + 1) := (if_neg (fun z => z.2.elim hn0 (fun y => by omega))).symm
              rw [hz]
              exact ih ((dW w s f - 1 - i) * 10 + (4 - (v + 1))) (by omega) i (v + 1) (some _) _ rfl (by omega) (by omega) h hU hd
            · refine tt_iload d_Y_way_139 rfl ?_
              refine tt_goto (t := 146) d_Y_way_141 (by decide) ?_
              refine tt_istore (lv2 := [_, _, _, _, _, _, _, _]) d_Y_way_146 (by decide) rfl ?_
              refine tt_iinc (lv2 := [_, _, _, _, _, _, _, _]) d_Y_way_148 rfl (nI_inc _ 1) (by decide) rfl ?_
              refine tt_goto (t := 95) d_Y_way_151 (by decide) ?_
              have hz : beN (eR (wE w)) (eC (wE w)) (wyA w s f i) v = nbN (eR (wE w)) (eC (wE w)) (dW w s) (wyA w s f i) (dW w s f - 1 - (i + 1)) (v + 1) := (if_pos ⟨⟨hb1, hb3⟩, by omega⟩).symm
              rw [hz]
              exact ih ((dW w s f - 1 - i) * 10 + (4 - (v + 1))) (by omega) i (v + 1) (some _) _ rfl (by omega) (by omega) h hU hd

set_option maxHeartbeats 4000000 in
theorem yc_way {l : xLa} {d c : Nat} {σ : xs} {w : wv} (ho : okQ w) (hw : YW σ c w) {a b : Int32} : TC l M_Y_way (d + 150) [.ref 154, .int a, .int b] σ (fun r τ => r = some (.int ((q_way w a b).1)) ∧ YW τ c (stD w ((q_way w a b).2)) ∧ YF σ τ) := by
  show T l M_Y_way (d + 150) 0 _ [] σ _
  refine T_lv (lv2 := [_, _, _, _, _, _, _, _]) rfl ?_
  have h := YQ.rf hw.v
  have hd0 := hw.2.2.2.1
  have hb0 := ho.fb
  have hb8 := ho.n8
  rcases inN_c a (eR (wE w) * eC (wE w)) with ⟨f, hf, rfl, hq⟩ | ⟨hq, hb⟩
  · rcases inN_c b (eR (wE w) * eC (wE w)) with ⟨s, hs, rfl, hq2⟩ | ⟨hq2, hb⟩
    · have hqv : q_way w (nI f) (nI s) = if (eB (wE w) f = 0 ∧ eB (wE w) s = 0) ∧ ¬ dW w s f = 0 then (nI (dW w s f - 1), some (wyL w s f (dW w s f))) else (-2, none) := by unfold q_way; rw [hq, hq2]
      rw [hqv]
      have hkf := ho.1.2.2.2 f (by omega)
      have hks := ho.1.2.2.2 s (by omega)
      refine tt_aload_n d_Y_way_0 rfl ?_
      refine tt_iconst (v := nI 0) d_Y_way_1 (by decide) ?_
      refine tt_putI d_Y_way_2 rfl rfl (by decide) rfl (xpok_int rfl) rfl ?_
      replace h := h.thr (x := nI 0)
      replace hd0 := hd0.thr (x := nI 0)
      refine tt_aload_n d_Y_way_5 rfl ?_
      refine tt_iload_n d_Y_way_6 rfl ?_
      refine tt_callV (y_isField (d := d) h.e.1.1 h.e.1.2.1 ho.1.1.2.1 ho.1.1.2.2.2.1 ho.cp) cw_Y_isField rfl rfl (by decide) rfl (by omega) d_Y_way_7 rfl rfl (Nat.le_of_ble_eq_true rfl) (Nat.le_of_ble_eq_true rfl) rfl rfl rfl (fun v σ2 q => ?_)
      obtain ⟨rfl, e9⟩ := q
      rw [e9, X_in_N hf (by omega)]
      clear e9
      refine tn_if_eq (t := 21) (by omega) d_Y_way_10 (by decide) (fun c_10 => ?_) (fun c_10 => ?_)
      · exact absurd c_10 (by decide)
      · refine tt_aload_n d_Y_way_13 rfl ?_
        refine tt_iload_n d_Y_way_14 rfl ?_
        refine tt_callV (y_isField (d := d) h.e.1.1 h.e.1.2.1 ho.1.1.2.1 ho.1.1.2.2.2.1 ho.cp) cw_Y_isField rfl rfl (by decide) rfl (by omega) d_Y_way_15 rfl rfl (Nat.le_of_ble_eq_true rfl) (Nat.le_of_ble_eq_true rfl) rfl rfl rfl (fun v σ2 q => ?_)
        obtain ⟨rfl, e9⟩ := q
        rw [e9, X_in_N hs (by omega)]
        clear e9
        refine tn_if_ne (t := 23) (by omega) d_Y_way_18 (by decide) (fun c_18 => ?_) (fun c_18 => ?_)
        · refine tt_aload_n d_Y_way_23 rfl ?_
          refine tt_iload_n d_Y_way_24 rfl ?_
          refine tt_callV (yq_lays (d := d) h ho hs) cw_Y_laysSteps rfl rfl (by decide) rfl (by omega) d_Y_way_25 rfl rfl (Nat.le_of_ble_eq_true rfl) (Nat.le_of_ble_eq_true rfl) rfl rfl rfl (fun v σ2 q => ?_)
          obtain ⟨rfl, h, hu, hU⟩ := q
          replace hU : SYs _ w s := hU
          replace hd0 := hd0.un hu
          have h37 := (hU f hf).2
          have hnv := nvN_c h37
          refine tt_aload_n d_Y_way_28 rfl ?_
          refine tt_getR d_Y_way_29 rfl rfl (by decide) rfl rfl ?_
          refine tt_iload_n d_Y_way_32 rfl ?_
          refine tn_zald d_Y_way_33 rfl (by decide) (by omega) (h.e.2.2.2 _ (by omega)) ?_
          refine tn_if_ne (t := 58) (by omega) d_Y_way_34 (by decide) (fun c_34 => ?_) (fun c_34 => ?_)
          · refine tt_bipush (v := (-2)) d_Y_way_58 (by decide) ?_
            refine tt_iret rfl d_Y_way_60 ?_
            rw [if_neg (fun z => by omega)]
            exact ⟨rfl, h.none hd0, h.2⟩
          · refine tt_aload_n d_Y_way_37 rfl ?_
            refine tt_getR d_Y_way_38 rfl rfl (by decide) rfl rfl ?_
            refine tt_iload_n d_Y_way_41 rfl ?_
            refine tn_zald d_Y_way_42 rfl (by decide) (by omega) (h.e.2.2.2 _ (by omega)) ?_
            refine tn_if_ne (t := 58) (by omega) d_Y_way_43 (by decide) (fun c_43 => ?_) (fun c_43 => ?_)
            · refine tt_bipush (v := (-2)) d_Y_way_58 (by decide) ?_
              refine tt_iret rfl d_Y_way_60 ?_
              rw [if_neg (fun z => by omega)]
              exact ⟨rfl, h.none hd0, h.2⟩
            · refine tt_aload_n d_Y_way_46 rfl ?_
              refine tt_getR d_Y_way_47 rfl rfl (by decide) rfl rfl ?_
              refine tt_iload_n d_Y_way_50 rfl ?_
              refine tn_iald d_Y_way_51 rfl (by decide) (by omega) (hU _ (by omega)).1 ?_
              refine tt_ldc_w (v := nI 1000000) d_Y_way_52 rfl ?_
              refine tn_ic_lt (t := 61) (by omega) (by omega) d_Y_way_55 (by decide) (fun c_55 => ?_) (fun c_55 => ?_)
              · have h0 : ¬ dW w s f = 0 := by omega
                rw [if_pos ⟨⟨by omega, by omega⟩, h0⟩]
                refine tt_aload_n d_Y_way_61 rfl ?_
                refine tt_iconst (v := nI 0) d_Y_way_62 (by decide) ?_
                refine tt_putI d_Y_way_63 rfl rfl (by decide) rfl (xpok_int rfl) rfl ?_
                replace h := h.td0
                have hd := YD_0t h
                replace hU : SYs (wF _ 154 1 (nI 0)) w s := hU
                refine tt_iload_n d_Y_way_66 rfl ?_
                refine tt_istore_n (lv2 := [_, _, _, _, _, _, _, _]) d_Y_way_67 (by decide) rfl ?_
                refine tt_aload_n d_Y_way_68 rfl ?_
                refine tt_iload_n d_Y_way_69 rfl ?_
                refine tt_i2l d_Y_way_70 ?_
                refine tt_callV (yq_add (d := d) h hd (Nat.le_of_ble_eq_true rfl)) cw_Y_enters rfl rfl (by decide) rfl (by omega) d_Y_way_71 rfl rfl (Nat.le_of_ble_eq_true rfl) (Nat.le_of_ble_eq_true rfl) rfl rfl rfl (fun v σ2 q => ?_)
                obtain ⟨rfl, h, hd, hf2⟩ := q
                replace hU : SYs _ w s := fun g hg => ⟨(congrFun (hf2.si 182) g).trans (hU g hg).1, (hU g hg).2⟩
                refine tt_aload_n d_Y_way_74 rfl ?_
                refine tt_getR d_Y_way_75 rfl rfl (by decide) rfl rfl ?_
                refine tt_iload_n d_Y_way_78 rfl ?_
                refine tn_iald d_Y_way_79 rfl (by decide) (by omega) (hU _ (by omega)).1 ?_
                refine tt_iconst (v := nI 1) d_Y_way_80 (by decide) ?_
                refine tt_isub d_Y_way_81 ?_
                rw [nI_gsub, hnv.2.2 h0]
                refine tt_istore (lv2 := [_, _, _, _, _, _, _, _]) d_Y_way_82 (by decide) rfl ?_
                refine tt_iload d_Y_way_84 rfl ?_
                refine tt_if_lt (t := 169) d_Y_way_86 (by decide) (fun c_86 => ?_) (fun c_86 => ?_)
                · have hl0 := (gI_lt (by omega)).mp c_86
                  have hwy : dW w s f = 1 := by omega
                  rw [hwy]
                  refine tt_aload_n d_Y_way_169 rfl ?_
                  refine tt_getR d_Y_way_170 rfl rfl (by decide) rfl rfl ?_
                  refine tt_iload_n d_Y_way_173 rfl ?_
                  refine tn_iald d_Y_way_174 rfl (by decide) (by omega) (hU _ (by omega)).1 ?_
                  refine tt_iret rfl d_Y_way_175 ?_
                  rw [hnv.2.2 h0, hwy]
                  exact ⟨rfl, h.done hd, h.2⟩
                · have hl0 : ¬ dW w s f - 1 = 0 := fun q => c_86 ((gI_lt (by omega)).mpr q)
                  rw [(gI_c (show dW w s f - 1 < 2 ^ 31 by omega)).2 hl0, show dW w s f - 1 - 1 = dW w s f - 1 - (0 + 1) by omega]
                  refine tt_iconst (v := (-1)) d_Y_way_89 (by decide) ?_
                  refine tt_istore (lv2 := [_, _, _, _, _, _, _, _]) d_Y_way_90 (by decide) rfl ?_
                  refine tt_iconst (v := nI 0) d_Y_way_92 (by decide) ?_
                  refine tt_istore (lv2 := [_, _, _, _, _, _, _, _]) d_Y_way_93 (by decide) rfl ?_
                  exact y_way_l hs hf h0 h37 ho ((dW w s f - 1 - 0) * 10 + (4 - 0)) 0 0 none _ rfl (by omega) (by omega) h hU hd
              · refine tt_bipush (v := (-2)) d_Y_way_58 (by decide) ?_
                refine tt_iret rfl d_Y_way_60 ?_
                rw [if_neg (fun z => by omega)]
                exact ⟨rfl, h.none hd0, h.2⟩
        · exact absurd c_18 (by decide)
    · rw [q_way_r (Or.inr hb)]
      refine tt_aload_n d_Y_way_0 rfl ?_
      refine tt_iconst (v := nI 0) d_Y_way_1 (by decide) ?_
      refine tt_putI d_Y_way_2 rfl rfl (by decide) rfl (xpok_int rfl) rfl ?_
      replace h := h.thr (x := nI 0)
      replace hd0 := hd0.thr (x := nI 0)
      refine tt_aload_n d_Y_way_5 rfl ?_
      refine tt_iload_n d_Y_way_6 rfl ?_
      refine tt_callV (y_isField (d := d) h.e.1.1 h.e.1.2.1 ho.1.1.2.1 ho.1.1.2.2.2.1 ho.cp) cw_Y_isField rfl rfl (by decide) rfl (by omega) d_Y_way_7 rfl rfl (Nat.le_of_ble_eq_true rfl) (Nat.le_of_ble_eq_true rfl) rfl rfl rfl (fun v σ2 q => ?_)
      obtain ⟨rfl, e9⟩ := q
      rw [e9, X_in_N hf (by omega)]
      clear e9
      refine tn_if_eq (t := 21) (by omega) d_Y_way_10 (by decide) (fun c_10 => ?_) (fun c_10 => ?_)
      · exact absurd c_10 (by decide)
      · refine tt_aload_n d_Y_way_13 rfl ?_
        refine tt_iload_n d_Y_way_14 rfl ?_
        refine tt_callV (y_isField (d := d) h.e.1.1 h.e.1.2.1 ho.1.1.2.1 ho.1.1.2.2.2.1 ho.cp) cw_Y_isField rfl rfl (by decide) rfl (by omega) d_Y_way_15 rfl rfl (Nat.le_of_ble_eq_true rfl) (Nat.le_of_ble_eq_true rfl) rfl rfl rfl (fun v σ2 q => ?_)
        obtain ⟨rfl, e9⟩ := q
        rw [e9, X_in_none hb]
        clear e9
        refine tn_if_ne (t := 23) (by omega) d_Y_way_18 (by decide) (fun c_18 => ?_) (fun c_18 => ?_)
        · exact absurd c_18 (by decide)
        · refine tt_iconst (v := (-1)) d_Y_way_21 (by decide) ?_
          refine tt_iret rfl d_Y_way_22 ?_
          exact ⟨rfl, h.none hd0, h.2⟩
  · rw [q_way_r (Or.inl hb)]
    refine tt_aload_n d_Y_way_0 rfl ?_
    refine tt_iconst (v := nI 0) d_Y_way_1 (by decide) ?_
    refine tt_putI d_Y_way_2 rfl rfl (by decide) rfl (xpok_int rfl) rfl ?_
    replace h := h.thr (x := nI 0)
    replace hd0 := hd0.thr (x := nI 0)
    refine tt_aload_n d_Y_way_5 rfl ?_
    refine tt_iload_n d_Y_way_6 rfl ?_
    refine tt_callV (y_isField (d := d) h.e.1.1 h.e.1.2.1 ho.1.1.2.1 ho.1.1.2.2.2.1 ho.cp) cw_Y_isField rfl rfl (by decide) rfl (by omega) d_Y_way_7 rfl rfl (Nat.le_of_ble_eq_true rfl) (Nat.le_of_ble_eq_true rfl) rfl rfl rfl (fun v σ2 q => ?_)
    obtain ⟨rfl, e9⟩ := q
    rw [e9, X_in_none hb]
    clear e9
    refine tn_if_eq (t := 21) (by omega) d_Y_way_10 (by decide) (fun c_10 => ?_) (fun c_10 => ?_)
    · refine tt_iconst (v := (-1)) d_Y_way_21 (by decide) ?_
      refine tt_iret rfl d_Y_way_22 ?_
      exact ⟨rfl, h.none hd0, h.2⟩
    · exact absurd c_10 (by decide)

