/-! AN HOUR, on the view. -/
theorem ok_1 {e : xe} {v : sv} {j x : Nat} (h : okV e v) (hx : x ≤ 9) : okV e (upv v 1 j x) := by
  obtain ⟨h1, h2, h3, h4, h5, h6, h7⟩ := h
  refine ⟨h1, h2, h3, h4, h5, h6, fun i hi => ?_⟩
  obtain ⟨g1, g2, g3, g4⟩ := h7 i hi
  refine ⟨?_, g2, g3, g4⟩
  show (if 1 = 1 ∧ i = j then x else v 1 i) ≤ 9
  split <;> omega
theorem ok_2 {e : xe} {v : sv} {j x : Nat} (h : okV e v) (hx : x ≤ 9) : okV e (upv v 2 j x) := by
  obtain ⟨h1, h2, h3, h4, h5, h6, h7⟩ := h
  refine ⟨h1, h2, h3, h4, h5, h6, fun i hi => ?_⟩
  obtain ⟨g1, g2, g3, g4⟩ := h7 i hi
  refine ⟨g1, ?_, g3, g4⟩
  show (if 2 = 2 ∧ i = j then x else v 2 i) ≤ 9
  split <;> omega
theorem ok_3 {e : xe} {v : sv} {j x : Nat} (h : okV e v) (hx : x ≤ eR e * eC e) : okV e (upv v 3 j x) := by
  obtain ⟨h1, h2, h3, h4, h5, h6, h7⟩ := h
  refine ⟨h1, h2, h3, h4, h5, h6, fun i hi => ?_⟩
  obtain ⟨g1, g2, g3, g4⟩ := h7 i hi
  refine ⟨g1, g2, ?_, g4⟩
  show (if 3 = 3 ∧ i = j then x else v 3 i) ≤ _
  split
  · exact hx
  · exact g3
theorem ok_4 {e : xe} {v : sv} {j x : Nat} (h : okV e v) (hx : x ≤ 9) : okV e (upv v 4 j x) := by
  obtain ⟨h1, h2, h3, h4, h5, h6, h7⟩ := h
  refine ⟨h1, h2, h3, h4, h5, h6, fun i hi => ?_⟩
  obtain ⟨g1, g2, g3, g4⟩ := h7 i hi
  refine ⟨g1, g2, g3, ?_⟩
  show (if 4 = 4 ∧ i = j then x else v 4 i) ≤ 9
  split <;> omega
theorem ok_5 {e : xe} {v : sv} {k x : Nat} (h : okV e v) : okV e (upv v 5 k x) := h
theorem ok_00 {e : xe} {v : sv} {x : Nat} (h : okV e v) (hx : x < eR e * eC e) : okV e (upv v 0 0 x) := ⟨hx, h.2⟩
theorem ok_01 {e : xe} {v : sv} {x : Nat} (h : okV e v) (hx : x ≤ 99) : okV e (upv v 0 1 x) := ⟨h.1, hx, h.2.2⟩
theorem ok_02 {e : xe} {v : sv} {x : Nat} (h : okV e v) (hx : x ≤ 999) : okV e (upv v 0 2 x) := ⟨h.1, h.2.1, hx, h.2.2.2⟩
theorem ok_03 {e : xe} {v : sv} {x : Nat} (h : okV e v) (hx : x ≤ 999) : okV e (upv v 0 3 x) := ⟨h.1, h.2.1, h.2.2.1, hx, h.2.2.2.2⟩
theorem ok_04 {e : xe} {v : sv} {x : Nat} (h : okV e v) (hx : x < 2 ^ 30) : okV e (upv v 0 4 x) := ⟨h.1, h.2.1, h.2.2.1, h.2.2.2.1, hx, h.2.2.2.2.2⟩
theorem ok_tir {e : xe} {v : sv} {pl : Int32} {j : Nat} (h : okV e v) (hj : j < eN e) : okV e (tirV pl v j) := by
  have := (h.2.2.2.2.2.2 j hj).1
  refine ok_1 h ?_
  split <;> omega
theorem ok_rew {e : xe} {v : sv} {j : Nat} (h : okV e v) : okV e (rewV v j) := by
  unfold rewV
  split
  · refine ok_3 (ok_5 (ok_5 (ok_2 (ok_02 (ok_01 h ?_) ?_) ?_))) (Nat.zero_le _)
    · have := h.2.1; omega
    · omega
    · omega
  · refine ok_3 (ok_5 (ok_5 (ok_2 (ok_03 h ?_) ?_))) (Nat.zero_le _)
    · omega
    · omega
/-- fish j behind the move: it tires, its promise is kept or broken where the boat is -/
def fshV (pl : Nat → Int32) (v : sv) (j : Nat) : sv := if (tirV (pl j) v j) 3 j = (tirV (pl j) v j) 0 0 + 1 then rewV (tirV (pl j) v j) j else tirV (pl j) v j
def fisV (pl : Nat → Int32) (v : sv) : Nat → sv
  | 0 => v
  | j + 1 => fshV pl (fisV pl v j) j
theorem ok_fsh {e : xe} {v : sv} {pl : Nat → Int32} {j : Nat} (h : okV e v) (hj : j < eN e) : okV e (fshV pl v j) := by
  unfold fshV
  split
  · exact ok_rew (ok_tir h hj)
  · exact ok_tir h hj
theorem ok_fis {e : xe} {v : sv} {pl : Nat → Int32} (h : okV e v) : ∀ n, n ≤ eN e → okV e (fisV pl v n)
  | 0, _ => h
  | n + 1, hn => ok_fsh (ok_fis h n (by omega)) (by omega)
theorem rew_04 (v : sv) (j : Nat) : (rewV v j) 0 4 = v 0 4 := by
  unfold rewV
  split <;> rfl
theorem fis_04 (pl : Nat → Int32) (v : sv) : ∀ n, (fisV pl v n) 0 4 = v 0 4
  | 0 => rfl
  | n + 1 => by
    show (fshV pl (fisV pl v n) n) 0 4 = _
    unfold fshV
    split
    · rw [rew_04]; exact fis_04 pl v n
    · exact fis_04 pl v n
/-- where the boat goes (way + 1; 0: it sticks) -/
def goV (e : xe) (v : sv) (z : Int32) : Nat :=
  let b := (bsV (ntF e v z (fun _ => nI 0) (eN e)) 4).1
  if b = 0 then 0 else if X_bes (eR e) (eC e) (v 0 0) (b - 1) = -1 ∨ ¬ eB e (X_bes (eR e) (eC e) (v 0 0) (b - 1)).toNatClampNeg = 0 then 0 else b
def mvV (e : xe) (v : sv) : sv := if goV e v (nI 255) = 0 then upv v 5 2 (v 5 2 + 1) else upv v 0 0 (X_bes (eR e) (eC e) (v 0 0) (goV e v (nI 255) - 1)).toNatClampNeg
def hrV (e : xe) (v : sv) : sv := upv (fisV (plV e v) (mvV e v) (eN e)) 0 4 ((fisV (plV e v) (mvV e v) (eN e)) 0 4 + 1)
def hrsV (e : xe) (v : sv) : Nat → sv
  | 0 => v
  | n + 1 => hrV e (hrsV e v n)
/-- the field beside, where there is one, is a field -/
def besOK (R C f w : Nat) : Bool := decide (X_bes R C f w = -1) || (decide ((X_bes R C f w).toNatClampNeg < R * C) && (decide (X_bes R C f w = nI (X_bes R C f w).toNatClampNeg) && decide (0 ≤ (X_bes R C f w).toInt)))
theorem besOK_all : ∀ R, R < 7 → ∀ C, C < 7 → ∀ f, f < 36 → ∀ w, w < 4 → (decide (f < R * C) = true → besOK R C f w = true) := by decide +kernel
theorem bes_in (R : Nat) (hR : R < 7) (C : Nat) (hC : C < 7) (f : Nat) (hf : f < 36) (w : Nat) (hw : w < 4) (h : f < R * C) : (X_bes R C f w = -1 ∨ (X_bes R C f w).toNatClampNeg < R * C ∧ X_bes R C f w = nI (X_bes R C f w).toNatClampNeg ∧ 0 ≤ (X_bes R C f w).toInt) := by
  have q := besOK_all R hR C hC f hf w hw (decide_eq_true h)
  unfold besOK at q
  simpa using q
theorem goV_lt {e : xe} {v : sv} {z : Int32} : goV e v z ≤ 4 := by
  unfold goV
  have := bsV_le (ntF e v z (fun _ => nI 0) (eN e)) 4
  dsimp only
  split
  · omega
  · split
    · omega
    · exact this
theorem goV_f {e : xe} {v : sv} {z : Int32} (he : okE e) (hv : okV e v) (h : ¬ goV e v z = 0) : (X_bes (eR e) (eC e) (v 0 0) (goV e v z - 1)).toNatClampNeg < eR e * eC e ∧ X_bes (eR e) (eC e) (v 0 0) (goV e v z - 1) = nI (X_bes (eR e) (eC e) (v 0 0) (goV e v z - 1)).toNatClampNeg := by
  obtain ⟨⟨e1, e2, e3, e4, e5, e6, e7⟩, e8, e9x, e10⟩ := he
  have hRC : eR e * eC e ≤ 36 := Nat.mul_le_mul e2 e4
  have hb := bsV_le (ntF e v z (fun _ => nI 0) (eN e)) 4
  unfold goV at h ⊢
  dsimp only at h ⊢
  by_cases c : (bsV (ntF e v z (fun _ => nI 0) (eN e)) 4).1 = 0
  · rw [if_pos c] at h; exact absurd rfl h
  · rw [if_neg c] at h ⊢
    by_cases c2 : X_bes (eR e) (eC e) (v 0 0) ((bsV (ntF e v z (fun _ => nI 0) (eN e)) 4).1 - 1) = -1 ∨ ¬ eB e (X_bes (eR e) (eC e) (v 0 0) ((bsV (ntF e v z (fun _ => nI 0) (eN e)) 4).1 - 1)).toNatClampNeg = 0
    · rw [if_pos c2] at h; exact absurd rfl h
    · rw [if_neg c2]
      rcases bes_in (eR e) (by omega) (eC e) (by omega) (v 0 0) (by have := hv.1; omega) ((bsV (ntF e v z (fun _ => nI 0) (eN e)) 4).1 - 1) (by omega) hv.1 with g | g
      · exact absurd (Or.inl g) c2
      · exact ⟨g.1, g.2.1⟩
theorem ok_mv {e : xe} {v : sv} (he : okE e) (hv : okV e v) : okV e (mvV e v) := by
  unfold mvV
  split
  · exact ok_5 hv
  · rename_i c
    exact ok_00 hv (goV_f he hv c).1
theorem mv_04 {e : xe} {v : sv} : (mvV e v) 0 4 = v 0 4 := by
  unfold mvV
  split <;> rfl
theorem ok_hr {e : xe} {v : sv} (he : okE e) (hv : okV e v) (h : v 0 4 + 1 < 2 ^ 30) : okV e (hrV e v) ∧ (hrV e v) 0 4 = v 0 4 + 1 := by
  have h4 : (fisV (plV e v) (mvV e v) (eN e)) 0 4 = v 0 4 := (fis_04 _ _ _).trans mv_04
  refine ⟨ok_04 (ok_fis (ok_mv he hv) _ (Nat.le_refl _)) (by omega), ?_⟩
  show (fisV (plV e v) (mvV e v) (eN e)) 0 4 + 1 = _
  rw [h4]
theorem ok_hrs {e : xe} {v : sv} (he : okE e) (hv : okV e v) : ∀ n, v 0 4 + n < 2 ^ 30 → okV e (hrsV e v n) ∧ (hrsV e v n) 0 4 = v 0 4 + n
  | 0, _ => ⟨hv, rfl⟩
  | n + 1, h => by
    obtain ⟨h1, h2⟩ := ok_hrs he hv n (by omega)
    obtain ⟨g1, g2⟩ := ok_hr he h1 (by omega)
    exact ⟨g1, by show (hrV e (hrsV e v n)) 0 4 = _; rw [g2, h2]; omega⟩
/-! what is weighed depends on four numbers alone -/
theorem addF_c {f g : Nat → Int32} {w : Nat} {m : Int32} (hw : w < 4) (h : ∀ j, j < 4 → f j = g j) : ∀ j, j < 4 → addF f w m j = addF g w m j := by
  intro j hj
  unfold addF upN
  have h2 := h ((w + 2) % 4) (by omega)
  by_cases c : j = (w + 2) % 4
  · simp only [c, if_true, h w hw, h2]
  · simp only [c, if_false, h w hw, h j hj]
theorem ntF_c {e : xe} {v : sv} {z : Int32} {f g : Nat → Int32} (h : ∀ j, j < 4 → f j = g j) : ∀ n, ∀ j, j < 4 → ntF e v z f n j = ntF e v z g n j
  | 0 => h
  | n + 1 => by
    have ih := ntF_c (e := e) (v := v) (z := z) h n
    show ∀ j, j < 4 → ntS e v z (ntF e v z f n) n j = ntS e v z (ntF e v z g n) n j
    unfold ntS
    split
    · exact ih
    · split
      · exact addF_c (w1n_lt e v n) ih
      · exact addF_c (w2n_lt e v n) (addF_c (w1n_lt e v n) ih)
theorem bsV_c {f g : Nat → Int32} : ∀ w, w ≤ 4 → (∀ j, j < 4 → f j = g j) → bsV f w = bsV g w
  | 0, _, _ => rfl
  | w + 1, hw, h => by
    show (if (bsV f w).2 < f w then (w + 1, f w) else bsV f w) = (if (bsV g w).2 < g w then (w + 1, g w) else bsV g w)
    rw [bsV_c w (by omega) h, h w (by omega)]
/-- the class's answer of where the boat goes, seen on the view -/
theorem X_go_V {σ : xs} {e : xe} {v : sv} {z : Int32} (he : okE e) (hv : okV e v) (hrk : ∀ f, f < 36 → si σ 6 f = nI (eB e f)) {f : Nat → Int32} (hf : ∀ j, j < 4 → f j = ntF e v z (fun _ => nI 0) (eN e) j) : X_go σ (eR e) (eC e) (v 0 0) f = b2I (goV e v z) := by
  obtain ⟨⟨e1, e2, e3, e4, e5, e6, e7⟩, e8, e9x, e10⟩ := he
  have hRC : eR e * eC e ≤ 36 := Nat.mul_le_mul e2 e4
  unfold X_go goV
  rw [bsV_c 4 (by omega) hf]
  dsimp only
  have hb := bsV_le (ntF e v z (fun _ => nI 0) (eN e)) 4
  by_cases c : (bsV (ntF e v z (fun _ => nI 0) (eN e)) 4).1 = 0
  · rw [if_pos c, if_pos c]; rfl
  · rw [if_neg c, if_neg c]
    rcases bes_in (eR e) (by omega) (eC e) (by omega) (v 0 0) (by have := hv.1; omega) ((bsV (ntF e v z (fun _ => nI 0) (eN e)) 4).1 - 1) (by omega) hv.1 with g | ⟨g1, g2, g3⟩
    · rw [if_pos (Or.inl g), if_pos (Or.inl g)]; rfl
    · have hk := hrk _ (show (X_bes (eR e) (eC e) (v 0 0) ((bsV (ntF e v z (fun _ => nI 0) (eN e)) 4).1 - 1)).toNatClampNeg < 36 by omega)
      have hb1 := e10 _ (show (X_bes (eR e) (eC e) (v 0 0) ((bsV (ntF e v z (fun _ => nI 0) (eN e)) 4).1 - 1)).toNatClampNeg < 36 by omega)
      have hrkv : X_rk σ (eR e * eC e) (X_bes (eR e) (eC e) (v 0 0) ((bsV (ntF e v z (fun _ => nI 0) (eN e)) 4).1 - 1)) = 0 ↔ eB e (X_bes (eR e) (eC e) (v 0 0) ((bsV (ntF e v z (fun _ => nI 0) (eN e)) 4).1 - 1)).toNatClampNeg = 0 := by
        unfold X_rk
        rw [if_pos ⟨g3, by have : (X_bes (eR e) (eC e) (v 0 0) ((bsV (ntF e v z (fun _ => nI 0) (eN e)) 4).1 - 1)).toInt.toNat < eR e * eC e := g1; omega⟩]
        rw [show si σ 6 (X_bes (eR e) (eC e) (v 0 0) ((bsV (ntF e v z (fun _ => nI 0) (eN e)) 4).1 - 1)).toInt.toNat = nI _ from hk]
        rcases (show eB e (X_bes (eR e) (eC e) (v 0 0) ((bsV (ntF e v z (fun _ => nI 0) (eN e)) 4).1 - 1)).toNatClampNeg = 0 ∨ eB e (X_bes (eR e) (eC e) (v 0 0) ((bsV (ntF e v z (fun _ => nI 0) (eN e)) 4).1 - 1)).toNatClampNeg = 1 by omega) with q | q
        · rw [q]; decide
        · rw [q]; decide
      by_cases c2 : eB e (X_bes (eR e) (eC e) (v 0 0) ((bsV (ntF e v z (fun _ => nI 0) (eN e)) 4).1 - 1)).toNatClampNeg = 0
      · have hn : ¬ X_bes (eR e) (eC e) (v 0 0) ((bsV (ntF e v z (fun _ => nI 0) (eN e)) 4).1 - 1) = -1 := by
          intro q
          rw [q] at g3
          exact absurd g3 (by decide)
        rw [if_neg (nnO hn (nnN (hrkv.mpr c2))), if_neg (nnO hn (nnN c2))]
        exact ((b2I_c hb).2 c).symm
      · rw [if_pos (Or.inr (fun q => c2 (hrkv.mp q))), if_pos (Or.inr c2)]; rfl
