/-! Tug.measure. Printed by wip/whole. -/
/-- the state at object a, seen as v -/
def ST (σ : xs) (a : Nat) (v : sv) : Prop := (∀ k, k < 6 → sf σ a k = nI (v 0 k)) ∧ ∀ i, i < 8 → si σ (a + 1) i = nI (v 1 i) ∧ si σ (a + 2) i = nI (v 2 i) ∧ si σ (a + 3) i = gI (v 3 i) ∧ si σ (a + 4) i = nI (v 4 i)
def okV (e : xe) (v : sv) : Prop := v 0 0 < eR e * eC e ∧ v 0 1 ≤ 99 ∧ v 0 2 ≤ 999 ∧ v 0 3 ≤ 999 ∧ v 0 4 < 2 ^ 30 ∧ v 0 5 < 256 ∧ ∀ i, i < eN e → v 1 i ≤ 9 ∧ v 2 i ≤ 9 ∧ v 3 i ≤ eR e * eC e ∧ v 4 i ≤ 9
/-- the class's lake, fish, fog and a rule, seen as e -/
def EX (σ : xs) (e : xe) (u : Nat) : Prop := (sf σ 5 0 = nI (eR e) ∧ sf σ 5 1 = nI (eC e) ∧ sf σ 9 2 = nI (eN e) ∧ sf σ 12 1 = nI (eL e)) ∧ (∀ i, i < 8 → si σ 10 i = nI (eK e i) ∧ si σ 11 i = nI (eS e i)) ∧ (∀ i, i < 20 → si σ 13 i = nI (eF e i)) ∧ (∀ f, f < 36 → si σ 6 f = nI (eB e f)) ∧ isC σ u (eM e) (eW e)
def okE (e : xe) : Prop := (2 ≤ eR e ∧ eR e ≤ 6 ∧ 2 ≤ eC e ∧ eC e ≤ 6 ∧ eN e ≤ 8 ∧ 0 < eL e ∧ eL e ≤ 20) ∧ (∀ i, i < 8 → eK e i ≤ 3 ∧ eS e i ≤ 9) ∧ (∀ i, i < 20 → eF e i ≤ 9) ∧ ∀ f, f < 36 → eB e f ≤ 1
/-- what a measuring writes -/
def PM (u : Nat) : Nat → Prop := fun a => a = 15 ∨ a = 16 ∨ a = 17 ∨ Pu u a
theorem isR_c {u : Nat} (h : isR u) : u = 127 ∨ u = 133 := by
  unfold isR at h
  simpa using h
theorem isS_out {a : Nat} (h : isS a) : (20 ≤ a ∧ a + 4 < 127) ∨ 138 < a := (show ∀ a ∈ xStates, (20 ≤ a ∧ a + 4 < 127) ∨ 138 < a by decide +kernel) a h
theorem PM_n {u b : Nat} (hu : isR u) (h : b < 15 ∨ (17 < b ∧ b < 129) ∨ 138 < b ∨ b = u + 1) : ¬ PM u b := by
  intro q
  unfold PM Pu at q
  rcases isR_c hu with rfl | rfl <;> omega
theorem EX.sc {σ τ : xs} {e : xe} {u : Nat} (hu : isR u) (h : EX σ e u) (hs : Sc (PM u) σ τ) : EX τ e u := by
  obtain ⟨⟨h1, h2, h3, h4⟩, h5, h6, h7, h8, h9, h10, h11⟩ := h
  obtain ⟨g1, -, -, -, g⟩ := hs
  refine ⟨⟨by rw [g1]; exact h1, by rw [g1]; exact h2, by rw [g1]; exact h3, by rw [g1]; exact h4⟩, fun i hi => ?_, fun i hi => ?_, fun i hi => ?_, by rw [g1]; exact h8, h9, fun i hi => ?_, h11⟩
  · rw [g 10 (PM_n hu (by omega)), g 11 (PM_n hu (by omega))]; exact h5 i hi
  · rw [g 13 (PM_n hu (by omega))]; exact h6 i hi
  · rw [g 6 (PM_n hu (by omega))]; exact h7 i hi
  · rw [g (u + 1) (PM_n hu (by omega))]; exact h10 i hi
theorem ST.sc {σ τ : xs} {a u : Nat} {v : sv} (hu : isR u) (ha : isS a) (h : ST σ a v) (hs : Sc (PM u) σ τ) : ST τ a v := by
  obtain ⟨g1, -, -, -, g⟩ := hs
  have ho := isS_out ha
  refine ⟨fun k hk => by rw [g1]; exact h.1 k hk, fun i hi => ?_⟩
  rw [g (a + 1) (PM_n hu (by omega)), g (a + 2) (PM_n hu (by omega)), g (a + 3) (PM_n hu (by omega)), g (a + 4) (PM_n hu (by omega))]
  exact h.2 i hi
/-- rows and columns toward the goal of fish i -/
def dnV (e : xe) (v : sv) (i : Nat) : Int32 := nI ((v 3 i - 1) / eC e) - nI (v 0 0 / eC e)
def rtV (e : xe) (v : sv) (i : Nat) : Int32 := nI ((v 3 i - 1) % eC e) - nI (v 0 0 % eC e)
def w1V (e : xe) (v : sv) (i : Nat) : Int32 := hF1 (X_abs (dnV e v i) - X_abs (rtV e v i)) (hUp (dnV e v i)) (hLv (rtV e v i)) (hTn (eK e i))
def w2V (e : xe) (v : sv) (i : Nat) : Int32 := hF2 (X_abs (dnV e v i) - X_abs (rtV e v i)) (hLv (rtV e v i)) (eK e i)
/-- what measuring leaves of the first i fish -/
def MS (e : xe) (v : sv) (i : Nat) (τ : xs) : Prop := ∀ j, j < i → si τ 15 j = plV e v j ∧ (actV v j = true → si τ 16 j = w1V e v j ∧ si τ 17 j = w2V e v j)
theorem gI_c {g : Nat} (h : g < 2 ^ 31) : (gI g = -1 ↔ g = 0) ∧ (¬ g = 0 → gI g = nI (g - 1)) := by
  cases g with
  | zero => exact ⟨⟨fun _ => rfl, fun _ => rfl⟩, fun h => absurd rfl h⟩
  | succ g =>
    refine ⟨⟨fun q => ?_, fun q => by cases q⟩, fun _ => rfl⟩
    have := congrArg Int32.toInt (show nI g = -1 from q)
    rw [nI_toInt (by omega)] at this
    have e : (-1 : Int32).toInt = -1 := rfl
    rw [e] at this
    omega
theorem xbit_t : ∀ h, h < 256 → ∀ i, i < 8 → (xbit (nI h) (nI i) = nI 1 ↔ h.testBit i = true) := by decide +kernel
theorem shl_N (n k : Nat) (s : Int32) (hs : ((s &&& 31).toBitVec.smod 32).toNat = k) (h : n * 2 ^ k < 2 ^ 32) : nI n <<< (s &&& 31) = nI (2 ^ k * n) := by
  rw [pk_shlN (s &&& 31) k hs h, Nat.mul_comm]
theorem key_eq {at_ : Nat → Nat} (h : okA at_) : (((((nI (at_ 0) ||| (nI (at_ 1) <<< (nI 4 &&& 31))) ||| (nI (at_ 2) <<< (nI 8 &&& 31))) ||| (nI (at_ 3) <<< (nI 12 &&& 31))) ||| nI (2 ^ 16 * at_ 4 + 2 ^ 20 * at_ 5)) ||| (nI (at_ 6) <<< (nI 23 &&& 31))) ||| (nI (at_ 7) <<< (nI 25 &&& 31)) = nI (keyN at_) := by
  obtain ⟨h0, h1, h2, h3, h4, h5, h6, h7⟩ := h
  rw [shl_N _ 4 _ (by decide) (by omega), shl_N _ 8 _ (by decide) (by omega), shl_N _ 12 _ (by decide) (by omega), shl_N _ 23 _ (by decide) (by omega), shl_N _ 25 _ (by decide) (by omega)]
  rw [or_sum _ _ 4 (by omega), or_sum _ _ 8 (by omega), or_sum _ _ 12 (by omega), show 2 ^ 16 * at_ 4 + 2 ^ 20 * at_ 5 = 2 ^ 16 * (at_ 4 + 2 ^ 4 * at_ 5) by omega, or_sum _ _ 16 (by omega), or_sum _ _ 23 (by omega), or_sum _ _ 25 (by omega)]
  congr 1
  unfold keyN
  omega
theorem wth_eq {x y : Nat} (hx : x ≤ 15) (hy : y ≤ 7) : (nI x <<< (nI 16 &&& 31)) ||| (nI y <<< (nI 20 &&& 31)) = nI (2 ^ 16 * x + 2 ^ 20 * y) := by
  rw [shl_N _ 16 _ (by decide) (by omega), shl_N _ 20 _ (by decide) (by omega), or_sum _ _ 20 (by omega)]
theorem adf_le {a b n : Nat} (ha : a ≤ n) (hb : b ≤ n) : adf a b ≤ n := by unfold adf; omega
theorem okA_V {e : xe} {v : sv} {i : Nat} (he : okE e) (hv : okV e v) (hi : i < eN e) (hg : ¬ v 3 i = 0) : okA (atV e v i) := by
  obtain ⟨⟨e1, e2, e3, e4, e5, e6, e7⟩, e8, e9, e10⟩ := he
  obtain ⟨v1, v2, v3, v4, v5, v6, v7⟩ := hv
  obtain ⟨w1, w2, w3, w4⟩ := v7 i hi
  have hRC : eR e * eC e ≤ 36 := Nat.mul_le_mul e2 e4
  have hm : v 0 4 % eL e < eL e := Nat.mod_lt _ e6
  have hd1 : (v 3 i - 1) / eC e ≤ 5 := by
    have : (v 3 i - 1) / eC e < eR e := Nat.div_lt_of_lt_mul (by rw [Nat.mul_comm]; omega)
    omega
  have hd2 : v 0 0 / eC e ≤ 5 := by
    have : v 0 0 / eC e < eR e := Nat.div_lt_of_lt_mul (by rw [Nat.mul_comm]; omega)
    omega
  have hd3 : (v 3 i - 1) % eC e < eC e := Nat.mod_lt _ (by omega)
  have hd4 : v 0 0 % eC e < eC e := Nat.mod_lt _ (by omega)
  have hg1 : gpN (eC e) (v 3 i - 1) (v 0 0) ≤ 10 := by
    have a1 := adf_le hd1 hd2
    have a2 := adf_le (n := 5) (a := (v 3 i - 1) % eC e) (b := v 0 0 % eC e) (by omega) (by omega)
    unfold gpN
    omega
  exact ⟨by show eS e i ≤ 15; have := (e8 i (by omega)).2; omega, by show v 1 i ≤ 15; omega, by show v 4 i ≤ 15; omega, by show v 2 i ≤ 15; omega, by show eF e (v 0 4 % eL e) ≤ 15; have := e9 _ (show v 0 4 % eL e < 20 by omega); omega, by show v 0 4 % 7 ≤ 7; omega, by show eK e i ≤ 3; exact (e8 i (by omega)).1, by show gpN (eC e) (v 3 i - 1) (v 0 0) ≤ 15; omega⟩
