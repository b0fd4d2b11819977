/-! THE VIEW: what a state is, as naturals, for class and reference alike. v 0 0 boat, 0 1 store, 0 2 kept, 0 3 broken, 0 4 hour, 0 5 held (bits); v 1 i tired, v 2 i trust, v 3 i goal + 1 (0: none), v 4 i crumbs. -/
abbrev sv : Type := Nat → Nat → Nat
def gI : Nat → Int32
  | 0 => -1
  | g + 1 => nI g
/-- an environment: scalars (0 rows, 1 columns, 2 fish, 3 signs of fog, 4 codes of the rule), kinds, strengths, fog, rocks, codes -/
abbrev xe : Type := (Nat → Nat) × (Nat → Nat) × (Nat → Nat) × (Nat → Nat) × (Nat → Nat) × (Nat → Nat)
abbrev eR (e : xe) : Nat := e.1 0
abbrev eC (e : xe) : Nat := e.1 1
abbrev eN (e : xe) : Nat := e.1 2
abbrev eL (e : xe) : Nat := e.1 3
abbrev eM (e : xe) : Nat := e.1 4
abbrev eK (e : xe) : Nat → Nat := e.2.1
abbrev eS (e : xe) : Nat → Nat := e.2.2.1
abbrev eF (e : xe) : Nat → Nat := e.2.2.2.1
abbrev eB (e : xe) : Nat → Nat := e.2.2.2.2.1
abbrev eW (e : xe) : Nat → Nat := e.2.2.2.2.2
/-- one code over a stack, by the numbers that the letters stand for -/
def gat (at_ : Nat → Nat) (c : Nat) (G : List Int32) : List Int32 :=
  if c < 1000 then G ++ [nI c] else if c < 2000 then G ++ [nI (at_ (c - 1000))] else if c = 3000 then (if 0 < G.length then G.set (G.length - 1) (-(G.getD (G.length - 1) 0)) else G) else
  if 1 < G.length then G.take (G.length - 2) ++ [X_join (c - 2000) (G.getD (G.length - 2) 0) (G.getD (G.length - 1) 0)] else G
def gA (at_ : Nat → Nat) (c : Nat → Nat) : Nat → List Int32
  | 0 => []
  | i + 1 => gat at_ (c i) (gA at_ c i)
theorem gL_gA {key : Int32} {at_ : Nat → Nat} {c : Nat → Nat} (h : ∀ j, j < 8 → ush key (shf j) &&& msk j = nI (at_ j)) : ∀ n, (∀ i, i < n → okc (c i)) → gL key c n = gA at_ c n
  | 0, _ => rfl
  | n + 1, hc => by
    show gst key (c n) (gL key c n) = gat at_ (c n) (gA at_ c n)
    rw [gL_gA h n (fun i hi => hc i (by omega))]
    unfold gst gat
    by_cases h1 : c n < 1000
    · rw [if_pos h1, if_pos h1]
    · rw [if_neg h1, if_neg h1]
      by_cases h2 : c n < 2000
      · have hk := hc n (by omega)
        unfold okc at hk
        rw [if_pos h2, if_pos h2, h _ (by omega)]
      · rw [if_neg h2, if_neg h2]
def adf (a b : Nat) : Nat := (a - b) + (b - a)
/-- rows and columns between two fields, added -/
def gpN (C a b : Nat) : Nat := adf (a / C) (b / C) + adf (a % C) (b % C)
theorem X_abs_adf {a b : Nat} (ha : a < 2 ^ 30) (hb : b < 2 ^ 30) : X_abs (nI a - nI b) = nI (adf a b) := by
  unfold X_abs adf
  have e := pk_sub_toInt ha hb
  by_cases h : b ≤ a
  · rw [if_pos (by rw [fa_le', e]; show (0 : Int) ≤ _; omega), pk_sub h, show b - a = 0 by omega, Nat.add_zero]
  · rw [if_neg (by rw [fa_le', e]; show ¬ (0 : Int) ≤ _; omega), show a - b = 0 by omega, Nat.zero_add]
    apply Int32.toInt_inj.mp
    rw [nI_toInt (by omega), Int32.toInt_sub, e]
    show ((0 : Int) - _).bmod _ = _
    rw [Int.bmod_eq_of_le (by omega) (by omega)]
    omega
theorem X_gap_N {C a b : Nat} (ha : a < 2 ^ 20) (hb : b < 2 ^ 20) : X_gap C a b = nI (gpN C a b) := by
  have h1 : a / C ≤ a := Nat.div_le_self a C
  have h2 : b / C ≤ b := Nat.div_le_self b C
  have h3 : a % C ≤ a := Nat.mod_le a C
  have h4 : b % C ≤ b := Nat.mod_le b C
  unfold X_gap gpN
  rw [X_abs_adf (by omega) (by omega), X_abs_adf (by omega) (by omega), nI_add]
/-- what the letters stand for, of fish i: s d c u f n k g -/
def atV (e : xe) (v : sv) (i : Nat) : Nat → Nat := fun j => match j with
  | 0 => eS e i
  | 1 => v 1 i
  | 2 => v 4 i
  | 3 => v 2 i
  | 4 => eF e (v 0 4 % eL e)
  | 5 => v 0 4 % 7
  | 6 => eK e i
  | _ => gpN (eC e) (v 3 i - 1) (v 0 0)
/-- does fish i pull at all -/
def actV (v : sv) (i : Nat) : Bool := decide (¬ v 3 i = 0) && decide (¬ v 3 i - 1 = v 0 0) && (v 0 5).testBit i
/-- the pull of fish i -/
def plV (e : xe) (v : sv) (i : Nat) : Int32 := if actV v i then X_clp ((gA (atV e v i) (eW e) (eM e)).getD 0 0) else nI 0
/-! the key that the class makes of these numbers -/
def keyN (at_ : Nat → Nat) : Nat := at_ 0 + 2 ^ 4 * at_ 1 + 2 ^ 8 * at_ 2 + 2 ^ 12 * at_ 3 + 2 ^ 16 * at_ 4 + 2 ^ 20 * at_ 5 + 2 ^ 23 * at_ 6 + 2 ^ 25 * at_ 7
def okA (at_ : Nat → Nat) : Prop := at_ 0 ≤ 15 ∧ at_ 1 ≤ 15 ∧ at_ 2 ≤ 15 ∧ at_ 3 ≤ 15 ∧ at_ 4 ≤ 15 ∧ at_ 5 ≤ 7 ∧ at_ 6 ≤ 3 ∧ at_ 7 ≤ 15
theorem key_at {at_ : Nat → Nat} (h : okA at_) : ∀ j, j < 8 → ush (nI (keyN at_)) (shf j) &&& msk j = nI (at_ j) := by
  obtain ⟨h0, h1, h2, h3, h4, h5, h6, h7⟩ := h
  have hk : keyN at_ < 2 ^ 32 := by unfold keyN; omega
  have main : ∀ (s m : Int32) (k w x : Nat), ((s.toUInt32 &&& Int32.toUInt32 31).toBitVec % 32).toNat = k → m.toBitVec.toNat = 2 ^ w - 1 → keyN at_ / 2 ^ k % 2 ^ w = x → ush (nI (keyN at_)) s &&& m = nI x := by
    intro s m k w x e1 e2 e3
    unfold ush
    rw [pk_ushrN hk s k e1, pk_andN (Nat.lt_of_le_of_lt (Nat.div_le_self _ _) hk) w e2, e3]
  intro j hj
  rcases (show j = 0 ∨ j = 1 ∨ j = 2 ∨ j = 3 ∨ j = 4 ∨ j = 5 ∨ j = 6 ∨ j = 7 by omega) with rfl | rfl | rfl | rfl | rfl | rfl | rfl | rfl
  · exact main _ _ 0 4 _ (by decide) (by decide) (by unfold keyN; omega)
  · exact main _ _ 4 4 _ (by decide) (by decide) (by unfold keyN; omega)
  · exact main _ _ 8 4 _ (by decide) (by decide) (by unfold keyN; omega)
  · exact main _ _ 12 4 _ (by decide) (by decide) (by unfold keyN; omega)
  · exact main _ _ 16 4 _ (by decide) (by decide) (by unfold keyN; omega)
  · exact main _ _ 20 3 _ (by decide) (by decide) (by unfold keyN; omega)
  · exact main _ _ 23 2 _ (by decide) (by decide) (by unfold keyN; omega)
  · exact main _ _ 25 4 _ (by decide) (by decide) (by unfold keyN; omega)
theorem key_ne {at_ : Nat → Nat} (h : okA at_) : ¬ nI (keyN at_) = -1 := by
  obtain ⟨h0, h1, h2, h3, h4, h5, h6, h7⟩ := h
  intro q
  have := congrArg Int32.toInt q
  rw [nI_toInt (by unfold keyN; omega)] at this
  have e : (-1 : Int32).toInt = -1 := rfl
  rw [e] at this
  omega
/-- bits that are apart: or is plus -/
theorem or_sum (a b k : Nat) (h : a < 2 ^ k) : nI a ||| nI (2 ^ k * b) = nI (a + 2 ^ k * b) := by
  apply Int32.toBitVec_inj.mp
  show (Int32.ofNat a).toBitVec ||| (Int32.ofNat (2 ^ k * b)).toBitVec = (Int32.ofNat (a + 2 ^ k * b)).toBitVec
  simp only [Int32.toBitVec_ofNat']
  have : a ||| 2 ^ k * b = a + 2 ^ k * b := by
    rw [Nat.or_comm, ← Nat.two_pow_add_eq_or_of_lt h, Nat.add_comm]
  rw [← BitVec.ofNat_or, this]
