/-! A rule while it is read. Printed by wip/whole. -/
/-- how tight a sign binds -/
def bnd (s : Nat) : Nat := if s = 60 ∨ s = 61 ∨ s = 62 then 1 else if s = 43 ∨ s = 45 then 2 else if s = 42 ∨ s = 47 then 3 else 0
/-- a letter's place plus 1 -/
def ltN (s : Nat) : Nat := if s = 115 then 1 else if s = 100 then 2 else if s = 99 then 3 else if s = 117 then 4 else if s = 102 then 5 else if s = 110 then 6 else if s = 107 then 7 else if s = 103 then 8 else 0
/-- one bit less -/
def clb (c k : Nat) : Nat := if c.testBit k = true then c - 2 ^ k else c
/-- codes and signs that wait, the last first; depth, comparisons, digits, 1 if it wants a thing -/
abbrev rst : Type := (List Nat × List Nat) × (Nat × Nat) × (Nat × Nat)
abbrev rC (S : rst) : List Nat := S.1.1
abbrev rW (S : rst) : List Nat := S.1.2
abbrev rD (S : rst) : Nat := S.2.1.1
abbrev rM (S : rst) : Nat := S.2.1.2
abbrev rG (S : rst) : Nat := S.2.2.1
abbrev rN (S : rst) : Nat := S.2.2.2
/-- settle -/
def stl (b : Nat) : List Nat → List Nat → List Nat × List Nat
  | [], C => (C, [])
  | t :: W, C => if t = 40 then (C, t :: W) else if ¬ t = 3000 ∧ bnd (t - 2000) < b then (C, t :: W) else stl b W (t :: C)
def tkT (S : rst) (s : Nat) : Option rst :=
  if s = 45 then some ((rC S, 3000 :: rW S), (rD S, rM S), rG S, 1)
  else if s = 40 then (if rD S = 4 then none else some ((rC S, 40 :: rW S), (rD S + 1, clb (rM S) (rD S + 1)), rG S, 1))
  else if 48 ≤ s ∧ s ≤ 57 then some (((s - 48) :: rC S, rW S), (rD S, rM S), 1, 0)
  else if ltN s = 0 then none else some (((999 + ltN s) :: rC S, rW S), (rD S, rM S), 0, 0)
def tkD (S : rst) (s : Nat) : Option rst := if rG S = 0 ∨ rG S = 3 then none else match rC S with
  | [] => none
  | c :: C => some (((c * 10 + (s - 48)) :: C, rW S), (rD S, rM S), rG S + 1, rN S)
def tkB (S : rst) (s : Nat) : Option rst :=
  if 48 ≤ s ∧ s ≤ 57 then tkD S s
  else if s = 41 then (if rD S = 0 then none else some (((stl 0 (rW S) (rC S)).1, (stl 0 (rW S) (rC S)).2.tail), (rD S - 1, rM S), 0, 0))
  else if bnd s = 0 ∨ (bnd s = 1 ∧ (rM S).testBit (rD S) = true) then none
  else some (((stl (bnd s) (rW S) (rC S)).1, (2000 + s) :: (stl (bnd s) (rW S) (rC S)).2), (rD S, if bnd s = 1 then rM S ||| 2 ^ rD S else rM S), 0, 1)
def tk (S : rst) (s : Nat) : Option rst := if rN S = 1 then tkT S s else tkB S s
/-- signs that may wait -/
def wok (t : Nat) : Prop := t = 40 ∨ t = 3000 ∨ (t = 2042 ∨ t = 2043 ∨ t = 2045 ∨ t = 2060 ∨ t = 2061 ∨ t = 2062 ∨ t = 2047)
/-- brackets that wait -/
def nb4 : List Nat → Nat
  | [] => 0
  | t :: W => (if t = 40 then 1 else 0) + nb4 W
/-- signs between two things that wait -/
def nb2 : List Nat → Nat
  | [] => 0
  | t :: W => (if t = 40 ∨ t = 3000 then 0 else 1) + nb2 W
def wll : List Nat → Prop
  | [] => True
  | t :: W => wok t ∧ wll W
/-- how many things a code leaves, the last first -/
def dpl : List Nat → Nat
  | [] => 0
  | c :: C => if c < 2000 then dpl C + 1 else if c = 3000 then dpl C else dpl C - 1
def wfl : List Nat → Prop
  | [] => True
  | c :: C => (okc c ∧ (c = 3000 → 0 < dpl C) ∧ (2000 ≤ c → ¬ c = 3000 → 1 < dpl C)) ∧ wfl C
/-- sure of a rule while it is read, behind q signs -/
def RI (S : rst) (q : Nat) : Prop := (rC S).length + (rW S).length ≤ q ∧ wll (rW S) ∧ nb4 (rW S) = rD S ∧ (rD S ≤ 4 ∧ rM S < 32 ∧ rG S ≤ 3 ∧ rN S ≤ 1) ∧ wfl (rC S) ∧ (dpl (rC S) + rN S = nb2 (rW S) + 1) ∧ (rN S = 0 → 0 < rG S → ∃ c C, rC S = c :: C ∧ c < 10 ^ rG S)
theorem RI_mk {C W : List Nat} {D M G N q : Nat} (h1 : C.length + W.length ≤ q) (h2 : wll W) (h3 : nb4 W = D) (h4 : D ≤ 4 ∧ M < 32 ∧ G ≤ 3 ∧ N ≤ 1) (h5 : wfl C) (h6 : dpl C + N = nb2 W + 1) (h7 : N = 0 → 0 < G → ∃ c C', C = c :: C' ∧ c < 10 ^ G) : RI ((C, W), (D, M), G, N) q := ⟨h1, h2, h3, h4, h5, h6, h7⟩
theorem wok_c {t : Nat} (h : wok t) (h4 : ¬ t = 40) (h3 : ¬ t = 3000) : okc t ∧ 2000 ≤ t ∧ t < 2100 ∧ 1 ≤ bnd (t - 2000) := by
  unfold wok at h
  rcases (show t = 2042 ∨ t = 2043 ∨ t = 2045 ∨ t = 2060 ∨ t = 2061 ∨ t = 2062 ∨ t = 2047 by omega) with rfl | rfl | rfl | rfl | rfl | rfl | rfl <;> exact ⟨by unfold okc; decide, by decide, by decide, by decide⟩
theorem wok_lt {t : Nat} (h : wok t) : t ≤ 3000 := by unfold wok at h; omega
theorem bnd_c {s : Nat} (h : ¬ bnd s = 0) : wok (2000 + s) ∧ bnd s ≤ 3 ∧ ¬ 2000 + s = 40 ∧ ¬ 2000 + s = 3000 ∧ bnd (2000 + s - 2000) = bnd s ∧ s < 100 := by
  unfold bnd at h ⊢
  unfold wok
  by_cases c1 : s = 60 ∨ s = 61 ∨ s = 62
  · rw [if_pos c1]
    exact ⟨by omega, by omega, by omega, by omega, by rw [show 2000 + s - 2000 = s by omega, if_pos c1], by omega⟩
  · rw [if_neg c1] at h ⊢
    by_cases c2 : s = 43 ∨ s = 45
    · rw [if_pos c2]
      exact ⟨by omega, by omega, by omega, by omega, by rw [show 2000 + s - 2000 = s by omega, if_neg c1, if_pos c2], by omega⟩
    · rw [if_neg c2] at h ⊢
      by_cases c3 : s = 42 ∨ s = 47
      · rw [if_pos c3]
        exact ⟨by omega, by omega, by omega, by omega, by rw [show 2000 + s - 2000 = s by omega, if_neg c1, if_neg c2, if_pos c3], by omega⟩
      · rw [if_neg c3] at h; exact absurd rfl h
theorem lt_c (s : Nat) : ltN s ≤ 8 ∧ (¬ ltN s = 0 → 97 ≤ s ∧ s < 128) := by
  unfold ltN
  by_cases c1 : s = 115
  · rw [if_pos c1]; omega
  rw [if_neg c1]
  by_cases c2 : s = 100
  · rw [if_pos c2]; omega
  rw [if_neg c2]
  by_cases c3 : s = 99
  · rw [if_pos c3]; omega
  rw [if_neg c3]
  by_cases c4 : s = 117
  · rw [if_pos c4]; omega
  rw [if_neg c4]
  by_cases c5 : s = 102
  · rw [if_pos c5]; omega
  rw [if_neg c5]
  by_cases c6 : s = 110
  · rw [if_pos c6]; omega
  rw [if_neg c6]
  by_cases c7 : s = 107
  · rw [if_pos c7]; omega
  rw [if_neg c7]
  by_cases c8 : s = 103
  · rw [if_pos c8]; omega
  rw [if_neg c8]; omega
theorem clb_lt : ∀ k, k < 6 → ∀ c, c < 32 → clb c k < 32 ∧ (clb c k).testBit k = false ∧ ∀ j, j < 6 → ¬ j = k → (clb c k).testBit j = c.testBit j := by decide +kernel
theorem orb_lt : ∀ k, k < 5 → ∀ c, c < 32 → c ||| 2 ^ k < 32 ∧ (c ||| 2 ^ k).testBit k = true ∧ ∀ j, j < 6 → ¬ j = k → (c ||| 2 ^ k).testBit j = c.testBit j := by decide +kernel
/-- settle, one row -/
theorem stl_4 {b : Nat} {W C : List Nat} : stl b (40 :: W) C = (C, 40 :: W) := if_pos rfl
theorem stl_n {b t : Nat} {W C : List Nat} (h : ¬ t = 40) (h2 : ¬ t = 3000 ∧ bnd (t - 2000) < b) : stl b (t :: W) C = (C, t :: W) := (if_neg h).trans (if_pos h2)
theorem stl_y {b t : Nat} {W C : List Nat} (h : ¬ t = 40) (h2 : ¬ (¬ t = 3000 ∧ bnd (t - 2000) < b)) : stl b (t :: W) C = stl b W (t :: C) := (if_neg h).trans (if_neg h2)
theorem stl_ok {b : Nat} : ∀ (W C : List Nat), wll W → wfl C → dpl C = nb2 W + 1 → (stl b W C).1.length + (stl b W C).2.length = C.length + W.length ∧ wll (stl b W C).2 ∧ nb4 (stl b W C).2 = nb4 W ∧ wfl (stl b W C).1 ∧ dpl (stl b W C).1 = nb2 (stl b W C).2 + 1 ∧ (b = 0 → (stl b W C).2 = [] ∨ ∃ W', (stl b W C).2 = 40 :: W')
  | [], C, hw, hc, hd => ⟨rfl, hw, rfl, hc, hd, fun _ => Or.inl rfl⟩
  | t :: W, C, hw, hc, hd => by
    by_cases h4 : t = 40
    · subst h4
      rw [stl_4]
      exact ⟨rfl, hw, rfl, hc, hd, fun _ => Or.inr ⟨W, rfl⟩⟩
    · by_cases h2 : ¬ t = 3000 ∧ bnd (t - 2000) < b
      · rw [stl_n h4 h2]
        exact ⟨rfl, hw, rfl, hc, hd, fun q => by have := h2.2; omega⟩
      · rw [stl_y h4 h2]
        have hk : okc t ∧ (t = 3000 → 0 < dpl C) ∧ (2000 ≤ t → ¬ t = 3000 → 1 < dpl C) := by
          by_cases h3 : t = 3000
          · subst h3
            exact ⟨by unfold okc; omega, fun _ => by omega, fun _ q => absurd rfl q⟩
          · have e : nb2 (t :: W) = 1 + nb2 W := by show (if t = 40 ∨ t = 3000 then 0 else 1) + nb2 W = _; rw [if_neg (by omega)]
            exact ⟨(wok_c hw.1 h4 h3).1, fun q => absurd q h3, fun _ _ => by omega⟩
        have hd2 : dpl (t :: C) = nb2 W + 1 := by
          show (if t < 2000 then dpl C + 1 else if t = 3000 then dpl C else dpl C - 1) = _
          by_cases h3 : t = 3000
          · subst h3
            have e : nb2 (3000 :: W) = 0 + nb2 W := rfl
            rw [if_neg (by decide), if_pos rfl]; omega
          · have e : nb2 (t :: W) = 1 + nb2 W := by show (if t = 40 ∨ t = 3000 then 0 else 1) + nb2 W = _; rw [if_neg (by omega)]
            have := (wok_c hw.1 h4 h3).2.1
            rw [if_neg (by omega), if_neg h3]; omega
        obtain ⟨a1, a2, a3, a4, a5, a6⟩ := stl_ok (b := b) W (t :: C) hw.2 ⟨hk, hc⟩ hd2
        refine ⟨by rw [a1]; show C.length + 1 + W.length = C.length + (W.length + 1); omega, a2, ?_, a4, a5, a6⟩
        rw [a3]
        show nb4 W = (if t = 40 then 1 else 0) + nb4 W
        rw [if_neg h4]; omega
theorem tkT_ok {S S' : rst} {q s : Nat} (hI : RI S q) (hn : rN S = 1) (h : tkT S s = some S') : RI S' (q + 1) := by
  obtain ⟨i1, i2, i3, ⟨i4, i5, i6, i7⟩, i8, i9, i10⟩ := hI
  unfold tkT at h
  by_cases c1 : s = 45
  · rw [if_pos c1] at h
    cases h
    exact RI_mk (by show _ + ((rW S).length + 1) ≤ _; omega) ⟨Or.inr (Or.inl rfl), i2⟩ (by show 0 + nb4 (rW S) = _; omega) ⟨i4, i5, i6, by decide⟩ i8 (by show dpl (rC S) + 1 = 0 + nb2 (rW S) + 1; omega) (fun z => absurd z (by decide))
  · rw [if_neg c1] at h
    by_cases c2 : s = 40
    · rw [if_pos c2] at h
      by_cases c3 : rD S = 4
      · rw [if_pos c3] at h; cases h
      · rw [if_neg c3] at h
        cases h
        exact RI_mk (by show _ + ((rW S).length + 1) ≤ _; omega) ⟨Or.inl rfl, i2⟩ (by show 1 + nb4 (rW S) = rD S + 1; omega) ⟨by omega, (clb_lt _ (by omega) _ i5).1, i6, by decide⟩ i8 (by show dpl (rC S) + 1 = 0 + nb2 (rW S) + 1; omega) (fun z => absurd z (by decide))
    · rw [if_neg c2] at h
      by_cases c3 : 48 ≤ s ∧ s ≤ 57
      · rw [if_pos c3] at h
        cases h
        refine RI_mk (by show (rC S).length + 1 + (rW S).length ≤ _; omega) i2 i3 ⟨i4, i5, by decide, by decide⟩ ⟨⟨Or.inl (by omega), fun z => by omega, fun z => by omega⟩, i8⟩ ?_ (fun _ _ => ⟨s - 48, rC S, rfl, by show s - 48 < 10 ^ 1; omega⟩)
        show (if s - 48 < 2000 then dpl (rC S) + 1 else _) + 0 = nb2 (rW S) + 1
        rw [if_pos (by omega)]; omega
      · rw [if_neg c3] at h
        by_cases c4 : ltN s = 0
        · rw [if_pos c4] at h; cases h
        · rw [if_neg c4] at h
          cases h
          have hl := (lt_c s).1
          refine RI_mk (by show (rC S).length + 1 + (rW S).length ≤ _; omega) i2 i3 ⟨i4, i5, by decide, by decide⟩ ⟨⟨Or.inr (Or.inl (by omega)), fun z => by omega, fun z => by omega⟩, i8⟩ ?_ (fun _ z => absurd z (Nat.lt_irrefl 0))
          show (if 999 + ltN s < 2000 then dpl (rC S) + 1 else _) + 0 = nb2 (rW S) + 1
          rw [if_pos (by omega)]; omega
theorem tkB_ok {S S' : rst} {q s : Nat} (hI : RI S q) (hn : rN S = 0) (h : tkB S s = some S') : RI S' (q + 1) := by
  obtain ⟨i1, i2, i3, ⟨i4, i5, i6, i7⟩, i8, i9, i10⟩ := hI
  unfold tkB at h
  by_cases c1 : 48 ≤ s ∧ s ≤ 57
  · rw [if_pos c1] at h
    unfold tkD at h
    by_cases c2 : rG S = 0 ∨ rG S = 3
    · rw [if_pos c2] at h; cases h
    · rw [if_neg c2] at h
      obtain ⟨c, C, e, hc⟩ := i10 hn (by omega)
      rw [e] at h
      cases h
      rw [e] at i1 i8 i9
      have hp : 10 ^ (rG S) ≤ 100 := Nat.pow_le_pow_right (n := 10) (by decide) (show rG S ≤ 2 by omega)
      have hp2 : 10 ^ (rG S + 1) = 10 ^ rG S * 10 := Nat.pow_succ _ _
      have d1 : dpl (c :: C) = dpl C + 1 := if_pos (by omega)
      refine RI_mk (by have : C.length + 1 + (rW S).length ≤ q := i1; show C.length + 1 + (rW S).length ≤ _; omega) i2 i3 ⟨i4, i5, by omega, i7⟩ ⟨⟨Or.inl (by omega), fun z => by omega, fun z => by omega⟩, i8.2⟩ ?_ (fun _ _ => ⟨_, _, rfl, ?_⟩)
      · show (if c * 10 + (s - 48) < 2000 then dpl C + 1 else _) + rN S = nb2 (rW S) + 1
        rw [if_pos (by omega)]; omega
      · show c * 10 + (s - 48) < 10 ^ (rG S + 1)
        omega
  · rw [if_neg c1] at h
    by_cases c2 : s = 41
    · rw [if_pos c2] at h
      by_cases c3 : rD S = 0
      · rw [if_pos c3] at h; cases h
      · rw [if_neg c3] at h
        cases h
        obtain ⟨a1, a2, a3, a4, a5, a6⟩ := stl_ok (b := 0) (rW S) (rC S) i2 i8 (by omega)
        rcases a6 rfl with e | ⟨W', e⟩
        · rw [e] at a3
          have : 0 = nb4 (rW S) := a3
          omega
        · rw [e] at a1 a2 a3 a5
          have b1 : (stl 0 (rW S) (rC S)).1.length + (W'.length + 1) = _ := a1
          have b3 : 1 + nb4 W' = _ := a3
          have b5 : dpl (stl 0 (rW S) (rC S)).1 = 0 + nb2 W' + 1 := a5
          have et : (stl 0 (rW S) (rC S)).2.tail = W' := by rw [e]; rfl
          refine RI_mk (by rw [et]; omega) (by rw [et]; exact a2.2) (by rw [et]; omega) ⟨by omega, i5, by decide, by decide⟩ a4 (by rw [et]; omega) (fun _ z => absurd z (Nat.lt_irrefl 0))
    · rw [if_neg c2] at h
      by_cases c3 : bnd s = 0 ∨ (bnd s = 1 ∧ (rM S).testBit (rD S) = true)
      · rw [if_pos c3] at h; cases h
      · rw [if_neg c3] at h
        cases h
        obtain ⟨a1, a2, a3, a4, a5, a6⟩ := stl_ok (b := bnd s) (rW S) (rC S) i2 i8 (by omega)
        obtain ⟨k1, k2, k3, k4, k5, k6⟩ := bnd_c (s := s) (fun z => c3 (Or.inl z))
        refine RI_mk (by show _ + ((stl (bnd s) (rW S) (rC S)).2.length + 1) ≤ _; omega) ⟨k1, a2⟩ ?_ ⟨i4, ?_, by decide, by decide⟩ a4 ?_ (fun z => absurd z (by decide))
        · show (if 2000 + s = 40 then 1 else 0) + nb4 (stl (bnd s) (rW S) (rC S)).2 = rD S
          rw [if_neg k3]; omega
        · show (if bnd s = 1 then rM S ||| 2 ^ rD S else rM S) < 32
          split
          · exact (orb_lt _ (by omega) _ i5).1
          · exact i5
        · show dpl (stl (bnd s) (rW S) (rC S)).1 + 1 = (if 2000 + s = 40 ∨ 2000 + s = 3000 then 0 else 1) + nb2 (stl (bnd s) (rW S) (rC S)).2 + 1
          rw [if_neg (by omega)]; omega
theorem tk_ok {S S' : rst} {q s : Nat} (hI : RI S q) (h : tk S s = some S') : RI S' (q + 1) := by
  have h7 := hI.2.2.2.1.2.2.2
  unfold tk at h
  by_cases c : rN S = 1
  · rw [if_pos c] at h; exact tkT_ok hI c h
  · rw [if_neg c] at h; exact tkB_ok hI (by omega) h
/-- reading on, from place q with k signs left: the fault's place, or the rule as it stands then -/
def rn (x : Nat × (Nat → Nat)) : Nat → Nat → rst → Nat ⊕ rst
  | 0, _, S => .inr S
  | k + 1, q, S => match tk S (x.2 q) with
    | none => .inl q
    | some S' => rn x k (q + 1) S'
theorem rn_n {x : Nat × (Nat → Nat)} {k q : Nat} {S : rst} (h : tk S (x.2 q) = none) : rn x (k + 1) q S = .inl q := by
  show (match tk S (x.2 q) with | none => Sum.inl q | some S' => rn x k (q + 1) S') = _
  rw [h]
theorem rn_s {x : Nat × (Nat → Nat)} {k q : Nat} {S S' : rst} (h : tk S (x.2 q) = some S') : rn x (k + 1) q S = rn x k (q + 1) S' := by
  show (match tk S (x.2 q) with | none => Sum.inl q | some S' => rn x k (q + 1) S') = _
  rw [h]
def rs0 : rst := (([], []), (0, 0), 0, 1)
theorem RI_0 : RI rs0 0 := ⟨Nat.le_refl _, trivial, rfl, ⟨by decide, by decide, by decide, by decide⟩, trivial, rfl, fun z => absurd z (by decide)⟩
/-- the fault of a rule's text: its place plus 1; 0: none -/
def rlF (x : Nat × (Nat → Nat)) : Nat := if x.1 = 0 then 0 else match rn x (min 40 x.1) 0 rs0 with
  | .inl q => q + 1
  | .inr S => if 40 < x.1 ∨ rN S = 1 ∨ 0 < rD S then min 40 x.1 + 1 else 0
/-- the code of a rule's text, the last first -/
def rlL (x : Nat × (Nat → Nat)) : List Nat := match rn x (min 40 x.1) 0 rs0 with
  | .inl _ => []
  | .inr S => (stl 0 (rW S) (rC S)).1

