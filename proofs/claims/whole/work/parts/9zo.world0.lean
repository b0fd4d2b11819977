/-! The world at the beginning; out of the constructors' heap into the typed state. -/
def e00 : xe := (fun k => ([2, 2, 0, 1, 7] : List Nat).getD k 0, fun _ => 0, fun _ => 0, fun _ => 0, fun _ => 0, plc)
def v00 : sv := fun a i => if a = 0 ∧ i = 1 then 20 else if a = 3 then 1 else 0
def w00 : wv := (e00, v00, (0, fun _ => 0), (0, fun _ => 0), [], fun _ => none, (0, fun _ => 0, fun _ => 0, fun _ => 0))
theorem si00 {a : Nat} (h : a ≠ 128 ∧ a ≠ 134 ∧ a ≠ 131 ∧ a ≠ 137 ∧ a ≠ 160) (i : Nat) : si σ0 a i = nI 0 := by
  show si0 a i = _
  rw [si0_z h]
  rfl
theorem plF_at : ∀ i, i < 7 → plF i = nI (plc i) := by decide +kernel
theorem XW00 : XW σ0 w00 := by
  refine ⟨⟨⟨⟨by decide, by decide, by decide, by decide⟩, fun i hi => ⟨si00 (by decide) i, si00 (by decide) i⟩, fun i hi => si00 (by decide) i, fun f hf => si00 (by decide) f, ?_⟩, ?_, ?_, by decide, ?_⟩, ?_, ?_, ?_, ?_, ?_, ?_⟩
  · exact isC_m (by decide) (by decide) (fun i hi => plF_at i hi) wfc_p (by decide)
  · show 127 ∈ ([127, 133] : List Nat)
    decide
  · show 133 ∈ ([127, 133] : List Nat)
    decide
  · intro s hs
    exact Or.inl (if_pos hs)
  · refine ⟨by decide, fun i hi => ⟨si00 (by decide) i, si00 (by decide) i, ?_, si00 (by decide) i⟩⟩
    rw [si00 (by decide) i]
    rfl
  · exact ⟨by decide, fun i hi => absurd hi (Nat.not_lt_zero i)⟩
  · exact ⟨by decide, fun i hi => absurd hi (Nat.not_lt_zero i)⟩
  · exact ⟨0, by decide, by decide, by decide, fun j hj => absurd hj (Nat.not_lt_zero j)⟩
  · refine ⟨0, by decide, by decide, fun i hi => ⟨by simp [w00], fun v hv => by cases hv⟩⟩
  · exact ⟨by decide, fun i hi => absurd hi (Nat.not_lt_zero i)⟩
theorem nw_at : (nwF 0 = nI 0 ∧ nwF 33 = nI 0 ∧ nwF 34 = nI 20 ∧ nwF 35 = nI 0 ∧ nwF 36 = nI 0 ∧ nwF 37 = nI 0) := by decide
theorem YW00 : YW σ0 0 w00 := by
  refine ⟨⟨⟨⟨by decide, by decide, by decide, by decide⟩, fun i hi => absurd hi (Nat.not_lt_zero i), fun i hi => si00 (by decide) i, fun f hf => si00 (by decide) f⟩, ⟨0, by decide, by decide, Or.inl ⟨rfl, rfl, fun i _ => rfl⟩⟩⟩, ⟨nw_at, fun i hi => absurd hi (Nat.not_lt_zero i)⟩, ⟨by decide, fun i hi => absurd hi (Nat.not_lt_zero i)⟩, ⟨by decide, fun i hi => absurd hi (Nat.not_lt_zero i)⟩, ⟨by decide, fun i hi => absurd hi (Nat.not_lt_zero i)⟩, ⟨by decide, fun i hi => ⟨0, 0, by decide, by decide, si00 (by decide) i, si00 (by decide) i, ?_, fun v hv => by cases hv⟩⟩, ⟨by decide, fun i hi => absurd hi (Nat.not_lt_zero i)⟩⟩
  constructor
  · intro h; cases h
  · intro h; exact absurd h.1 (by decide)
theorem okW00 : okW 0 w00 := by
  refine ⟨⟨by decide, fun i hi => ⟨Nat.zero_le _, Nat.zero_le _⟩, fun i hi => Nat.zero_le _, fun f hf => Nat.zero_le _⟩, ⟨⟨by decide, by decide, by decide, by decide, by decide, by decide, fun i hi => absurd hi (Nat.not_lt_zero i)⟩, by decide, by decide⟩, ⟨by decide, fun i hi => absurd hi (Nat.not_lt_zero i)⟩, by decide, ⟨by decide, fun i hi => absurd hi (Nat.not_lt_zero i)⟩, fun i hi v hv => (by cases hv), ⟨by decide, fun i hi => absurd hi (Nat.not_lt_zero i)⟩, wfc_p⟩
theorem IV00 : IV 0 w00 0 σ0 := ⟨XW00, YW00, okW00, Nat.le_refl 0⟩
/-- n cells are made -/
def ALL (n : Nat) (h : xH) : Prop := Fr0 n h ∧ (∀ a, a < n → (xSh.getD a (1, 0, 0)).1 = 0 → hF h a = TF a) ∧ ∀ a, a < n → hI h a = si0 a ∧ hJ h a = (fun _ => 0) ∧ hR h a = xrr a
theorem ALL.first {h h2 : xH} {m : Nat} (x : Made 0 m h h2) : ALL (0 + m) h2 := by
  obtain ⟨x1, x2, x3, x4, x5⟩ := x
  refine ⟨x1, fun a ha hz => ?_, fun a ha => x5 a (Nat.zero_le a) ha⟩
  rcases Nat.eq_zero_or_pos a with e | e
  · rw [e]; exact x3
  · exact x4 a e ha hz
theorem ALL.next {n m : Nat} {h h2 : xH} {z : Nat × Nat × Nat} (x : ALL n h) (y : Made n m (h.1 ++ [z], h.2) h2) : ALL (n + m) h2 := by
  obtain ⟨x1, x2, x3⟩ := x
  obtain ⟨y1, y2, y3, y4, y5⟩ := y
  refine ⟨y1, fun a ha hz => ?_, fun a ha => ?_⟩
  · rcases Nat.lt_or_ge a n with g | g
    · rw [(y2 a g).1]; exact x2 a g hz
    · rcases Nat.eq_or_lt_of_le g with e | e
      · rw [← e]; exact y3
      · exact y4 a e ha hz
  · rcases Nat.lt_or_ge a n with g | g
    · obtain ⟨-, q2, q3, q4⟩ := y2 a g
      rw [q2, q3, q4]
      exact x3 a g
    · exact y5 a g ha
theorem ALL.last {h : xH} (x : ALL 189 h) : ALL 190 (h.1 ++ [(2, 4, 1)], h.2) := by
  obtain ⟨x1, x2, x3⟩ := x
  refine ⟨x1.push rfl, fun a ha hz => ?_, fun a ha => ?_⟩
  · rcases Nat.lt_or_ge a 189 with g | g
    · exact x2 a g hz
    · obtain rfl : a = 189 := by omega
      exact absurd hz (by decide)
  · rcases Nat.lt_or_ge a 189 with g | g
    · exact x3 a g
    · obtain rfl : a = 189 := by omega
      obtain ⟨-, y2, y3, y4⟩ := x1.2.2 189 (Nat.le_refl _)
      exact ⟨y2.trans (si0_z (by decide)).symm, y3, y4.trans (xrr_z (by decide)).symm⟩
theorem ALL.ext {l : xLa} {M : mT} {d pc uc us : Nat} {lv : List (Option Value)} {st : List Value} {h : xH} {Q : Option Value → xH → Prop} (x : ALL 190 h) (k : E l M d pc lv st (mk σ0) uc us Q) : E l M d pc lv st h uc us Q := by
  obtain ⟨x1, x2, x3⟩ := x
  have hs : h.1 = xSh := by rw [x1.1]; exact List.take_of_length_le (by rw [xSh_len]; omega)
  refine E.ext (h2 := mk σ0) (by rw [hs]; rfl) (fun a z hz ad dA => ?_) k
  rw [hs] at hz
  have ha : a < 190 := by rw [← xSh_len]; exact (List.getElem?_eq_some_iff.mp hz).1
  obtain ⟨y1, y2, y3⟩ := x3 a ha
  have e1 : hI h a = hI (mk σ0) a := y1
  have e2 : hJ h a = hJ (mk σ0) a := y2
  have e3 : hR h a = hR (mk σ0) a := y3
  obtain ⟨t, u, n⟩ := z
  match t, hz with
  | 0, hz =>
    have e0 : hF h a = hF (mk σ0) a := x2 a ha (by rw [List.getD_eq_getElem?_getD, hz]; rfl)
    show Sum.inr (u, (List.range n).map (fun j => trV ad (hF h a j))) = Sum.inr (u, (List.range n).map (fun j => trV ad (hF (mk σ0) a j)))
    rw [e0]
  | 1, hz =>
    show Sum.inl (dA u, n, Sum.inl (hI h a)) = Sum.inl (dA u, n, Sum.inl (hI (mk σ0) a))
    rw [e1]
  | 2, hz =>
    show Sum.inl (dA 4, n, Sum.inr (Sum.inl (hJ h a))) = Sum.inl (dA 4, n, Sum.inr (Sum.inl (hJ (mk σ0) a)))
    rw [e2]
  | t + 3, hz =>
    show Sum.inl (dA u, n, Sum.inr (Sum.inr (Sum.inr (Sum.inr (fun j => (hR h a j).map ad))))) = Sum.inl (dA u, n, Sum.inr (Sum.inr (Sum.inr (Sum.inr (fun j => (hR (mk σ0) a j).map ad)))))
    rw [e3]
