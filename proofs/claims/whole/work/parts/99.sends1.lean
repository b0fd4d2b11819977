/-! WHOM TO PROMISE: the fewest fish, then the least bits. -/
/-- the best set of those below i: 0 none, else it plus 1 -/
def fwN (A : Nat → Bool) (P : Nat) : Nat → Nat
  | 0 => 0
  | i + 1 => if (dfN i P = 0 ∧ (fwN A P i = 0 ∨ pcN i < pcN (fwN A P i - 1))) ∧ A i = true then i + 1 else fwN A P i
def feN (A : Nat → Bool) (P : Nat) : Nat := fwN A P (P + 1)
section
variable {A A2 : Nat → Bool} {P i s : Nat}
theorem fw_y (h1 : dfN i P = 0) (h2 : fwN A P i = 0 ∨ pcN i < pcN (fwN A P i - 1)) (h3 : A i = true) : i + 1 = fwN A P (i + 1) := (if_pos ⟨⟨h1, h2⟩, h3⟩).symm
theorem fw_n (h : ¬ ((dfN i P = 0 ∧ (fwN A P i = 0 ∨ pcN i < pcN (fwN A P i - 1))) ∧ A i = true)) : fwN A P i = fwN A P (i + 1) := (if_neg h).symm
theorem fw_0 : ∀ i, fwN A P i = 0 → ∀ t, t < i → dfN t P = 0 → ¬ A t = true
  | 0, _, t, ht, _ => absurd ht (Nat.not_lt_zero t)
  | i + 1, h, t, ht, hp => by
    by_cases c : (dfN i P = 0 ∧ (fwN A P i = 0 ∨ pcN i < pcN (fwN A P i - 1))) ∧ A i = true
    · have : fwN A P (i + 1) = i + 1 := if_pos c
      omega
    · have e : fwN A P (i + 1) = fwN A P i := if_neg c
      rw [e] at h
      by_cases q : t = i
      · subst q
        exact fun z => c ⟨⟨hp, Or.inl h⟩, z⟩
      · exact fw_0 i h t (by omega) hp
theorem fw_s : ∀ i s, fwN A P i = s + 1 → s < i ∧ dfN s P = 0 ∧ A s = true ∧ ∀ t, t < i → dfN t P = 0 → A t = true → pcN s ≤ pcN t ∧ (pcN t = pcN s → s ≤ t)
  | 0, s, h => by have : 0 = s + 1 := h; omega
  | i + 1, s, h => by
    by_cases c : (dfN i P = 0 ∧ (fwN A P i = 0 ∨ pcN i < pcN (fwN A P i - 1))) ∧ A i = true
    · have e : fwN A P (i + 1) = i + 1 := if_pos c
      obtain rfl : s = i := by omega
      refine ⟨by omega, c.1.1, c.2, fun t ht hp ha => ?_⟩
      by_cases q : t = s
      · subst q; exact ⟨Nat.le_refl _, fun _ => Nat.le_refl _⟩
      · rcases c.1.2 with z | z
        · exact absurd ha (fw_0 s z t (by omega) hp)
        · cases hw : fwN A P s with
          | zero => exact absurd ha (fw_0 s hw t (by omega) hp)
          | succ k =>
            rw [hw, Nat.add_sub_cancel] at z
            have := ((fw_s s k hw).2.2.2 t (by omega) hp ha).1
            exact ⟨by omega, fun y => by omega⟩
    · have e : fwN A P (i + 1) = fwN A P i := if_neg c
      rw [e] at h
      obtain ⟨h1, h2, h3, h4⟩ := fw_s i s h
      refine ⟨by omega, h2, h3, fun t ht hp ha => ?_⟩
      by_cases q : t = i
      · subst q
        have : ¬ pcN t < pcN s := fun z => c ⟨⟨hp, Or.inr (by rw [h, Nat.add_sub_cancel]; exact z)⟩, ha⟩
        exact ⟨by omega, fun _ => by omega⟩
      · exact h4 t (by omega) hp ha
theorem fe_0 (h : feN A P = 0) (t : Nat) (hp : dfN t P = 0) : ¬ A t = true := fw_0 _ h t (by have := dfN_le hp; omega) hp
theorem fe_s (h : feN A P = s + 1) : s ≤ P ∧ dfN s P = 0 ∧ A s = true ∧ ∀ t, dfN t P = 0 → A t = true → pcN s ≤ pcN t ∧ (pcN t = pcN s → s ≤ t) := by
  obtain ⟨h1, h2, h3, h4⟩ := fw_s _ s h
  exact ⟨by omega, h2, h3, fun t hp => h4 t (by have := dfN_le hp; omega) hp⟩
theorem fe_u (h1 : dfN s P = 0) (h2 : A s = true) (h3 : ∀ t, dfN t P = 0 → A t = true → pcN s ≤ pcN t ∧ (pcN t = pcN s → s ≤ t)) : feN A P = s + 1 := by
  cases h : feN A P with
  | zero => exact absurd h2 (fe_0 h s h1)
  | succ k =>
    obtain ⟨g1, g2, g3, g4⟩ := fe_s h
    have a1 := g4 s h1 h2
    have a2 := h3 k g2 g3
    have : pcN s = pcN k := by omega
    have b1 := a1.2 this
    have b2 := a2.2 this.symm
    omega
theorem fw_c (h : ∀ t, dfN t P = 0 → A t = A2 t) : ∀ i, fwN A P i = fwN A2 P i
  | 0 => rfl
  | i + 1 => by
    show (if (dfN i P = 0 ∧ (fwN A P i = 0 ∨ pcN i < pcN (fwN A P i - 1))) ∧ A i = true then i + 1 else fwN A P i) = (if (dfN i P = 0 ∧ (fwN A2 P i = 0 ∨ pcN i < pcN (fwN A2 P i - 1))) ∧ A2 i = true then i + 1 else fwN A2 P i)
    rw [← fw_c h i]
    by_cases c : dfN i P = 0
    · rw [h i c]
    · rw [if_neg (fun z => c z.1.1), if_neg (fun z => c z.1.1)]
/-- with room for so many fish alone -/
def rmN (A : Nat → Bool) (P room : Nat) : Nat := if feN A P = 0 ∨ room < pcN (feN A P - 1) then 0 else feN A P
theorem pc_sub {a b : Nat} (h : dfN a b = 0) : pcN a ≤ pcN b := by
  have q : ∀ j, tbN a j ≤ tbN b j := by
    intro j
    unfold tbN
    by_cases c : a.testBit j = true
    · rw [if_pos c, if_pos (dfN_0.mp h j c)]; exact Nat.le_refl _
    · rw [if_neg c]; exact Nat.zero_le _
  have q0 := q 0
  have q1 := q 1
  have q2 := q 2
  have q3 := q 3
  have q4 := q 4
  have q5 := q 5
  have q6 := q 6
  have q7 := q 7
  unfold pcN
  omega
/-- no better set so far -/
def nbJ (A : Nat → Bool) (P size i : Nat) : Prop := ∀ t, dfN t P = 0 → A t = true → size ≤ pcN t ∧ (pcN t = size → i ≤ t)
theorem nb_0 : nbJ A P 0 0 := fun _ _ _ => ⟨Nat.zero_le _, fun _ => Nat.zero_le _⟩
theorem nb_s {size : Nat} (h : nbJ A P size i) (c : ¬ ((dfN i P = 0 ∧ pcN i = size) ∧ A i = true)) : nbJ A P size (i + 1) := fun t hp ha => by
  obtain ⟨h1, h2⟩ := h t hp ha
  refine ⟨h1, fun q => ?_⟩
  have := h2 q
  by_cases z : t = i
  · subst z; exact absurd ⟨⟨hp, q⟩, ha⟩ c
  · omega
theorem nb_n {size : Nat} (h : nbJ A P size i) (c : P < i) : nbJ A P (size + 1) 0 := fun t hp ha => by
  obtain ⟨h1, h2⟩ := h t hp ha
  have := dfN_le hp
  refine ⟨?_, fun _ => Nat.zero_le _⟩
  by_cases z : pcN t = size
  · have := h2 z; omega
  · omega
theorem nb_y {size room : Nat} (h : nbJ A P size i) (h1 : dfN i P = 0) (h2 : pcN i = size) (h3 : A i = true) (hr : size ≤ room) : rmN A P room = i + 1 := by
  have e : feN A P = i + 1 := fe_u h1 h3 (fun t hp ha => by rw [h2]; exact h t hp ha)
  unfold rmN
  rw [e, Nat.add_sub_cancel, if_neg (by omega)]
theorem nb_e {size room : Nat} (h : nbJ A P size i) (c : room < size ∨ pcN P < size) : rmN A P room = 0 := by
  unfold rmN
  by_cases z : feN A P = 0
  · rw [if_pos (Or.inl z)]
  · obtain ⟨k, hk⟩ : ∃ k, feN A P = k + 1 := ⟨feN A P - 1, by omega⟩
    obtain ⟨g1, g2, g3, g4⟩ := fe_s hk
    have a := (h k g2 g3).1
    have b := pc_sub g2
    rw [hk, Nat.add_sub_cancel, if_pos (Or.inr (by omega))]
theorem rm_no {room : Nat} (h : ∀ t, dfN t P = 0 → ¬ A t = true) : rmN A P room = 0 := by
  unfold rmN
  rw [if_pos (Or.inl ?_)]
  cases q : feN A P with
  | zero => rfl
  | succ k => obtain ⟨g1, g2, g3, g4⟩ := fe_s q; exact absurd g3 (h k g2)
theorem rm_8 : rmN A P 8 = feN A P := by
  unfold rmN
  have := pcN_le (feN A P - 1)
  by_cases z : feN A P = 0
  · rw [if_pos (Or.inl z), z]
  · rw [if_neg (by omega)]
theorem rm_c {room : Nat} : rmN A P room = feN A P ∨ rmN A P room = 0 := by
  unfold rmN
  split
  · exact Or.inr rfl
  · exact Or.inl rfl
end
/-! the boat goes over water -/
theorem go_bes {e : xe} {v : sv} (he : okE e) (hv : okV e v) (h : ¬ goV e v (nI 255) = 0) : eB e ((hrV e v) 0 0) = 0 ∧ beN (eR e) (eC e) (v 0 0) (goV e v (nI 255) - 1) = (hrV e v) 0 0 + 1 ∧ (hrV e v) 0 0 < eR e * eC e := by
  have h1 := goV_f he hv h
  rw [hr_00, if_neg h]
  have hn : ¬ X_bes (eR e) (eC e) (v 0 0) (goV e v (nI 255) - 1) = -1 := by
    intro q
    have := h1.2
    rw [q] at this
    exact absurd this (by decide)
  refine ⟨?_, if_neg hn, h1.1⟩
  unfold goV at h ⊢
  dsimp only at h ⊢
  by_cases c : (bsV (ntF e v (nI 255) (fun _ => nI 0) (eN e)) 4).1 = 0
  · rw [if_pos c] at h; exact absurd rfl h
  · rw [if_neg c] at h ⊢
    by_cases c2 : X_bes (eR e) (eC e) (v 0 0) ((bsV (ntF e v (nI 255) (fun _ => nI 0) (eN e)) 4).1 - 1) = -1 ∨ ¬ eB e (X_bes (eR e) (eC e) (v 0 0) ((bsV (ntF e v (nI 255) (fun _ => nI 0) (eN e)) 4).1 - 1)).toNatClampNeg = 0
    · rw [if_pos c2] at h; exact absurd rfl h
    · rw [if_neg c2]
      exact Classical.byContradiction (fun q => c2 (Or.inr q))
theorem dR_hrs {e : xe} {v : sv} (he : okE e) (hv : okV e v) : ∀ k, v 0 4 + k < 2 ^ 30 → dR (eR e) (eC e) (eB e) (v 0 0) k ((hrsV e v k) 0 0) = true
  | 0, _ => dR_0.mpr rfl
  | k + 1, hk => by
    have ih := dR_hrs he hv k (by omega)
    obtain ⟨h1, h2⟩ := ok_hrs he hv k (by omega)
    show dR (eR e) (eC e) (eB e) (v 0 0) (k + 1) ((hrV e (hrsV e v k)) 0 0) = true
    by_cases c : goV e (hrsV e v k) (nI 255) = 0
    · rw [hr_00, if_pos c]
      exact dR_t.mpr (Or.inl ih)
    · obtain ⟨g1, g2, g3⟩ := go_bes he h1 c
      have hl := goV_lt (e := e) (v := hrsV e v k) (z := nI 255)
      rcases be_c he.1.2.1 he.1.2.2.2.1 (show goV e (hrsV e v k) (nI 255) - 1 < 4 by omega) h1.1 with q | ⟨q1, q2⟩
      · omega
      · rw [g2, Nat.add_sub_cancel] at q2
        exact dR_t.mpr (Or.inr ⟨g1, (goV e (hrsV e v k) (nI 255) - 1 + 2) % 4, by omega, by omega, by rw [q2, Nat.add_sub_cancel]; exact ih⟩)
/-- who can be promised something -/
def abN (e : xe) (v : sv) (n : Nat) : Nat := bsN (fun i => decide (¬ (eK e i = 2 ∨ v 2 i = 0))) n
/-- whether the boat comes to f within n hours if the fish of s are promised it, for c crumbs each -/
def arB (w : wv) (f c n s : Nat) : Bool := (aryN (wE w) (prm (wV w) s f c (eN (wE w))) f n).isSome
theorem arB_t {w : wv} {f c n s : Nat} : arB w f c n s = true ↔ ¬ aryN (wE w) (prm (wV w) s f c (eN (wE w))) f n = none := by
  unfold arB
  cases aryN (wE w) (prm (wV w) s f c (eN (wE w))) f n with
  | none => exact ⟨fun h => (by cases h), fun h => absurd rfl h⟩
  | some k => exact ⟨fun _ h => (by cases h), fun _ => rfl⟩
/-- where the water doesn't reach in n steps, no boat comes in n hours -/
theorem arB_no {w : wv} {f c n s : Nat} (ho : okQ w) (hf : f < eR (wE w) * eC (wE w)) (hc : c ≤ 9) (hn : n ≤ 99) (h : dW w (wV w 0 0) f = 0 ∨ n + 1 < dW w (wV w 0 0) f) : ¬ arB w f c n s = true := by
  intro q
  have hq := arB_t.mp q
  obtain ⟨k, hk⟩ := Option.ne_none_iff_exists'.mp hq
  obtain ⟨h1, h2, h3⟩ := fst_some _ _ _ hk
  have hv := ok_prm (s := s) (c := c) ho.2.1 hf hc (eN (wE w))
  have h4 : (prm (wV w) s f c (eN (wE w))) 0 4 = wV w 0 4 := prm_0r _
  have h0 : (prm (wV w) s f c (eN (wE w))) 0 0 = wV w 0 0 := prm_0r _
  have hd := dR_hrs ho.1 hv k (by rw [h4]; have := ho.2.2; omega)
  rw [pAt_t.mp h3, h0] at hd
  obtain ⟨j, g1, g2⟩ := dT_b ho.1.1.2.1 ho.1.1.2.2.2.1 ho.2.1.1 hf hd
  have : dW w (wV w 0 0) f = j + 1 := g2
  omega
/-! crumbs don't count where the rule has no c -/
/-- the same but for the crumbs of fish that are promised f -/
def r4 (f : Nat) (u v : sv) : Prop := (∀ a b, ¬ a = 4 → u a b = v a b) ∧ ∀ b, ¬ u 3 b = f + 1 → u 4 b = v 4 b
section
variable {e : xe} {u v : sv} {f : Nat}
theorem r4_up (h : r4 f u v) {r k x : Nat} (hr : ¬ r = 3) (hr4 : ¬ r = 4) : r4 f (upv u r k x) (upv v r k x) := by
  refine ⟨fun a b ha => ?_, fun b hb => ?_⟩
  · unfold upv
    split
    · rfl
    · exact h.1 a b ha
  · have e1 : (upv u r k x) 3 b = u 3 b := if_neg (fun q => hr q.1.symm)
    have e2 : (upv u r k x) 4 b = u 4 b := if_neg (fun q => hr4 q.1.symm)
    have e3 : (upv v r k x) 4 b = v 4 b := if_neg (fun q => hr4 q.1.symm)
    rw [e1] at hb
    rw [e2, e3]
    exact h.2 b hb
theorem r4_up' (h : r4 f u v) {r k x y : Nat} (hr : ¬ r = 3) (hr4 : ¬ r = 4) (e : x = y) : r4 f (upv u r k x) (upv v r k y) := by subst e; exact r4_up h hr hr4
theorem r4_3 (h : r4 f u v) {k : Nat} (hk : ¬ u 3 k = f + 1) : r4 f (upv u 3 k 0) (upv v 3 k 0) := by
  refine ⟨fun a b ha => ?_, fun b hb => ?_⟩
  · unfold upv
    split
    · rfl
    · exact h.1 a b ha
  · have e2 : (upv u 3 k 0) 4 b = u 4 b := if_neg (fun q => by omega)
    have e3 : (upv v 3 k 0) 4 b = v 4 b := if_neg (fun q => by omega)
    rw [e2, e3]
    by_cases c : b = k
    · rw [c]; exact h.2 k hk
    · have e1 : (upv u 3 k 0) 3 b = u 3 b := if_neg (fun q => c q.2)
      rw [e1] at hb
      exact h.2 b hb
theorem gA_at {at_ at2 c : Nat → Nat} (h : ∀ j, ¬ j = 2 → at_ j = at2 j) : ∀ n, (∀ i, i < n → ¬ c i = 1002) → gA at_ c n = gA at2 c n
  | 0, _ => rfl
  | n + 1, hc => by
    show gat at_ (c n) (gA at_ c n) = gat at2 (c n) (gA at2 c n)
    rw [gA_at h n (fun i hi => hc i (by omega))]
    unfold gat
    by_cases c1 : c n < 1000
    · rw [if_pos c1, if_pos c1]
    · rw [if_neg c1, if_neg c1]
      by_cases c2 : c n < 2000
      · rw [if_pos c2, if_pos c2, h _ (by have := hc n (by omega); omega)]
      · rw [if_neg c2, if_neg c2]
theorem r4_pl (h : r4 f u v) (hc : ∀ i, i < eM e → ¬ eW e i = 1002) (i : Nat) : plV e u i = plV e v i := by
  have e1 : actV u i = actV v i := by
    unfold actV
    rw [h.1 3 i (by decide), h.1 0 0 (by decide), h.1 0 5 (by decide)]
  unfold plV
  rw [e1, gA_at (at_ := atV e u i) (at2 := atV e v i) ?_ (eM e) hc]
  intro j hj
  unfold atV
  rw [h.1 1 i (by decide), h.1 2 i (by decide), h.1 0 4 (by decide), h.1 3 i (by decide), h.1 0 0 (by decide)]
  split
  · rfl
  · rfl
  · exact absurd rfl hj
  · rfl
  · rfl
  · rfl
  · rfl
  · rfl
theorem r4_nt (h : r4 f u v) (hc : ∀ i, i < eM e → ¬ eW e i = 1002) (z : Int32) (g : Nat → Int32) : ∀ n, ntF e u z g n = ntF e v z g n
  | 0 => rfl
  | n + 1 => by
    have d1 : dnV e u n = dnV e v n := by unfold dnV; rw [h.1 3 n (by decide), h.1 0 0 (by decide)]
    have d2 : rtV e u n = rtV e v n := by unfold rtV; rw [h.1 3 n (by decide), h.1 0 0 (by decide)]
    show ntS e u z (ntF e u z g n) n = ntS e v z (ntF e v z g n) n
    rw [r4_nt h hc z g n]
    unfold ntS w2V w1n w2n
    rw [r4_pl h hc n, d1, d2]
theorem r4_go (h : r4 f u v) (hc : ∀ i, i < eM e → ¬ eW e i = 1002) (z : Int32) : goV e u z = goV e v z := by
  unfold goV
  rw [r4_nt h hc z _ (eN e), h.1 0 0 (by decide)]
theorem r4_mv (h : r4 f u v) (hc : ∀ i, i < eM e → ¬ eW e i = 1002) : r4 f (mvV e u) (mvV e v) := by
  unfold mvV
  rw [r4_go h hc, h.1 0 0 (by decide), h.1 5 2 (by decide)]
  split
  · exact r4_up h (by decide) (by decide)
  · exact r4_up h (by decide) (by decide)
theorem r4_rew (h : r4 f u v) {j : Nat} (hj : ¬ u 3 j = f + 1) : r4 f (rewV u j) (rewV v j) := by
  unfold rewV
  rw [h.2 j hj, h.1 0 1 (by decide), h.1 0 2 (by decide), h.1 2 j (by decide), h.1 0 3 (by decide), h.1 5 0 (by decide), h.1 5 1 (by decide), h.1 5 3 (by decide), h.1 5 4 (by decide)]
  split
  · exact r4_3 (r4_up (r4_up (r4_up (r4_up (r4_up h (by decide) (by decide)) (by decide) (by decide)) (by decide) (by decide)) (by decide) (by decide)) (by decide) (by decide)) hj
  · exact r4_3 (r4_up (r4_up (r4_up (r4_up h (by decide) (by decide)) (by decide) (by decide)) (by decide) (by decide)) (by decide) (by decide)) hj
theorem r4_fis (h : r4 f u v) (pl : Nat → Int32) (hb : ¬ u 0 0 = f) : ∀ n, r4 f (fisV pl u n) (fisV pl v n)
  | 0 => h
  | n + 1 => by
    have q0 := r4_fis h pl hb n
    have q : r4 f (tirV (pl n) (fisV pl u n) n) (tirV (pl n) (fisV pl v n) n) := by
      unfold tirV
      rw [q0.1 1 n (by decide)]
      exact r4_up q0 (by decide) (by decide)
    show r4 f (fshV pl (fisV pl u n) n) (fshV pl (fisV pl v n) n)
    unfold fshV
    rw [q.1 3 n (by decide), q.1 0 0 (by decide)]
    by_cases c : (tirV (pl n) (fisV pl v n) n) 3 n = (tirV (pl n) (fisV pl v n) n) 0 0 + 1
    · rw [if_pos c, if_pos c]
      refine r4_rew q ?_
      rw [q.1 3 n (by decide), c, ← q.1 0 0 (by decide)]
      have : (tirV (pl n) (fisV pl u n) n) 0 0 = u 0 0 := (show _ = (fisV pl u n) 0 0 from rfl).trans (fis_00 pl u n)
      rw [this]
      omega
    · rw [if_neg c, if_neg c]; exact q
theorem r4_hr (h : r4 f u v) (hc : ∀ i, i < eM e → ¬ eW e i = 1002) : (hrV e u) 0 0 = (hrV e v) 0 0 ∧ (¬ (hrV e u) 0 0 = f → r4 f (hrV e u) (hrV e v)) := by
  have e0 : (hrV e u) 0 0 = (hrV e v) 0 0 := by
    rw [hr_00, hr_00, r4_go h hc, h.1 0 0 (by decide)]
  refine ⟨e0, fun hb => ?_⟩
  have hm := r4_mv h hc
  have hb2 : ¬ (mvV e u) 0 0 = f := by
    have : (hrV e u) 0 0 = (mvV e u) 0 0 := by
      show (fisV (plV e u) (mvV e u) (eN e)) 0 0 = _
      rw [fis_00]
    rw [this] at hb
    exact hb
  unfold hrV
  rw [show plV e u = plV e v from funext (r4_pl h hc)]
  have q := r4_fis hm (plV e v) hb2 (eN e)
  exact r4_up' q (by decide) (by decide) (by rw [q.1 0 4 (by decide)])
theorem r4_fst (hc : ∀ i, i < eM e → ¬ eW e i = 1002) : ∀ n i, (hrsV e u i) 0 0 = (hrsV e v i) 0 0 → (¬ (hrsV e u i) 0 0 = f → r4 f (hrsV e u i) (hrsV e v i)) → fstN (pAt e u f) n i = fstN (pAt e v f) n i
  | 0, _, _, _ => rfl
  | n + 1, i, h0, h => by
    show (if pAt e u f i = true then some i else fstN (pAt e u f) n (i + 1)) = (if pAt e v f i = true then some i else fstN (pAt e v f) n (i + 1))
    by_cases c : (hrsV e u i) 0 0 = f
    · rw [if_pos (pAt_t.mpr c), if_pos (pAt_t.mpr (by rw [← h0]; exact c))]
    · rw [if_neg (fun q => c (pAt_t.mp q)), if_neg (fun q => c (by rw [h0]; exact pAt_t.mp q))]
      obtain ⟨g1, g2⟩ := r4_hr (h c) hc
      exact r4_fst hc n (i + 1) g1 g2
theorem r4_prm {w : sv} {s c1 c2 : Nat} : ∀ n, r4 f (prm w s f c1 n) (prm w s f c2 n)
  | 0 => ⟨fun _ _ _ => rfl, fun _ _ => rfl⟩
  | n + 1 => by
    have q := r4_prm (w := w) (s := s) (c1 := c1) (c2 := c2) n
    show r4 f (if s.testBit n = true then upv (upv (prm w s f c1 n) 3 n (f + 1)) 4 n c1 else prm w s f c1 n) (if s.testBit n = true then upv (upv (prm w s f c2 n) 3 n (f + 1)) 4 n c2 else prm w s f c2 n)
    by_cases c : s.testBit n = true
    · rw [if_pos c, if_pos c]
      refine ⟨fun a b ha => ?_, fun b hb => ?_⟩
      · have e4 : ∀ x, (upv (upv (prm w s f x n) 3 n (f + 1)) 4 n x) a b = (upv (prm w s f x n) 3 n (f + 1)) a b := fun x => if_neg (fun z => ha z.1)
        rw [e4, e4]
        unfold upv
        by_cases z : a = 3 ∧ b = n
        · rw [if_pos z, if_pos z]
        · rw [if_neg z, if_neg z]; exact q.1 a b ha
      · by_cases z : b = n
        · subst z
          exact absurd (show (upv (upv (prm w s f c1 b) 3 b (f + 1)) 4 b c1) 3 b = f + 1 by unfold upv; rw [if_neg (by omega), if_pos ⟨rfl, rfl⟩]) hb
        · have e1 : (upv (upv (prm w s f c1 n) 3 n (f + 1)) 4 n c1) 3 b = (prm w s f c1 n) 3 b := by
            unfold upv
            rw [if_neg (fun y => by omega), if_neg (fun y => z y.2)]
          have e2 : ∀ x, (upv (upv (prm w s f x n) 3 n (f + 1)) 4 n x) 4 b = (prm w s f x n) 4 b := fun x => by
            unfold upv
            rw [if_neg (fun y => z y.2), if_neg (fun y => z y.2)]
          rw [e1] at hb
          rw [e2, e2]
          exact q.2 b hb
    · rw [if_neg c, if_neg c]; exact q
end
theorem arB_c {w : wv} {f c n s : Nat} (hc : ∀ i, i < eM (wE w) → ¬ eW (wE w) i = 1002) : arB w f c n s = arB w f 0 n s := by
  unfold arB aryN
  rw [r4_fst (e := wE w) (u := prm (wV w) s f c (eN (wE w))) (v := prm (wV w) s f 0 (eN (wE w))) hc (n + 1) 0 ((r4_prm (eN (wE w))).1 0 0 (by decide)) (fun _ => r4_prm (eN (wE w)))]
