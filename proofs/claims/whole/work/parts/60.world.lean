/-! THE WORLD: all that a run of calls knows, for class and reference alike. -/
/-- lake, fish, fog and rule; what is now; the text; what was told; what undo brings back (the latest first); what was kept; what was seen -/
abbrev wv : Type := xe × sv × (Nat × (Nat → Nat)) × (Nat × (Nat → Int64)) × List sv × (Nat → Option sv) × (Nat × (Nat → Nat) × (Nat → Nat) × (Nat → Nat))
abbrev wE (w : wv) : xe := w.1
abbrev wV (w : wv) : sv := w.2.1
abbrev wX (w : wv) : Nat × (Nat → Nat) := w.2.2.1
abbrev wD (w : wv) : Nat × (Nat → Int64) := w.2.2.2.1
abbrev wU (w : wv) : List sv := w.2.2.2.2.1
abbrev wK (w : wv) : Nat → Option sv := w.2.2.2.2.2.1
abbrev wS (w : wv) : Nat × (Nat → Nat) × (Nat → Nat) × (Nat → Nat) := w.2.2.2.2.2.2
/-- a state that is nothing -/
def v0 : sv := fun _ _ => 0
/-! the class -/
def XE (σ : xs) (e : xe) : Prop := EX σ e (sp σ) ∧ isR (sp σ) ∧ isR (so σ) ∧ ¬ sp σ = so σ ∧ CI σ (sp σ) (V (eW e) (eM e))
def XT (σ : xs) (t : Nat × (Nat → Nat)) : Prop := sf σ 1 1 = nI t.1 ∧ ∀ i, i < t.1 → si σ 2 i = nI (t.2 i)
def XD (σ : xs) (d : Nat × (Nat → Int64)) : Prop := sf σ 3 1 = nI d.1 ∧ ∀ i, i < d.1 → sj σ 4 i = d.2 i
def XP (σ : xs) (ps : List sv) : Prop := ∃ k, k < 15 ∧ sf σ 35 1 = nI k ∧ sf σ 35 2 = nI ps.length ∧ ∀ j, j < ps.length → ST σ (37 + 5 * ((k + 14 - j) % 15)) (ps.getD j v0)
def XK (σ : xs) (kp : Nat → Option sv) : Prop := ∃ s, s < 8 ∧ sf σ 0 14 = nI s ∧ ∀ i, i < 3 → (s.testBit i = (kp i).isSome) ∧ ∀ v, kp i = some v → ST σ (139 + 5 * i) v
def XS (σ : xs) (g : Nat × (Nat → Nat) × (Nat → Nat) × (Nat → Nat)) : Prop := sf σ 112 3 = nI g.1 ∧ ∀ i, i < g.1 → si σ 113 i = nI (g.2.1 i) ∧ si σ 114 i = nI (g.2.2.1 i) ∧ si σ 115 i = nI (g.2.2.2 i)
def XW (σ : xs) (w : wv) : Prop := XE σ (wE w) ∧ ST σ 20 (wV w) ∧ XT σ (wX w) ∧ XD σ (wD w) ∧ XP σ (wU w) ∧ XK σ (wK w) ∧ XS σ (wS w)
/-! the reference -/
/-- a row of 38 numbers shows v -/
def rO (f : Nat → Int32) (n : Nat) (v : sv) : Prop := (f 0 = nI (v 0 0) ∧ f 33 = nI (v 0 5) ∧ f 34 = nI (v 0 1) ∧ f 35 = nI (v 0 2) ∧ f 36 = nI (v 0 3) ∧ f 37 = nI (v 0 4)) ∧ ∀ i, i < n → f (1 + i) = nI (v 1 i) ∧ f (9 + i) = nI (v 2 i) ∧ f (17 + i) = gI (v 3 i) ∧ f (25 + i) = if v 3 i = 0 then -1 else nI (v 4 i)
theorem SY_rO {σ : xs} {b n : Nat} {v : sv} : SY σ b n v ↔ rO (si σ b) n v := Iff.rfl
theorem rO_c {f g : Nat → Int32} {n : Nat} {v : sv} (hn : n ≤ 8) (h : rO f n v) (hc : ∀ k, k < 38 → g k = f k) : rO g n v := by
  obtain ⟨⟨h0, h5, h1, h2, h3, h4⟩, h7⟩ := h
  refine ⟨⟨by rw [hc _ (by omega)]; exact h0, by rw [hc _ (by omega)]; exact h5, by rw [hc _ (by omega)]; exact h1, by rw [hc _ (by omega)]; exact h2, by rw [hc _ (by omega)]; exact h3, by rw [hc _ (by omega)]; exact h4⟩, fun i hi => ?_⟩
  rw [hc (1 + i) (by omega), hc (9 + i) (by omega), hc (17 + i) (by omega), hc (25 + i) (by omega)]
  exact h7 i hi
def YE (σ : xs) (e : xe) : Prop := EYb σ e ∧ RCd σ (eW e) (eM e)
def YT (σ : xs) (t : Nat × (Nat → Nat)) : Prop := sf σ 154 15 = nI t.1 ∧ ∀ i, i < t.1 → si σ 162 i = nI (t.2 i)
def YD (σ : xs) (d : Nat × (Nat → Int64)) : Prop := sf σ 154 1 = nI d.1 ∧ ∀ i, i < d.1 → sj σ 155 i = d.2 i
def YP (σ : xs) (n : Nat) (ps : List sv) : Prop := sf σ 154 30 = nI ps.length ∧ ∀ j, j < ps.length → rO (fun k => si σ 171 (38 * (ps.length - 1 - j) + k)) n (ps.getD j v0)
/-- what is kept, with the number of changes of the lake and the fish -/
def YK (σ : xs) (n c : Nat) (kp : Nat → Option sv) : Prop := sf σ 154 6 = nI c ∧ ∀ i, i < 3 → ∃ b k, b ≤ 1 ∧ k ≤ c ∧ si σ 186 i = nI b ∧ si σ 187 i = nI k ∧ ((kp i).isSome = true ↔ b = 1 ∧ k = c) ∧ ∀ v, kp i = some v → rO (fun j => si σ 188 (38 * i + j)) n v
def YS (σ : xs) (g : Nat × (Nat → Nat) × (Nat → Nat) × (Nat → Nat)) : Prop := sf σ 154 41 = nI g.1 ∧ ∀ i, i < g.1 → si σ 177 i = nI (g.2.1 i) ∧ si σ 178 i = nI (g.2.2.1 i) ∧ si σ 179 i = nI (g.2.2.2 i)
def YW (σ : xs) (c : Nat) (w : wv) : Prop := YE σ (wE w) ∧ SY σ 160 (eN (wE w)) (wV w) ∧ YT σ (wX w) ∧ YD σ (wD w) ∧ YP σ (eN (wE w)) (wU w) ∧ YK σ (eN (wE w)) c (wK w) ∧ YS σ (wS w)
/-! what is sure of a world behind k calls -/
/-- promises that stand -/
def glN (v : sv) : Nat → Nat
  | 0 => 0
  | i + 1 => glN v i + (if v 3 i = 0 then 0 else 1)
/-- a state that came about within k calls, with n signs of text -/
def okS (e : xe) (k n : Nat) (v : sv) : Prop := okV e v ∧ v 0 4 ≤ 1000 * k ∧ v 0 2 + v 0 3 + glN v (eN e) + (n + 3) / 4 ≤ k
def okW (k : Nat) (w : wv) : Prop := okE (wE w) ∧ okS (wE w) k (wX w).1 (wV w) ∧ ((wX w).1 ≤ 80 ∧ ∀ i, i < (wX w).1 → (wX w).2 i < 256) ∧ (wD w).1 ≤ 37 ∧ ((wU w).length ≤ 15 ∧ ∀ j, j < (wU w).length → okS (wE w) k (wX w).1 ((wU w).getD j v0)) ∧ (∀ i, i < 3 → ∀ v, wK w i = some v → okS (wE w) k (wX w).1 v) ∧ ((wS w).1 ≤ 10 ∧ ∀ i, i < (wS w).1 → (wS w).2.1 i ≤ 20 ∧ (wS w).2.2.1 i < eR (wE w) * eC (wE w) ∧ (wS w).2.2.2 i ≤ 1) ∧ wfc (eW (wE w)) (eM (wE w))
/-! frames -/
/-- what a question of the class may write -/
def XqA (u o : Nat) : Nat → Prop := fun c => c = 7 ∨ c = 8 ∨ (15 ≤ c ∧ c ≤ 18) ∨ c = 19 ∨ (25 ≤ c ∧ c ≤ 34) ∨ (118 ≤ c ∧ c ≤ 126) ∨ c = u + 2 ∨ c = u + 4 ∨ c = u + 5 ∨ (o + 1 ≤ c ∧ c ≤ o + 5)
def XqF (u o : Nat) : Nat → Nat → Prop := fun c _ => c = 3 ∨ c = 19 ∨ c = 25 ∨ c = 30 ∨ c = o ∨ XqA u o c
def XqJ : Nat → Prop := fun c => c = 4
theorem ST.fq {σ τ : xs} {a : Nat} {v : sv} {A : Nat → Prop} {F : Nat → Nat → Prop} {J : Nat → Prop} (h : ST σ a v) (hf : Fq A F J σ τ) (ha : ∀ k, 1 ≤ k ∧ k ≤ 4 → ¬ A (a + k)) (hF : ∀ k, k < 6 → ¬ F a k) : ST τ a v := by
  refine ⟨fun k hk => by rw [hf.2.1 a k (hF k hk)]; exact h.1 k hk, fun i hi => ?_⟩
  rw [hf.1 (a + 1) (ha 1 (by omega)), hf.1 (a + 2) (ha 2 (by omega)), hf.1 (a + 3) (ha 3 (by omega)), hf.1 (a + 4) (ha 4 (by omega))]
  exact h.2 i hi
theorem EX.fq {σ τ : xs} {e : xe} {u : Nat} {A : Nat → Prop} {F : Nat → Nat → Prop} {J : Nat → Prop} (h : EX σ e u) (hf : Fq A F J σ τ) (ha : ∀ c, c = 6 ∨ c = 10 ∨ c = 11 ∨ c = 13 ∨ c = u + 1 → ¬ A c) (hF : ∀ c k, c = 5 ∨ c = 9 ∨ c = 12 ∨ c = u → ¬ F c k) : EX τ e u := by
  obtain ⟨⟨h1, h2, h3, h4⟩, h5, h6, h7, h8, h9, h10, h11⟩ := h
  refine ⟨⟨by rw [hf.2.1 5 0 (hF _ _ (by omega))]; exact h1, by rw [hf.2.1 5 1 (hF _ _ (by omega))]; exact h2, by rw [hf.2.1 9 2 (hF _ _ (by omega))]; exact h3, by rw [hf.2.1 12 1 (hF _ _ (by omega))]; exact h4⟩, fun i hi => ?_, fun i hi => ?_, fun i hi => ?_, by rw [hf.2.1 u 1 (hF _ _ (by omega))]; exact h8, h9, fun i hi => ?_, h11⟩
  · rw [hf.1 10 (ha _ (by omega)), hf.1 11 (ha _ (by omega))]; exact h5 i hi
  · rw [hf.1 13 (ha _ (by omega))]; exact h6 i hi
  · rw [hf.1 6 (ha _ (by omega))]; exact h7 i hi
  · rw [hf.1 (u + 1) (ha _ (by omega))]; exact h10 i hi
theorem isR_2 {u o : Nat} (hu : isR u) (ho : isR o) (hn : ¬ u = o) : (u = 127 ∧ o = 133) ∨ (u = 133 ∧ o = 127) := by
  rcases isR_c hu with rfl | rfl <;> rcases isR_c ho with rfl | rfl
  · exact absurd rfl hn
  · exact Or.inl ⟨rfl, rfl⟩
  · exact Or.inr ⟨rfl, rfl⟩
  · exact absurd rfl hn
/-- a question of the class leaves its world, but for what is told -/
theorem XW.q {σ τ : xs} {w : wv} {d : Nat × (Nat → Int64)} (h : XW σ w) (hf : Fq (XqA (sp σ) (so σ)) (XqF (sp σ) (so σ)) XqJ σ τ) (hc : CI τ (sp σ) (V (eW (wE w)) (eM (wE w)))) (hd : XD τ d) : XW τ (wE w, wV w, wX w, d, wU w, wK w, wS w) := by
  obtain ⟨⟨a1, a2, a3, a4, a5⟩, b, c, _, e, f, g⟩ := h
  have hR := isR_2 a2 a3 a4
  have hs := hf.2.2.2
  refine ⟨⟨?_, by rw [hs.1]; exact a2, by rw [hs.2]; exact a3, by rw [hs.1, hs.2]; exact a4, by rw [hs.1]; exact hc⟩, ?_, ?_, hd, ?_, ?_, ?_⟩
  · rw [hs.1]
    exact a1.fq hf (fun c hc => by unfold XqA; omega) (fun c k hc => by unfold XqF XqA; omega)
  · exact b.fq hf (fun k hk => by unfold XqA; omega) (fun k hk => by unfold XqF XqA; omega)
  · refine ⟨by rw [hf.2.1 1 1 (by unfold XqF XqA; omega)]; exact c.1, fun i hi => ?_⟩
    rw [hf.1 2 (by unfold XqA; omega)]; exact c.2 i hi
  · obtain ⟨k, hk, e1, e2, e3⟩ := e
    refine ⟨k, hk, by rw [hf.2.1 35 1 (by unfold XqF XqA; omega)]; exact e1, by rw [hf.2.1 35 2 (by unfold XqF XqA; omega)]; exact e2, fun j hj => ?_⟩
    exact (e3 j hj).fq hf (fun k2 hk2 => by unfold XqA; omega) (fun k2 hk2 => by unfold XqF XqA; omega)
  · obtain ⟨s, hs8, f1, f2⟩ := f
    refine ⟨s, hs8, by rw [hf.2.1 0 14 (by unfold XqF XqA; omega)]; exact f1, fun i hi => ⟨(f2 i hi).1, fun v hv => ?_⟩⟩
    exact ((f2 i hi).2 v hv).fq hf (fun k2 hk2 => by unfold XqA; omega) (fun k2 hk2 => by unfold XqF XqA; omega)
  · refine ⟨by rw [hf.2.1 112 3 (by unfold XqF XqA; omega)]; exact g.1, fun i hi => ?_⟩
    rw [hf.1 113 (by unfold XqA; omega), hf.1 114 (by unfold XqA; omega), hf.1 115 (by unfold XqA; omega)]; exact g.2 i hi
/-- what a question of the reference may write -/
def YqA : Nat → Prop := fun c => c = 161 ∨ c = 163 ∨ c = 164 ∨ (166 ≤ c ∧ c ≤ 170) ∨ (172 ≤ c ∧ c ≤ 176) ∨ (180 ≤ c ∧ c ≤ 185)
def YqF : Nat → Nat → Prop := fun c k => c = 154 ∧ (k = 0 ∨ k = 1 ∨ (16 ≤ k ∧ k ≤ 18) ∨ k = 21 ∨ k = 25 ∨ (32 ≤ k ∧ k ≤ 34) ∨ k = 40 ∨ k = 51)
def YqJ : Nat → Prop := fun c => c = 155
theorem YW.q {σ τ : xs} {c : Nat} {w : wv} {d : Nat × (Nat → Int64)} (h : YW σ c w) (hf : Fq YqA YqF YqJ σ τ) (hd : YD τ d) : YW τ c (wE w, wV w, wX w, d, wU w, wK w, wS w) := by
  obtain ⟨⟨a1, a2⟩, b, x, _, p, k, g⟩ := h
  refine ⟨⟨a1.fq hf (fun c hc => by unfold YqA; omega) (fun k hk => by unfold YqF; omega), a2.fq hf (by unfold YqA; omega) (by unfold YqF; omega)⟩, SY_o b (hf.1 160 (by unfold YqA; omega)), ?_, hd, ?_, ?_, ?_⟩
  · refine ⟨by rw [hf.2.1 154 15 (by unfold YqF; omega)]; exact x.1, fun i hi => ?_⟩
    rw [hf.1 162 (by unfold YqA; omega)]; exact x.2 i hi
  · refine ⟨by rw [hf.2.1 154 30 (by unfold YqF; omega)]; exact p.1, fun j hj => ?_⟩
    rw [hf.1 171 (by unfold YqA; omega)]; exact p.2 j hj
  · refine ⟨by rw [hf.2.1 154 6 (by unfold YqF; omega)]; exact k.1, fun i hi => ?_⟩
    rw [hf.1 186 (by unfold YqA; omega), hf.1 187 (by unfold YqA; omega), hf.1 188 (by unfold YqA; omega)]; exact k.2 i hi
  · refine ⟨by rw [hf.2.1 154 41 (by unfold YqF; omega)]; exact g.1, fun i hi => ?_⟩
    rw [hf.1 177 (by unfold YqA; omega), hf.1 178 (by unfold YqA; omega), hf.1 179 (by unfold YqA; omega)]; exact g.2 i hi
/-! the other side isn't touched -/
def XF (σ τ : xs) : Prop := ∀ c, 154 ≤ c → sf τ c = sf σ c ∧ si τ c = si σ c ∧ sj τ c = sj σ c
def YF (σ τ : xs) : Prop := (∀ c, c < 154 ∨ c = 189 → sf τ c = sf σ c ∧ si τ c = si σ c ∧ sj τ c = sj σ c) ∧ sp τ = sp σ ∧ so τ = so σ
theorem XF.tr {σ τ υ : xs} (h : XF σ τ) (g : XF τ υ) : XF σ υ := fun c hc => ⟨(g c hc).1.trans (h c hc).1, (g c hc).2.1.trans (h c hc).2.1, (g c hc).2.2.trans (h c hc).2.2⟩
theorem Fq.XF {A : Nat → Prop} {F : Nat → Nat → Prop} {J : Nat → Prop} {σ τ : xs} (h : Fq A F J σ τ) (ha : ∀ c, 154 ≤ c → ¬ A c) (hf : ∀ c k, 154 ≤ c → ¬ F c k) (hj : ∀ c, 154 ≤ c → ¬ J c) : XF σ τ := fun c hc => ⟨funext fun k => h.2.1 c k (hf c k hc), h.1 c (ha c hc), h.2.2.1 c (hj c hc)⟩
theorem Fq.YF {A : Nat → Prop} {F : Nat → Nat → Prop} {J : Nat → Prop} {σ τ : xs} (h : Fq A F J σ τ) (ha : ∀ c, c < 154 ∨ c = 189 → ¬ A c) (hf : ∀ c k, c < 154 ∨ c = 189 → ¬ F c k) (hj : ∀ c, c < 154 ∨ c = 189 → ¬ J c) : YF σ τ := ⟨fun c hc => ⟨funext fun k => h.2.1 c k (hf c k hc), h.1 c (ha c hc), h.2.2.1 c (hj c hc)⟩, h.2.2.2⟩
theorem XW.y {σ τ : xs} {w : wv} (h : XW σ w) (hf : YF σ τ) : XW τ w := by
  obtain ⟨⟨a1, a2, a3, a4, a5⟩, b, c, d, e, f, g⟩ := h
  obtain ⟨h1, h2, h3⟩ := hf
  have hR := isR_2 a2 a3 a4
  have hq : Fq (fun c => 154 ≤ c) (fun c _ => 154 ≤ c) (fun c => 154 ≤ c) σ τ := ⟨fun c hc => (h1 c (by omega)).2.1, fun c k hc => by rw [(h1 c (by omega)).1], fun c hc => (h1 c (by omega)).2.2, h2, h3⟩
  refine ⟨⟨?_, by rw [h2]; exact a2, by rw [h3]; exact a3, by rw [h2, h3]; exact a4, ?_⟩, ?_, ?_, ?_, ?_, ?_, ?_⟩
  · rw [h2]; exact a1.fq hq (fun c hc => by omega) (fun c k hc => by omega)
  · intro s hs
    rw [h2, hq.1 _ (by omega), hq.1 _ (by omega)]
    exact a5 s hs
  · exact b.fq hq (fun k hk => by omega) (fun k hk => by omega)
  · exact ⟨by rw [hq.2.1 1 1 (by omega)]; exact c.1, fun i hi => by rw [hq.1 2 (by omega)]; exact c.2 i hi⟩
  · exact ⟨by rw [hq.2.1 3 1 (by omega)]; exact d.1, fun i hi => by rw [hq.2.2.1 4 (by omega)]; exact d.2 i hi⟩
  · obtain ⟨k, hk, e1, e2, e3⟩ := e
    exact ⟨k, hk, by rw [hq.2.1 35 1 (by omega)]; exact e1, by rw [hq.2.1 35 2 (by omega)]; exact e2, fun j hj => (e3 j hj).fq hq (fun k2 hk2 => by omega) (fun k2 hk2 => by omega)⟩
  · obtain ⟨s, hs8, f1, f2⟩ := f
    exact ⟨s, hs8, by rw [hq.2.1 0 14 (by omega)]; exact f1, fun i hi => ⟨(f2 i hi).1, fun v hv => ((f2 i hi).2 v hv).fq hq (fun k2 hk2 => by omega) (fun k2 hk2 => by omega)⟩⟩
  · exact ⟨by rw [hq.2.1 112 3 (by omega)]; exact g.1, fun i hi => by rw [hq.1 113 (by omega), hq.1 114 (by omega), hq.1 115 (by omega)]; exact g.2 i hi⟩
theorem YW.x {σ τ : xs} {c : Nat} {w : wv} (h : YW σ c w) (hf : XF σ τ) : YW τ c w := by
  obtain ⟨⟨a1, n, a2, a3, a4⟩, b, x, d, p, k, g⟩ := h
  have s1 : ∀ j, sf τ 154 j = sf σ 154 j := fun j => by rw [(hf 154 (by omega)).1]
  have s2 : ∀ j, 154 ≤ j → si τ j = si σ j := fun j hj => (hf j hj).2.1
  refine ⟨⟨?_, n, a2, by rw [s1]; exact a3, by rw [s2 165 (by omega)]; exact a4⟩, SY_o b (s2 160 (by omega)), ?_, ?_, ?_, ?_, ?_⟩
  · obtain ⟨⟨q1, q2, q3, q4⟩, q5, q6, q7⟩ := a1
    exact ⟨⟨by rw [s1]; exact q1, by rw [s1]; exact q2, by rw [s1]; exact q3, by rw [s1]; exact q4⟩, fun i hi => by rw [s2 158 (by omega), s2 159 (by omega)]; exact q5 i hi, fun i hi => by rw [s2 157 (by omega)]; exact q6 i hi, fun i hi => by rw [s2 156 (by omega)]; exact q7 i hi⟩
  · exact ⟨by rw [s1]; exact x.1, fun i hi => by rw [s2 162 (by omega)]; exact x.2 i hi⟩
  · exact ⟨by rw [s1]; exact d.1, fun i hi => by rw [(hf 155 (by omega)).2.2]; exact d.2 i hi⟩
  · exact ⟨by rw [s1]; exact p.1, fun j hj => by rw [s2 171 (by omega)]; exact p.2 j hj⟩
  · exact ⟨by rw [s1]; exact k.1, fun i hi => by rw [s2 186 (by omega), s2 187 (by omega), s2 188 (by omega)]; exact k.2 i hi⟩
  · exact ⟨by rw [s1]; exact g.1, fun i hi => by rw [s2 177 (by omega), s2 178 (by omega), s2 179 (by omega)]; exact g.2 i hi⟩
/-- a frame of the hours, as a frame -/
theorem Fr.fq {P : Nat → Prop} {σ τ : xs} {A : Nat → Prop} {F : Nat → Nat → Prop} {J : Nat → Prop} (h : Fr P σ τ) (ha : ∀ c, P c → A c) (hf : ∀ c k, P c → F c k) : Fq A F J σ τ := ⟨fun c hc => (h.1 c (fun q => hc (ha c q))).2, fun c k hc => by rw [(h.1 c (fun q => hc (hf c k q))).1], fun c _ => by rw [h.2.1], h.2.2.1, h.2.2.2⟩
