/-! Questions: what they leave as it is; what is told. Printed by wip/whole. -/
section
variable {l : xLa} {M : mT} {d pc : Nat} {lv : List (Option Value)} {st r : List Value} {σ : xs} {Q : Option Value → xs → Prop}
theorem tt_getP {i ns p : Nat} (hd : decode (mCd M) pc = .ok (.getfield i, 3)) (hl : xlk xFL M.1 i = some (11, 15, ns, p)) (k : T l M (d + 1) (pc + 3) lv (.ref (sp σ) :: r) σ Q) : T l M (d + 1) pc lv (.ref 0 :: r) σ Q := E.step (x := (pc + 3, lv, .ref (sp σ) :: r, mk σ)) (Nat.le_add_left 1 d) hd (by have h9 : (mk σ).1[0]? = some (0, 11, 17) := rfl; have h8 : hF (mk σ) 0 15 = .ref (sp σ) := rfl; simp [stpI, s_get, h9, hl, h8]) k
theorem tt_getO {i ns p : Nat} (hd : decode (mCd M) pc = .ok (.getfield i, 3)) (hl : xlk xFL M.1 i = some (11, 16, ns, p)) (k : T l M (d + 1) (pc + 3) lv (.ref (so σ) :: r) σ Q) : T l M (d + 1) pc lv (.ref 0 :: r) σ Q := E.step (x := (pc + 3, lv, .ref (so σ) :: r, mk σ)) (Nat.le_add_left 1 d) hd (by have h9 : (mk σ).1[0]? = some (0, 11, 17) := rfl; have h8 : hF (mk σ) 0 16 = .ref (so σ) := rfl; simp [stpI, s_get, h9, hl, h8]) k
end
/-! components of a world, one by one -/
section
variable {A : Nat → Prop} {F : Nat → Nat → Prop} {J : Nat → Prop} {σ τ υ : xs} {w : wv}
theorem XT.fq {t : Nat × (Nat → Nat)} (h : XT σ t) (hf : Fq A F J σ τ) (ha : ¬ A 2) (hF : ¬ F 1 1) : XT τ t := ⟨by rw [hf.2.1 1 1 hF]; exact h.1, fun i hi => by rw [hf.1 2 ha]; exact h.2 i hi⟩
theorem XD.fq {t : Nat × (Nat → Int64)} (h : XD σ t) (hf : Fq A F J σ τ) (ha : ¬ J 4) (hF : ¬ F 3 1) : XD τ t := ⟨by rw [hf.2.1 3 1 hF]; exact h.1, fun i hi => by rw [hf.2.2.1 4 ha]; exact h.2 i hi⟩
theorem XP.fq {ps : List sv} (h : XP σ ps) (hf : Fq A F J σ τ) (ha : ∀ c, 38 ≤ c → c ≤ 111 → ¬ A c) (hF : ∀ c k, 35 ≤ c → c ≤ 111 → ¬ F c k) : XP τ ps := by
  obtain ⟨k, hk, e1, e2, e3⟩ := h
  exact ⟨k, hk, by rw [hf.2.1 35 1 (hF _ _ (by omega) (by omega))]; exact e1, by rw [hf.2.1 35 2 (hF _ _ (by omega) (by omega))]; exact e2, fun j hj => (e3 j hj).fq hf (fun k2 hk2 => ha _ (by omega) (by omega)) (fun k2 hk2 => hF _ _ (by omega) (by omega))⟩
theorem XK.fq {kp : Nat → Option sv} (h : XK σ kp) (hf : Fq A F J σ τ) (ha : ∀ c, 140 ≤ c → c ≤ 153 → ¬ A c) (hF : ∀ c k, 139 ≤ c → c ≤ 153 → ¬ F c k) (h0 : ¬ F 0 14) : XK τ kp := by
  obtain ⟨s, hs8, f1, f2⟩ := h
  exact ⟨s, hs8, by rw [hf.2.1 0 14 h0]; exact f1, fun i hi => ⟨(f2 i hi).1, fun v hv => ((f2 i hi).2 v hv).fq hf (fun k2 hk2 => ha _ (by omega) (by omega)) (fun k2 hk2 => hF _ _ (by omega) (by omega))⟩⟩
theorem XS.fq {g : Nat × (Nat → Nat) × (Nat → Nat) × (Nat → Nat)} (h : XS σ g) (hf : Fq A F J σ τ) (ha : ∀ c, 113 ≤ c → c ≤ 115 → ¬ A c) (hF : ¬ F 112 3) : XS τ g := ⟨by rw [hf.2.1 112 3 hF]; exact h.1, fun i hi => by rw [hf.1 113 (ha _ (by omega) (by omega)), hf.1 114 (ha _ (by omega) (by omega)), hf.1 115 (ha _ (by omega) (by omega))]; exact h.2 i hi⟩
theorem CI.fq {u : Nat} {W : Int32 → Int32} (h : CI σ u W) (hf : Fq A F J σ τ) (h4 : ¬ A (u + 4)) (h5 : ¬ A (u + 5)) : CI τ u W := fun s hs => by
  rw [hf.1 _ h4, hf.1 _ h5]; exact h s hs
theorem XE.fq {e : xe} (h : XE σ e) (hf : Fq A F J σ τ) (hc : CI τ (sp σ) (V (eW e) (eM e))) (ha : ∀ c, c = 6 ∨ c = 10 ∨ c = 11 ∨ c = 13 ∨ c = sp σ + 1 → ¬ A c) (hF : ∀ c k, c = 5 ∨ c = 9 ∨ c = 12 ∨ c = sp σ → ¬ F c k) : XE τ e := by
  obtain ⟨a1, a2, a3, a4, a5⟩ := h
  have hs := hf.2.2.2
  exact ⟨by rw [hs.1]; exact a1.fq hf ha hF, by rw [hs.1]; exact a2, by rw [hs.2]; exact a3, by rw [hs.1, hs.2]; exact a4, by rw [hs.1]; exact hc⟩
theorem Fq_wJF {a k b j : Nat} {x : Int64} {y : Int32} (h : J a) (g : F b j) : Fq A F J σ (wF (wJ σ a k x) b j y) := Fq.tr (Fq.wJ h) (Fq.wF g)
/-- the class's world but for what is told -/
def XV (σ : xs) (w : wv) : Prop := XE σ (wE w) ∧ ST σ 20 (wV w) ∧ XT σ (wX w) ∧ XP σ (wU w) ∧ XK σ (wK w) ∧ XS σ (wS w)
theorem XW.v (h : XW σ w) : XV σ w := ⟨h.1, h.2.1, h.2.2.1, h.2.2.2.2.1, h.2.2.2.2.2.1, h.2.2.2.2.2.2⟩
theorem XV.wd {d : Nat × (Nat → Int64)} (h : XV σ w) (hd : XD σ d) : XW σ (wE w, wV w, wX w, d, wU w, wK w, wS w) := ⟨h.1, h.2.1, h.2.2.1, hd, h.2.2.2.1, h.2.2.2.2.1, h.2.2.2.2.2⟩
theorem XV.R (h : XV σ w) : (sp σ = 127 ∧ so σ = 133) ∨ (sp σ = 133 ∧ so σ = 127) := isR_2 h.1.2.1 h.1.2.2.1 h.1.2.2.2.1
theorem XV.q (h : XV σ w) (hf : Fq (XqA (sp σ) (so σ)) (XqF (sp σ) (so σ)) XqJ σ τ) (hc : CI τ (sp σ) (V (eW (wE w)) (eM (wE w)))) : XV τ w := by
  have hR := h.R
  obtain ⟨a, b, c, e, f, g⟩ := h
  exact ⟨a.fq hf hc (fun c hc => by unfold XqA; omega) (fun c k hc => by unfold XqF XqA; omega), b.fq hf (fun k hk => by unfold XqA; omega) (fun k hk => by unfold XqF XqA; omega), c.fq hf (by unfold XqA; omega) (by unfold XqF XqA; omega), e.fq hf (fun c h1 h2 => by unfold XqA; omega) (fun c k h1 h2 => by unfold XqF XqA; omega), f.fq hf (fun c h1 h2 => by unfold XqA; omega) (fun c k h1 h2 => by unfold XqF XqA; omega) (by unfold XqF XqA; omega), g.fq hf (fun c h1 h2 => by unfold XqA; omega) (by unfold XqF XqA; omega)⟩
/-- from σ the class came to τ, its world is still w; the other side's cells are as they were -/
def XQ (w : wv) (σ τ : xs) : Prop := XV τ w ∧ XF σ τ ∧ sp τ = sp σ ∧ so τ = so σ
theorem XF.rf : XF σ σ := fun _ _ => ⟨rfl, rfl, rfl⟩
theorem XQ.rf (h : XV σ w) : XQ w σ σ := ⟨h, XF.rf, rfl, rfl⟩
theorem XQ.fq (h : XQ w σ τ) (hf : Fq (XqA (sp τ) (so τ)) (XqF (sp τ) (so τ)) XqJ τ υ) (hc : CI υ (sp τ) (V (eW (wE w)) (eM (wE w)))) : XQ w σ υ := by
  have hR := h.1.R
  exact ⟨h.1.q hf hc, h.2.1.tr (hf.XF (fun c hc => by unfold XqA; omega) (fun c k hc => by unfold XqF XqA; omega) (fun c hc => by unfold XqJ; omega)), hf.2.2.2.1.trans h.2.2.1, hf.2.2.2.2.trans h.2.2.2⟩
/-- scratch that has nothing to do with a rule -/
def sA : Nat → Prop := fun c => c = 7 ∨ c = 8 ∨ (15 ≤ c ∧ c ≤ 18) ∨ c = 19 ∨ (25 ≤ c ∧ c ≤ 34) ∨ (118 ≤ c ∧ c ≤ 126)
def sF : Nat → Nat → Prop := fun c _ => c = 3 ∨ c = 19 ∨ c = 25 ∨ c = 30
theorem XQ.f0 (h : XQ w σ τ) (hf : Fq sA sF XqJ τ υ) : XQ w σ υ := by
  have hR := h.1.R
  exact h.fq (hf.mono (fun c hc => by unfold sA at hc; unfold XqA; omega) (fun c k hc => by unfold sF at hc; unfold XqF XqA; omega) (fun _ h => h)) (h.1.1.2.2.2.2.fq hf (by unfold sA; omega) (by unfold sA; omega))
/-- what is told, as a list -/
def dL (l : List Int64) : Nat × (Nat → Int64) := (l.length, fun i => l.getD i 0)
def stD (w : wv) : Option (List Int64) → wv
  | none => w
  | some l => (wE w, wV w, wX w, dL l, wU w, wK w, wS w)
theorem XQ.e (h : XQ w σ τ) : EX τ (wE w) (sp τ) := h.1.1.1
theorem XQ.done {k : List Int64} (h : XQ w σ τ) (hd : XD τ (dL k)) : XW τ (stD w (some k)) := h.1.wd hd
theorem XQ.none (h : XQ w σ τ) (hd : XD τ (wD w)) : XW τ (stD w none) := h.1.wd hd
theorem XD_0 : XD (wF σ 3 1 (nI 0)) (dL []) := ⟨rfl, fun i hi => absurd hi (Nat.not_lt_zero i)⟩
theorem XD_add {k : List Int64} {x : Int64} (h : XD σ (dL k)) : XD (wF (wJ σ 4 k.length x) 3 1 (nI (k.length + 1))) (dL (k ++ [x])) := by
  refine ⟨?_, fun i hi => ?_⟩
  · show nI (k.length + 1) = nI (k ++ [x]).length
    rw [List.length_append]; rfl
  · have hi' : i < k.length + 1 := by have : i < (k ++ [x]).length := hi; rwa [List.length_append] at this
    show (if 4 = 4 ∧ i = k.length then x else sj σ 4 i) = (k ++ [x]).getD i 0
    by_cases c : i = k.length
    · rw [if_pos ⟨rfl, c⟩, c, List.getD_eq_getElem?_getD, List.getElem?_append_right (Nat.le_refl _), Nat.sub_self]; rfl
    · rw [if_neg (fun q => c q.2), List.getD_eq_getElem?_getD, List.getElem?_append_left (by omega), ← List.getD_eq_getElem?_getD]
      exact h.2 i (show i < k.length by omega)
end
section
variable {l : xLa} {d : Nat} {σ τ : xs} {w : wv}
/-- telling changes nothing else -/
def Ft (σ τ : xs) : Prop := Fq (fun _ => False) (fun c k => c = 3 ∧ k = 1) (fun c => c = 4) σ τ
theorem Ft.st {a : Nat} {v : sv} (hf : Ft σ τ) (h : ST σ a v) (ha : ¬ a = 3) : ST τ a v := h.fq hf (fun _ _ => id) (fun k _ q => ha q.1)
theorem Ft.tr {v : sv} (hf : Ft σ τ) (h : TR σ v) : TR τ v := fun k hk => by rw [hf.2.1 19 _ (by omega)]; exact h k hk
theorem Ft.ms {e : xe} {v : sv} {n : Nat} (hf : Ft σ τ) (h : MS e v n σ) : MS e v n τ := fun j hj => by rw [hf.1 15 id, hf.1 16 id, hf.1 17 id]; exact h j hj
theorem Ft.si (hf : Ft σ τ) (a : Nat) : si τ a = si σ a := hf.1 a id
theorem xq_start (h : XQ w σ τ) : TC l M_Told_start (d + 1) [.ref 3] τ (fun r υ => r = none ∧ XQ w σ υ ∧ XD υ (dL []) ∧ Ft τ υ) := by
  refine T.mono (x_Told_start (d := d) (σ := τ)) ?_
  rintro r υ ⟨rfl, rfl⟩
  exact ⟨rfl, h.f0 (Fq.wF (by unfold sF; omega)), XD_0, Fq.wF ⟨rfl, rfl⟩⟩
theorem xq_add {k : List Int64} {x : Int64} (h : XQ w σ τ) (hd : XD τ (dL k)) (hk : k.length < 37) : TC l M_Told_add (d + 1) [.ref 3, .long x] τ (fun r υ => r = none ∧ XQ w σ υ ∧ XD υ (dL (k ++ [x])) ∧ Ft τ υ) := by
  refine T.mono (x_Told_add (d := d) (σ := τ) (n := k.length) hd.1 (by omega)) ?_
  rintro r υ ⟨rfl, rfl⟩
  unfold X_tadd
  rw [if_pos hk]
  exact ⟨rfl, h.f0 (Fq_wJF rfl (by unfold sF; omega)), XD_add hd, Fq_wJF rfl ⟨rfl, rfl⟩⟩
theorem ST_copy {a b : Nat} {v : sv} (ha : isS a) (hb : isS b) (h : ST σ b v) : ST (X_copy σ a b) a v := by
  have hab := xS_far ha hb
  refine ⟨fun k hk => ?_, fun i hi => ?_⟩
  · rw [sf_copy, if_pos ⟨rfl, hk⟩]; exact h.1 k hk
  · rw [si_copy hab, si_copy hab, si_copy hab, si_copy hab, if_pos ⟨by omega, hi⟩, if_pos ⟨by omega, hi⟩, if_pos ⟨by omega, hi⟩, if_pos ⟨by omega, hi⟩, show a + 1 - a = 1 by omega, show a + 2 - a = 2 by omega, show a + 3 - a = 3 by omega, show a + 4 - a = 4 by omega]
    exact h.2 i hi
theorem Fq_copy {a b : Nat} {A : Nat → Prop} {F : Nat → Nat → Prop} {J : Nat → Prop} (ha : isS a) (hb : isS b) (hA : ∀ c, a + 1 ≤ c ∧ c ≤ a + 4 → A c) (hF : ∀ k, k < 6 → F a k) : Fq A F J σ (X_copy σ a b) := by
  have hab := xS_far ha hb
  refine ⟨fun c hc => funext fun j => ?_, fun c k hc => ?_, fun c _ => by rw [sj_copy], sp_copy _ _ _, so_copy _ _ _⟩
  · rw [si_copy hab, if_neg (fun q => hc (hA c q.1))]
  · rw [sf_copy, if_neg (fun q => hc (by rw [q.1]; exact hF k q.2))]
theorem isS_20 : isS 20 := by unfold isS; decide
theorem isS_25 : isS 25 := by unfold isS; decide
theorem isS_30 : isS 30 := by unfold isS; decide
/-- what was told is as it was -/
def Tn (σ τ : xs) : Prop := sf τ 3 1 = sf σ 3 1 ∧ sj τ 4 = sj σ 4
theorem XD.tn {t : Nat × (Nat → Int64)} (h : XD σ t) (hf : Tn σ τ) : XD τ t := ⟨by rw [hf.1]; exact h.1, fun i hi => by rw [hf.2]; exact h.2 i hi⟩
theorem xq_copy (h : XQ w σ τ) : TC l M_State_copy (d + 1) [.ref 30, .ref 20] τ (fun r υ => r = none ∧ XQ w σ υ ∧ ST υ 30 (wV w) ∧ Tn τ υ) := by
  refine T.mono (x_State_copy (d := d) (σ := τ) isS_30 isS_20) ?_
  rintro r υ ⟨rfl, rfl⟩
  exact ⟨rfl, h.f0 (Fq_copy isS_30 isS_20 (fun c hc => by unfold sA; omega) (fun k hk => by unfold sF; omega)), ST_copy isS_30 isS_20 h.1.2.1, by rw [sf_copy, if_neg (by omega)], rfl⟩
theorem XV.sp (h : XV σ w) : isR (sp σ) := h.1.2.1
theorem xq_pass {v : sv} {n : Nat} (h : XQ w σ τ) (he : okE (wE w)) (hv : okV (wE w) v) (hS : ST τ 30 v) (hh : v 0 4 + n < 2 ^ 30) (hn : n < 2 ^ 31) : TC l M_Trip_pass (d + 7) [.ref 19, .ref 30, .ref (sp τ), .int (nI n)] τ (fun r υ => r = none ∧ XQ w σ υ ∧ ST υ 30 (hrsV (wE w) (z5V v) n) ∧ TR υ (hrsV (wE w) (z5V v) n) ∧ Tn τ υ) := by
  refine T.mono (x_pass (d := d) (σ := τ) isS_30 h.1.sp he hv hS h.e h.1.1.2.2.2.2 hh hn) ?_
  rintro r υ ⟨rfl, h1, h2, h3, h4⟩
  have hR := h.1.R
  exact ⟨rfl, h.fq (h4.fq (fun c hc => by unfold PP PT PM Pu at hc; unfold XqA; omega) (fun c k hc => by unfold PP PT PM Pu at hc; unfold XqF XqA; omega)) h3, h1, h2, by rw [(h4.1 3 (by unfold PP PT PM Pu; omega)).1], by rw [h4.2.1]⟩
theorem xq_measure (h : XQ w σ τ) (he : okE (wE w)) (hv : okV (wE w) (wV w)) : TC l M_Tug_measure (d + 6) [.ref 14, .ref 20, .ref (sp τ)] τ (fun r υ => r = none ∧ XQ w σ υ ∧ MS (wE w) (wV w) (eN (wE w)) υ ∧ Tn τ υ) := by
  refine T.mono (x_measure (d := d) (σ := τ) isS_20 h.1.sp he hv h.1.2.1 h.e h.1.1.2.2.2.2) ?_
  rintro r υ ⟨rfl, h1, h2, h3⟩
  have hR := h.1.R
  exact ⟨rfl, h.fq (Fq.sc (h1.mono (fun c hc => by unfold PM Pu at hc; unfold XqA; omega))) h2, h3, by rw [h1.1], by rw [h1.2.1]⟩
theorem MS.sc {e : xe} {v : sv} {n : Nat} {P : Nat → Prop} (h : MS e v n σ) (hs : Sc P σ τ) (hp : ¬ P 15 ∧ ¬ P 16 ∧ ¬ P 17) : MS e v n τ := fun j hj => by
  rw [hs.2.2.2.2 15 hp.1, hs.2.2.2.2 16 hp.2.1, hs.2.2.2.2 17 hp.2.2]; exact h j hj
theorem MS.fq {e : xe} {v : sv} {n : Nat} {A : Nat → Prop} {F : Nat → Nat → Prop} {J : Nat → Prop} (h : MS e v n σ) (hs : Fq A F J σ τ) (hp : ¬ A 15 ∧ ¬ A 16 ∧ ¬ A 17) : MS e v n τ := fun j hj => by
  rw [hs.1 15 hp.1, hs.1 16 hp.2.1, hs.1 17 hp.2.2]; exact h j hj
theorem zF_0 : ∀ j, j < 4 → zF σ j = nI 0 := fun j hj => if_pos hj
/-- weighed and asked where the boat goes -/
theorem xq_weigh {z : Int32} (h : XQ w σ τ) (he : okE (wE w)) (hM : MS (wE w) (wV w) (eN (wE w)) τ) : TC l M_Tug_weigh (d + 2) [.ref 14, .int z] τ (fun r υ => r = none ∧ XQ w σ υ ∧ MS (wE w) (wV w) (eN (wE w)) υ ∧ Tn τ υ ∧ ∀ j, j < 4 → si υ 18 j = ntF (wE w) (wV w) z (fun _ => nI 0) (eN (wE w)) j) := by
  refine T.mono (x_weigh (d := d) (σ := τ) h.e.1.2.2.1 he.1.2.2.2.2.1 hM (z := z)) ?_
  rintro r υ ⟨rfl, rfl⟩
  refine ⟨rfl, h.f0 (Fq.wA (by unfold sA; omega)), hM.sc (P := fun a => a = 18) (Sc.wA rfl) (by omega), ⟨rfl, rfl⟩, fun j hj => ?_⟩
  rw [si_wA, if_pos rfl]
  exact ntF_c zF_0 _ j hj
theorem xq_go {z : Int32} (h : XQ w σ τ) (he : okE (wE w)) (hv : okV (wE w) (wV w)) (hN : ∀ j, j < 4 → si τ 18 j = ntF (wE w) (wV w) z (fun _ => nI 0) (eN (wE w)) j) : TE l M_Tug_goesFrom (d + 4) [.ref 14, .int (nI (wV w 0 0))] τ (some (.int (b2I (goV (wE w) (wV w) z)))) τ := by
  have h1 := he.1
  have hRC : eR (wE w) * eC (wE w) ≤ 36 := Nat.mul_le_mul h1.2.1 h1.2.2.2.1
  have := hv.1
  refine T.mono (x_goesFrom (d := d) (σ := τ) h.e.1.1 h.e.1.2.1 h1.2.1 h1.2.2.2.1 (by omega) (by omega)) ?_
  rintro r υ ⟨rfl, rfl⟩
  rw [X_go_V he hv h.e.2.2.2.1 hN]
  exact ⟨rfl, rfl⟩
end
/-! the reference -/
section
variable {A : Nat → Prop} {F : Nat → Nat → Prop} {J : Nat → Prop} {σ τ υ : xs} {w : wv} {c : Nat}
def YV (σ : xs) (c : Nat) (w : wv) : Prop := YE σ (wE w) ∧ SY σ 160 (eN (wE w)) (wV w) ∧ YT σ (wX w) ∧ YP σ (eN (wE w)) (wU w) ∧ YK σ (eN (wE w)) c (wK w) ∧ YS σ (wS w)
theorem YW.v (h : YW σ c w) : YV σ c w := ⟨h.1, h.2.1, h.2.2.1, h.2.2.2.2.1, h.2.2.2.2.2.1, h.2.2.2.2.2.2⟩
theorem YV.wd {d : Nat × (Nat → Int64)} (h : YV σ c w) (hd : YD σ d) : YW σ c (wE w, wV w, wX w, d, wU w, wK w, wS w) := ⟨h.1, h.2.1, h.2.2.1, hd, h.2.2.2.1, h.2.2.2.2.1, h.2.2.2.2.2⟩
theorem YT.fq {t : Nat × (Nat → Nat)} (h : YT σ t) (hf : Fq A F J σ τ) (ha : ¬ A 162) (hF : ¬ F 154 15) : YT τ t := ⟨by rw [hf.2.1 154 15 hF]; exact h.1, fun i hi => by rw [hf.1 162 ha]; exact h.2 i hi⟩
theorem YD.fq {t : Nat × (Nat → Int64)} (h : YD σ t) (hf : Fq A F J σ τ) (ha : ¬ J 155) (hF : ¬ F 154 1) : YD τ t := ⟨by rw [hf.2.1 154 1 hF]; exact h.1, fun i hi => by rw [hf.2.2.1 155 ha]; exact h.2 i hi⟩
theorem YP.fq {n : Nat} {ps : List sv} (h : YP σ n ps) (hf : Fq A F J σ τ) (ha : ¬ A 171) (hF : ¬ F 154 30) : YP τ n ps := ⟨by rw [hf.2.1 154 30 hF]; exact h.1, fun j hj => by rw [hf.1 171 ha]; exact h.2 j hj⟩
theorem YK.fq {n : Nat} {kp : Nat → Option sv} (h : YK σ n c kp) (hf : Fq A F J σ τ) (ha : ∀ c, 186 ≤ c → c ≤ 188 → ¬ A c) (hF : ¬ F 154 6) : YK τ n c kp := ⟨by rw [hf.2.1 154 6 hF]; exact h.1, fun i hi => by rw [hf.1 186 (ha _ (by omega) (by omega)), hf.1 187 (ha _ (by omega) (by omega)), hf.1 188 (ha _ (by omega) (by omega))]; exact h.2 i hi⟩
theorem YS.fq {g : Nat × (Nat → Nat) × (Nat → Nat) × (Nat → Nat)} (h : YS σ g) (hf : Fq A F J σ τ) (ha : ∀ c, 177 ≤ c → c ≤ 179 → ¬ A c) (hF : ¬ F 154 41) : YS τ g := ⟨by rw [hf.2.1 154 41 hF]; exact h.1, fun i hi => by rw [hf.1 177 (ha _ (by omega) (by omega)), hf.1 178 (ha _ (by omega) (by omega)), hf.1 179 (ha _ (by omega) (by omega))]; exact h.2 i hi⟩
theorem YE.fq {e : xe} (h : YE σ e) (hf : Fq A F J σ τ) (ha : ∀ c, (156 ≤ c ∧ c ≤ 159) ∨ c = 165 → ¬ A c) (hF : ∀ k, (3 ≤ k ∧ k ≤ 7) ∨ k = 24 → ¬ F 154 k) : YE τ e := ⟨h.1.fq hf (fun c hc => ha c (Or.inl hc)) (fun k hk => hF k (Or.inl hk)), h.2.fq hf (ha _ (Or.inr rfl)) (hF _ (Or.inr rfl))⟩
theorem YV.q (h : YV σ c w) (hf : Fq YqA YqF YqJ σ τ) : YV τ c w := by
  obtain ⟨a, b, x, p, k, g⟩ := h
  exact ⟨a.fq hf (fun c hc => by unfold YqA; omega) (fun k hk => by unfold YqF; omega), SY_o b (hf.1 160 (by unfold YqA; omega)), x.fq hf (by unfold YqA; omega) (by unfold YqF; omega), p.fq hf (by unfold YqA; omega) (by unfold YqF; omega), k.fq hf (fun c h1 h2 => by unfold YqA; omega) (by unfold YqF; omega), g.fq hf (fun c h1 h2 => by unfold YqA; omega) (by unfold YqF; omega)⟩
def YQ (c : Nat) (w : wv) (σ τ : xs) : Prop := YV τ c w ∧ YF σ τ
theorem YF.rf : YF σ σ := ⟨fun _ _ => ⟨rfl, rfl, rfl⟩, rfl, rfl⟩
theorem YF.tr (h : YF σ τ) (g : YF τ υ) : YF σ υ := ⟨fun c hc => ⟨(g.1 c hc).1.trans (h.1 c hc).1, (g.1 c hc).2.1.trans (h.1 c hc).2.1, (g.1 c hc).2.2.trans (h.1 c hc).2.2⟩, g.2.1.trans h.2.1, g.2.2.trans h.2.2⟩
theorem YQ.rf (h : YV σ c w) : YQ c w σ σ := ⟨h, YF.rf⟩
theorem YQ.fq (h : YQ c w σ τ) (hf : Fq YqA YqF YqJ τ υ) : YQ c w σ υ := ⟨h.1.q hf, h.2.tr (hf.YF (fun c hc => by unfold YqA; omega) (fun c k hc => by unfold YqF; omega) (fun c hc => by unfold YqJ; omega))⟩
theorem YQ.e (h : YQ c w σ τ) : EYb τ (wE w) := h.1.1.1
theorem YQ.done {k : List Int64} (h : YQ c w σ τ) (hd : YD τ (dL k)) : YW τ c (stD w (some k)) := h.1.wd hd
theorem YQ.none (h : YQ c w σ τ) (hd : YD τ (wD w)) : YW τ c (stD w none) := h.1.wd hd
theorem YD_0 : YD (wF σ 154 1 (nI 0)) (dL []) := ⟨rfl, fun i hi => absurd hi (Nat.not_lt_zero i)⟩
theorem YD_add {k : List Int64} {x : Int64} (h : YD σ (dL k)) : YD (wF (wJ σ 155 k.length x) 154 1 (nI (k.length + 1))) (dL (k ++ [x])) := by
  refine ⟨?_, fun i hi => ?_⟩
  · show nI (k.length + 1) = nI (k ++ [x]).length
    rw [List.length_append]; rfl
  · have hi' : i < k.length + 1 := by have : i < (k ++ [x]).length := hi; rwa [List.length_append] at this
    show (if 155 = 155 ∧ i = k.length then x else sj σ 155 i) = (k ++ [x]).getD i 0
    by_cases c : i = k.length
    · rw [if_pos ⟨rfl, c⟩, c, List.getD_eq_getElem?_getD, List.getElem?_append_right (Nat.le_refl _), Nat.sub_self]; rfl
    · rw [if_neg (fun q => c q.2), List.getD_eq_getElem?_getD, List.getElem?_append_left (by omega), ← List.getD_eq_getElem?_getD]
      exact h.2 i (show i < k.length by omega)
/-- writes of the reference that no world speaks of -/
theorem YQ.thr {x : Int32} (h : YQ c w σ τ) : YQ c w σ (wF τ 154 0 x) := h.fq (Fq.wF (by unfold YqF; omega))
theorem YQ.td0 (h : YQ c w σ τ) : YQ c w σ (wF τ 154 1 (nI 0)) := h.fq (Fq.wF (by unfold YqF; omega))
end
section
variable {l : xLa} {d : Nat} {σ τ : xs} {w : wv} {c : Nat}
theorem y_enters {n : Nat} {x : Int64} (hn : sf τ 154 1 = nI n) (hz : n < 40) : TE l M_Y_enters (d + 1) [.ref 154, .long x] τ none (wF (wJ τ 155 n x) 154 1 (nI (n + 1))) := by
  show T l M_Y_enters (d + 1) 0 _ [] τ _
  refine tt_aload_n d_Y_enters_0 rfl ?_
  refine tt_getR d_Y_enters_1 rfl rfl (by decide) rfl rfl ?_
  refine tt_aload_n d_Y_enters_4 rfl ?_
  refine tn_get d_Y_enters_5 rfl rfl (by decide) rfl (by exact hn) ?_
  refine tt_lload_n d_Y_enters_8 rfl ?_
  refine tn_last d_Y_enters_9 rfl (by decide) (by omega) ?_
  refine tt_aload_n d_Y_enters_10 rfl ?_
  refine tt_dup d_Y_enters_11 rfl ?_
  refine tn_get d_Y_enters_12 rfl rfl (by decide) rfl (by exact hn) ?_
  refine tt_iconst (v := nI 1) d_Y_enters_15 (by decide) ?_
  refine tn_iadd d_Y_enters_16 ?_
  refine tt_putI d_Y_enters_17 rfl rfl (by decide) rfl (xpok_int rfl) rfl ?_
  refine tt_vret rfl d_Y_enters_20 ?_
  exact ⟨rfl, rfl⟩

def Gt (σ τ : xs) : Prop := Fq (fun _ => False) (fun c k => c = 154 ∧ k = 1) (fun c => c = 155) σ τ
theorem Gt.sy {b n : Nat} {v : sv} (hf : Gt σ τ) (h : SY σ b n v) : SY τ b n v := SY_o h (hf.1 b id)
theorem Gt.ty {v : sv} (hf : Gt σ τ) (h : TY σ v) : TY τ v := ⟨by rw [hf.2.1 154 32 (by omega)]; exact h.1, by rw [hf.2.1 154 33 (by omega)]; exact h.2.1, by rw [hf.2.1 154 34 (by omega)]; exact h.2.2⟩
theorem Gt.si (hf : Gt σ τ) (a : Nat) : si τ a = si σ a := hf.1 a id
theorem yq_add {k : List Int64} {x : Int64} (h : YQ c w σ τ) (hd : YD τ (dL k)) (hk : k.length < 40) : TC l M_Y_enters (d + 1) [.ref 154, .long x] τ (fun r υ => r = none ∧ YQ c w σ υ ∧ YD υ (dL (k ++ [x])) ∧ Gt τ υ) := by
  refine T.mono (y_enters (d := d) (τ := τ) (n := k.length) hd.1 hk) ?_
  rintro r υ ⟨rfl, rfl⟩
  exact ⟨rfl, h.fq (Fq_wJF rfl (by unfold YqF; omega)), YD_add hd, Fq_wJF rfl ⟨rfl, rfl⟩⟩
/-- what was told is as it was -/
def Un (σ τ : xs) : Prop := sf τ 154 1 = sf σ 154 1 ∧ sj τ 155 = sj σ 155
theorem YD.un {t : Nat × (Nat → Int64)} (h : YD σ t) (hf : Un σ τ) : YD τ t := ⟨by rw [hf.1]; exact h.1, fun i hi => by rw [hf.2]; exact h.2 i hi⟩
theorem Un.sc {P : Nat → Prop} (h : Sc P σ τ) : Un σ τ := ⟨by rw [h.1], by rw [h.2.1]⟩
theorem Un.fq {A : Nat → Prop} (h : Fq A HF HJ σ τ) : Un σ τ := ⟨h.2.1 154 1 (by unfold HF; omega), h.2.2.1 155 (fun q => q)⟩
theorem isY_160 : isY 160 := Or.inl rfl
theorem isY_161 : isY 161 := Or.inr rfl
theorem yq_pulls (h : YQ c w σ τ) (he : okE (wE w)) (hv : okV (wE w) (wV w)) : TC l M_Y_laysPulls (d + 7) [.ref 154, .ref 160] τ (fun r υ => r = none ∧ YQ c w σ υ ∧ Un τ υ ∧ ∀ j, j < eN (wE w) → si υ 169 j = plV (wE w) (wV w) j) := by
  refine T.mono (y_laysPulls (d := d) (σ := τ) isY_160 he hv h.e h.1.2.1 h.1.1.2) ?_
  rintro r υ ⟨rfl, h1, h2⟩
  exact ⟨rfl, h.fq (Fq.sc (h1.mono (fun c hc => by unfold PYl at hc; unfold YqA; omega))), Un.sc h1, h2⟩
theorem yq_goesBy {ms : Nat} (h : YQ c w σ τ) (hm : ms < 256) (he : okE (wE w)) (hv : okV (wE w) (wV w)) (hM : ∀ j, j < eN (wE w) → si τ 169 j = plV (wE w) (wV w) j) : TC l M_Y_goesBy (d + 5) [.ref 154, .ref 160, .int (nI ms)] τ (fun r υ => r = some (.int (nI (g4 (goV (wE w) (wV w) (nI ms))))) ∧ YQ c w σ υ ∧ Un τ υ ∧ (∀ j, j < eN (wE w) → si υ 169 j = plV (wE w) (wV w) j) ∧ ∀ j, j < 4 → ntY (si υ 170) j = ntF (wE w) (wV w) (nI ms) (fun _ => nI 0) (eN (wE w)) j) := by
  refine T.mono (y_goesBy (d := d) (σ := τ) isY_160 hm he hv h.e h.1.2.1 hM) ?_
  rintro r υ ⟨rfl, h1, h2⟩
  exact ⟨rfl, h.fq (Fq.sc (h1.mono (fun c hc => by unfold YqA; omega))), Un.sc h1, fun j hj => by rw [h1.2.2.2.2 169 (by decide)]; exact hM j hj, h2⟩
theorem yq_pull {i : Nat} (h : YQ c w σ τ) (hi : i < eN (wE w)) (he : okE (wE w)) (hv : okV (wE w) (wV w)) : TC l M_Y_pull (d + 6) [.ref 154, .ref 160, .int (nI i)] τ (fun r υ => r = some (.int (plV (wE w) (wV w) i)) ∧ YQ c w σ υ ∧ Un τ υ) := by
  refine T.mono (y_pull (d := d) (σ := τ) isY_160 hi he hv h.e h.1.2.1 h.1.1.2) ?_
  rintro r υ ⟨rfl, h1⟩
  exact ⟨rfl, h.fq (Fq.sc (h1.mono (fun c hc => by unfold PYp at hc; unfold YqA; omega))), Un.sc h1⟩
theorem yq_goes (h : YQ c w σ τ) (he : okE (wE w)) (hv : okV (wE w) (wV w)) : TC l M_Y_goes (d + 8) [.ref 154, .ref 160] τ (fun r υ => r = some (.int (nI (g4 (goV (wE w) (wV w) (nI 255))))) ∧ YQ c w σ υ ∧ Un τ υ ∧ ∀ j, j < 4 → ntY (si υ 170) j = ntF (wE w) (wV w) (nI 255) (fun _ => nI 0) (eN (wE w)) j) := by
  refine T.mono (y_goes (d := d) (σ := τ) isY_160 he hv h.e h.1.2.1 h.1.1.2) ?_
  rintro r υ ⟨rfl, h1, h2, h3⟩
  exact ⟨rfl, h.fq (Fq.sc (h1.mono (fun c hc => by unfold PYg at hc; unfold YqA; omega))), Un.sc h1, h3⟩
theorem HA_q {c : Nat} : HA 161 c → YqA c := fun h => by unfold HA at h; unfold YqA; omega
theorem HF_q {c k : Nat} : HF c k → YqF c k := fun h => by unfold HF at h; unfold YqF; omega
/-- hours on the row thought of -/
theorem yq_hours {v : sv} {n : Nat} (h : YQ c w σ τ) (he : okE (wE w)) (hv : okV (wE w) v) (hS : SY τ 161 (eN (wE w)) v) (hh : v 0 4 + n < 2 ^ 30) (hn : n < 2 ^ 31) : TC l M_Y_goesOn (d + 11) [.ref 154, .ref 161, .int (nI n)] τ (fun r υ => r = none ∧ YQ c w σ υ ∧ SY υ 161 (eN (wE w)) (hrsV (wE w) (z5V v) n) ∧ TY υ (hrsV (wE w) (z5V v) n) ∧ Un τ υ) := by
  refine T.mono (y_goesOn (d := d) (σ := τ) isY_161 he hv h.e h.1.1.2 hh hn hS) ?_
  rintro r υ ⟨rfl, h1, h2, h3⟩
  exact ⟨rfl, h.fq (h3.mono (fun _ => HA_q) (fun _ _ => HF_q) (fun _ q => q.elim)), h1, h2, Un.fq h3⟩
theorem yq_hour {v : sv} (h : YQ c w σ τ) (he : okE (wE w)) (hv : okV (wE w) v) (hS : SY τ 161 (eN (wE w)) v) (hT : TY τ v) (hh : v 0 4 + 1 < 2 ^ 30) : TC l M_Y_hourGoes (d + 10) [.ref 154, .ref 161] τ (fun r υ => r = none ∧ YQ c w σ υ ∧ SY υ 161 (eN (wE w)) (hrV (wE w) v) ∧ TY υ (hrV (wE w) v) ∧ Un τ υ) := by
  refine T.mono (y_hourGoes (d := d) (σ := τ) isY_161 he hv h.e hS h.1.1.2 hT hh) ?_
  rintro r υ ⟨rfl, h1, h2, h3⟩
  exact ⟨rfl, h.fq (h3.mono (fun _ => HA_q) (fun _ _ => HF_q) (fun _ q => q.elim)), h1, h2, Un.fq h3⟩
end
theorem wI_cp {σ : xs} {a i : Nat} {f g : Nat → Int32} : wI (wA σ a (cpN f g i)) a i (f i) = wA σ a (cpN f g (i + 1)) := by
  show (σ.1, up2 (si (wA σ a (cpN f g i))) a i (f i), σ.2.2) = _
  have : up2 (si (wA σ a (cpN f g i))) a i (f i) = si (wA σ a (cpN f g (i + 1))) := by
    funext b j
    rw [up2_at, si_wA, si_wA]
    unfold cpN
    by_cases hb : b = a
    · by_cases hj : j = i
      · simp [hb, hj]
      · simp only [hb, hj, and_false, if_false, if_true]
        by_cases h : j < i
        · rw [if_pos h, if_pos (by omega)]
        · rw [if_neg h, if_neg (by omega)]
    · simp [hb]
  rw [this]
  rfl
theorem wA_cp0 {σ : xs} {a : Nat} {f : Nat → Int32} : wA σ a (cpN f (si σ a) 0) = σ := by
  show (σ.1, (fun b => if b = a then cpN f (si σ a) 0 else si σ b), σ.2.2) = σ
  have : (fun b => if b = a then cpN f (si σ a) 0 else si σ b) = si σ := by
    funext b
    by_cases h : b = a
    · rw [if_pos h, h]; funext j; simp [cpN]
    · rw [if_neg h]
  rw [this]
  rfl
theorem y_copies_l {l : xLa} {d : Nat} {σ : xs}  : ∀ (m : Nat) (i : Nat), 38 - i = m → i ≤ 38 → T l M_Y_copies (d + 1) 2 [some (.ref 154), some (.int (nI i))] [] (wA σ 161 (cpN (si σ 160) (si σ 161) i)) (fun r υ => r = none ∧ υ = wA σ 161 (cpN (si σ 160) (si σ 161) 38)) := by
  intro m
  induction m using Nat.strongRecOn with
  | ind m ih =>
    intro i hm hi
    refine tt_iload_n d_Y_copies_2 rfl ?_
    refine tt_bipush (v := nI 38) d_Y_copies_3 (by decide) ?_
    refine tn_ic_ge (t := 26) (by omega) (by omega) d_Y_copies_5 (by decide) (fun c_5 => ?_) (fun c_5 => ?_)
    · obtain rfl : i = 38 := by omega
      refine tt_vret rfl d_Y_copies_26 ?_
      exact ⟨rfl, rfl⟩
    · refine tt_aload_n d_Y_copies_8 rfl ?_
      refine tt_getR d_Y_copies_9 rfl rfl (by decide) rfl rfl ?_
      refine tt_iload_n d_Y_copies_12 rfl ?_
      refine tt_aload_n d_Y_copies_13 rfl ?_
      refine tt_getR d_Y_copies_14 rfl rfl (by decide) rfl rfl ?_
      refine tt_iload_n d_Y_copies_17 rfl ?_
      refine tn_iald d_Y_copies_18 rfl (by decide) (by omega) (show si (wA σ 161 (cpN (si σ 160) (si σ 161) i)) 160 i = si σ 160 i from by rw [si_wA, if_neg (by decide)]) ?_
      refine tn_iast d_Y_copies_19 rfl (by decide) (by omega) ?_
      refine tt_iinc d_Y_copies_20 rfl (nI_inc _ 1) (by decide) rfl ?_
      refine tt_goto (t := 2) d_Y_copies_23 (by decide) ?_
      rw [wI_cp]
      exact ih (38 - (i + 1)) (by omega) (i + 1) rfl (by omega)

theorem y_copies {l : xLa} {d : Nat} {σ : xs} : TE l M_Y_copies (d + 1) [.ref 154] σ none (wA σ 161 (cpN (si σ 160) (si σ 161) 38)) := by
  show T l M_Y_copies (d + 1) 0 _ [] σ _
  refine tt_iconst (v := nI 0) d_Y_copies_0 (by decide) ?_
  refine tt_istore_n d_Y_copies_1 (by decide) rfl ?_
  have q := y_copies_l (l := l) (d := d) (σ := σ) 38 0 (by omega) (by omega)
  rw [wA_cp0] at q
  exact q

theorem yq_copies {l : xLa} {d : Nat} {σ τ : xs} {w : wv} {c : Nat} (h : YQ c w σ τ) (h8 : eN (wE w) ≤ 8) : TC l M_Y_copies (d + 1) [.ref 154] τ (fun r υ => r = none ∧ YQ c w σ υ ∧ SY υ 161 (eN (wE w)) (wV w) ∧ Un τ υ ∧ sf υ = sf τ) := by
  refine T.mono (y_copies (d := d) (σ := τ)) ?_
  rintro r υ ⟨rfl, rfl⟩
  refine ⟨rfl, h.fq (Fq.wA (by unfold YqA; omega)), ?_, ⟨rfl, rfl⟩, rfl⟩
  have h0 : rO (si τ 160) (eN (wE w)) (wV w) := h.1.2.1
  refine rO_c (f := si τ 160) h8 h0 (fun k hk => ?_)
  rw [si_wA, if_pos rfl]
  exact if_pos hk
