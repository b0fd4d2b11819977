/-! What is sure of a world behind questions and texts. Printed by wip/whole. -/
def TQ {α : Type} (p : α × Option (List Int64)) : Prop := ∀ l, p.2 = some l → l.length ≤ 37
section
variable {α : Type} {a : α} {L : List Int64} {k : Nat} {w : wv}
theorem TQ_n : TQ (a, none) := fun l h => by cases h
theorem TQ_s (h : L.length ≤ 37) : TQ (a, some L) := fun l q => by cases q; exact h
theorem okW.tq {p : α × Option (List Int64)} (h : okW k w) (ht : TQ p) : okW (k + 1) (stD w p.2) := h.told ht
end
section
variable {w : wv} {n i j : Int32}
theorem tq_ahead : TQ (q_ahead w n) := by unfold q_ahead; split; exact TQ_n; exact TQ_s (by show 3 ≤ 37; decide)
theorem tq_towed : TQ (q_towed w) := TQ_s (by show 4 ≤ 37; decide)
theorem tq_sticks : TQ (q_sticks w) := by
  unfold q_sticks
  cases fstN (pStk w) 100 0
  · exact TQ_n
  · exact TQ_s (by show 1 ≤ 37; decide)
theorem tq_track : TQ (q_track w n) := by unfold q_track; split; exact TQ_n; exact TQ_s (by show 2 ≤ 37; decide)
theorem tq_comes : TQ (q_comes w n) := by
  unfold q_comes
  split
  · exact TQ_n
  · split
    · exact TQ_n
    · exact TQ_s (by show 1 ≤ 37; decide)
theorem tq_owed : TQ (q_owed w) := TQ_s (by show 2 ≤ 37; decide)
theorem tq_minds : TQ (q_minds w) := TQ_s (by show 2 ≤ 37; decide)
theorem tq_keeps : TQ (q_keeps w) := TQ_s (by show 2 ≤ 37; decide)
theorem tq_evens : TQ (q_evens w) := TQ_s (by show 2 ≤ 37; decide)
theorem tq_strongest : TQ (q_strongest w) := by unfold q_strongest; split; exact TQ_n; exact TQ_s (by show 2 ≤ 37; decide)
theorem tq_sways : TQ (q_sways w n) := by
  unfold q_sways
  split
  · exact TQ_n
  · split
    · exact TQ_s (by show 1 ≤ 37; decide)
    · exact TQ_n
theorem tq_matters : TQ (q_matters w n) := by
  unfold q_matters
  split
  · exact TQ_n
  · split
    · exact TQ_n
    · exact TQ_s (by show 1 ≤ 37; decide)
theorem tq_fates : TQ (q_fates w n) := by unfold q_fates; split; exact TQ_n; exact TQ_s (by show 2 ≤ 37; decide)
theorem tq_fits : TQ (q_fits w) := TQ_s (by show 2 ≤ 37; decide)
theorem tq_looks : TQ (q_looks w) := by unfold q_looks; split; exact TQ_n; exact TQ_s (by show 1 ≤ 37; decide)
theorem tq_game : TQ (q_game n i) := by
  unfold q_game
  split
  · split
    · exact TQ_n
    · unfold gmA
      split
      · exact TQ_s (by show 1 ≤ 37; decide)
      · exact TQ_s (by show 0 ≤ 37; decide)
  · exact TQ_n
theorem tq_rests : TQ (q_rests n) := by
  unfold q_rests
  split
  · exact TQ_n
  · rename_i v _
    exact TQ_s (by have := (rs_le v 100).2.1; omega)
theorem tq_drifts : TQ (q_drifts w n i) := by unfold q_drifts; split; exact TQ_s (by show 2 ≤ 37; decide); exact TQ_n
theorem dW_37 {s f : Nat} (he : okE (wE w)) : dW w s f ≤ 37 := by
  have h36 : eR (wE w) * eC (wE w) ≤ 36 := Nat.mul_le_mul he.1.2.1 he.1.2.2.2.1
  show dT _ _ _ _ _ ≤ 37
  unfold dT
  cases q : dN (eR (wE w)) (eC (wE w)) (eB (wE w)) s f with
  | none => exact Nat.zero_le _
  | some k =>
    have := (fst_some _ _ _ q).2.1
    show k + 1 ≤ 37
    omega
theorem tq_way (he : okE (wE w)) : TQ (q_way w n i) := by
  unfold q_way
  split
  · split
    · exact TQ_s (by rw [wyL_n]; exact dW_37 he)
    · exact TQ_n
  · exact TQ_n
theorem tq_farthest : TQ (q_farthest w) := TQ_s (by show 2 ≤ 37; decide)
theorem tq_yrs {D : Int32 → Int32} {H : Int32 → Nat} : TQ (q_yrs D H w n i) := by unfold q_yrs; split; exact TQ_n; exact TQ_s (by show 2 ≤ 37; decide)
theorem tq_years : TQ (q_years w n i) := tq_yrs
theorem tq_sends : TQ (q_sends w n i j) := by
  unfold q_sends
  split
  · rename_i f m c _ _ _
    cases feN (arB w f c m) (abW w)
    · exact TQ_n
    · exact TQ_s (by show 2 ≤ 37; decide)
  · exact TQ_n
theorem tq_cheapest : TQ (q_cheapest w n i) := by
  unfold q_cheapest
  split
  · unfold chA
    split
    · exact TQ_n
    · exact TQ_s (by show 2 ≤ 37; decide)
  · exact TQ_n
end
section
variable {k : Nat} {w : wv}
theorem okW.okX (h : okW k w) : okX (wX w) := h.2.2.1
theorem okW.tx (h : okW k w) : okW (k + 1) (txC w) := by
  obtain ⟨a, b, c, d, ⟨e1, e2⟩, f, g, i⟩ := h
  exact ⟨a, b.txt (Nat.zero_le _), ⟨Nat.zero_le _, fun j hj => absurd hj (Nat.not_lt_zero j)⟩, d, ⟨e1, fun j hj => (e2 j hj).txt (Nat.zero_le _)⟩, fun j hj u hu => (f j hj u hu).txt (Nat.zero_le _), g, i⟩
theorem okW.fog (h : okW k w) : okW (k + 1) (a_fog w).2 := by
  have ht := h.tx
  unfold a_fog
  by_cases c : fgK (wX w) = 0 ∨ fgK (wX w) < (wX w).1
  · rw [if_pos c]; exact ht
  · rw [if_neg c]
    have h1 := (fgK_c (wX w)).1
    have h2 := fgK_n (wX w)
    obtain ⟨⟨⟨a1, a2, a3, a4, a5, a6, a7⟩, a8, a9, a10⟩, b, c, d, e, f, g, i⟩ := ht
    refine ⟨⟨⟨a1, a2, a3, a4, a5, ?_, ?_⟩, a8, fun j hj => ?_, a10⟩, b, c, d, e, f, g, i⟩
    · show 0 < (wX w).1; omega
    · show (wX w).1 ≤ 20; omega
    · show (if j < (wX w).1 then dgN (wX w) j - 1 else eF (wE w) j) ≤ 9
      have := (dg_le (x := wX w) (j := j)).1
      have := a9 j hj
      split
      · omega
      · exact this
theorem okW.lake (h : okW k w) : okW (k + 1) (a_lake w).2 := by
  have ht := h.tx
  unfold a_lake
  by_cases c : laF (wX w) = 0
  · rw [if_pos c]
    obtain ⟨-, -, -, l1, l2, l3, l4⟩ := lk_0 c
    obtain ⟨⟨⟨a1, a2, a3, a4, a5, a6, a7⟩, a8, a9, a10⟩, ⟨⟨b1, b2, b3, b4, b5, b6, b7⟩, b8, b9⟩, c, d, e, f, g, i⟩ := ht
    have hp : 0 < lkR (wX w) * laC (wX w) := Nat.mul_pos (by omega) (by omega)
    refine ⟨⟨⟨l1, l2, l3, l4, Nat.zero_le _, a6, a7⟩, a8, a9, fun f hf => ?_⟩, ⟨⟨hp, b2, b3, b4, by show 0 < 2 ^ 30; decide, by show 0 < 256; decide, fun i hi => absurd hi (Nat.not_lt_zero i)⟩, Nat.zero_le _, ?_⟩, c, d, ⟨Nat.zero_le _, fun j hj => absurd hj (Nat.not_lt_zero j)⟩, fun j hj v hv => (by cases hv), ⟨Nat.zero_le _, fun j hj => absurd hj (Nat.not_lt_zero j)⟩, i⟩
    · show (if atN (wX w) (2 + f) = 36 then 1 else 0) ≤ 1
      split <;> omega
    · show wV w 0 2 + wV w 0 3 + 0 + (0 + 3) / 4 ≤ k + 1
      have : wV w 0 2 + wV w 0 3 + glN (wV w) (eN (wE w)) + (0 + 3) / 4 ≤ k + 1 := b9
      omega
  · rw [if_neg c]; exact ht
theorem ltw {a b n : Nat} (ha : a < 256) (hn : n < 8) : a ||| 2 ^ n < 256 := Nat.or_lt_two_pow (n := 8) ha (Nat.pow_lt_pow_right (by decide) hn)
theorem wl_c {e : xe} {v : sv} (he : 2 ≤ eR e ∧ 2 ≤ eC e) (hv : okV e v) : ∀ j, eN e + j ≤ 8 → ((wlN v (eN e) j) 0 0 = v 0 0 ∧ (wlN v (eN e) j) 0 1 = v 0 1 ∧ (wlN v (eN e) j) 0 2 = v 0 2 ∧ (wlN v (eN e) j) 0 3 = v 0 3 ∧ (wlN v (eN e) j) 0 4 = v 0 4 ∧ (wlN v (eN e) j) 0 5 < 256) ∧ (∀ i, i < eN e + j → (wlN v (eN e) j) 1 i ≤ 9 ∧ (wlN v (eN e) j) 2 i ≤ 9 ∧ (wlN v (eN e) j) 3 i ≤ eR e * eC e ∧ (wlN v (eN e) j) 4 i ≤ 9) ∧ glN (wlN v (eN e) j) (eN e + j) = glN v (eN e)
  | 0, _ => ⟨⟨rfl, rfl, rfl, rfl, rfl, hv.2.2.2.2.2.1⟩, hv.2.2.2.2.2.2, rfl⟩
  | j + 1, hj => by
    obtain ⟨⟨a1, a2, a3, a4, a5, a6⟩, b, c⟩ := wl_c he hv j (by omega)
    refine ⟨⟨a1, a2, a3, a4, a5, ltw (b := 0) a6 (by omega)⟩, fun i hi => ?_, ?_⟩
    · show (if 1 = 1 ∧ i = eN e + j then 0 else (wlN v (eN e) j) 1 i) ≤ 9 ∧ (if 2 = 2 ∧ i = eN e + j then 5 else (wlN v (eN e) j) 2 i) ≤ 9 ∧ (if 3 = 3 ∧ i = eN e + j then 0 else (wlN v (eN e) j) 3 i) ≤ eR e * eC e ∧ (if 4 = 4 ∧ i = eN e + j then 0 else (wlN v (eN e) j) 4 i) ≤ 9
      by_cases z : i = eN e + j
      · rw [if_pos ⟨rfl, z⟩, if_pos ⟨rfl, z⟩, if_pos ⟨rfl, z⟩, if_pos ⟨rfl, z⟩]
        exact ⟨by decide, by decide, Nat.zero_le _, by decide⟩
      · rw [if_neg (fun q => z q.2), if_neg (fun q => z q.2), if_neg (fun q => z q.2), if_neg (fun q => z q.2)]
        exact b i (by omega)
    · show glN (wlV (wlN v (eN e) j) (eN e + j)) (eN e + j) + (if (wlV (wlN v (eN e) j) (eN e + j)) 3 (eN e + j) = 0 then 0 else 1) = _
      have e0 : (wlV (wlN v (eN e) j) (eN e + j)) 3 (eN e + j) = 0 := by
        show (if 3 = 3 ∧ eN e + j = eN e + j then 0 else (wlN v (eN e) j) 3 (eN e + j)) = 0
        rw [if_pos ⟨rfl, rfl⟩]
      rw [if_pos e0, Nat.add_zero, ← c]
      refine gl_c _ (fun i hi => ?_)
      have : (wlV (wlN v (eN e) j) (eN e + j)) 3 i = (wlN v (eN e) j) 3 i := by
        show (if 3 = 3 ∧ i = eN e + j then 0 else (wlN v (eN e) j) 3 i) = _
        rw [if_neg (fun q => by have := q.2; omega)]
      rw [this]
theorem okW.fish (h : okW k w) : okW (k + 1) (a_fish w).2 := by
  have ht := h.tx
  have h8 := h.1.1.2.2.2.2.1
  unfold a_fish
  by_cases c : (wX w).1 = 0
  · rw [if_pos c]; exact ht
  · rw [if_neg c]
    by_cases c2 : fiA w = 0
    · rw [if_pos c2]
      obtain ⟨f1, f2, f3, f4⟩ := fiL_c h8 c2
      obtain ⟨⟨⟨a1, a2, a3, a4, a5, a6, a7⟩, a8, a9, a10⟩, ⟨b1, b2, b3⟩, x, d, e, f, g, i⟩ := ht
      obtain ⟨⟨w1, w2, w3, w4, w5, w6⟩, w7, w8⟩ := wl_c (e := wE w) (v := wV w) ⟨a1, a3⟩ b1 (fiL (wX w)) (by omega)
      refine ⟨⟨⟨a1, a2, a3, a4, by show eN (wE w) + fiL (wX w) ≤ 8; omega, a6, a7⟩, fun j hj => ?_, a9, a10⟩, ⟨⟨Nat.lt_of_le_of_lt (Nat.le_of_eq w1) b1.1, Nat.le_trans (Nat.le_of_eq w2) b1.2.1, Nat.le_trans (Nat.le_of_eq w3) b1.2.2.1, Nat.le_trans (Nat.le_of_eq w4) b1.2.2.2.1, Nat.lt_of_le_of_lt (Nat.le_of_eq w5) b1.2.2.2.2.1, w6, w7⟩, ?_, ?_⟩, x, d, ⟨Nat.zero_le _, fun j hj => absurd hj (Nat.not_lt_zero j)⟩, fun j hj v hv => (by cases hv), g, i⟩
      · show (if eN (wE w) ≤ j ∧ j < eN (wE w) + fiL (wX w) then kdN (wX w) (3 * (j - eN (wE w))) - 1 else eK (wE w) j) ≤ 3 ∧ (if eN (wE w) ≤ j ∧ j < eN (wE w) + fiL (wX w) then dgN (wX w) (3 * (j - eN (wE w)) + 1) - 1 else eS (wE w) j) ≤ 9
        have k1 := kd_le (wX w) (3 * (j - eN (wE w)))
        have k2 := (dg_le (x := wX w) (j := 3 * (j - eN (wE w)) + 1)).1
        by_cases z : eN (wE w) ≤ j ∧ j < eN (wE w) + fiL (wX w)
        · rw [if_pos z, if_pos z]; omega
        · rw [if_neg z, if_neg z]; exact a8 j hj
      · exact Nat.le_trans (Nat.le_of_eq w5) b2
      · show wlN (wV w) (eN (wE w)) (fiL (wX w)) 0 2 + wlN (wV w) (eN (wE w)) (fiL (wX w)) 0 3 + glN (wlN (wV w) (eN (wE w)) (fiL (wX w))) (eN (wE w) + fiL (wX w)) + (0 + 3) / 4 ≤ k + 1
        rw [w3, w4, w8]
        exact b3
    · rw [if_neg c2]; exact ht
theorem okW.stU {k : Nat} {w : wv} {v : sv} (h : okW k w) (hv : okS (wE w) k (wX w).1 v) : okW k (stU w v) := by
  obtain ⟨a, b, x, d, ⟨e1, e2⟩, f, g, i⟩ := h
  refine ⟨a, b, x, d, ⟨?_, fun j hj => ?_⟩, f, g, i⟩
  · show ((v :: wU w).take 15).length ≤ 15
    rw [tk_len]; omega
  · have hj' : j < ((v :: wU w).take 15).length := hj
    show okS (wE w) k (wX w).1 (((v :: wU w).take 15).getD j v0)
    rw [tk_len] at hj'
    rw [tk_get (by omega)]
    cases j with
    | zero => exact hv
    | succ j => exact e2 j (by omega)
theorem okW.stV {k : Nat} {w : wv} {v : sv} (h : okW k w) (hv : okS (wE w) k (wX w).1 v) : okW k (stV w v) := by
  obtain ⟨a, b, x, d, e, f, g, i⟩ := h
  exact ⟨a, hv, x, d, e, f, g, i⟩
theorem pt_oa (w : wv) : ∀ j, ptN (wE w) (oaV w j) ≤ ptN (wE w) (wV w) + j
  | 0 => Nat.le_refl _
  | j + 1 => by
    have h1 := pt_oa w j
    have h2 : ptN (wE w) (oaV w (j + 1)) = ptN (wE w) (upv (oaV w j) 3 (dgN (wX w) (5 * j) - 1) ((dgN (wX w) (5 * j + 1) - 1) * eC (wE w) + (dgN (wX w) (5 * j + 2) - 1) + 1)) := pt_n (by decide) (by omega) (by omega)
    have h3 := pt_3 (e := wE w) (v := oaV w j) (j := dgN (wX w) (5 * j) - 1) (x := (dgN (wX w) (5 * j + 1) - 1) * eC (wE w) + (dgN (wX w) (5 * j + 2) - 1) + 1)
    omega
theorem okW.oar (h : okW k w) (hk : k ≤ 512) : okW (k + 1) (a_oar w).2 := by
  have ht := h.tx
  have ho := h.q hk
  unfold a_oar
  by_cases c : (wX w).1 = 0
  · rw [if_pos c]; exact ht
  · rw [if_neg c]
    by_cases c2 : oaA w = 0
    · rw [if_pos c2]
      obtain ⟨f1, f2, f3, f4⟩ := oaL_c c2
      have hs := okS_pt.mp h.2.1
      have hp := pt_oa w (oaL (wX w))
      have h4 : oaV w (oaL (wX w)) 0 4 = wV w 0 4 := congrFun (oaV_2 (i := 0) (oaL (wX w))).2 4
      exact (ht.stV (okS_pt.mpr ⟨ok_oaV ho c2 _ (Nat.le_refl _), by rw [h4]; have := hs.2.1; omega, by show ptN (wE w) (oaV w (oaL (wX w))) + (0 + 3) / 4 ≤ k + 1; have := hs.2.2; omega⟩)).stU ht.2.1
    · rw [if_neg c2]; exact ht
theorem okW.day (h : okW k w) (hk : k ≤ 512) : okW (k + 1) (a_day w).2 := by
  have ht := h.tx
  have ho := h.q hk
  unfold a_day
  by_cases c : dyA (wX w) = 0
  · rw [if_pos c]
    have hs := okS_pt.mp h.2.1
    have hx := h.okX
    obtain ⟨j1, j2, j3, j4⟩ := dyJ_c hx c
    obtain ⟨o1, o2, o3⟩ := ok_dyV ho (by have := hs.2.1; omega) hx c (dyJ (wX w)) (Nat.le_refl _)
    rw [j1] at o3
    have hv : okS (wE w) (k + 1) 0 (dyV w (dyJ (wX w))).1 := okS_pt.mpr ⟨o1.2.1, by have := hs.2.1; omega, by have := hs.2.2; omega⟩
    have hw := ht.stV hv
    have hd : okW (k + 1) (dyW w (dyV w (dyJ (wX w))).1 (dyV w (dyJ (wX w))).2) := by
      unfold dyW
      split
      · exact hw
      · exact hw.stU ht.2.1
    obtain ⟨a, b, x, d, e, f, g, i⟩ := hd
    exact ⟨a, b, x, by show 2 ≤ 37; decide, e, f, g, i⟩
  · rw [if_neg c]; exact ht
end

