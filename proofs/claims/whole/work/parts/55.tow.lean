/-! What each way has, in the class and in the reference. -/
theorem xbit_0 : ∀ h, h < 256 → ∀ i, i < 8 → (xbit (nI h) (nI i) = 0 ↔ ¬ h.testBit i = true) := by decide +kernel
theorem plV_N (e : xe) (v : sv) (i : Nat) : ∃ k : Nat, k ≤ 9 ∧ plV e v i = nI k := by
  unfold plV
  split
  · exact X_clp_N _
  · exact ⟨0, by omega, rfl⟩
theorem plV_pos (e : xe) (v : sv) (i : Nat) : 0 < plV e v i ↔ ¬ plV e v i = 0 := by
  obtain ⟨k, hk, ek⟩ := plV_N e v i
  rw [ek]
  have h0 : (0 : Int32) = nI 0 := rfl
  rw [h0, nI_eq (by omega) (by omega), fa_lt', nI_toInt (by omega), nI_toInt (by omega)]
  omega
theorem dn_abs {e : xe} {v : sv} {i : Nat} (he : okE e) (hv : okV e v) (hi : i < eN e) : ∃ a b : Nat, a < 100 ∧ b < 100 ∧ X_abs (dnV e v i) = nI a ∧ X_abs (rtV e v i) = nI b := by
  obtain ⟨⟨e1, e2, e3, e4, e5, e6, e7⟩, e8, e9x, e10⟩ := he
  have hRC : eR e * eC e ≤ 36 := Nat.mul_le_mul e2 e4
  have w3 := (hv.2.2.2.2.2.2 i hi).2.2.1
  have hv0 := hv.1
  have h1 : (v 3 i - 1) / eC e ≤ v 3 i - 1 := Nat.div_le_self _ _
  have h2 : v 0 0 / eC e ≤ v 0 0 := Nat.div_le_self _ _
  have h3 : (v 3 i - 1) % eC e ≤ v 3 i - 1 := Nat.mod_le _ _
  have h4 : v 0 0 % eC e ≤ v 0 0 := Nat.mod_le _ _
  refine ⟨adf ((v 3 i - 1) / eC e) (v 0 0 / eC e), adf ((v 3 i - 1) % eC e) (v 0 0 % eC e), ?_, ?_, X_abs_adf (by omega) (by omega), X_abs_adf (by omega) (by omega)⟩
  · unfold adf
    generalize (v 3 i - 1) / eC e = x1 at *
    generalize v 0 0 / eC e = x2 at *
    omega
  · unfold adf
    generalize (v 3 i - 1) % eC e = x1 at *
    generalize v 0 0 % eC e = x2 at *
    omega
theorem X_abs_0 {z : Int32} (h : X_abs z = nI 0) : z = 0 := by
  unfold X_abs at h
  split at h
  · exact h
  · have : z = 0 - (0 - z) := by rw [Int32.sub_eq_add_neg, Int32.sub_eq_add_neg, Int32.zero_add, Int32.zero_add, Int32.neg_neg]
    rw [this, h]; rfl
theorem act_c {v : sv} {i : Nat} (h : actV v i = true) : ¬ v 3 i = 0 ∧ ¬ v 3 i - 1 = v 0 0 := by
  refine ⟨fun q => actV_f (Or.inl q) h, fun q => actV_f (Or.inr (Or.inl q)) h⟩
theorem nI_sub0 {a b : Nat} (ha : a < 100) (hb : b < 100) : (nI a - nI b = 0 ↔ a = b) ∧ (nI a - nI b < 0 ↔ a < b) := by
  have e := pk_sub_toInt (a := a) (b := b) (by omega) (by omega)
  constructor
  · rw [← Int32.toInt_inj, e]
    have : (0 : Int32).toInt = 0 := rfl
    rw [this]; omega
  · rw [fa_lt', e]
    have : (0 : Int32).toInt = 0 := rfl
    rw [this]; omega
theorem wy_w {e : xe} {v : sv} {i : Nat} (he : okE e) (hv : okV e v) (hi : i < eN e) (h : actV v i = true) : (w2V e v i = -1 → wyV e v i = w1n e v i ∧ ¬ wyV e v i = 4) ∧ (¬ w2V e v i = -1 → wyV e v i = 4 ∧ hUp (dnV e v i) = w1n e v i ∧ rlV e v i = w2n e v i) := by
  obtain ⟨a, b, ha, hb, ea, eb⟩ := dn_abs he hv hi
  obtain ⟨g1, g2⟩ := act_c h
  obtain ⟨s1, s2⟩ := nI_sub0 ha hb
  have hab : nI a = nI b ↔ a = b := nI_eq (by omega) (by omega)
  have hle : nI b ≤ nI a ↔ b ≤ a := by rw [fa_le', nI_toInt (by omega), nI_toInt (by omega)]; omega
  have hw2 : w2V e v i = -1 ↔ ¬ (a = b ∧ eK e i = 3) := by
    unfold w2V hF2
    rw [ea, eb]
    by_cases c : nI a - nI b = 0 ∧ eK e i = 3
    · rw [if_pos c]
      refine ⟨fun q => ?_, fun q => absurd ⟨s1.mp c.1, c.2⟩ q⟩
      rcases hLv_le (rtV e v i) with z | z <;> rw [z] at q <;> exact absurd q (by decide)
    · rw [if_neg c]
      exact ⟨fun _ q => c ⟨s1.mpr q.1, q.2⟩, fun _ => rfl⟩
  have htm : tmV e v i ↔ a = b := by
    unfold tmV
    rw [ea, eb, hab]
    exact ⟨fun q => q.2.2, fun q => ⟨g1, g2, q⟩⟩
  have hrl : ¬ b = 0 → rlV e v i = hLv (rtV e v i) := by
    intro q
    have hne : ¬ rtV e v i = 0 := fun z => by
      have : X_abs (rtV e v i) = nI 0 := by rw [z]; rfl
      rw [eb] at this
      exact q ((nI_eq (by omega) (by omega)).mp this)
    unfold rlV hLv
    by_cases c : 0 < rtV e v i
    · rw [if_pos c, if_pos (by rw [fa_lt'] at c; rw [fa_le']; omega)]
    · rw [if_neg c, if_neg (fun z => by
        rw [fa_lt'] at c
        rw [fa_le'] at z
        exact hne (Int32.toInt_inj.mp (by omega)))]
  have hwb : wbV e v i = if nI a - nI b < 0 then hLv (rtV e v i) else hUp (dnV e v i) := by
    unfold wbV
    rw [ea, eb]
    by_cases c : a < b
    · rw [if_neg (fun z => by have := hle.mp z; omega), if_pos (s2.mpr c)]
      exact hrl (by omega)
    · rw [if_pos (hle.mpr (by omega)), if_neg (fun z => c (s2.mp z))]
  have hw1 : w1n e v i = (wbV e v i + hTn (eK e i)) % 4 := by
    unfold w1n
    rw [ea, eb, hwb]
  have hwl : wbV e v i ≤ 3 := by
    have := rl_le e v i
    have := hUp_le (dnV e v i)
    unfold wbV
    split <;> omega
  constructor
  · intro q
    have q2 := hw2.mp q
    have : wyV e v i = w1n e v i := by
      unfold wyV
      rw [if_neg (fun z => q2 ⟨htm.mp z.2, z.1⟩), hw1]
      unfold hTn
      by_cases c : eK e i = 1
      · rw [if_pos c, if_pos c]
      · rw [if_neg c, if_neg c]; omega
    refine ⟨this, ?_⟩
    have := w1n_lt e v i
    omega
  · intro q
    have q2 : a = b ∧ eK e i = 3 := Classical.not_not.mp (fun z => q (hw2.mpr z))
    have hup : hUp (dnV e v i) = w1n e v i := by
      rw [hw1, hwb, if_neg (fun z => by have := s2.mp z; omega), show hTn (eK e i) = 0 from if_neg (by omega)]
      have := hUp_le (dnV e v i)
      omega
    have hb0 : ¬ b = 0 := by
      intro z
      have z1 : dnV e v i = 0 := X_abs_0 (by rw [ea, q2.1, z])
      have z2 : rtV e v i = 0 := X_abs_0 (by rw [eb, z])
      obtain ⟨⟨e1, e2, e3, e4, e5, e6, e7⟩, e8, e9x, e10⟩ := he
      have hRC : eR e * eC e ≤ 36 := Nat.mul_le_mul e2 e4
      have w3 := (hv.2.2.2.2.2.2 i hi).2.2.1
      have hv0 := hv.1
      have h1 : (v 3 i - 1) / eC e ≤ v 3 i - 1 := Nat.div_le_self _ _
      have h2 : v 0 0 / eC e ≤ v 0 0 := Nat.div_le_self _ _
      have h3 : (v 3 i - 1) % eC e ≤ v 3 i - 1 := Nat.mod_le _ _
      have h4 : v 0 0 % eC e ≤ v 0 0 := Nat.mod_le _ _
      have y1 := congrArg Int32.toInt z1
      have y2 := congrArg Int32.toInt z2
      unfold dnV at y1
      unfold rtV at y2
      rw [pk_sub_toInt (by omega) (by omega)] at y1 y2
      have y0 : (0 : Int32).toInt = 0 := rfl
      rw [y0] at y1 y2
      have k1 := Nat.div_add_mod (v 3 i - 1) (eC e)
      have k2 := Nat.div_add_mod (v 0 0) (eC e)
      have k3 : (v 3 i - 1) / eC e = v 0 0 / eC e := by omega
      rw [k3] at k1
      omega
    refine ⟨?_, hup, hrl hb0⟩
    unfold wyV
    rw [if_pos ⟨q2.2, htm.mpr q2.1⟩]
theorem add_nt {f g : Nat → Int32} {w : Nat} {m : Int32} (hw : w < 4) (h : ∀ j, j < 4 → f j = ntY g j) : ∀ j, j < 4 → addF f w m j = ntY (upN g w (g w + m)) j := by
  intro j hj
  have k1 : ∀ a b c : Int32, a + b - c = a - c + b := fun a b c => by simp only [Int32.sub_eq_add_neg]; ac_rfl
  have k2 : ∀ a b c : Int32, a - (b + c) = a - b - c := fun a b c => by simp only [Int32.sub_eq_add_neg, Int32.neg_add]; ac_rfl
  unfold addF
  rcases (show w = 0 ∨ w = 1 ∨ w = 2 ∨ w = 3 by omega) with rfl | rfl | rfl | rfl <;> rcases (show j = 0 ∨ j = 1 ∨ j = 2 ∨ j = 3 by omega) with rfl | rfl | rfl | rfl <;> simp only [upN, ntY] <;> simp <;> simp only [h 0 (by omega), h 1 (by omega), h 2 (by omega), h 3 (by omega), ntY] <;> simp <;> first | rfl | (rw [k1]) | (rw [k2])
theorem upN_0 {g : Nat → Int32} {w : Nat} : upN g w (g w + nI 0) = g := by
  funext j
  unfold upN
  split
  · rename_i q; rw [q]; exact Int32.add_zero _
  · rfl
theorem ht_nt {e : xe} {v : sv} {m : Nat} {f g : Nat → Int32} (he : okE e) (hv : okV e v) (hm : m < 256) (h : ∀ j, j < 4 → f j = ntY g j) : ∀ n, n ≤ eN e → ∀ j, j < 4 → ntF e v (nI m) f n j = ntY (hdF e v m g n) j
  | 0, _ => h
  | n + 1, hn => by
    have ih := ht_nt he hv hm h n (by omega)
    show ∀ j, j < 4 → ntS e v (nI m) (ntF e v (nI m) f n) n j = ntY (hdS e v m (hdF e v m g n) n) j
    have h8 : eN e ≤ 8 := he.1.2.2.2.2.1
    have hx := xbit_0 m hm n (by omega)
    have hp := plV_pos e v n
    unfold ntS hdS
    by_cases c : xbit (nI m) (nI n) = 0 ∨ plV e v n = 0
    · rw [if_pos c, if_neg (fun q => c.elim (fun z => hx.mp z q.1) (fun z => (hp.mp q.2) z))]
      exact ih
    · have c1 : m.testBit n = true := Classical.not_not.mp (fun z => c (Or.inl (hx.mpr z)))
      have c2 : ¬ plV e v n = 0 := fun z => c (Or.inr z)
      rw [if_neg c, if_pos (show m.testBit n = true ∧ 0 < plV e v n from ⟨c1, hp.mpr c2⟩)]
      obtain ⟨k1, k2⟩ := wy_w he hv (show n < eN e by omega) (plV_act c2)
      by_cases d : w2V e v n = -1
      · obtain ⟨q1, q2⟩ := k1 d
        rw [if_pos d, if_neg q2, q1, upN_0]
        exact add_nt (w1n_lt e v n) ih
      · obtain ⟨q1, q2, q3⟩ := k2 d
        rw [if_neg d, if_pos q1, q2, q3]
        exact add_nt (w2n_lt e v n) (add_nt (w1n_lt e v n) ih)
theorem bs_nt {f g : Nat → Int32} (h : ∀ j, j < 4 → f j = ntY g j) : ∀ w, w < 4 → bsV f (w + 1) = if 0 < ntY g (bsY g w) then (bsY g w + 1, ntY g (bsY g w)) else (0, nI 0)
  | 0, _ => by
    show (if (bsV f 0).2 < f 0 then (0 + 1, f 0) else bsV f 0) = _
    rw [h 0 (by omega)]
    rfl
  | w + 1, hw => by
    have ih := bs_nt h w (by omega)
    show (if (bsV f (w + 1)).2 < f (w + 1) then (w + 1 + 1, f (w + 1)) else bsV f (w + 1)) = if 0 < ntY g (if ntY g (bsY g w) < ntY g (w + 1) then w + 1 else bsY g w) then ((if ntY g (bsY g w) < ntY g (w + 1) then w + 1 else bsY g w) + 1, ntY g (if ntY g (bsY g w) < ntY g (w + 1) then w + 1 else bsY g w)) else (0, nI 0)
    rw [ih, h (w + 1) (by omega)]
    have h0 : (nI 0 : Int32) = 0 := rfl
    by_cases c : 0 < ntY g (bsY g w)
    · rw [if_pos c]
      by_cases d : ntY g (bsY g w) < ntY g (w + 1)
      · rw [if_pos d]
        simp only [if_pos d]
        rw [if_pos (by rw [fa_lt'] at *; omega)]
      · rw [if_neg d]
        simp only [if_neg d]
        rw [if_pos c]
    · rw [if_neg c]
      by_cases d : ntY g (bsY g w) < ntY g (w + 1)
      · simp only [if_pos d]
        rw [h0]
      · simp only [if_neg d]
        rw [if_neg c, if_neg (by rw [h0]; rw [fa_lt'] at *; omega)]
def g4 (b : Nat) : Nat := if b = 0 then 4 else b - 1
theorem go_goY {e : xe} {v : sv} {m : Nat} {g : Nat → Int32} (he : okE e) (hv : okV e v) (hm : m < 256) (hg : ∀ j, j < 4 → g j = nI 0) : goY e v (hdF e v m g (eN e)) = g4 (goV e v (nI m)) ∧ ∀ j, j < 4 → ntY (hdF e v m g (eN e)) j = ntF e v (nI m) (fun _ => nI 0) (eN e) j := by
  have hn := ht_nt (f := fun _ => nI 0) (g := g) he hv hm (fun j hj => by unfold ntY; rw [hg j hj, hg _ (by omega)]; rfl) (eN e) (Nat.le_refl _)
  refine ⟨?_, fun j hj => (hn j hj).symm⟩
  have hb := bs_nt hn 3 (by omega)
  have hle := bsY_le (hdF e v m g (eN e)) 3
  have he0 := he
  obtain ⟨⟨e1, e2, e3, e4, e5, e6, e7⟩, e8, e9x, e10⟩ := he
  have hRC : eR e * eC e ≤ 36 := Nat.mul_le_mul e2 e4
  have hv0 := hv.1
  unfold goY goV
  dsimp only
  rw [hb]
  by_cases c : 0 < ntY (hdF e v m g (eN e)) (bsY (hdF e v m g (eN e)) 3)
  · rw [if_pos c]
    dsimp only
    rw [if_neg (show ¬ bsY (hdF e v m g (eN e)) 3 + 1 = 0 by omega), Nat.add_sub_cancel]
    have hnl : ¬ ntY (hdF e v m g (eN e)) (bsY (hdF e v m g (eN e)) 3) ≤ 0 := fun q => fa_nlt2 c q
    by_cases d : X_bes (eR e) (eC e) (v 0 0) (bsY (hdF e v m g (eN e)) 3) = -1 ∨ ¬ eB e (X_bes (eR e) (eC e) (v 0 0) (bsY (hdF e v m g (eN e)) 3)).toNatClampNeg = 0
    · rw [if_pos d]
      exact if_pos (Or.inr (d.elim (fun z => Or.inl (by rw [z]; decide)) Or.inr))
    · rw [if_neg d]
      refine (if_neg ?_).trans ?_
      · rintro (q | q | q)
        · exact hnl q
        · rcases bes_in (eR e) (by omega) (eC e) (by omega) (v 0 0) (by omega) (bsY (hdF e v m g (eN e)) 3) (by omega) hv0 with z | z
          · exact d (Or.inl z)
          · have z3 := z.2.2
            rw [fa_lt'] at q
            have : (0 : Int32).toInt = 0 := rfl
            omega
        · exact d (Or.inr q)
      · unfold g4
        rw [if_neg (show ¬ bsY (hdF e v m g (eN e)) 3 + 1 = 0 by omega), Nat.add_sub_cancel]
  · rw [if_neg c]
    dsimp only
    rw [if_pos rfl]
    exact if_pos (Or.inl (fa_nlt c))
def PYg : Nat → Prop := fun a => a = 167 ∨ a = 168 ∨ a = 169 ∨ a = 170
theorem PYg_n {c : Nat} (h : c < 167 ∨ 170 < c) : ¬ PYg c := by unfold PYg; omega
theorem y_goesBy {l : xLa} {d : Nat} {σ : xs} {b ms : Nat} {e : xe} {v : sv} (hb : isY b) (hm8 : ms < 256) (he : okE e) (hv : okV e v) (hE : EYb σ e) (hS : SY σ b (eN e) v) (hM : ∀ j, j < eN e → si σ 169 j = plV e v j) : TC l M_Y_goesBy (d + 5) [.ref 154, .ref b, .int (nI ms)] σ (fun r τ => r = some (.int (nI (g4 (goV e v (nI ms))))) ∧ Sc (fun a => a = 170) σ τ ∧ ∀ j, j < 4 → ntY (si τ 170) j = ntF e v (nI ms) (fun _ => nI 0) (eN e) j) := by
  refine T.mono (y_goesBy0 hb hm8 he hv hE hS hM) ?_
  intro r τ q
  obtain ⟨k1, k2⟩ := go_goY (g := cpN (fun _ => nI 0) (si σ 170) 4) he hv hm8 (fun j hj => if_pos hj)
  obtain ⟨rfl, rfl⟩ := q
  refine ⟨by rw [k1], Sc.wA rfl, fun j hj => ?_⟩
  rw [show si (wA σ 170 (hdF e v ms (cpN (fun _ => nI 0) (si σ 170) 4) (eN e))) 170 = hdF e v ms (cpN (fun _ => nI 0) (si σ 170) 4) (eN e) from by funext k; rw [si_wA, if_pos rfl]]
  exact k2 j hj
