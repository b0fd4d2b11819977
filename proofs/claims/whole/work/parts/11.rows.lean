theorem trW_uI {ad : Nat → Nat} {dA : Nat → ClassId} {h : xH} {a t n i : Nat} {v : Int32} (hsh : h.1[a]? = some (1, t, n)) : trW ad dA (uI h a i v) = (trW ad dA h).set a (ad a, .inl (dA t, n, .inl (upd (hI h a) i v))) := (trW_upd (h := h) (h' := uI h a i v) rfl hsh xCell_uI xCell_uI_o).symm
theorem trW_uJ {ad : Nat → Nat} {dA : Nat → ClassId} {h : xH} {a t n i : Nat} {v : Int64} (hsh : h.1[a]? = some (2, t, n)) : trW ad dA (uJ h a i v) = (trW ad dA h).set a (ad a, .inl (dA 4, n, .inr (.inl (vp_updL (hJ h a) i v)))) := (trW_upd (h := h) (h' := uJ h a i v) rfl hsh xCell_uJ xCell_uJ_o).symm
theorem trW_uR {ad : Nat → Nat} {dA : Nat → ClassId} {h : xH} {a t n i v : Nat} (hsh : h.1[a]? = some (3, t, n)) : trW ad dA (uR h a i (some v)) = (trW ad dA h).set a (ad a, .inl (dA t, n, .inr (.inr (.inr (.inr (va_up (fun j => (hR h a j).map ad) i (some (ad v)))))))) := (trW_upd (h := h) (h' := uR h a i (some v)) rfl hsh xCell_uR xCell_uR_o).symm
section
variable {l : xLa} {M : mT} {d pc uc us len : Nat} {lv : List (Option Value)} {st : List Value} {h : xH} {Q : Option Value → xH → Prop} {x : xS}
theorem v_ial {t u : Nat} (hs : s_ial t u len pc lv st h = some x) : ∃ i a r w n, st = .int i :: .ref a :: r ∧ h.1[a]? = some (1, w, n) ∧ (w = t ∨ w = u) ∧ len = 1 ∧ vp_in i n ∧ x = (pc + 1, lv, .int (hI h a i.toNatClampNeg) :: r, h) := by
  unfold s_ial at hs
  split at hs
  · split at hs
    · rename_i w n hsh
      split at hs
      · rename_i e; obtain ⟨h1, h2, h3⟩ := e; cases hs
        exact ⟨_, _, _, _, _, rfl, hsh, h1, h2, h3, rfl⟩
      · cases hs
    · cases hs
  · cases hs
theorem v_ias {t u : Nat} (hs : s_ias t u len pc lv st h = some x) : ∃ y i a r w n, st = .int y :: .int i :: .ref a :: r ∧ h.1[a]? = some (1, w, n) ∧ (w = t ∨ w = u) ∧ len = 1 ∧ vp_in i n ∧ x = (pc + 1, lv, r, uI h a i.toNatClampNeg (xkp w y)) := by
  unfold s_ias at hs
  split at hs
  · split at hs
    · rename_i w n hsh
      split at hs
      · rename_i e; obtain ⟨h1, h2, h3⟩ := e; cases hs
        exact ⟨_, _, _, _, _, _, rfl, hsh, h1, h2, h3, rfl⟩
      · cases hs
    · cases hs
  · cases hs
theorem e_iaload (hd : decode (mCd M) pc = .ok (.iaload, len)) (hs : s_ial 0 0 len pc lv st h = some x) (k : E l M d x.1 x.2.1 x.2.2.1 x.2.2.2 uc us Q) : E l M d pc lv st h uc us Q := by
  obtain ⟨i, a, r, w, n, rfl, hsh, hw, rfl, hi, rfl⟩ := v_ial hs
  obtain rfl : w = 0 := by omega
  intro p e s m args below meth c D dA A ad H locs ls Qc free C SX hP hD hS hL hf hu hQ
  obtain ⟨hx, hb, hr, hlk, hml, hown, hts, hA, hK, hin⟩ := id C
  exact va_iald hx hb hK hP a 0 (trW_at (ad := ad) (dA := dA) hsh) (xtys_at (by decide)) hi hd (k p e s m args below meth c D dA A ad H locs ls Qc free C SX hP hD hS hL hf hu hQ)
theorem e_baload (hd : decode (mCd M) pc = .ok (.baload, len)) (hs : s_ial 1 2 len pc lv st h = some x) (k : E l M d x.1 x.2.1 x.2.2.1 x.2.2.2 uc us Q) : E l M d pc lv st h uc us Q := by
  obtain ⟨i, a, r, w, n, rfl, hsh, hw, rfl, hi, rfl⟩ := v_ial hs
  intro p e s m args below meth c D dA A ad H locs ls Qc free C SX hP hD hS hL hf hu hQ
  obtain ⟨hx, hb, hr, hlk, hml, hown, hts, hA, hK, hin⟩ := id C
  rcases hw with rfl | rfl
  · exact va_zald hx hb hK hP a 1 (trW_at (ad := ad) (dA := dA) hsh) (xtys_at (by decide)) hi hd (k p e s m args below meth c D dA A ad H locs ls Qc free C SX hP hD hS hL hf hu hQ)
  · exact va_bald hx hb hK hP a 2 (trW_at (ad := ad) (dA := dA) hsh) (xtys_at (by decide)) hi hd (k p e s m args below meth c D dA A ad H locs ls Qc free C SX hP hD hS hL hf hu hQ)
theorem e_caload (hd : decode (mCd M) pc = .ok (.caload, len)) (hs : s_ial 3 3 len pc lv st h = some x) (k : E l M d x.1 x.2.1 x.2.2.1 x.2.2.2 uc us Q) : E l M d pc lv st h uc us Q := by
  obtain ⟨i, a, r, w, n, rfl, hsh, hw, rfl, hi, rfl⟩ := v_ial hs
  obtain rfl : w = 3 := by omega
  intro p e s m args below meth c D dA A ad H locs ls Qc free C SX hP hD hS hL hf hu hQ
  obtain ⟨hx, hb, hr, hlk, hml, hown, hts, hA, hK, hin⟩ := id C
  exact va_cald hx hb hK hP a 3 (trW_at (ad := ad) (dA := dA) hsh) (xtys_at (by decide)) hi hd (k p e s m args below meth c D dA A ad H locs ls Qc free C SX hP hD hS hL hf hu hQ)
theorem e_iastore (hd : decode (mCd M) pc = .ok (.iastore, len)) (hs : s_ias 0 0 len pc lv st h = some x) (k : E l M d x.1 x.2.1 x.2.2.1 x.2.2.2 uc us Q) : E l M d pc lv st h uc us Q := by
  obtain ⟨y, i, a, r, w, n, rfl, hsh, hw, rfl, hi, rfl⟩ := v_ias hs
  obtain rfl : w = 0 := by omega
  intro p e s m args below meth c D dA A ad H locs ls Qc free C SX hP hD hS hL hf hu hQ
  obtain ⟨hx, hb, hr, hlk, hml, hown, hts, hA, hK, hin⟩ := id C
  refine va_iast hx hb hK hP hD hS a 0 (trW_at (ad := ad) (dA := dA) hsh) (xtys_at (by decide)) hi hd (fun H1 locs1 hP1 hD1 hS1 => ?_)
  have hP1 : va_P D xcl (trW ad dA (uI h a i.toNatClampNeg y)) H1 := by rw [trW_uI hsh]; exact hP1
  have hD1 : va_D A (trW ad dA (uI h a i.toNatClampNeg y)) := by rw [trW_uI hsh]; exact hD1
  exact k p e s m args below meth c D dA A ad H1 locs1 ls Qc free C SX hP1 hD1 hS1 hL hf hu hQ
theorem e_bastore (hd : decode (mCd M) pc = .ok (.bastore, len)) (hs : s_ias 1 2 len pc lv st h = some x) (k : E l M d x.1 x.2.1 x.2.2.1 x.2.2.2 uc us Q) : E l M d pc lv st h uc us Q := by
  obtain ⟨y, i, a, r, w, n, rfl, hsh, hw, rfl, hi, rfl⟩ := v_ias hs
  intro p e s m args below meth c D dA A ad H locs ls Qc free C SX hP hD hS hL hf hu hQ
  obtain ⟨hx, hb, hr, hlk, hml, hown, hts, hA, hK, hin⟩ := id C
  rcases hw with rfl | rfl
  · refine va_zast hx hb hK hP hD hS a 1 (trW_at (ad := ad) (dA := dA) hsh) (xtys_at (by decide)) hi hd (fun H1 locs1 hP1 hD1 hS1 => ?_)
    have hP1 : va_P D xcl (trW ad dA (uI h a i.toNatClampNeg (vp_nar .boolean y))) H1 := by rw [trW_uI hsh]; exact hP1
    have hD1 : va_D A (trW ad dA (uI h a i.toNatClampNeg (vp_nar .boolean y))) := by rw [trW_uI hsh]; exact hD1
    exact k p e s m args below meth c D dA A ad H1 locs1 ls Qc free C SX hP1 hD1 hS1 hL hf hu hQ
  · refine va_bast hx hb hK hP hD hS a 2 (trW_at (ad := ad) (dA := dA) hsh) (xtys_at (by decide)) hi hd (fun H1 locs1 hP1 hD1 hS1 => ?_)
    have hP1 : va_P D xcl (trW ad dA (uI h a i.toNatClampNeg (vp_nar .byte y))) H1 := by rw [trW_uI hsh]; exact hP1
    have hD1 : va_D A (trW ad dA (uI h a i.toNatClampNeg (vp_nar .byte y))) := by rw [trW_uI hsh]; exact hD1
    exact k p e s m args below meth c D dA A ad H1 locs1 ls Qc free C SX hP1 hD1 hS1 hL hf hu hQ
theorem e_castore (hd : decode (mCd M) pc = .ok (.castore, len)) (hs : s_ias 3 3 len pc lv st h = some x) (k : E l M d x.1 x.2.1 x.2.2.1 x.2.2.2 uc us Q) : E l M d pc lv st h uc us Q := by
  obtain ⟨y, i, a, r, w, n, rfl, hsh, hw, rfl, hi, rfl⟩ := v_ias hs
  obtain rfl : w = 3 := by omega
  intro p e s m args below meth c D dA A ad H locs ls Qc free C SX hP hD hS hL hf hu hQ
  obtain ⟨hx, hb, hr, hlk, hml, hown, hts, hA, hK, hin⟩ := id C
  refine va_cast hx hb hK hP hD hS a 3 (trW_at (ad := ad) (dA := dA) hsh) (xtys_at (by decide)) hi hd (fun H1 locs1 hP1 hD1 hS1 => ?_)
  have hP1 : va_P D xcl (trW ad dA (uI h a i.toNatClampNeg (vp_nar .char y))) H1 := by rw [trW_uI hsh]; exact hP1
  have hD1 : va_D A (trW ad dA (uI h a i.toNatClampNeg (vp_nar .char y))) := by rw [trW_uI hsh]; exact hD1
  exact k p e s m args below meth c D dA A ad H1 locs1 ls Qc free C SX hP1 hD1 hS1 hL hf hu hQ
theorem e_laload (hd : decode (mCd M) pc = .ok (.laload, len)) (hs : s_lal len pc lv st h = some x) (k : E l M d x.1 x.2.1 x.2.2.1 x.2.2.2 uc us Q) : E l M d pc lv st h uc us Q := by
  unfold s_lal at hs
  split at hs
  · split at hs
    · rename_i w n hsh
      split at hs
      · rename_i e; obtain ⟨rfl, hi⟩ := e; cases hs
        intro p e s m args below meth c D dA A ad H locs ls Qc free C SX hP hD hS hL hf hu hQ
        obtain ⟨hx, hb, hr, hlk, hml, hown, hts, hA, hK, hin⟩ := id C
        exact va_lald hx hb hK hP _ 4 (trW_at (ad := ad) (dA := dA) hsh) (xtys_at (by decide)) hi hd (k p e s m args below meth c D dA A ad H locs ls Qc free C SX hP hD hS hL hf hu hQ)
      · cases hs
    · cases hs
  · cases hs
theorem e_lastore (hd : decode (mCd M) pc = .ok (.lastore, len)) (hs : s_las len pc lv st h = some x) (k : E l M d x.1 x.2.1 x.2.2.1 x.2.2.2 uc us Q) : E l M d pc lv st h uc us Q := by
  unfold s_las at hs
  split at hs
  · rename_i y i a r
    split at hs
    · rename_i w n hsh
      split at hs
      · rename_i e; obtain ⟨rfl, hi⟩ := e; cases hs
        intro p e s m args below meth c D dA A ad H locs ls Qc free C SX hP hD hS hL hf hu hQ
        obtain ⟨hx, hb, hr, hlk, hml, hown, hts, hA, hK, hin⟩ := id C
        refine va_last hx hb hK hP hD hS _ 4 (trW_at (ad := ad) (dA := dA) hsh) (xtys_at (by decide)) hi hd (fun H1 locs1 hP1 hD1 hS1 => ?_)
        have hP1 : va_P D xcl (trW ad dA (uJ h a i.toNatClampNeg y)) H1 := by rw [trW_uJ hsh]; exact hP1
        have hD1 : va_D A (trW ad dA (uJ h a i.toNatClampNeg y)) := by rw [trW_uJ hsh]; exact hD1
        exact k p e s m args below meth c D dA A ad H1 locs1 ls Qc free C SX hP1 hD1 hS1 hL hf hu hQ
      · cases hs
    · cases hs
  · cases hs
theorem trV_rf (ad : Nat → Nat) (r : Option Nat) : trV ad (va_rf r) = va_rf (r.map ad) := by cases r <;> rfl
theorem e_aaload (hd : decode (mCd M) pc = .ok (.aaload, len)) (hs : s_aal len pc lv st h = some x) (k : E l M d x.1 x.2.1 x.2.2.1 x.2.2.2 uc us Q) : E l M d pc lv st h uc us Q := by
  unfold s_aal at hs
  split at hs
  · rename_i i a r
    split at hs
    · rename_i t n hsh
      split at hs
      · rename_i e; obtain ⟨ht, rfl, hi⟩ := e; cases hs
        intro p e s m args below meth c D dA A ad H locs ls Qc free C SX hP hD hS hL hf hu hQ
        obtain ⟨hx, hb, hr, hlk, hml, hown, hts, hA, hK, hin⟩ := id C
        have kk := k p e s m args below meth c D dA A ad H locs ls Qc free C SX hP hD hS hL hf hu hQ
        dsimp only at kk
        rw [List.map_cons, trV_rf] at kk
        rcases ht with rfl | rfl
        · exact va_aldq hx hb hK hP a 5 (trW_at (ad := ad) (dA := dA) hsh) (xtys_at (by decide)) hi hd kk
        · have hat := trW_at (ad := ad) (dA := dA) hsh
          have hc : H[ad a]? = some (vp_cell (dA 6) (n, .inr (.inr (.inr (.inr (fun j => (hR h a j).map ad)))))) := hP a _ hat
          have hT := (hK.2 6 _ (xtys_at (by decide))).1
          have hcell : vp_cell (dA 6) (n, .inr (.inr (.inr (.inr (fun j => (hR h a j).map ad))))) = arrV (dA 6) n (fun j => va_rf ((hR h a j).map ad)) := rfl
          rw [hcell] at hc
          refine W.aald hx hb hc (hT n _) rfl ?_ ?_ ?_ rfl rfl hd kk
          · first | decide | simp [arrV]
          · first | (simpa [arrV] using hi) | exact hi
          · have hlt : i.toNatClampNeg < n := by
              rcases Nat.lt_or_ge i.toNatClampNeg n with q | q
              · exact q
              · exact absurd (Or.inr q) hi
            simp [arrV, hlt]
      · cases hs
    · cases hs
  · cases hs
theorem e_aastore (hd : decode (mCd M) pc = .ok (.aastore, len)) (hs : s_aas len pc lv st h = some x) (k : E l M d x.1 x.2.1 x.2.2.1 x.2.2.2 uc us Q) : E l M d pc lv st h uc us Q := by
  unfold s_aas at hs
  split at hs
  · rename_i v i a r
    split at hs
    · rename_i n nv hsh hsv
      split at hs
      · rename_i e; obtain ⟨rfl, hi⟩ := e; cases hs
        intro p e s m args below meth c D dA A ad H locs ls Qc free C SX hP hD hS hL hf hu hQ
        obtain ⟨hx, hb, hr, hlk, hml, hown, hts, hA, hK, hin⟩ := id C
        refine va_astq hx hb hK hP hD hS a 5 v 6 (r := ("FishFerry$State", xT 6, xN 6)) (trW_at (ad := ad) (dA := dA) hsh) (xtys_at (by decide)) (trW_at (ad := ad) (dA := dA) hsv) (xcl_at (by decide)) hi hd (fun H1 locs1 hP1 hD1 hS1 => ?_)
        have hP1 : va_P D xcl (trW ad dA (uR h a i.toNatClampNeg (some v))) H1 := by rw [trW_uR hsh]; exact hP1
        have hD1 : va_D A (trW ad dA (uR h a i.toNatClampNeg (some v))) := by rw [trW_uR hsh]; exact hD1
        exact k p e s m args below meth c D dA A ad H1 locs1 ls Qc free C SX hP1 hD1 hS1 hL hf hu hQ
      · cases hs
    · cases hs
  · cases hs
theorem e_len (hd : decode (mCd M) pc = .ok (.arraylength, len)) (hs : s_len len pc lv st h = some x) (k : E l M d x.1 x.2.1 x.2.2.1 x.2.2.2 uc us Q) : E l M d pc lv st h uc us Q := by
  unfold s_len at hs
  split at hs
  · rename_i a r
    split at hs
    · rename_i t w n hsh
      split at hs
      · rename_i e; obtain ⟨rfl, ht, hw⟩ := e; cases hs
        intro p e s m args below meth c D dA A ad H locs ls Qc free C SX hP hD hS hL hf hu hQ
        obtain ⟨hx, hb, hr, hlk, hml, hown, hts, hA, hK, hin⟩ := id C
        rcases ht with rfl | rfl | rfl
        · exact va_alen hx hb hK hP a w (trW_at (ad := ad) (dA := dA) hsh) (xtys_at hw) rfl hd (k p e s m args below meth c D dA A ad H locs ls Qc free C SX hP hD hS hL hf hu hQ)
        · exact va_alen hx hb hK hP a 4 (trW_at (ad := ad) (dA := dA) hsh) (xtys_at (by decide)) rfl hd (k p e s m args below meth c D dA A ad H locs ls Qc free C SX hP hD hS hL hf hu hQ)
        · exact va_alen hx hb hK hP a w (trW_at (ad := ad) (dA := dA) hsh) (xtys_at hw) rfl hd (k p e s m args below meth c D dA A ad H locs ls Qc free C SX hP hD hS hL hf hu hQ)
      · cases hs
    · cases hs
  · cases hs
theorem e_tab {dflt lo hi : Int} {offs : Array Int} (hd : decode (mCd M) pc = .ok (.tableswitch dflt lo hi offs, len)) (hs : s_tab pc lv st h dflt lo hi offs = some x) (k : E l M d x.1 x.2.1 x.2.2.1 x.2.2.2 uc us Q) : E l M d pc lv st h uc us Q := by
  unfold s_tab at hs
  split at hs
  · rename_i y r
    split at hs
    · rename_i ho
      split at hs
      · rename_i t ht; cases hs
        intro p e s m args below meth c D dA A ad H locs ls Qc free C SX hP hD hS hL hf hu hQ
        obtain ⟨hx, hb, hr, hlk, hml, hown, hts, hA, hK, hin⟩ := id C
        exact lv_tableOut hx hb hd ho (xj_ok ht) (k p e s m args below meth c D dA A ad H locs ls Qc free C SX hP hD hS hL hf hu hQ)
      · cases hs
    · rename_i ho
      split at hs
      · rename_i off hoff
        split at hs
        · rename_i t ht; cases hs
          intro p e s m args below meth c D dA A ad H locs ls Qc free C SX hP hD hS hL hf hu hQ
          obtain ⟨hx, hb, hr, hlk, hml, hown, hts, hA, hK, hin⟩ := id C
          exact lv_tableIn hx hb hd (fun q => ho (Or.inl q)) (fun q => ho (Or.inr q)) hoff (xj_ok ht) (k p e s m args below meth c D dA A ad H locs ls Qc free C SX hP hD hS hL hf hu hQ)
        · cases hs
      · cases hs
  · cases hs
theorem e_lku {dflt : Int} {ps : Array (Int × Int)} (hd : decode (mCd M) pc = .ok (.lookupswitch dflt ps, len)) (hs : s_lku pc lv st h dflt ps = some x) (k : E l M d x.1 x.2.1 x.2.2.1 x.2.2.2 uc us Q) : E l M d pc lv st h uc us Q := by
  unfold s_lku at hs
  split at hs
  · rename_i y r
    split at hs
    · rename_i ho
      split at hs
      · rename_i t ht; cases hs
        intro p e s m args below meth c D dA A ad H locs ls Qc free C SX hP hD hS hL hf hu hQ
        obtain ⟨hx, hb, hr, hlk, hml, hown, hts, hA, hK, hin⟩ := id C
        exact lv_lookup hx hb hd ho rfl (xj_ok ht) (k p e s m args below meth c D dA A ad H locs ls Qc free C SX hP hD hS hL hf hu hQ)
      · cases hs
    · cases hs
  · cases hs
theorem xPL_w {o i z p : Nat} (h : xlk xPL o i = some (z, p)) : Cond.methodLink (xown.getD o "") i (xPLn z) ∈ xG := by
  have h1 := (xPL_ok o (show o < 28 from xlk_lt h) _ (xlk_mem h)).1
  exact xG_at h1 rfl
theorem xMath_w : (Cond.static Lib.Math.max.name ∈ xG ∧ Cond.static Lib.Math.min.name ∈ xG ∧ Cond.static Lib.Math.abs.name ∈ xG) ∧ Cond.initialized "java/lang/Math" ∈ xG ∧ Cond.instanceMethod objectInit ∈ xG := by decide +kernel
theorem xMax_c : Cond.code Lib.Math.max.name Lib.Math.max.code 2 (some .int) ∈ xG := xG_of cw_Math_max rfl
theorem xMin_c : Cond.code Lib.Math.min.name Lib.Math.min.code 2 (some .int) ∈ xG := xG_of cw_Math_min rfl
theorem xAbs_c : Cond.code Lib.Math.abs.name Lib.Math.abs.code 1 (some .int) ∈ xG := xG_of cw_Math_abs rfl
theorem xObj_c : Cond.code objectInit ⟨#[0xb1]⟩ 1 none ∈ xG := xG_of cw_Object_init rfl
theorem e_prm {i : Nat} (h1 : 1 ≤ d) (hd : decode (mCd M) pc = .ok (.invokestatic i, len)) (hs : s_prm M len pc lv st h i = some x) (k : E l M d x.1 x.2.1 x.2.2.1 x.2.2.2 uc us Q) : E l M d pc lv st h uc us Q := by
  unfold s_prm at hs
  split at hs
  · rename_i z y x r hz
    split at hs
    · rename_i e; obtain ⟨rfl, hc⟩ := e; cases hs
      intro p e s m args below meth c D dA A ad H locs ls Qc free C SX hP hD hS hL hf hu hQ
      obtain ⟨hx, hb, hr, hlk, hml, hown, hts, hA, hK, hin⟩ := id C
      exact va_mmax hx hb (hml.trans hL.1.symm) hown (hts _ (xPL_w hz)) (hts _ xMath_w.1.1) (hts _ xMath_w.2.1) (hts _ xMax_c) h1 (by rw [trV_cats]; show _ ≤ 41 * d + 32; omega) hu.1 hu.2 hd (k p e s m args below meth c D dA A ad H locs ls Qc free C SX hP hD hS hL hf hu hQ)
    · cases hs
  · rename_i z y x r hz
    split at hs
    · rename_i e; obtain ⟨rfl, hc⟩ := e; cases hs
      intro p e s m args below meth c D dA A ad H locs ls Qc free C SX hP hD hS hL hf hu hQ
      obtain ⟨hx, hb, hr, hlk, hml, hown, hts, hA, hK, hin⟩ := id C
      exact va_mmin hx hb (hml.trans hL.1.symm) hown (hts _ (xPL_w hz)) (hts _ xMath_w.1.2.1) (hts _ xMath_w.2.1) (hts _ xMin_c) h1 (by rw [trV_cats]; show _ ≤ 41 * d + 32; omega) hu.1 hu.2 hd (k p e s m args below meth c D dA A ad H locs ls Qc free C SX hP hD hS hL hf hu hQ)
    · cases hs
  · rename_i z x r hz
    split at hs
    · rename_i e; obtain ⟨rfl, hc⟩ := e; cases hs
      intro p e s m args below meth c D dA A ad H locs ls Qc free C SX hP hD hS hL hf hu hQ
      obtain ⟨hx, hb, hr, hlk, hml, hown, hts, hA, hK, hin⟩ := id C
      exact va_mabs hx hb (hml.trans hL.1.symm) hown (hts _ (xPL_w hz)) (hts _ xMath_w.1.2.2) (hts _ xMath_w.2.1) (hts _ xAbs_c) h1 (by rw [trV_cats]; show _ ≤ 41 * d + 32; omega) hu.1 hu.2 hd (k p e s m args below meth c D dA A ad H locs ls Qc free C SX hP hD hS hL hf hu hQ)
    · cases hs
  · cases hs
theorem e_obj {i : Nat} (h1 : 1 ≤ d) (hd : decode (mCd M) pc = .ok (.invokespecial i, len)) (hs : s_obj M len pc lv st h i = some x) (k : E l M d x.1 x.2.1 x.2.2.1 x.2.2.2 uc us Q) : E l M d pc lv st h uc us Q := by
  unfold s_obj at hs
  split at hs
  · rename_i z y r hz
    split at hs
    · rename_i e; obtain ⟨rfl, hc⟩ := e; cases hs
      intro p e s m args below meth c D dA A ad H locs ls Qc free C SX hP hD hS hL hf hu hQ
      obtain ⟨hx, hb, hr, hlk, hml, hown, hts, hA, hK, hin⟩ := id C
      refine W.objInit hx hb hown (hts _ (xPL_w hz)) (hts _ xMath_w.2.2) (hts _ xObj_c) rfl (by rw [hml]; exact hL.1) rfl hd h1 ?_ (k p e s m args below meth c D dA A ad H locs ls Qc free C SX hP hD hS hL hf hu hQ)
      have := lv_room (m := m) (pc := pc) (ls := ls) (rest := (Value.ref y :: r).map (trV ad)) (st := r.map (trV ad)) (by rw [trV_cats]; exact hc)
      show _ ≤ 41 * d + 32
      omega
    · cases hs
  · cases hs
end
