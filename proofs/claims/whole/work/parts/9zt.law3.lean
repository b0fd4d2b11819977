/-! The law's cases one, field, row. Printed by wip/whole/h_law3.py. -/
theorem XW.o {σ : xs} {w : wv} {j : Nat} {x : Int64} (h : XW σ w) : XW (wJ σ 189 j x) w := by
  obtain ⟨a, b, c, d, e, f, g⟩ := h
  refine ⟨a, b, c, ⟨d.1, fun i hi => ?_⟩, e, f, g⟩
  show up2 (sj σ) 189 j x 4 i = _
  rw [up2_o (by decide)]
  exact d.2 i hi
theorem YW.o {σ : xs} {c : Nat} {w : wv} {j : Nat} {x : Int64} (h : YW σ c w) : YW (wJ σ 189 j x) c w := by
  obtain ⟨a, b, t, d, e, f, g⟩ := h
  refine ⟨a, b, t, ⟨d.1, fun i hi => ?_⟩, e, f, g⟩
  show up2 (sj σ) 189 j x 155 i = _
  rw [up2_o (by decide)]
  exact d.2 i hi
theorem inN_some {i : Int32} {n m : Nat} (h : inN i n = some m) : m < n ∧ i = nI m := by
  unfold inN at h
  split at h
  · rename_i g
    cases h
    refine ⟨by omega, ?_⟩
    have h1 : ((i.toInt.toNat : Nat) : Int) = i.toInt := Int.toNat_of_nonneg g.1
    have hlt : i.toInt < 2 ^ 31 := Int32.toInt_lt i
    apply Int32.toInt_inj.mp
    rw [nI_toInt (by omega)]
    omega
  · cases h
theorem rgN_some {i : Int32} {n m : Nat} (h : rgN i 0 n = some m) : m ≤ n ∧ i = nI m := by
  unfold rgN at h
  split at h
  · rename_i g
    cases h
    refine ⟨by omega, ?_⟩
    have h1 : ((i.toInt.toNat : Nat) : Int) = i.toInt := Int.toNat_of_nonneg (by omega)
    have hlt : i.toInt < 2 ^ 31 := Int32.toInt_lt i
    apply Int32.toInt_inj.mp
    rw [nI_toInt (by omega)]
    omega
  · cases h
section
variable {l : xLa} {M M' : mT} {d d' pc uc us i : Nat} {lv lv' : List (Option Value)} {st rest : List Value} {h : xH} {σ : xs} {Q : Option Value → xH → Prop}
theorem E.weak (hw : ∀ (j : Nat) (v : Value), lv'[j]? = some (some v) → lv[j]? = some (some v)) (k : E l M d pc lv' st h uc us Q) : E l M d pc lv st h uc us Q := by
  intro p e s m args below meth c D dA A ad H locs ls Qc free C SX hP hD hS hL hf hu hQ
  exact k p e s m args below meth c D dA A ad H locs ls Qc free C SX hP hD hS ⟨hL.1, hL.2.1, fun j v hv => hL.2.2 j v (hw j v hv)⟩ hf hu hQ
theorem llv_weak {a b c : Option Value} : ∀ (j : Nat) (v : Value), (LLV i)[j]? = some (some v) → ([some (.ref (xB + 40)), some (.ref 0), some (.ref 154), some (.ref 189), some (.int (nI i)), a, b, c] : List (Option Value))[j]? = some (some v) := by
  intro j v hj
  match j, hj with
  | 0, hj => exact hj
  | 1, hj => exact hj
  | 2, hj => exact hj
  | 3, hj => exact hj
  | 4, hj => exact hj
  | 5, hj => cases hj
  | 6, hj => cases hj
  | 7, hj => cases hj
  | j + 8, hj => cases hj
theorem oe_istore2 {j : Nat} {v : Int32} (hd : decode (mCd M) pc = .ok (.istore j, 2)) (hi : j < mLo M) (hl : xst1 lv j (.int v) = lv') (k : E l M (d + 1) (pc + 2) lv' st h uc us Q) : E l M (d + 1) pc lv (.int v :: st) h uc us Q :=
  E.step (x := (pc + 2, lv', st, h)) (Nat.le_add_left 1 d) hd (by subst hl; show s_st M 2 2 pc lv (.int v :: st) h 0 j = _; unfold s_st; simp [hi]) k
theorem oe_lstore2 {j : Nat} {v : Int64} (hd : decode (mCd M) pc = .ok (.lstore j, 2)) (hi : j + 1 < mLo M) (hl : xst2 lv j (.long v) = lv') (k : E l M (d + 1) (pc + 2) lv' st h uc us Q) : E l M (d + 1) pc lv (.long v :: st) h uc us Q :=
  E.step (x := (pc + 2, lv', st, h)) (Nat.le_add_left 1 d) hd (by subst hl; show s_st M 2 2 pc lv (.long v :: st) h 1 j = _; unfold s_st; simp [hi]) k
theorem oe_lload2 {j : Nat} {v : Int64} (hd : decode (mCd M) pc = .ok (.lload j, 2)) (hv : (lv[j]?).join = some (.long v)) (k : E l M (d + 1) (pc + 2) lv (.long v :: st) h uc us Q) : E l M (d + 1) pc lv st h uc us Q :=
  E.step (x := (pc + 2, lv, .long v :: st, h)) (Nat.le_add_left 1 d) hd (by show s_ld 2 2 pc lv st h 1 j = _; unfold s_ld; rw [hv]; rfl) k
theorem oe_lald {v : Int64} (hd : decode (mCd M) pc = .ok (.laload, 1)) (hv : sj σ 189 0 = v) (k : E l M (d + 1) (pc + 1) lv (.long v :: st) (mk σ) uc us Q) : E l M (d + 1) pc lv (.int 0 :: .ref 189 :: st) (mk σ) uc us Q :=
  E.step (x := (pc + 1, lv, .long v :: st, mk σ)) (Nat.le_add_left 1 d) hd (by
    show s_lal 1 pc lv (.int 0 :: .ref 189 :: st) (mk σ) = _
    unfold s_lal
    have hs : (mk σ).1[189]? = some (2, 4, 1) := rfl
    simp only [hs]
    rw [if_pos ⟨trivial, by decide⟩]
    subst hv
    rfl) k
theorem la_ifne0 {off : Int} (hd : decode (mCd M) pc = .ok (.ifCond .ne off, 3)) {t : Nat} (ht : xj pc off = some t) (k : E l M (d + 1) (pc + 3) lv st h uc us Q) : E l M (d + 1) pc lv (.int 0 :: st) h uc us Q := by
  refine E.step (x := (if ¬ (0 : Int32) = 0 then t else pc + 3, lv, st, h)) (Nat.le_add_left 1 d) hd (by show s_if (fun x => ¬ x = 0) 3 pc lv _ h off = _; unfold s_if; simp only [ht]; rfl) ?_
  dsimp only
  rw [if_neg (fun g => g rfl)]
  exact k
theorem la_ifne1 {off : Int} (hd : decode (mCd M) pc = .ok (.ifCond .ne off, 3)) {t : Nat} (ht : xj pc off = some t) (k : E l M (d + 1) t lv st h uc us Q) : E l M (d + 1) pc lv (.int 1 :: st) h uc us Q := by
  refine E.step (x := (if ¬ (1 : Int32) = 0 then t else pc + 3, lv, st, h)) (Nat.le_add_left 1 d) hd (by show s_if (fun x => ¬ x = 0) 3 pc lv _ h off = _; unfold s_if; simp only [ht]; rfl) ?_
  dsimp only
  rw [if_pos (by decide)]
  exact k
/-- a call of one of the law's own methods -/
theorem la_callL {as : List Value} {j : Nat} {hh : List (Nat × Nat × Nat × Nat)} {Q' : Option Value → xH → Prop} (hct : CtC l M' hh d' as (mk σ) Q') (hw : Cond.methodLink "FishFerryLaw" j (mY M') ∈ xG ∧ Cond.static (mY M') ∈ xG ∧ Cond.initialized (mY M').cls ∈ xG ∧ Cond.codeWith (mY M') (mCd M') (mLo M') (mRt M') hh ∈ xG) (hpl : plainName (mY M').cls = true) (hown : mOwn M' = (mY M').cls) (h8 : mLo M' ≤ 21) (hmh : (mY M').cls ≠ "java/lang/invoke/MethodHandle" ∧ (mY M').cls ≠ "java/lang/invoke/VarHandle" ∧ (parseMethodDescriptor (mY M').desc).map (fun d => d.parameters.length) = some (mN M')) (hdd : d' + 1 ≤ 2048) (hd : decode (mCd M_L_law) pc = .ok (.invokestatic j, 3)) (hst : st = as.reverse ++ rest) (hn : as.length = mN M') (hln : (xEnt as).length ≤ mLo M') (hrest : (rest.map fun v => v.category).sum ≤ 8)
    (hb : uc + mBc M' ≤ mBc M_L_law ∧ us + mBs M' ≤ mBs M_L_law) (hlv : wfk 190 lv rest) (hlen : ∀ r h', Q' r h' → h'.1.length = 190) (k : ∀ r h', Q' r h' → E l M_L_law 2048 (pc + 3) lv (r.toList ++ rest) h' (uc + mBc M') (us + mBs M') Q) : E l M_L_law 2048 pc lv st (mk σ) uc us Q := by
  subst hst
  intro p e s m args below meth c D dA A ad H locs ls Qc free C SX hP hD hS hL hf hu hQ
  obtain ⟨hx, hb', hr, hlk, hml, hown', hts, hA, hK, hin⟩ := id C
  have hl0 : (mk σ).1.length = 190 := xSh_len
  refine xRunB (a := (as.map (trV ad)).toArray) C SX hD hS hL hf hb hQ (by decide) (by rw [hl0]; exact hlv) (fun r h' q => by rw [hl0, hlen r h' q]; exact Nat.le_refl _) ?_ k
  have hM := hct.met hpl hown hln D dA ad H.size
  have hG : GoodIn xG (va_wsS "FishFerryLaw" j (mY M') (xwC M' hh)) := xG_GoodIn (fun w hw' => by
    rcases List.mem_append.mp hw' with g | g
    · rcases List.mem_cons.mp g with rfl | g
      · exact hw.1
      · rcases List.mem_cons.mp g with rfl | g
        · exact hw.2.1
        · rcases List.mem_cons.mp g with rfl | g
          · exact hw.2.2.1
          · cases g
    · rcases List.mem_cons.mp g with rfl | g
      · exact hw.2.2.2
      · exact g)
  exact vx_runSW (own := "FishFerryLaw") (As := as.map (trV ad)) (rest := rest.map (trV ad)) ⟨hx, hb', hml, hown', hts⟩ hM (vx_cwSW (mN M') hts hG rfl rfl rfl hmh ⟨hdd, by show 8 + (mLo M' + 11) + (41 * d' + 32) ≤ 41 * 2048 + 32; omega⟩) ⟨xPc_blind, xPc_at C SX hP hD hS⟩ rfl (by rw [List.length_map]; exact hn) hL.1 (by simp) (lv_room (by rw [trV_cats]; exact hrest)) hd hb
theorem y_thr : TC l M_Y_thrown (d + 1) [.ref 154] σ (fun r τ => r = some (.int (sf σ 154 0)) ∧ τ = σ) := by
  show E l M_Y_thrown (d + 1) 0 [some (.ref 154)] [] (mk σ) 0 0 _
  refine oe_aload d_Y_thrown_0 rfl ?_
  refine oe_get d_Y_thrown_1 (by rfl) rfl (by decide) (mk_int (σ := σ) (a := 154) (k := 0) (by decide)) ?_
  exact E.iret rfl d_Y_thrown_4 ⟨σ, rfl, rfl, rfl⟩
end
theorem lw_w57 : Cond.methodLink "FishFerryLaw" 57 (mY M_L_one) ∈ xG ∧ Cond.static (mY M_L_one) ∈ xG ∧ Cond.initialized (mY M_L_one).cls ∈ xG ∧ Cond.codeWith (mY M_L_one) (mCd M_L_one) (mLo M_L_one) (mRt M_L_one) [(0, 10, 13, 13)] ∈ xG := by decide +kernel
theorem lw_w66 : Cond.methodLink "FishFerryLaw" 66 (mY M_L_field) ∈ xG ∧ Cond.static (mY M_L_field) ∈ xG ∧ Cond.initialized (mY M_L_field).cls ∈ xG ∧ Cond.codeWith (mY M_L_field) (mCd M_L_field) (mLo M_L_field) (mRt M_L_field) [(0, 10, 13, 13)] ∈ xG := by decide +kernel
theorem lw_w219 : Cond.methodLink "FishFerryLaw" 219 (mY M_L_row) ∈ xG ∧ Cond.static (mY M_L_row) ∈ xG ∧ Cond.initialized (mY M_L_row).cls ∈ xG ∧ Cond.codeWith (mY M_L_row) (mCd M_L_row) (mLo M_L_row) (mRt M_L_row) [(0, 8, 11, 13)] ∈ xG := by decide +kernel
theorem lc_one {l : xLa} {i k uc us c : Nat} {w : wv} {σ : xs} {Q : Option Value → xH → Prop} (hl : l.1.stackTraces = false) (hI : IV k w c σ) (hk : k < 512) (hi : i + 5 ≤ l.2.1) (hL : l.2.1 ≤ 2560) (hu : uc ≤ 190 + 512 ∧ us ≤ 8005 + 8 * 512) (K : ∀ σ2, IV (k + 1) w c σ2 → E l M_L_law 2048 1472 (LLV i) [] (mk σ2) (uc + 1) (us + 8) Q) : E l M_L_law 2048 355 (LLV i) [] (mk σ) uc us Q := by
  have hO := hI.2.2.1
  have hq := hO.q (by omega)
  refine oe_aload d_L_law_355 rfl ?_
  refine la_arg (i := i) (j := 1) d_L_law_356 d_L_law_357 d_L_law_359 d_L_law_360 d_L_law_361 rfl rfl (by decide) (by omega) hL ?_
  refine la_arg (i := i) (j := 2) d_L_law_362 d_L_law_363 d_L_law_365 d_L_law_366 d_L_law_367 rfl rfl (by decide) (by omega) hL ?_
  refine oe_aload d_L_law_368 rfl ?_
  cases h1 : inN (l.2.2 (i + 1)) (eN (wE w)) with
  | none =>
    have hn : inN (l.2.2 (i + 1)) (eN (wE w)) = none ∨ rgN (l.2.2 (i + 2)) 0 8 = none := Or.inl h1
    refine la_callL (as := [.ref 0, .int (l.2.2 (i + 1)), .int (l.2.2 (i + 2)), .ref 189]) (rest := []) (d' := 0 + 31) (l_one_th (d := 0) (xt_one (d := 0) hl hq hI.1 hn)) lw_w57 (by decide +kernel) rfl (by decide) (by decide) (by decide) d_L_law_369 rfl rfl (Nat.le_of_ble_eq_true rfl) (Nat.le_of_ble_eq_true rfl) (by show uc + 1 ≤ 601024 ∧ us + 8 ≤ 7293034; omega) (wfk.cl (Or.inr (by decide)) (wfk.cl (okv_r (by decide)) (wfk.cl (okv_r (by decide)) (wfk.cl (okv_r (by decide)) (wfk.cl trivial (wfk.cn (wfk.cn (wfk.cn wfk_nil)))))))) (fun r h2 q => by rw [q.1]; exact xSh_len) (fun r h2 q => ?_)
    obtain ⟨rfl, rfl⟩ := q
    refine oe_istore2 d_L_law_372 (by decide) (lv' := [some (.ref (xB + 40)), some (.ref 0), some (.ref 154), some (.ref 189), some (.int (nI i)), some (.int 1), none, none]) rfl ?_
    refine oe_aload d_L_law_374 rfl ?_
    refine la_arg (i := i) (j := 1) d_L_law_375 d_L_law_376 d_L_law_378 d_L_law_379 d_L_law_380 rfl rfl (by decide) (by omega) hL ?_
    refine la_arg (i := i) (j := 2) d_L_law_381 d_L_law_382 d_L_law_384 d_L_law_385 d_L_law_386 rfl rfl (by decide) (by omega) hL ?_
    refine la_call (as := [.int (l.2.2 (i + 1)), .int (l.2.2 (i + 2))]) (rest := []) (yc_one0 (d := 0) hq hI.2.1 hn) cw_Y_one (by rfl) (by rfl) (by decide) (by decide) (by decide) d_L_law_387 rfl rfl (Nat.le_of_ble_eq_true rfl) (Nat.le_of_ble_eq_true rfl) rfl rfl (fun r σ3 q => ?_)
    obtain ⟨rfl, y3, f3, t3⟩ := q
    refine oe_istore2 d_L_law_390 (by decide) (lv' := [some (.ref (xB + 40)), some (.ref 0), some (.ref 154), some (.ref 189), some (.int (nI i)), some (.int 1), some (.int (nI 0)), none]) rfl ?_
    refine oe_aload d_L_law_392 rfl ?_
    refine la_call (as := []) (rest := []) (y_thr (d := 0)) cw_Y_thrown (by rfl) (by rfl) (by decide) (by decide) (by decide) d_L_law_393 rfl rfl (Nat.le_of_ble_eq_true rfl) (Nat.le_of_ble_eq_true rfl) rfl rfl (fun r σ4 q => ?_)
    obtain ⟨rfl, rfl⟩ := q
    rw [t3]
    refine oe_iload2 (v := nI 1) d_L_law_396 rfl ?_
    refine la_eq (t := 403) d_L_law_398 (by decide) ?_
    refine oe_iload2 (v := 1) d_L_law_403 rfl ?_
    refine la_ifne1 (t := 420) d_L_law_405 (by decide) ?_
    refine oe_goto (t := 1472) d_L_law_420 (by decide) ?_
    refine E.weak llv_weak ?_
    exact K _ ⟨hI.1.y f3, y3, hO.up, Nat.le_succ_of_le hI.2.2.2⟩
  | some g =>
    cases h2 : rgN (l.2.2 (i + 2)) 0 8 with
    | none =>
      have hn : inN (l.2.2 (i + 1)) (eN (wE w)) = none ∨ rgN (l.2.2 (i + 2)) 0 8 = none := Or.inr h2
      refine la_callL (as := [.ref 0, .int (l.2.2 (i + 1)), .int (l.2.2 (i + 2)), .ref 189]) (rest := []) (d' := 0 + 31) (l_one_th (d := 0) (xt_one (d := 0) hl hq hI.1 hn)) lw_w57 (by decide +kernel) rfl (by decide) (by decide) (by decide) d_L_law_369 rfl rfl (Nat.le_of_ble_eq_true rfl) (Nat.le_of_ble_eq_true rfl) (by show uc + 1 ≤ 601024 ∧ us + 8 ≤ 7293034; omega) (wfk.cl (Or.inr (by decide)) (wfk.cl (okv_r (by decide)) (wfk.cl (okv_r (by decide)) (wfk.cl (okv_r (by decide)) (wfk.cl trivial (wfk.cn (wfk.cn (wfk.cn wfk_nil)))))))) (fun r h2 q => by rw [q.1]; exact xSh_len) (fun r h2 q => ?_)
      obtain ⟨rfl, rfl⟩ := q
      refine oe_istore2 d_L_law_372 (by decide) (lv' := [some (.ref (xB + 40)), some (.ref 0), some (.ref 154), some (.ref 189), some (.int (nI i)), some (.int 1), none, none]) rfl ?_
      refine oe_aload d_L_law_374 rfl ?_
      refine la_arg (i := i) (j := 1) d_L_law_375 d_L_law_376 d_L_law_378 d_L_law_379 d_L_law_380 rfl rfl (by decide) (by omega) hL ?_
      refine la_arg (i := i) (j := 2) d_L_law_381 d_L_law_382 d_L_law_384 d_L_law_385 d_L_law_386 rfl rfl (by decide) (by omega) hL ?_
      refine la_call (as := [.int (l.2.2 (i + 1)), .int (l.2.2 (i + 2))]) (rest := []) (yc_one0 (d := 0) hq hI.2.1 hn) cw_Y_one (by rfl) (by rfl) (by decide) (by decide) (by decide) d_L_law_387 rfl rfl (Nat.le_of_ble_eq_true rfl) (Nat.le_of_ble_eq_true rfl) rfl rfl (fun r σ3 q => ?_)
      obtain ⟨rfl, y3, f3, t3⟩ := q
      refine oe_istore2 d_L_law_390 (by decide) (lv' := [some (.ref (xB + 40)), some (.ref 0), some (.ref 154), some (.ref 189), some (.int (nI i)), some (.int 1), some (.int (nI 0)), none]) rfl ?_
      refine oe_aload d_L_law_392 rfl ?_
      refine la_call (as := []) (rest := []) (y_thr (d := 0)) cw_Y_thrown (by rfl) (by rfl) (by decide) (by decide) (by decide) d_L_law_393 rfl rfl (Nat.le_of_ble_eq_true rfl) (Nat.le_of_ble_eq_true rfl) rfl rfl (fun r σ4 q => ?_)
      obtain ⟨rfl, rfl⟩ := q
      rw [t3]
      refine oe_iload2 (v := nI 1) d_L_law_396 rfl ?_
      refine la_eq (t := 403) d_L_law_398 (by decide) ?_
      refine oe_iload2 (v := 1) d_L_law_403 rfl ?_
      refine la_ifne1 (t := 420) d_L_law_405 (by decide) ?_
      refine oe_goto (t := 1472) d_L_law_420 (by decide) ?_
      refine E.weak llv_weak ?_
      exact K _ ⟨hI.1.y f3, y3, hO.up, Nat.le_succ_of_le hI.2.2.2⟩
    | some b =>
      obtain ⟨g1, e1⟩ := inN_some h1
      obtain ⟨g2, e2⟩ := rgN_some h2
      have hx1 := xc_one (l := l) (d := 0) hq hI.1 g1 g2
      rw [← e1, ← e2] at hx1
      have hy1 : ∀ {σ : xs}, YW σ c w → TC l M_Y_one (0 + 150) [.ref 154, .int (l.2.2 (i + 1)), .int (l.2.2 (i + 2))] σ (fun r τ => r = some (.int (a_one w g b)) ∧ YW τ c w ∧ YF σ τ ∧ sf τ 154 0 = nI 0) := by
        intro σ hY
        rw [e1, e2]
        exact yc_one (d := 0) hq hY g1 g2
      refine la_callL (as := [.ref 0, .int (l.2.2 (i + 1)), .int (l.2.2 (i + 2)), .ref 189]) (rest := []) (d' := 0 + 31) (EC.of (l_one_ok (d := 0) (hx1))) lw_w57 (by decide +kernel) rfl (by decide) (by decide) (by decide) d_L_law_369 rfl rfl (Nat.le_of_ble_eq_true rfl) (Nat.le_of_ble_eq_true rfl) (by show uc + 1 ≤ 601024 ∧ us + 8 ≤ 7293034; omega) (wfk.cl (Or.inr (by decide)) (wfk.cl (okv_r (by decide)) (wfk.cl (okv_r (by decide)) (wfk.cl (okv_r (by decide)) (wfk.cl trivial (wfk.cn (wfk.cn (wfk.cn wfk_nil)))))))) (fun r h2 q => by obtain ⟨τ, e, -⟩ := q; rw [e]; exact xSh_len) (fun r h2 q => ?_)
      obtain ⟨τ, rfl, rfl, x1, f1⟩ := q
      refine oe_istore2 d_L_law_372 (by decide) (lv' := [some (.ref (xB + 40)), some (.ref 0), some (.ref 154), some (.ref 189), some (.int (nI i)), some (.int 0), none, none]) rfl ?_
      refine oe_aload d_L_law_374 rfl ?_
      refine la_arg (i := i) (j := 1) d_L_law_375 d_L_law_376 d_L_law_378 d_L_law_379 d_L_law_380 rfl rfl (by decide) (by omega) hL ?_
      refine la_arg (i := i) (j := 2) d_L_law_381 d_L_law_382 d_L_law_384 d_L_law_385 d_L_law_386 rfl rfl (by decide) (by omega) hL ?_
      refine la_call (as := [.int (l.2.2 (i + 1)), .int (l.2.2 (i + 2))]) (rest := []) (hy1 (YW.o (hI.2.1.x f1))) cw_Y_one (by rfl) (by rfl) (by decide) (by decide) (by decide) d_L_law_387 rfl rfl (Nat.le_of_ble_eq_true rfl) (Nat.le_of_ble_eq_true rfl) rfl rfl (fun r σ3 q => ?_)
      obtain ⟨rfl, y3, f3, t3⟩ := q
      have e9 : sj σ3 189 0 = (a_one w g b).toInt64 := by
        rw [(f3.1 189 (Or.inr rfl)).2.2]
        show up2 (sj τ) 189 0 _ 189 0 = _
        rw [up2_s]
        rfl
      refine oe_istore2 d_L_law_390 (by decide) (lv' := [some (.ref (xB + 40)), some (.ref 0), some (.ref 154), some (.ref 189), some (.int (nI i)), some (.int 0), some (.int (a_one w g b)), none]) rfl ?_
      refine oe_aload d_L_law_392 rfl ?_
      refine la_call (as := []) (rest := []) (y_thr (d := 0)) cw_Y_thrown (by rfl) (by rfl) (by decide) (by decide) (by decide) d_L_law_393 rfl rfl (Nat.le_of_ble_eq_true rfl) (Nat.le_of_ble_eq_true rfl) rfl rfl (fun r σ4 q => ?_)
      obtain ⟨rfl, rfl⟩ := q
      rw [t3]
      refine oe_iload2 (v := nI 0) d_L_law_396 rfl ?_
      refine la_eq (t := 403) d_L_law_398 (by decide) ?_
      refine oe_iload2 (v := 0) d_L_law_403 rfl ?_
      refine la_ifne0 (t := 420) d_L_law_405 (by decide) ?_
      refine oe_aload d_L_law_408 rfl ?_
      refine oe_iconst (v := 0) d_L_law_409 (by decide) ?_
      refine oe_lald d_L_law_410 (v := (a_one w g b).toInt64) e9 ?_
      refine oe_iload2 d_L_law_411 rfl ?_
      refine oe_i2l d_L_law_413 ?_
      refine la_lcmp d_L_law_414 ?_
      rw [lg_cmp0]
      refine la_if0 (t := 420) d_L_law_415 (by decide) ?_
      refine oe_goto (t := 1472) d_L_law_420 (by decide) ?_
      refine E.weak llv_weak ?_
      exact K _ ⟨(XW.o x1).y f3, y3, hO.up, Nat.le_succ_of_le hI.2.2.2⟩
theorem lc_field {l : xLa} {i k uc us c : Nat} {w : wv} {σ : xs} {Q : Option Value → xH → Prop} (hl : l.1.stackTraces = false) (hI : IV k w c σ) (hk : k < 512) (hi : i + 5 ≤ l.2.1) (hL : l.2.1 ≤ 2560) (hu : uc ≤ 190 + 512 ∧ us ≤ 8005 + 8 * 512) (K : ∀ σ2, IV (k + 1) w c σ2 → E l M_L_law 2048 1472 (LLV i) [] (mk σ2) (uc + 1) (us + 8) Q) : E l M_L_law 2048 423 (LLV i) [] (mk σ) uc us Q := by
  have hO := hI.2.2.1
  have hq := hO.q (by omega)
  refine oe_aload d_L_law_423 rfl ?_
  refine la_arg (i := i) (j := 1) d_L_law_424 d_L_law_425 d_L_law_427 d_L_law_428 d_L_law_429 rfl rfl (by decide) (by omega) hL ?_
  refine la_arg (i := i) (j := 2) d_L_law_430 d_L_law_431 d_L_law_433 d_L_law_434 d_L_law_435 rfl rfl (by decide) (by omega) hL ?_
  refine oe_aload d_L_law_436 rfl ?_
  cases h1 : inN (l.2.2 (i + 1)) (eR (wE w) * eC (wE w)) with
  | none =>
    have hn : inN (l.2.2 (i + 1)) (eR (wE w) * eC (wE w)) = none ∨ rgN (l.2.2 (i + 2)) 0 2 = none := Or.inl h1
    refine la_callL (as := [.ref 0, .int (l.2.2 (i + 1)), .int (l.2.2 (i + 2)), .ref 189]) (rest := []) (d' := 0 + 31) (l_field_th (d := 0) (xt_field (d := 0) hl hq hI.1 hn)) lw_w66 (by decide +kernel) rfl (by decide) (by decide) (by decide) d_L_law_437 rfl rfl (Nat.le_of_ble_eq_true rfl) (Nat.le_of_ble_eq_true rfl) (by show uc + 1 ≤ 601024 ∧ us + 8 ≤ 7293034; omega) (wfk.cl (Or.inr (by decide)) (wfk.cl (okv_r (by decide)) (wfk.cl (okv_r (by decide)) (wfk.cl (okv_r (by decide)) (wfk.cl trivial (wfk.cn (wfk.cn (wfk.cn wfk_nil)))))))) (fun r h2 q => by rw [q.1]; exact xSh_len) (fun r h2 q => ?_)
    obtain ⟨rfl, rfl⟩ := q
    refine oe_istore2 d_L_law_440 (by decide) (lv' := [some (.ref (xB + 40)), some (.ref 0), some (.ref 154), some (.ref 189), some (.int (nI i)), some (.int 1), none, none]) rfl ?_
    refine oe_aload d_L_law_442 rfl ?_
    refine la_arg (i := i) (j := 1) d_L_law_443 d_L_law_444 d_L_law_446 d_L_law_447 d_L_law_448 rfl rfl (by decide) (by omega) hL ?_
    refine la_arg (i := i) (j := 2) d_L_law_449 d_L_law_450 d_L_law_452 d_L_law_453 d_L_law_454 rfl rfl (by decide) (by omega) hL ?_
    refine la_call (as := [.int (l.2.2 (i + 1)), .int (l.2.2 (i + 2))]) (rest := []) (yc_field0 (d := 0) hq hI.2.1 hn) cw_Y_field (by rfl) (by rfl) (by decide) (by decide) (by decide) d_L_law_455 rfl rfl (Nat.le_of_ble_eq_true rfl) (Nat.le_of_ble_eq_true rfl) rfl rfl (fun r σ3 q => ?_)
    obtain ⟨rfl, y3, f3, t3⟩ := q
    refine oe_istore2 d_L_law_458 (by decide) (lv' := [some (.ref (xB + 40)), some (.ref 0), some (.ref 154), some (.ref 189), some (.int (nI i)), some (.int 1), some (.int (nI 0)), none]) rfl ?_
    refine oe_aload d_L_law_460 rfl ?_
    refine la_call (as := []) (rest := []) (y_thr (d := 0)) cw_Y_thrown (by rfl) (by rfl) (by decide) (by decide) (by decide) d_L_law_461 rfl rfl (Nat.le_of_ble_eq_true rfl) (Nat.le_of_ble_eq_true rfl) rfl rfl (fun r σ4 q => ?_)
    obtain ⟨rfl, rfl⟩ := q
    rw [t3]
    refine oe_iload2 (v := nI 1) d_L_law_464 rfl ?_
    refine la_eq (t := 471) d_L_law_466 (by decide) ?_
    refine oe_iload2 (v := 1) d_L_law_471 rfl ?_
    refine la_ifne1 (t := 488) d_L_law_473 (by decide) ?_
    refine oe_goto (t := 1472) d_L_law_488 (by decide) ?_
    refine E.weak llv_weak ?_
    exact K _ ⟨hI.1.y f3, y3, hO.up, Nat.le_succ_of_le hI.2.2.2⟩
  | some g =>
    cases h2 : rgN (l.2.2 (i + 2)) 0 2 with
    | none =>
      have hn : inN (l.2.2 (i + 1)) (eR (wE w) * eC (wE w)) = none ∨ rgN (l.2.2 (i + 2)) 0 2 = none := Or.inr h2
      refine la_callL (as := [.ref 0, .int (l.2.2 (i + 1)), .int (l.2.2 (i + 2)), .ref 189]) (rest := []) (d' := 0 + 31) (l_field_th (d := 0) (xt_field (d := 0) hl hq hI.1 hn)) lw_w66 (by decide +kernel) rfl (by decide) (by decide) (by decide) d_L_law_437 rfl rfl (Nat.le_of_ble_eq_true rfl) (Nat.le_of_ble_eq_true rfl) (by show uc + 1 ≤ 601024 ∧ us + 8 ≤ 7293034; omega) (wfk.cl (Or.inr (by decide)) (wfk.cl (okv_r (by decide)) (wfk.cl (okv_r (by decide)) (wfk.cl (okv_r (by decide)) (wfk.cl trivial (wfk.cn (wfk.cn (wfk.cn wfk_nil)))))))) (fun r h2 q => by rw [q.1]; exact xSh_len) (fun r h2 q => ?_)
      obtain ⟨rfl, rfl⟩ := q
      refine oe_istore2 d_L_law_440 (by decide) (lv' := [some (.ref (xB + 40)), some (.ref 0), some (.ref 154), some (.ref 189), some (.int (nI i)), some (.int 1), none, none]) rfl ?_
      refine oe_aload d_L_law_442 rfl ?_
      refine la_arg (i := i) (j := 1) d_L_law_443 d_L_law_444 d_L_law_446 d_L_law_447 d_L_law_448 rfl rfl (by decide) (by omega) hL ?_
      refine la_arg (i := i) (j := 2) d_L_law_449 d_L_law_450 d_L_law_452 d_L_law_453 d_L_law_454 rfl rfl (by decide) (by omega) hL ?_
      refine la_call (as := [.int (l.2.2 (i + 1)), .int (l.2.2 (i + 2))]) (rest := []) (yc_field0 (d := 0) hq hI.2.1 hn) cw_Y_field (by rfl) (by rfl) (by decide) (by decide) (by decide) d_L_law_455 rfl rfl (Nat.le_of_ble_eq_true rfl) (Nat.le_of_ble_eq_true rfl) rfl rfl (fun r σ3 q => ?_)
      obtain ⟨rfl, y3, f3, t3⟩ := q
      refine oe_istore2 d_L_law_458 (by decide) (lv' := [some (.ref (xB + 40)), some (.ref 0), some (.ref 154), some (.ref 189), some (.int (nI i)), some (.int 1), some (.int (nI 0)), none]) rfl ?_
      refine oe_aload d_L_law_460 rfl ?_
      refine la_call (as := []) (rest := []) (y_thr (d := 0)) cw_Y_thrown (by rfl) (by rfl) (by decide) (by decide) (by decide) d_L_law_461 rfl rfl (Nat.le_of_ble_eq_true rfl) (Nat.le_of_ble_eq_true rfl) rfl rfl (fun r σ4 q => ?_)
      obtain ⟨rfl, rfl⟩ := q
      rw [t3]
      refine oe_iload2 (v := nI 1) d_L_law_464 rfl ?_
      refine la_eq (t := 471) d_L_law_466 (by decide) ?_
      refine oe_iload2 (v := 1) d_L_law_471 rfl ?_
      refine la_ifne1 (t := 488) d_L_law_473 (by decide) ?_
      refine oe_goto (t := 1472) d_L_law_488 (by decide) ?_
      refine E.weak llv_weak ?_
      exact K _ ⟨hI.1.y f3, y3, hO.up, Nat.le_succ_of_le hI.2.2.2⟩
    | some b =>
      obtain ⟨g1, e1⟩ := inN_some h1
      obtain ⟨g2, e2⟩ := rgN_some h2
      have hx1 := xc_field (l := l) (d := 0) hq hI.1 g1 g2
      rw [← e1, ← e2] at hx1
      have hy1 : ∀ {σ : xs}, YW σ c w → TC l M_Y_field (0 + 150) [.ref 154, .int (l.2.2 (i + 1)), .int (l.2.2 (i + 2))] σ (fun r τ => r = some (.int (a_field w g b)) ∧ YW τ c w ∧ YF σ τ ∧ sf τ 154 0 = nI 0) := by
        intro σ hY
        rw [e1, e2]
        exact yc_field (d := 0) hq hY g1 g2
      refine la_callL (as := [.ref 0, .int (l.2.2 (i + 1)), .int (l.2.2 (i + 2)), .ref 189]) (rest := []) (d' := 0 + 31) (EC.of (l_field_ok (d := 0) (hx1))) lw_w66 (by decide +kernel) rfl (by decide) (by decide) (by decide) d_L_law_437 rfl rfl (Nat.le_of_ble_eq_true rfl) (Nat.le_of_ble_eq_true rfl) (by show uc + 1 ≤ 601024 ∧ us + 8 ≤ 7293034; omega) (wfk.cl (Or.inr (by decide)) (wfk.cl (okv_r (by decide)) (wfk.cl (okv_r (by decide)) (wfk.cl (okv_r (by decide)) (wfk.cl trivial (wfk.cn (wfk.cn (wfk.cn wfk_nil)))))))) (fun r h2 q => by obtain ⟨τ, e, -⟩ := q; rw [e]; exact xSh_len) (fun r h2 q => ?_)
      obtain ⟨τ, rfl, rfl, x1, f1⟩ := q
      refine oe_istore2 d_L_law_440 (by decide) (lv' := [some (.ref (xB + 40)), some (.ref 0), some (.ref 154), some (.ref 189), some (.int (nI i)), some (.int 0), none, none]) rfl ?_
      refine oe_aload d_L_law_442 rfl ?_
      refine la_arg (i := i) (j := 1) d_L_law_443 d_L_law_444 d_L_law_446 d_L_law_447 d_L_law_448 rfl rfl (by decide) (by omega) hL ?_
      refine la_arg (i := i) (j := 2) d_L_law_449 d_L_law_450 d_L_law_452 d_L_law_453 d_L_law_454 rfl rfl (by decide) (by omega) hL ?_
      refine la_call (as := [.int (l.2.2 (i + 1)), .int (l.2.2 (i + 2))]) (rest := []) (hy1 (YW.o (hI.2.1.x f1))) cw_Y_field (by rfl) (by rfl) (by decide) (by decide) (by decide) d_L_law_455 rfl rfl (Nat.le_of_ble_eq_true rfl) (Nat.le_of_ble_eq_true rfl) rfl rfl (fun r σ3 q => ?_)
      obtain ⟨rfl, y3, f3, t3⟩ := q
      have e9 : sj σ3 189 0 = (a_field w g b).toInt64 := by
        rw [(f3.1 189 (Or.inr rfl)).2.2]
        show up2 (sj τ) 189 0 _ 189 0 = _
        rw [up2_s]
        rfl
      refine oe_istore2 d_L_law_458 (by decide) (lv' := [some (.ref (xB + 40)), some (.ref 0), some (.ref 154), some (.ref 189), some (.int (nI i)), some (.int 0), some (.int (a_field w g b)), none]) rfl ?_
      refine oe_aload d_L_law_460 rfl ?_
      refine la_call (as := []) (rest := []) (y_thr (d := 0)) cw_Y_thrown (by rfl) (by rfl) (by decide) (by decide) (by decide) d_L_law_461 rfl rfl (Nat.le_of_ble_eq_true rfl) (Nat.le_of_ble_eq_true rfl) rfl rfl (fun r σ4 q => ?_)
      obtain ⟨rfl, rfl⟩ := q
      rw [t3]
      refine oe_iload2 (v := nI 0) d_L_law_464 rfl ?_
      refine la_eq (t := 471) d_L_law_466 (by decide) ?_
      refine oe_iload2 (v := 0) d_L_law_471 rfl ?_
      refine la_ifne0 (t := 488) d_L_law_473 (by decide) ?_
      refine oe_aload d_L_law_476 rfl ?_
      refine oe_iconst (v := 0) d_L_law_477 (by decide) ?_
      refine oe_lald d_L_law_478 (v := (a_field w g b).toInt64) e9 ?_
      refine oe_iload2 d_L_law_479 rfl ?_
      refine oe_i2l d_L_law_481 ?_
      refine la_lcmp d_L_law_482 ?_
      rw [lg_cmp0]
      refine la_if0 (t := 488) d_L_law_483 (by decide) ?_
      refine oe_goto (t := 1472) d_L_law_488 (by decide) ?_
      refine E.weak llv_weak ?_
      exact K _ ⟨(XW.o x1).y f3, y3, hO.up, Nat.le_succ_of_le hI.2.2.2⟩
theorem lc_row {l : xLa} {i k uc us c : Nat} {w : wv} {σ : xs} {Q : Option Value → xH → Prop} (hl : l.1.stackTraces = false) (hI : IV k w c σ) (hk : k < 512) (hi : i + 5 ≤ l.2.1) (hL : l.2.1 ≤ 2560) (hu : uc ≤ 190 + 512 ∧ us ≤ 8005 + 8 * 512) (K : ∀ σ2, IV (k + 1) w c σ2 → E l M_L_law 2048 1472 (LLV i) [] (mk σ2) (uc + 1) (us + 8) Q) : E l M_L_law 2048 1417 (LLV i) [] (mk σ) uc us Q := by
  have hO := hI.2.2.1
  have hq := hO.q (by omega)
  refine oe_aload d_L_law_1417 rfl ?_
  refine la_arg (i := i) (j := 1) d_L_law_1418 d_L_law_1419 d_L_law_1421 d_L_law_1422 d_L_law_1423 rfl rfl (by decide) (by omega) hL ?_
  refine oe_aload d_L_law_1424 rfl ?_
  by_cases h1 : (l.2.2 (i + 1)).toInt < 0 ∨ ((wD w).1 : Int) ≤ (l.2.2 (i + 1)).toInt
  · have hn := h1
    refine la_callL (as := [.ref 0, .int (l.2.2 (i + 1)), .ref 189]) (rest := []) (d' := 0 + 31) (l_row_th (d := 0) (xt_row (d := 0) hl hI.1 hO.hD hn)) lw_w219 (by decide +kernel) rfl (by decide) (by decide) (by decide) d_L_law_1425 rfl rfl (Nat.le_of_ble_eq_true rfl) (Nat.le_of_ble_eq_true rfl) (by show uc + 1 ≤ 601024 ∧ us + 8 ≤ 7293034; omega) (wfk.cl (Or.inr (by decide)) (wfk.cl (okv_r (by decide)) (wfk.cl (okv_r (by decide)) (wfk.cl (okv_r (by decide)) (wfk.cl trivial (wfk.cn (wfk.cn (wfk.cn wfk_nil)))))))) (fun r h2 q => by rw [q.1]; exact xSh_len) (fun r h2 q => ?_)
    obtain ⟨rfl, rfl⟩ := q
    refine oe_istore2 d_L_law_1428 (by decide) (lv' := [some (.ref (xB + 40)), some (.ref 0), some (.ref 154), some (.ref 189), some (.int (nI i)), some (.int 1), none, none]) rfl ?_
    refine oe_aload d_L_law_1430 rfl ?_
    refine la_arg (i := i) (j := 1) d_L_law_1431 d_L_law_1432 d_L_law_1434 d_L_law_1435 d_L_law_1436 rfl rfl (by decide) (by omega) hL ?_
    refine la_call (as := [.int (l.2.2 (i + 1))]) (rest := []) (yc_row0 (d := 0) hq hI.2.1 hO.hD hn) cw_Y_row (by rfl) (by rfl) (by decide) (by decide) (by decide) d_L_law_1437 rfl rfl (Nat.le_of_ble_eq_true rfl) (Nat.le_of_ble_eq_true rfl) rfl rfl (fun r σ3 q => ?_)
    obtain ⟨rfl, y3, f3, t3⟩ := q
    refine oe_lstore2 d_L_law_1440 (by decide) (lv' := [some (.ref (xB + 40)), some (.ref 0), some (.ref 154), some (.ref 189), some (.int (nI i)), some (.int 1), some (.long (0)), none]) rfl ?_
    refine oe_aload d_L_law_1442 rfl ?_
    refine la_call (as := []) (rest := []) (y_thr (d := 0)) cw_Y_thrown (by rfl) (by rfl) (by decide) (by decide) (by decide) d_L_law_1443 rfl rfl (Nat.le_of_ble_eq_true rfl) (Nat.le_of_ble_eq_true rfl) rfl rfl (fun r σ4 q => ?_)
    obtain ⟨rfl, rfl⟩ := q
    rw [t3]
    refine oe_iload2 (v := nI 1) d_L_law_1446 rfl ?_
    refine la_eq (t := 1453) d_L_law_1448 (by decide) ?_
    refine oe_iload2 (v := 1) d_L_law_1453 rfl ?_
    refine la_ifne1 (t := 1469) d_L_law_1455 (by decide) ?_
    refine oe_goto (t := 1472) d_L_law_1469 (by decide) ?_
    refine E.weak llv_weak ?_
    exact K _ ⟨hI.1.y f3, y3, hO.up, Nat.le_succ_of_le hI.2.2.2⟩
  · obtain ⟨g, hg⟩ : ∃ g, inN (l.2.2 (i + 1)) (wD w).1 = some g := ⟨_, if_pos ⟨by omega, by omega⟩⟩
    obtain ⟨g1, e1⟩ := inN_some hg
    have hx1 := xc_row (l := l) (d := 0) hq hI.1 hO.hD g1
    rw [← e1] at hx1
    have hy1 : ∀ {σ : xs}, YW σ c w → TC l M_Y_row (0 + 150) [.ref 154, .int (l.2.2 (i + 1))] σ (fun r τ => r = some (.long ((wD w).2 g)) ∧ YW τ c w ∧ YF σ τ ∧ sf τ 154 0 = nI 0) := by
      intro σ hY
      rw [e1]
      exact yc_row (d := 0) hq hY hO.hD g1
    refine la_callL (as := [.ref 0, .int (l.2.2 (i + 1)), .ref 189]) (rest := []) (d' := 0 + 31) (EC.of (l_row_ok (d := 0) (hx1))) lw_w219 (by decide +kernel) rfl (by decide) (by decide) (by decide) d_L_law_1425 rfl rfl (Nat.le_of_ble_eq_true rfl) (Nat.le_of_ble_eq_true rfl) (by show uc + 1 ≤ 601024 ∧ us + 8 ≤ 7293034; omega) (wfk.cl (Or.inr (by decide)) (wfk.cl (okv_r (by decide)) (wfk.cl (okv_r (by decide)) (wfk.cl (okv_r (by decide)) (wfk.cl trivial (wfk.cn (wfk.cn (wfk.cn wfk_nil)))))))) (fun r h2 q => by obtain ⟨τ, e, -⟩ := q; rw [e]; exact xSh_len) (fun r h2 q => ?_)
    obtain ⟨τ, rfl, rfl, x1, f1⟩ := q
    refine oe_istore2 d_L_law_1428 (by decide) (lv' := [some (.ref (xB + 40)), some (.ref 0), some (.ref 154), some (.ref 189), some (.int (nI i)), some (.int 0), none, none]) rfl ?_
    refine oe_aload d_L_law_1430 rfl ?_
    refine la_arg (i := i) (j := 1) d_L_law_1431 d_L_law_1432 d_L_law_1434 d_L_law_1435 d_L_law_1436 rfl rfl (by decide) (by omega) hL ?_
    refine la_call (as := [.int (l.2.2 (i + 1))]) (rest := []) (hy1 (YW.o (hI.2.1.x f1))) cw_Y_row (by rfl) (by rfl) (by decide) (by decide) (by decide) d_L_law_1437 rfl rfl (Nat.le_of_ble_eq_true rfl) (Nat.le_of_ble_eq_true rfl) rfl rfl (fun r σ3 q => ?_)
    obtain ⟨rfl, y3, f3, t3⟩ := q
    have e9 : sj σ3 189 0 = (wD w).2 g := by
      rw [(f3.1 189 (Or.inr rfl)).2.2]
      show up2 (sj τ) 189 0 _ 189 0 = _
      rw [up2_s]
      rfl
    refine oe_lstore2 d_L_law_1440 (by decide) (lv' := [some (.ref (xB + 40)), some (.ref 0), some (.ref 154), some (.ref 189), some (.int (nI i)), some (.int 0), some (.long ((wD w).2 g)), none]) rfl ?_
    refine oe_aload d_L_law_1442 rfl ?_
    refine la_call (as := []) (rest := []) (y_thr (d := 0)) cw_Y_thrown (by rfl) (by rfl) (by decide) (by decide) (by decide) d_L_law_1443 rfl rfl (Nat.le_of_ble_eq_true rfl) (Nat.le_of_ble_eq_true rfl) rfl rfl (fun r σ4 q => ?_)
    obtain ⟨rfl, rfl⟩ := q
    rw [t3]
    refine oe_iload2 (v := nI 0) d_L_law_1446 rfl ?_
    refine la_eq (t := 1453) d_L_law_1448 (by decide) ?_
    refine oe_iload2 (v := 0) d_L_law_1453 rfl ?_
    refine la_ifne0 (t := 1469) d_L_law_1455 (by decide) ?_
    refine oe_aload d_L_law_1458 rfl ?_
    refine oe_iconst (v := 0) d_L_law_1459 (by decide) ?_
    refine oe_lald d_L_law_1460 (v := (wD w).2 g) e9 ?_
    refine oe_lload2 d_L_law_1461 rfl ?_
    refine la_lcmp d_L_law_1463 ?_
    rw [lg_cmp0]
    refine la_if0 (t := 1469) d_L_law_1464 (by decide) ?_
    refine oe_goto (t := 1472) d_L_law_1469 (by decide) ?_
    refine E.weak llv_weak ?_
    exact K _ ⟨(XW.o x1).y f3, y3, hO.up, Nat.le_succ_of_le hI.2.2.2⟩
