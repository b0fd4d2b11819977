/-! The law's ordinary cases: the class's call, the reference's, the compare. Printed by wip/whole/h_law1.py. -/
def LLV (i : Nat) : List (Option Value) := [some (.ref (xB + 40)), some (.ref 0), some (.ref 154), some (.ref 189), some (.int (nI i)), none, none, none]
section
variable {l : xLa} {M M' : mT} {d d' pc uc us i : Nat} {lv : List (Option Value)} {st rest : List Value} {h : xH} {σ : xs} {Q : Option Value → xH → Prop}
theorem oe_iload2 {j : Nat} {v : Int32} (hd : decode (mCd M) pc = .ok (.iload j, 2)) (hv : (lv[j]?).join = some (.int v)) (k : E l M (d + 1) (pc + 2) lv (.int v :: st) h uc us Q) : E l M (d + 1) pc lv st h uc us Q :=
  E.step (x := (pc + 2, lv, .int v :: st, h)) (Nat.le_add_left 1 d) hd (by show s_ld 2 2 pc lv st h 0 j = _; unfold s_ld; rw [hv]; rfl) k
theorem la_arg {j : Nat} {jj : Int} (d1 : decode (mCd M_L_law) pc = .ok (.aload_n 0, 1)) (d2 : decode (mCd M_L_law) (pc + 1) = .ok (.iload 4, 2)) (d3 : decode (mCd M_L_law) (pc + 3) = .ok (.iconst jj, 1)) (d4 : decode (mCd M_L_law) (pc + 4) = .ok (.iadd, 1)) (d5 : decode (mCd M_L_law) (pc + 5) = .ok (.iaload, 1)) (h0 : (lv[0]?).join = some (.ref (xB + 40))) (h4 : (lv[4]?).join = some (.int (nI i))) (hj : Int32.ofInt jj = nI j) (hi : i + j < l.2.1) (hL : l.2.1 ≤ 2560)
    (k : E l M_L_law (d + 1) (pc + 6) lv (.int (l.2.2 (i + j)) :: st) h uc us Q) : E l M_L_law (d + 1) pc lv st h uc us Q := by
  refine oe_aload (i := 0) d1 h0 ?_
  refine oe_iload2 d2 h4 ?_
  refine oe_iconst d3 hj ?_
  refine E.step (x := (pc + 5, lv, .int (nI (i + j)) :: .ref (xB + 40) :: st, h)) (Nat.le_add_left 1 d) d4 ?_ ?_
  · show some (pc + 4 + 1, lv, Value.int (nI i + nI j) :: .ref (xB + 40) :: st, h) = _
    rw [show nI i + nI j = nI (i + j) from (Int32.ofNat_add i j).symm]
  · refine E.scrld (vp_in_nI hi (by omega)) d5 ?_
    rw [nI_clamp (by omega)]
    exact k
theorem la_call {as : List Value} {j b ci n p1 p2 p3 p4 : Nat} {Q' : Option Value → xs → Prop} (hct : TC l M' d' (.ref b :: as) σ Q') (hc : xCode M') (hl : xlk xML 0 j = some (1, M', p1, p2, p3, p4)) (hsh : xSh[b]? = some (0, ci, n)) (hci : ci < 13) (hcn : xcn.getD ci "" = (mY M').cls) (hdd : d' + 1 ≤ 2048) (hd : decode (mCd M_L_law) pc = .ok (.invokevirtual j, 3)) (hst : st = as.reverse ++ .ref b :: rest) (hn : as.length = mN M') (hln : (xEnt (.ref b :: as)).length ≤ mLo M') (hrest : (rest.map fun v => v.category).sum ≤ 8) (hz : mBc M' = 0) (hzs : mBs M' = 0)
    (k : ∀ r τ, Q' r τ → E l M_L_law 2048 (pc + 3) lv (r.toList ++ rest) (mk τ) uc us Q) : E l M_L_law 2048 pc lv st (mk σ) uc us Q :=
  E.callV hct hc hl hsh hci hcn hdd hd hst hn hln hrest hz hzs (Or.inr (fun r h' q => by obtain ⟨τ, e, -⟩ := q; rw [e]; exact Nat.le_refl _)) (fun r h' q => by obtain ⟨τ, e, q⟩ := q; subst e; exact k r τ q)
theorem la_eq {v : Int32} {off : Int} {t : Nat} (hd : decode (mCd M) pc = .ok (.if_icmp .eq off, 3)) (ht : xj pc off = some t) (k : E l M (d + 1) t lv st h uc us Q) : E l M (d + 1) pc lv (.int v :: .int v :: st) h uc us Q := by
  refine E.step (x := (if v = v then t else pc + 3, lv, st, h)) (Nat.le_add_left 1 d) hd (by show s_ic (fun x y => x = y) 3 pc lv _ h off = _; unfold s_ic; simp only [ht]; rfl) ?_
  dsimp only
  rw [if_pos rfl]
  exact k
theorem lg_cmp0 (x : Int64) : lg_cmp x x = 0 := by
  unfold lg_cmp
  simp
theorem la_lcmp {x y : Int64} (hd : decode (mCd M) pc = .ok (.lcmp, 1)) (k : E l M (d + 1) (pc + 1) lv (.int (lg_cmp x y) :: st) h uc us Q) : E l M (d + 1) pc lv (.long y :: .long x :: st) h uc us Q :=
  E.step (x := (pc + 1, lv, .int (lg_cmp x y) :: st, h)) (Nat.le_add_left 1 d) hd rfl k
theorem la_if0 {off : Int} {t : Nat} (hd : decode (mCd M) pc = .ok (.ifCond .eq off, 3)) (ht : xj pc off = some t) (k : E l M (d + 1) t lv st h uc us Q) : E l M (d + 1) pc lv (.int 0 :: st) h uc us Q := by
  refine E.step (x := (if (0 : Int32) = 0 then t else pc + 3, lv, st, h)) (Nat.le_add_left 1 d) hd (by show s_if (fun x => x = 0) 3 pc lv _ h off = _; unfold s_if; simp only [ht]; rfl) ?_
  dsimp only
  rw [if_pos rfl]
  exact k
end
theorem lc_sign {l : xLa} {i k uc us c : Nat} {w : wv} {σ : xs} {Q : Option Value → xH → Prop} (hI : IV k w c σ) (hk : k < 512) (hi : i + 5 ≤ l.2.1) (hL : l.2.1 ≤ 2560) (K : ∀ w2 c2 σ2, IV (k + 1) w2 c2 σ2 → E l M_L_law 2048 1472 (LLV i) [] (mk σ2) uc us Q) : E l M_L_law 2048 240 (LLV i) [] (mk σ) uc us Q := by
  have hO := hI.2.2.1
  have hq := hO.q (by omega)
  refine oe_aload d_L_law_240 rfl ?_
  refine la_arg (i := i) (j := 1) d_L_law_241 d_L_law_242 d_L_law_244 d_L_law_245 d_L_law_246 rfl rfl (by decide) (by omega) hL ?_
  refine la_call (as := [.int (l.2.2 (i + 1))]) (rest := []) (xc_sign (d := 0) hq hI.1 hO.hX) cw_X_sign (by rfl) (by rfl) (by decide) (by decide) (by decide) d_L_law_247 rfl rfl (Nat.le_of_ble_eq_true rfl) (Nat.le_of_ble_eq_true rfl) rfl rfl (fun r σ1 q => ?_)
  obtain ⟨rfl, x1, f1⟩ := q
  refine oe_aload d_L_law_250 rfl ?_
  refine la_arg (i := i) (j := 1) d_L_law_251 d_L_law_252 d_L_law_254 d_L_law_255 d_L_law_256 rfl rfl (by decide) (by omega) hL ?_
  refine la_call (as := [.int (l.2.2 (i + 1))]) (rest := [_]) (yc_sign (d := 0) hq (hI.2.1.x f1) hO.hX) cw_Y_sign (by rfl) (by rfl) (by decide) (by decide) (by decide) d_L_law_257 rfl rfl (Nat.le_of_ble_eq_true rfl) (Nat.le_of_ble_eq_true rfl) rfl rfl (fun r σ2 q => ?_)
  obtain ⟨rfl, y2, f2⟩ := q
  refine la_eq (t := 1472) d_L_law_260 (by decide) ?_
  exact K _ _ _ (hI.up x1 f1 y2 f2 (hO.sign) (Nat.le_succ c))
theorem lc_end {l : xLa} {i k uc us c : Nat} {w : wv} {σ : xs} {Q : Option Value → xH → Prop} (hI : IV k w c σ) (hk : k < 512) (hi : i + 5 ≤ l.2.1) (hL : l.2.1 ≤ 2560) (K : ∀ w2 c2 σ2, IV (k + 1) w2 c2 σ2 → E l M_L_law 2048 1472 (LLV i) [] (mk σ2) uc us Q) : E l M_L_law 2048 265 (LLV i) [] (mk σ) uc us Q := by
  have hO := hI.2.2.1
  have hq := hO.q (by omega)
  refine oe_aload d_L_law_265 rfl ?_
  refine la_arg (i := i) (j := 1) d_L_law_266 d_L_law_267 d_L_law_269 d_L_law_270 d_L_law_271 rfl rfl (by decide) (by omega) hL ?_
  refine la_call (as := [.int (l.2.2 (i + 1))]) (rest := []) (xc_end (d := 0) hq hI.1 hO.hX) cw_X_end (by rfl) (by rfl) (by decide) (by decide) (by decide) d_L_law_272 rfl rfl (Nat.le_of_ble_eq_true rfl) (Nat.le_of_ble_eq_true rfl) rfl rfl (fun r σ1 q => ?_)
  obtain ⟨rfl, x1, f1⟩ := q
  refine oe_aload d_L_law_275 rfl ?_
  refine la_arg (i := i) (j := 1) d_L_law_276 d_L_law_277 d_L_law_279 d_L_law_280 d_L_law_281 rfl rfl (by decide) (by omega) hL ?_
  refine la_call (as := [.int (l.2.2 (i + 1))]) (rest := [_]) (yc_end (d := 0) hq (hI.2.1.x f1) hO.hX) cw_Y_end (by rfl) (by rfl) (by decide) (by decide) (by decide) d_L_law_282 rfl rfl (Nat.le_of_ble_eq_true rfl) (Nat.le_of_ble_eq_true rfl) rfl rfl (fun r σ2 q => ?_)
  obtain ⟨rfl, y2, f2⟩ := q
  refine la_eq (t := 1472) d_L_law_285 (by decide) ?_
  exact K _ _ _ (hI.up x1 f1 y2 f2 (hO.end_) (Nat.le_succ c))
theorem lc_lake {l : xLa} {i k uc us c : Nat} {w : wv} {σ : xs} {Q : Option Value → xH → Prop} (hI : IV k w c σ) (hk : k < 512) (hi : i + 5 ≤ l.2.1) (hL : l.2.1 ≤ 2560) (K : ∀ w2 c2 σ2, IV (k + 1) w2 c2 σ2 → E l M_L_law 2048 1472 (LLV i) [] (mk σ2) uc us Q) : E l M_L_law 2048 290 (LLV i) [] (mk σ) uc us Q := by
  have hO := hI.2.2.1
  have hq := hO.q (by omega)
  refine oe_aload d_L_law_290 rfl ?_
  refine la_call (as := []) (rest := []) (xc_lake (d := 0) hq hI.1 hO.okX) cw_X_lake (by rfl) (by rfl) (by decide) (by decide) (by decide) d_L_law_291 rfl rfl (Nat.le_of_ble_eq_true rfl) (Nat.le_of_ble_eq_true rfl) rfl rfl (fun r σ1 q => ?_)
  obtain ⟨rfl, x1, f1⟩ := q
  refine oe_aload d_L_law_294 rfl ?_
  refine la_call (as := []) (rest := [_]) (yc_lake (d := 0) hq (hI.2.1.x f1) hO.okX) cw_Y_lake (by rfl) (by rfl) (by decide) (by decide) (by decide) d_L_law_295 rfl rfl (Nat.le_of_ble_eq_true rfl) (Nat.le_of_ble_eq_true rfl) rfl rfl (fun r σ2 q => ?_)
  obtain ⟨rfl, y2, f2⟩ := q
  refine la_eq (t := 1472) d_L_law_298 (by decide) ?_
  exact K _ _ _ (hI.up x1 f1 y2 f2 (hO.lake) (by unfold nc_lake; split <;> omega))
theorem lc_fish {l : xLa} {i k uc us c : Nat} {w : wv} {σ : xs} {Q : Option Value → xH → Prop} (hI : IV k w c σ) (hk : k < 512) (hi : i + 5 ≤ l.2.1) (hL : l.2.1 ≤ 2560) (K : ∀ w2 c2 σ2, IV (k + 1) w2 c2 σ2 → E l M_L_law 2048 1472 (LLV i) [] (mk σ2) uc us Q) : E l M_L_law 2048 303 (LLV i) [] (mk σ) uc us Q := by
  have hO := hI.2.2.1
  have hq := hO.q (by omega)
  refine oe_aload d_L_law_303 rfl ?_
  refine la_call (as := []) (rest := []) (xc_fish (d := 0) hq hI.1 hO.okX) cw_X_fish (by rfl) (by rfl) (by decide) (by decide) (by decide) d_L_law_304 rfl rfl (Nat.le_of_ble_eq_true rfl) (Nat.le_of_ble_eq_true rfl) rfl rfl (fun r σ1 q => ?_)
  obtain ⟨rfl, x1, f1⟩ := q
  refine oe_aload d_L_law_307 rfl ?_
  refine la_call (as := []) (rest := [_]) (yc_fish (d := 0) hq (hI.2.1.x f1) hO.okX) cw_Y_fish (by rfl) (by rfl) (by decide) (by decide) (by decide) d_L_law_308 rfl rfl (Nat.le_of_ble_eq_true rfl) (Nat.le_of_ble_eq_true rfl) rfl rfl (fun r σ2 q => ?_)
  obtain ⟨rfl, y2, f2⟩ := q
  refine la_eq (t := 1472) d_L_law_311 (by decide) ?_
  exact K _ _ _ (hI.up x1 f1 y2 f2 (hO.fish) (by unfold nc_fish; split <;> (try split) <;> omega))
theorem lc_oar {l : xLa} {i k uc us c : Nat} {w : wv} {σ : xs} {Q : Option Value → xH → Prop} (hI : IV k w c σ) (hk : k < 512) (hi : i + 5 ≤ l.2.1) (hL : l.2.1 ≤ 2560) (K : ∀ w2 c2 σ2, IV (k + 1) w2 c2 σ2 → E l M_L_law 2048 1472 (LLV i) [] (mk σ2) uc us Q) : E l M_L_law 2048 316 (LLV i) [] (mk σ) uc us Q := by
  have hO := hI.2.2.1
  have hq := hO.q (by omega)
  refine oe_aload d_L_law_316 rfl ?_
  refine la_call (as := []) (rest := []) (xc_oar (d := 0) hq hI.1 hO.okX hO.hU) cw_X_oar (by rfl) (by rfl) (by decide) (by decide) (by decide) d_L_law_317 rfl rfl (Nat.le_of_ble_eq_true rfl) (Nat.le_of_ble_eq_true rfl) rfl rfl (fun r σ1 q => ?_)
  obtain ⟨rfl, x1, f1⟩ := q
  refine oe_aload d_L_law_320 rfl ?_
  refine la_call (as := []) (rest := [_]) (yc_oar (d := 0) hq (hI.2.1.x f1) hO.okX hO.hU) cw_Y_oar (by rfl) (by rfl) (by decide) (by decide) (by decide) d_L_law_321 rfl rfl (Nat.le_of_ble_eq_true rfl) (Nat.le_of_ble_eq_true rfl) rfl rfl (fun r σ2 q => ?_)
  obtain ⟨rfl, y2, f2⟩ := q
  refine la_eq (t := 1472) d_L_law_324 (by decide) ?_
  exact K _ _ _ (hI.up x1 f1 y2 f2 (hO.oar (by omega)) (Nat.le_succ c))
theorem lc_fog {l : xLa} {i k uc us c : Nat} {w : wv} {σ : xs} {Q : Option Value → xH → Prop} (hI : IV k w c σ) (hk : k < 512) (hi : i + 5 ≤ l.2.1) (hL : l.2.1 ≤ 2560) (K : ∀ w2 c2 σ2, IV (k + 1) w2 c2 σ2 → E l M_L_law 2048 1472 (LLV i) [] (mk σ2) uc us Q) : E l M_L_law 2048 329 (LLV i) [] (mk σ) uc us Q := by
  have hO := hI.2.2.1
  have hq := hO.q (by omega)
  refine oe_aload d_L_law_329 rfl ?_
  refine la_call (as := []) (rest := []) (xc_fog (d := 0) hq hI.1 hO.okX) cw_X_fog (by rfl) (by rfl) (by decide) (by decide) (by decide) d_L_law_330 rfl rfl (Nat.le_of_ble_eq_true rfl) (Nat.le_of_ble_eq_true rfl) rfl rfl (fun r σ1 q => ?_)
  obtain ⟨rfl, x1, f1⟩ := q
  refine oe_aload d_L_law_333 rfl ?_
  refine la_call (as := []) (rest := [_]) (yc_fog (d := 0) hq (hI.2.1.x f1) hO.okX) cw_Y_fog (by rfl) (by rfl) (by decide) (by decide) (by decide) d_L_law_334 rfl rfl (Nat.le_of_ble_eq_true rfl) (Nat.le_of_ble_eq_true rfl) rfl rfl (fun r σ2 q => ?_)
  obtain ⟨rfl, y2, f2⟩ := q
  refine la_eq (t := 1472) d_L_law_337 (by decide) ?_
  exact K _ _ _ (hI.up x1 f1 y2 f2 (hO.fog) (Nat.le_succ c))
theorem lc_rule {l : xLa} {i k uc us c : Nat} {w : wv} {σ : xs} {Q : Option Value → xH → Prop} (hI : IV k w c σ) (hk : k < 512) (hi : i + 5 ≤ l.2.1) (hL : l.2.1 ≤ 2560) (K : ∀ w2 c2 σ2, IV (k + 1) w2 c2 σ2 → E l M_L_law 2048 1472 (LLV i) [] (mk σ2) uc us Q) : E l M_L_law 2048 342 (LLV i) [] (mk σ) uc us Q := by
  have hO := hI.2.2.1
  have hq := hO.q (by omega)
  refine oe_aload d_L_law_342 rfl ?_
  refine la_call (as := []) (rest := []) (xc_rule (d := 0) hq hI.1 hO.okX) cw_X_rule (by rfl) (by rfl) (by decide) (by decide) (by decide) d_L_law_343 rfl rfl (Nat.le_of_ble_eq_true rfl) (Nat.le_of_ble_eq_true rfl) rfl rfl (fun r σ1 q => ?_)
  obtain ⟨rfl, x1, f1⟩ := q
  refine oe_aload d_L_law_346 rfl ?_
  refine la_call (as := []) (rest := [_]) (yc_rule (d := 0) hq (hI.2.1.x f1) hO.okX) cw_Y_rule (by rfl) (by rfl) (by decide) (by decide) (by decide) d_L_law_347 rfl rfl (Nat.le_of_ble_eq_true rfl) (Nat.le_of_ble_eq_true rfl) rfl rfl (fun r σ2 q => ?_)
  obtain ⟨rfl, y2, f2⟩ := q
  refine la_eq (t := 1472) d_L_law_350 (by decide) ?_
  exact K _ _ _ (hI.up x1 f1 y2 f2 (hO.rule) (Nat.le_succ c))
theorem lc_sheet {l : xLa} {i k uc us c : Nat} {w : wv} {σ : xs} {Q : Option Value → xH → Prop} (hI : IV k w c σ) (hk : k < 512) (hi : i + 5 ≤ l.2.1) (hL : l.2.1 ≤ 2560) (K : ∀ w2 c2 σ2, IV (k + 1) w2 c2 σ2 → E l M_L_law 2048 1472 (LLV i) [] (mk σ2) uc us Q) : E l M_L_law 2048 491 (LLV i) [] (mk σ) uc us Q := by
  have hO := hI.2.2.1
  have hq := hO.q (by omega)
  refine oe_aload d_L_law_491 rfl ?_
  refine la_arg (i := i) (j := 1) d_L_law_492 d_L_law_493 d_L_law_495 d_L_law_496 d_L_law_497 rfl rfl (by decide) (by omega) hL ?_
  refine la_arg (i := i) (j := 2) d_L_law_498 d_L_law_499 d_L_law_501 d_L_law_502 d_L_law_503 rfl rfl (by decide) (by omega) hL ?_
  refine la_arg (i := i) (j := 3) d_L_law_504 d_L_law_505 d_L_law_507 d_L_law_508 d_L_law_509 rfl rfl (by decide) (by omega) hL ?_
  refine la_arg (i := i) (j := 4) d_L_law_510 d_L_law_511 d_L_law_513 d_L_law_514 d_L_law_515 rfl rfl (by decide) (by omega) hL ?_
  refine la_call (as := [.int (l.2.2 (i + 1)), .int (l.2.2 (i + 2)), .int (l.2.2 (i + 3)), .int (l.2.2 (i + 4))]) (rest := []) (xc_sheet (d := 0) hq hI.1) cw_X_sheet (by rfl) (by rfl) (by decide) (by decide) (by decide) d_L_law_516 rfl rfl (Nat.le_of_ble_eq_true rfl) (Nat.le_of_ble_eq_true rfl) rfl rfl (fun r σ1 q => ?_)
  obtain ⟨rfl, x1, f1⟩ := q
  refine oe_aload d_L_law_519 rfl ?_
  refine la_arg (i := i) (j := 1) d_L_law_520 d_L_law_521 d_L_law_523 d_L_law_524 d_L_law_525 rfl rfl (by decide) (by omega) hL ?_
  refine la_arg (i := i) (j := 2) d_L_law_526 d_L_law_527 d_L_law_529 d_L_law_530 d_L_law_531 rfl rfl (by decide) (by omega) hL ?_
  refine la_arg (i := i) (j := 3) d_L_law_532 d_L_law_533 d_L_law_535 d_L_law_536 d_L_law_537 rfl rfl (by decide) (by omega) hL ?_
  refine la_arg (i := i) (j := 4) d_L_law_538 d_L_law_539 d_L_law_541 d_L_law_542 d_L_law_543 rfl rfl (by decide) (by omega) hL ?_
  refine la_call (as := [.int (l.2.2 (i + 1)), .int (l.2.2 (i + 2)), .int (l.2.2 (i + 3)), .int (l.2.2 (i + 4))]) (rest := [_]) (yc_sheet (d := 0) hq (hI.2.1.x f1)) cw_Y_sheet (by rfl) (by rfl) (by decide) (by decide) (by decide) d_L_law_544 rfl rfl (Nat.le_of_ble_eq_true rfl) (Nat.le_of_ble_eq_true rfl) rfl rfl (fun r σ2 q => ?_)
  obtain ⟨rfl, y2, f2⟩ := q
  refine la_eq (t := 1472) d_L_law_547 (by decide) ?_
  exact K _ _ _ (hI.up x1 f1 y2 f2 (hO.sheet) (Nat.le_succ c))
theorem lc_hours {l : xLa} {i k uc us c : Nat} {w : wv} {σ : xs} {Q : Option Value → xH → Prop} (hI : IV k w c σ) (hk : k < 512) (hi : i + 5 ≤ l.2.1) (hL : l.2.1 ≤ 2560) (K : ∀ w2 c2 σ2, IV (k + 1) w2 c2 σ2 → E l M_L_law 2048 1472 (LLV i) [] (mk σ2) uc us Q) : E l M_L_law 2048 552 (LLV i) [] (mk σ) uc us Q := by
  have hO := hI.2.2.1
  have hq := hO.q (by omega)
  refine oe_aload d_L_law_552 rfl ?_
  refine la_arg (i := i) (j := 1) d_L_law_553 d_L_law_554 d_L_law_556 d_L_law_557 d_L_law_558 rfl rfl (by decide) (by omega) hL ?_
  refine la_call (as := [.int (l.2.2 (i + 1))]) (rest := []) (xc_hours (d := 0) hq hI.1 hO.hU) cw_X_hours (by rfl) (by rfl) (by decide) (by decide) (by decide) d_L_law_559 rfl rfl (Nat.le_of_ble_eq_true rfl) (Nat.le_of_ble_eq_true rfl) rfl rfl (fun r σ1 q => ?_)
  obtain ⟨rfl, x1, f1⟩ := q
  refine oe_aload d_L_law_562 rfl ?_
  refine la_arg (i := i) (j := 1) d_L_law_563 d_L_law_564 d_L_law_566 d_L_law_567 d_L_law_568 rfl rfl (by decide) (by omega) hL ?_
  refine la_call (as := [.int (l.2.2 (i + 1))]) (rest := [_]) (yc_hours (d := 0) hq (hI.2.1.x f1) hO.hU) cw_Y_hours (by rfl) (by rfl) (by decide) (by decide) (by decide) d_L_law_569 rfl rfl (Nat.le_of_ble_eq_true rfl) (Nat.le_of_ble_eq_true rfl) rfl rfl (fun r σ2 q => ?_)
  obtain ⟨rfl, y2, f2⟩ := q
  refine la_eq (t := 1472) d_L_law_572 (by decide) ?_
  exact K _ _ _ (hI.up x1 f1 y2 f2 (hO.hours (by omega)) (Nat.le_succ c))
theorem lc_promise {l : xLa} {i k uc us c : Nat} {w : wv} {σ : xs} {Q : Option Value → xH → Prop} (hI : IV k w c σ) (hk : k < 512) (hi : i + 5 ≤ l.2.1) (hL : l.2.1 ≤ 2560) (K : ∀ w2 c2 σ2, IV (k + 1) w2 c2 σ2 → E l M_L_law 2048 1472 (LLV i) [] (mk σ2) uc us Q) : E l M_L_law 2048 577 (LLV i) [] (mk σ) uc us Q := by
  have hO := hI.2.2.1
  have hq := hO.q (by omega)
  refine oe_aload d_L_law_577 rfl ?_
  refine la_arg (i := i) (j := 1) d_L_law_578 d_L_law_579 d_L_law_581 d_L_law_582 d_L_law_583 rfl rfl (by decide) (by omega) hL ?_
  refine la_arg (i := i) (j := 2) d_L_law_584 d_L_law_585 d_L_law_587 d_L_law_588 d_L_law_589 rfl rfl (by decide) (by omega) hL ?_
  refine la_arg (i := i) (j := 3) d_L_law_590 d_L_law_591 d_L_law_593 d_L_law_594 d_L_law_595 rfl rfl (by decide) (by omega) hL ?_
  refine la_call (as := [.int (l.2.2 (i + 1)), .int (l.2.2 (i + 2)), .int (l.2.2 (i + 3))]) (rest := []) (xc_promise (d := 0) hq hI.1 hO.hU) cw_X_promise (by rfl) (by rfl) (by decide) (by decide) (by decide) d_L_law_596 rfl rfl (Nat.le_of_ble_eq_true rfl) (Nat.le_of_ble_eq_true rfl) rfl rfl (fun r σ1 q => ?_)
  obtain ⟨rfl, x1, f1⟩ := q
  refine oe_aload d_L_law_599 rfl ?_
  refine la_arg (i := i) (j := 1) d_L_law_600 d_L_law_601 d_L_law_603 d_L_law_604 d_L_law_605 rfl rfl (by decide) (by omega) hL ?_
  refine la_arg (i := i) (j := 2) d_L_law_606 d_L_law_607 d_L_law_609 d_L_law_610 d_L_law_611 rfl rfl (by decide) (by omega) hL ?_
  refine la_arg (i := i) (j := 3) d_L_law_612 d_L_law_613 d_L_law_615 d_L_law_616 d_L_law_617 rfl rfl (by decide) (by omega) hL ?_
  refine la_call (as := [.int (l.2.2 (i + 1)), .int (l.2.2 (i + 2)), .int (l.2.2 (i + 3))]) (rest := [_]) (yc_promise (d := 0) hq (hI.2.1.x f1) hO.hU) cw_Y_promise (by rfl) (by rfl) (by decide) (by decide) (by decide) d_L_law_618 rfl rfl (Nat.le_of_ble_eq_true rfl) (Nat.le_of_ble_eq_true rfl) rfl rfl (fun r σ2 q => ?_)
  obtain ⟨rfl, y2, f2⟩ := q
  refine la_eq (t := 1472) d_L_law_621 (by decide) ?_
  exact K _ _ _ (hI.up x1 f1 y2 f2 (hO.prom) (Nat.le_succ c))
theorem lc_takesBack {l : xLa} {i k uc us c : Nat} {w : wv} {σ : xs} {Q : Option Value → xH → Prop} (hI : IV k w c σ) (hk : k < 512) (hi : i + 5 ≤ l.2.1) (hL : l.2.1 ≤ 2560) (K : ∀ w2 c2 σ2, IV (k + 1) w2 c2 σ2 → E l M_L_law 2048 1472 (LLV i) [] (mk σ2) uc us Q) : E l M_L_law 2048 626 (LLV i) [] (mk σ) uc us Q := by
  have hO := hI.2.2.1
  have hq := hO.q (by omega)
  refine oe_aload d_L_law_626 rfl ?_
  refine la_arg (i := i) (j := 1) d_L_law_627 d_L_law_628 d_L_law_630 d_L_law_631 d_L_law_632 rfl rfl (by decide) (by omega) hL ?_
  refine la_call (as := [.int (l.2.2 (i + 1))]) (rest := []) (xc_takesBack (d := 0) hq hI.1 hO.hU) cw_X_takesBack (by rfl) (by rfl) (by decide) (by decide) (by decide) d_L_law_633 rfl rfl (Nat.le_of_ble_eq_true rfl) (Nat.le_of_ble_eq_true rfl) rfl rfl (fun r σ1 q => ?_)
  obtain ⟨rfl, x1, f1⟩ := q
  refine oe_aload d_L_law_636 rfl ?_
  refine la_arg (i := i) (j := 1) d_L_law_637 d_L_law_638 d_L_law_640 d_L_law_641 d_L_law_642 rfl rfl (by decide) (by omega) hL ?_
  refine la_call (as := [.int (l.2.2 (i + 1))]) (rest := [_]) (yc_takesBack (d := 0) hq (hI.2.1.x f1) hO.hU) cw_Y_takesBack (by rfl) (by rfl) (by decide) (by decide) (by decide) d_L_law_643 rfl rfl (Nat.le_of_ble_eq_true rfl) (Nat.le_of_ble_eq_true rfl) rfl rfl (fun r σ2 q => ?_)
  obtain ⟨rfl, y2, f2⟩ := q
  refine la_eq (t := 1472) d_L_law_646 (by decide) ?_
  exact K _ _ _ (hI.up x1 f1 y2 f2 (hO.takes) (Nat.le_succ c))
theorem lc_letsGo {l : xLa} {i k uc us c : Nat} {w : wv} {σ : xs} {Q : Option Value → xH → Prop} (hI : IV k w c σ) (hk : k < 512) (hi : i + 5 ≤ l.2.1) (hL : l.2.1 ≤ 2560) (K : ∀ w2 c2 σ2, IV (k + 1) w2 c2 σ2 → E l M_L_law 2048 1472 (LLV i) [] (mk σ2) uc us Q) : E l M_L_law 2048 651 (LLV i) [] (mk σ) uc us Q := by
  have hO := hI.2.2.1
  have hq := hO.q (by omega)
  refine oe_aload d_L_law_651 rfl ?_
  refine la_arg (i := i) (j := 1) d_L_law_652 d_L_law_653 d_L_law_655 d_L_law_656 d_L_law_657 rfl rfl (by decide) (by omega) hL ?_
  refine la_call (as := [.int (l.2.2 (i + 1))]) (rest := []) (xc_letsGo (d := 0) hq hI.1 hO.hU) cw_X_letsGo (by rfl) (by rfl) (by decide) (by decide) (by decide) d_L_law_658 rfl rfl (Nat.le_of_ble_eq_true rfl) (Nat.le_of_ble_eq_true rfl) rfl rfl (fun r σ1 q => ?_)
  obtain ⟨rfl, x1, f1⟩ := q
  refine oe_aload d_L_law_661 rfl ?_
  refine la_arg (i := i) (j := 1) d_L_law_662 d_L_law_663 d_L_law_665 d_L_law_666 d_L_law_667 rfl rfl (by decide) (by omega) hL ?_
  refine la_call (as := [.int (l.2.2 (i + 1))]) (rest := [_]) (yc_letsGo (d := 0) hq (hI.2.1.x f1) hO.hU) cw_Y_letsGo (by rfl) (by rfl) (by decide) (by decide) (by decide) d_L_law_668 rfl rfl (Nat.le_of_ble_eq_true rfl) (Nat.le_of_ble_eq_true rfl) rfl rfl (fun r σ2 q => ?_)
  obtain ⟨rfl, y2, f2⟩ := q
  refine la_eq (t := 1472) d_L_law_671 (by decide) ?_
  exact K _ _ _ (hI.up x1 f1 y2 f2 (hO.lets) (Nat.le_succ c))
theorem lc_buys {l : xLa} {i k uc us c : Nat} {w : wv} {σ : xs} {Q : Option Value → xH → Prop} (hI : IV k w c σ) (hk : k < 512) (hi : i + 5 ≤ l.2.1) (hL : l.2.1 ≤ 2560) (K : ∀ w2 c2 σ2, IV (k + 1) w2 c2 σ2 → E l M_L_law 2048 1472 (LLV i) [] (mk σ2) uc us Q) : E l M_L_law 2048 676 (LLV i) [] (mk σ) uc us Q := by
  have hO := hI.2.2.1
  have hq := hO.q (by omega)
  refine oe_aload d_L_law_676 rfl ?_
  refine la_arg (i := i) (j := 1) d_L_law_677 d_L_law_678 d_L_law_680 d_L_law_681 d_L_law_682 rfl rfl (by decide) (by omega) hL ?_
  refine la_call (as := [.int (l.2.2 (i + 1))]) (rest := []) (xc_buys (d := 0) hq hI.1 hO.hU) cw_X_buys (by rfl) (by rfl) (by decide) (by decide) (by decide) d_L_law_683 rfl rfl (Nat.le_of_ble_eq_true rfl) (Nat.le_of_ble_eq_true rfl) rfl rfl (fun r σ1 q => ?_)
  obtain ⟨rfl, x1, f1⟩ := q
  refine oe_aload d_L_law_686 rfl ?_
  refine la_arg (i := i) (j := 1) d_L_law_687 d_L_law_688 d_L_law_690 d_L_law_691 d_L_law_692 rfl rfl (by decide) (by omega) hL ?_
  refine la_call (as := [.int (l.2.2 (i + 1))]) (rest := [_]) (yc_buys (d := 0) hq (hI.2.1.x f1) hO.hU) cw_Y_buys (by rfl) (by rfl) (by decide) (by decide) (by decide) d_L_law_693 rfl rfl (Nat.le_of_ble_eq_true rfl) (Nat.le_of_ble_eq_true rfl) rfl rfl (fun r σ2 q => ?_)
  obtain ⟨rfl, y2, f2⟩ := q
  refine la_eq (t := 1472) d_L_law_696 (by decide) ?_
  exact K _ _ _ (hI.up x1 f1 y2 f2 (hO.buys) (Nat.le_succ c))
theorem lc_day {l : xLa} {i k uc us c : Nat} {w : wv} {σ : xs} {Q : Option Value → xH → Prop} (hI : IV k w c σ) (hk : k < 512) (hi : i + 5 ≤ l.2.1) (hL : l.2.1 ≤ 2560) (K : ∀ w2 c2 σ2, IV (k + 1) w2 c2 σ2 → E l M_L_law 2048 1472 (LLV i) [] (mk σ2) uc us Q) : E l M_L_law 2048 701 (LLV i) [] (mk σ) uc us Q := by
  have hO := hI.2.2.1
  have hq := hO.q (by omega)
  refine oe_aload d_L_law_701 rfl ?_
  refine la_call (as := []) (rest := []) (xc_day (d := 0) hq hI.1 (hO.hH (by omega)) hO.okX hO.hU) cw_X_day (by rfl) (by rfl) (by decide) (by decide) (by decide) d_L_law_702 rfl rfl (Nat.le_of_ble_eq_true rfl) (Nat.le_of_ble_eq_true rfl) rfl rfl (fun r σ1 q => ?_)
  obtain ⟨rfl, x1, f1⟩ := q
  refine oe_aload d_L_law_705 rfl ?_
  refine la_call (as := []) (rest := [_]) (yc_day (d := 0) hq (hI.2.1.x f1) (hO.hH (by omega)) hO.okX hO.hU) cw_Y_day (by rfl) (by rfl) (by decide) (by decide) (by decide) d_L_law_706 rfl rfl (Nat.le_of_ble_eq_true rfl) (Nat.le_of_ble_eq_true rfl) rfl rfl (fun r σ2 q => ?_)
  obtain ⟨rfl, y2, f2⟩ := q
  refine la_eq (t := 1472) d_L_law_709 (by decide) ?_
  exact K _ _ _ (hI.up x1 f1 y2 f2 (hO.day (by omega)) (Nat.le_succ c))
theorem lc_undo {l : xLa} {i k uc us c : Nat} {w : wv} {σ : xs} {Q : Option Value → xH → Prop} (hI : IV k w c σ) (hk : k < 512) (hi : i + 5 ≤ l.2.1) (hL : l.2.1 ≤ 2560) (K : ∀ w2 c2 σ2, IV (k + 1) w2 c2 σ2 → E l M_L_law 2048 1472 (LLV i) [] (mk σ2) uc us Q) : E l M_L_law 2048 714 (LLV i) [] (mk σ) uc us Q := by
  have hO := hI.2.2.1
  have hq := hO.q (by omega)
  refine oe_aload d_L_law_714 rfl ?_
  refine la_call (as := []) (rest := []) (xc_undo (d := 0) hq hI.1 hO.hU) cw_X_undo (by rfl) (by rfl) (by decide) (by decide) (by decide) d_L_law_715 rfl rfl (Nat.le_of_ble_eq_true rfl) (Nat.le_of_ble_eq_true rfl) rfl rfl (fun r σ1 q => ?_)
  obtain ⟨rfl, x1, f1⟩ := q
  refine oe_aload d_L_law_718 rfl ?_
  refine la_call (as := []) (rest := [_]) (yc_undo (d := 0) hq (hI.2.1.x f1) hO.hU) cw_Y_undo (by rfl) (by rfl) (by decide) (by decide) (by decide) d_L_law_719 rfl rfl (Nat.le_of_ble_eq_true rfl) (Nat.le_of_ble_eq_true rfl) rfl rfl (fun r σ2 q => ?_)
  obtain ⟨rfl, y2, f2⟩ := q
  refine la_eq (t := 1472) d_L_law_722 (by decide) ?_
  exact K _ _ _ (hI.up x1 f1 y2 f2 (hO.undo) (Nat.le_succ c))
theorem lc_towed {l : xLa} {i k uc us c : Nat} {w : wv} {σ : xs} {Q : Option Value → xH → Prop} (hI : IV k w c σ) (hk : k < 512) (hi : i + 5 ≤ l.2.1) (hL : l.2.1 ≤ 2560) (K : ∀ w2 c2 σ2, IV (k + 1) w2 c2 σ2 → E l M_L_law 2048 1472 (LLV i) [] (mk σ2) uc us Q) : E l M_L_law 2048 727 (LLV i) [] (mk σ) uc us Q := by
  have hO := hI.2.2.1
  have hq := hO.q (by omega)
  refine oe_aload d_L_law_727 rfl ?_
  refine la_call (as := []) (rest := []) (xc_towed (d := 0) hq hI.1) cw_X_towed (by rfl) (by rfl) (by decide) (by decide) (by decide) d_L_law_728 rfl rfl (Nat.le_of_ble_eq_true rfl) (Nat.le_of_ble_eq_true rfl) rfl rfl (fun r σ1 q => ?_)
  obtain ⟨rfl, x1, f1⟩ := q
  refine oe_aload d_L_law_731 rfl ?_
  refine la_call (as := []) (rest := [_]) (yc_towed (d := 0) hq (hI.2.1.x f1)) cw_Y_towed (by rfl) (by rfl) (by decide) (by decide) (by decide) d_L_law_732 rfl rfl (Nat.le_of_ble_eq_true rfl) (Nat.le_of_ble_eq_true rfl) rfl rfl (fun r σ2 q => ?_)
  obtain ⟨rfl, y2, f2⟩ := q
  refine la_eq (t := 1472) d_L_law_735 (by decide) ?_
  exact K _ _ _ (hI.up x1 f1 y2 f2 (hO.tq tq_towed) (Nat.le_succ c))
theorem lc_ahead {l : xLa} {i k uc us c : Nat} {w : wv} {σ : xs} {Q : Option Value → xH → Prop} (hI : IV k w c σ) (hk : k < 512) (hi : i + 5 ≤ l.2.1) (hL : l.2.1 ≤ 2560) (K : ∀ w2 c2 σ2, IV (k + 1) w2 c2 σ2 → E l M_L_law 2048 1472 (LLV i) [] (mk σ2) uc us Q) : E l M_L_law 2048 740 (LLV i) [] (mk σ) uc us Q := by
  have hO := hI.2.2.1
  have hq := hO.q (by omega)
  refine oe_aload d_L_law_740 rfl ?_
  refine la_arg (i := i) (j := 1) d_L_law_741 d_L_law_742 d_L_law_744 d_L_law_745 d_L_law_746 rfl rfl (by decide) (by omega) hL ?_
  refine la_call (as := [.int (l.2.2 (i + 1))]) (rest := []) (xc_ahead (d := 0) hq hI.1) cw_X_ahead (by rfl) (by rfl) (by decide) (by decide) (by decide) d_L_law_747 rfl rfl (Nat.le_of_ble_eq_true rfl) (Nat.le_of_ble_eq_true rfl) rfl rfl (fun r σ1 q => ?_)
  obtain ⟨rfl, x1, f1⟩ := q
  refine oe_aload d_L_law_750 rfl ?_
  refine la_arg (i := i) (j := 1) d_L_law_751 d_L_law_752 d_L_law_754 d_L_law_755 d_L_law_756 rfl rfl (by decide) (by omega) hL ?_
  refine la_call (as := [.int (l.2.2 (i + 1))]) (rest := [_]) (yc_ahead (d := 0) hq (hI.2.1.x f1)) cw_Y_ahead (by rfl) (by rfl) (by decide) (by decide) (by decide) d_L_law_757 rfl rfl (Nat.le_of_ble_eq_true rfl) (Nat.le_of_ble_eq_true rfl) rfl rfl (fun r σ2 q => ?_)
  obtain ⟨rfl, y2, f2⟩ := q
  refine la_eq (t := 1472) d_L_law_760 (by decide) ?_
  exact K _ _ _ (hI.up x1 f1 y2 f2 (hO.tq tq_ahead) (Nat.le_succ c))
theorem lc_comes {l : xLa} {i k uc us c : Nat} {w : wv} {σ : xs} {Q : Option Value → xH → Prop} (hI : IV k w c σ) (hk : k < 512) (hi : i + 5 ≤ l.2.1) (hL : l.2.1 ≤ 2560) (K : ∀ w2 c2 σ2, IV (k + 1) w2 c2 σ2 → E l M_L_law 2048 1472 (LLV i) [] (mk σ2) uc us Q) : E l M_L_law 2048 765 (LLV i) [] (mk σ) uc us Q := by
  have hO := hI.2.2.1
  have hq := hO.q (by omega)
  refine oe_aload d_L_law_765 rfl ?_
  refine la_arg (i := i) (j := 1) d_L_law_766 d_L_law_767 d_L_law_769 d_L_law_770 d_L_law_771 rfl rfl (by decide) (by omega) hL ?_
  refine la_call (as := [.int (l.2.2 (i + 1))]) (rest := []) (xc_comes (d := 0) hq hI.1) cw_X_comes (by rfl) (by rfl) (by decide) (by decide) (by decide) d_L_law_772 rfl rfl (Nat.le_of_ble_eq_true rfl) (Nat.le_of_ble_eq_true rfl) rfl rfl (fun r σ1 q => ?_)
  obtain ⟨rfl, x1, f1⟩ := q
  refine oe_aload d_L_law_775 rfl ?_
  refine la_arg (i := i) (j := 1) d_L_law_776 d_L_law_777 d_L_law_779 d_L_law_780 d_L_law_781 rfl rfl (by decide) (by omega) hL ?_
  refine la_call (as := [.int (l.2.2 (i + 1))]) (rest := [_]) (yc_comes (d := 0) hq (hI.2.1.x f1)) cw_Y_comes (by rfl) (by rfl) (by decide) (by decide) (by decide) d_L_law_782 rfl rfl (Nat.le_of_ble_eq_true rfl) (Nat.le_of_ble_eq_true rfl) rfl rfl (fun r σ2 q => ?_)
  obtain ⟨rfl, y2, f2⟩ := q
  refine la_eq (t := 1472) d_L_law_785 (by decide) ?_
  exact K _ _ _ (hI.up x1 f1 y2 f2 (hO.tq tq_comes) (Nat.le_succ c))
theorem lc_sticks {l : xLa} {i k uc us c : Nat} {w : wv} {σ : xs} {Q : Option Value → xH → Prop} (hI : IV k w c σ) (hk : k < 512) (hi : i + 5 ≤ l.2.1) (hL : l.2.1 ≤ 2560) (K : ∀ w2 c2 σ2, IV (k + 1) w2 c2 σ2 → E l M_L_law 2048 1472 (LLV i) [] (mk σ2) uc us Q) : E l M_L_law 2048 790 (LLV i) [] (mk σ) uc us Q := by
  have hO := hI.2.2.1
  have hq := hO.q (by omega)
  refine oe_aload d_L_law_790 rfl ?_
  refine la_call (as := []) (rest := []) (xc_sticks (d := 0) hq hI.1) cw_X_sticks (by rfl) (by rfl) (by decide) (by decide) (by decide) d_L_law_791 rfl rfl (Nat.le_of_ble_eq_true rfl) (Nat.le_of_ble_eq_true rfl) rfl rfl (fun r σ1 q => ?_)
  obtain ⟨rfl, x1, f1⟩ := q
  refine oe_aload d_L_law_794 rfl ?_
  refine la_call (as := []) (rest := [_]) (yc_sticks (d := 0) hq (hI.2.1.x f1)) cw_Y_sticks (by rfl) (by rfl) (by decide) (by decide) (by decide) d_L_law_795 rfl rfl (Nat.le_of_ble_eq_true rfl) (Nat.le_of_ble_eq_true rfl) rfl rfl (fun r σ2 q => ?_)
  obtain ⟨rfl, y2, f2⟩ := q
  refine la_eq (t := 1472) d_L_law_798 (by decide) ?_
  exact K _ _ _ (hI.up x1 f1 y2 f2 (hO.tq tq_sticks) (Nat.le_succ c))
theorem lc_track {l : xLa} {i k uc us c : Nat} {w : wv} {σ : xs} {Q : Option Value → xH → Prop} (hI : IV k w c σ) (hk : k < 512) (hi : i + 5 ≤ l.2.1) (hL : l.2.1 ≤ 2560) (K : ∀ w2 c2 σ2, IV (k + 1) w2 c2 σ2 → E l M_L_law 2048 1472 (LLV i) [] (mk σ2) uc us Q) : E l M_L_law 2048 803 (LLV i) [] (mk σ) uc us Q := by
  have hO := hI.2.2.1
  have hq := hO.q (by omega)
  refine oe_aload d_L_law_803 rfl ?_
  refine la_arg (i := i) (j := 1) d_L_law_804 d_L_law_805 d_L_law_807 d_L_law_808 d_L_law_809 rfl rfl (by decide) (by omega) hL ?_
  refine la_call (as := [.int (l.2.2 (i + 1))]) (rest := []) (xc_track (d := 0) hq hI.1) cw_X_track (by rfl) (by rfl) (by decide) (by decide) (by decide) d_L_law_810 rfl rfl (Nat.le_of_ble_eq_true rfl) (Nat.le_of_ble_eq_true rfl) rfl rfl (fun r σ1 q => ?_)
  obtain ⟨rfl, x1, f1⟩ := q
  refine oe_aload d_L_law_813 rfl ?_
  refine la_arg (i := i) (j := 1) d_L_law_814 d_L_law_815 d_L_law_817 d_L_law_818 d_L_law_819 rfl rfl (by decide) (by omega) hL ?_
  refine la_call (as := [.int (l.2.2 (i + 1))]) (rest := [_]) (yc_track (d := 0) hq (hI.2.1.x f1)) cw_Y_track (by rfl) (by rfl) (by decide) (by decide) (by decide) d_L_law_820 rfl rfl (Nat.le_of_ble_eq_true rfl) (Nat.le_of_ble_eq_true rfl) rfl rfl (fun r σ2 q => ?_)
  obtain ⟨rfl, y2, f2⟩ := q
  refine la_lcmp d_L_law_823 ?_
  rw [lg_cmp0]
  refine la_if0 (t := 1472) d_L_law_824 (by decide) ?_
  exact K _ _ _ (hI.up x1 f1 y2 f2 (hO.tq tq_track) (Nat.le_succ c))
theorem lc_sends {l : xLa} {i k uc us c : Nat} {w : wv} {σ : xs} {Q : Option Value → xH → Prop} (hI : IV k w c σ) (hk : k < 512) (hi : i + 5 ≤ l.2.1) (hL : l.2.1 ≤ 2560) (K : ∀ w2 c2 σ2, IV (k + 1) w2 c2 σ2 → E l M_L_law 2048 1472 (LLV i) [] (mk σ2) uc us Q) : E l M_L_law 2048 829 (LLV i) [] (mk σ) uc us Q := by
  have hO := hI.2.2.1
  have hq := hO.q (by omega)
  refine oe_aload d_L_law_829 rfl ?_
  refine la_arg (i := i) (j := 1) d_L_law_830 d_L_law_831 d_L_law_833 d_L_law_834 d_L_law_835 rfl rfl (by decide) (by omega) hL ?_
  refine la_arg (i := i) (j := 2) d_L_law_836 d_L_law_837 d_L_law_839 d_L_law_840 d_L_law_841 rfl rfl (by decide) (by omega) hL ?_
  refine la_arg (i := i) (j := 3) d_L_law_842 d_L_law_843 d_L_law_845 d_L_law_846 d_L_law_847 rfl rfl (by decide) (by omega) hL ?_
  refine la_call (as := [.int (l.2.2 (i + 1)), .int (l.2.2 (i + 2)), .int (l.2.2 (i + 3))]) (rest := []) (xc_sends (d := 0) hq hI.1) cw_X_sends (by rfl) (by rfl) (by decide) (by decide) (by decide) d_L_law_848 rfl rfl (Nat.le_of_ble_eq_true rfl) (Nat.le_of_ble_eq_true rfl) rfl rfl (fun r σ1 q => ?_)
  obtain ⟨rfl, x1, f1⟩ := q
  refine oe_aload d_L_law_851 rfl ?_
  refine la_arg (i := i) (j := 1) d_L_law_852 d_L_law_853 d_L_law_855 d_L_law_856 d_L_law_857 rfl rfl (by decide) (by omega) hL ?_
  refine la_arg (i := i) (j := 2) d_L_law_858 d_L_law_859 d_L_law_861 d_L_law_862 d_L_law_863 rfl rfl (by decide) (by omega) hL ?_
  refine la_arg (i := i) (j := 3) d_L_law_864 d_L_law_865 d_L_law_867 d_L_law_868 d_L_law_869 rfl rfl (by decide) (by omega) hL ?_
  refine la_call (as := [.int (l.2.2 (i + 1)), .int (l.2.2 (i + 2)), .int (l.2.2 (i + 3))]) (rest := [_]) (yc_sends (d := 0) hq (hI.2.1.x f1)) cw_Y_sends (by rfl) (by rfl) (by decide) (by decide) (by decide) d_L_law_870 rfl rfl (Nat.le_of_ble_eq_true rfl) (Nat.le_of_ble_eq_true rfl) rfl rfl (fun r σ2 q => ?_)
  obtain ⟨rfl, y2, f2⟩ := q
  refine la_eq (t := 1472) d_L_law_873 (by decide) ?_
  exact K _ _ _ (hI.up x1 f1 y2 f2 (hO.tq tq_sends) (Nat.le_succ c))
theorem lc_cheapest {l : xLa} {i k uc us c : Nat} {w : wv} {σ : xs} {Q : Option Value → xH → Prop} (hI : IV k w c σ) (hk : k < 512) (hi : i + 5 ≤ l.2.1) (hL : l.2.1 ≤ 2560) (K : ∀ w2 c2 σ2, IV (k + 1) w2 c2 σ2 → E l M_L_law 2048 1472 (LLV i) [] (mk σ2) uc us Q) : E l M_L_law 2048 878 (LLV i) [] (mk σ) uc us Q := by
  have hO := hI.2.2.1
  have hq := hO.q (by omega)
  refine oe_aload d_L_law_878 rfl ?_
  refine la_arg (i := i) (j := 1) d_L_law_879 d_L_law_880 d_L_law_882 d_L_law_883 d_L_law_884 rfl rfl (by decide) (by omega) hL ?_
  refine la_arg (i := i) (j := 2) d_L_law_885 d_L_law_886 d_L_law_888 d_L_law_889 d_L_law_890 rfl rfl (by decide) (by omega) hL ?_
  refine la_call (as := [.int (l.2.2 (i + 1)), .int (l.2.2 (i + 2))]) (rest := []) (xc_cheapest (d := 0) hq hI.1) cw_X_cheapest (by rfl) (by rfl) (by decide) (by decide) (by decide) d_L_law_891 rfl rfl (Nat.le_of_ble_eq_true rfl) (Nat.le_of_ble_eq_true rfl) rfl rfl (fun r σ1 q => ?_)
  obtain ⟨rfl, x1, f1⟩ := q
  refine oe_aload d_L_law_894 rfl ?_
  refine la_arg (i := i) (j := 1) d_L_law_895 d_L_law_896 d_L_law_898 d_L_law_899 d_L_law_900 rfl rfl (by decide) (by omega) hL ?_
  refine la_arg (i := i) (j := 2) d_L_law_901 d_L_law_902 d_L_law_904 d_L_law_905 d_L_law_906 rfl rfl (by decide) (by omega) hL ?_
  refine la_call (as := [.int (l.2.2 (i + 1)), .int (l.2.2 (i + 2))]) (rest := [_]) (yc_cheapest (d := 0) hq (hI.2.1.x f1)) cw_Y_cheapest (by rfl) (by rfl) (by decide) (by decide) (by decide) d_L_law_907 rfl rfl (Nat.le_of_ble_eq_true rfl) (Nat.le_of_ble_eq_true rfl) rfl rfl (fun r σ2 q => ?_)
  obtain ⟨rfl, y2, f2⟩ := q
  refine la_eq (t := 1472) d_L_law_910 (by decide) ?_
  exact K _ _ _ (hI.up x1 f1 y2 f2 (hO.tq tq_cheapest) (Nat.le_succ c))
theorem lc_matters {l : xLa} {i k uc us c : Nat} {w : wv} {σ : xs} {Q : Option Value → xH → Prop} (hI : IV k w c σ) (hk : k < 512) (hi : i + 5 ≤ l.2.1) (hL : l.2.1 ≤ 2560) (K : ∀ w2 c2 σ2, IV (k + 1) w2 c2 σ2 → E l M_L_law 2048 1472 (LLV i) [] (mk σ2) uc us Q) : E l M_L_law 2048 915 (LLV i) [] (mk σ) uc us Q := by
  have hO := hI.2.2.1
  have hq := hO.q (by omega)
  refine oe_aload d_L_law_915 rfl ?_
  refine la_arg (i := i) (j := 1) d_L_law_916 d_L_law_917 d_L_law_919 d_L_law_920 d_L_law_921 rfl rfl (by decide) (by omega) hL ?_
  refine la_call (as := [.int (l.2.2 (i + 1))]) (rest := []) (xc_matters (d := 0) hq hI.1) cw_X_matters (by rfl) (by rfl) (by decide) (by decide) (by decide) d_L_law_922 rfl rfl (Nat.le_of_ble_eq_true rfl) (Nat.le_of_ble_eq_true rfl) rfl rfl (fun r σ1 q => ?_)
  obtain ⟨rfl, x1, f1⟩ := q
  refine oe_aload d_L_law_925 rfl ?_
  refine la_arg (i := i) (j := 1) d_L_law_926 d_L_law_927 d_L_law_929 d_L_law_930 d_L_law_931 rfl rfl (by decide) (by omega) hL ?_
  refine la_call (as := [.int (l.2.2 (i + 1))]) (rest := [_]) (yc_matters (d := 0) hq (hI.2.1.x f1)) cw_Y_matters (by rfl) (by rfl) (by decide) (by decide) (by decide) d_L_law_932 rfl rfl (Nat.le_of_ble_eq_true rfl) (Nat.le_of_ble_eq_true rfl) rfl rfl (fun r σ2 q => ?_)
  obtain ⟨rfl, y2, f2⟩ := q
  refine la_eq (t := 1472) d_L_law_935 (by decide) ?_
  exact K _ _ _ (hI.up x1 f1 y2 f2 (hO.tq tq_matters) (Nat.le_succ c))
theorem lc_keeps {l : xLa} {i k uc us c : Nat} {w : wv} {σ : xs} {Q : Option Value → xH → Prop} (hI : IV k w c σ) (hk : k < 512) (hi : i + 5 ≤ l.2.1) (hL : l.2.1 ≤ 2560) (K : ∀ w2 c2 σ2, IV (k + 1) w2 c2 σ2 → E l M_L_law 2048 1472 (LLV i) [] (mk σ2) uc us Q) : E l M_L_law 2048 940 (LLV i) [] (mk σ) uc us Q := by
  have hO := hI.2.2.1
  have hq := hO.q (by omega)
  refine oe_aload d_L_law_940 rfl ?_
  refine la_call (as := []) (rest := []) (xc_keeps (d := 0) hq hI.1) cw_X_keeps (by rfl) (by rfl) (by decide) (by decide) (by decide) d_L_law_941 rfl rfl (Nat.le_of_ble_eq_true rfl) (Nat.le_of_ble_eq_true rfl) rfl rfl (fun r σ1 q => ?_)
  obtain ⟨rfl, x1, f1⟩ := q
  refine oe_aload d_L_law_944 rfl ?_
  refine la_call (as := []) (rest := [_]) (yc_keeps (d := 0) hq (hI.2.1.x f1)) cw_Y_keeps (by rfl) (by rfl) (by decide) (by decide) (by decide) d_L_law_945 rfl rfl (Nat.le_of_ble_eq_true rfl) (Nat.le_of_ble_eq_true rfl) rfl rfl (fun r σ2 q => ?_)
  obtain ⟨rfl, y2, f2⟩ := q
  refine la_eq (t := 1472) d_L_law_948 (by decide) ?_
  exact K _ _ _ (hI.up x1 f1 y2 f2 (hO.tq tq_keeps) (Nat.le_succ c))
theorem lc_owed {l : xLa} {i k uc us c : Nat} {w : wv} {σ : xs} {Q : Option Value → xH → Prop} (hI : IV k w c σ) (hk : k < 512) (hi : i + 5 ≤ l.2.1) (hL : l.2.1 ≤ 2560) (K : ∀ w2 c2 σ2, IV (k + 1) w2 c2 σ2 → E l M_L_law 2048 1472 (LLV i) [] (mk σ2) uc us Q) : E l M_L_law 2048 953 (LLV i) [] (mk σ) uc us Q := by
  have hO := hI.2.2.1
  have hq := hO.q (by omega)
  refine oe_aload d_L_law_953 rfl ?_
  refine la_call (as := []) (rest := []) (xc_owed (d := 0) hq hI.1) cw_X_owed (by rfl) (by rfl) (by decide) (by decide) (by decide) d_L_law_954 rfl rfl (Nat.le_of_ble_eq_true rfl) (Nat.le_of_ble_eq_true rfl) rfl rfl (fun r σ1 q => ?_)
  obtain ⟨rfl, x1, f1⟩ := q
  refine oe_aload d_L_law_957 rfl ?_
  refine la_call (as := []) (rest := [_]) (yc_owed (d := 0) hq (hI.2.1.x f1)) cw_Y_owed (by rfl) (by rfl) (by decide) (by decide) (by decide) d_L_law_958 rfl rfl (Nat.le_of_ble_eq_true rfl) (Nat.le_of_ble_eq_true rfl) rfl rfl (fun r σ2 q => ?_)
  obtain ⟨rfl, y2, f2⟩ := q
  refine la_eq (t := 1472) d_L_law_961 (by decide) ?_
  exact K _ _ _ (hI.up x1 f1 y2 f2 (hO.tq tq_owed) (Nat.le_succ c))
theorem lc_fates {l : xLa} {i k uc us c : Nat} {w : wv} {σ : xs} {Q : Option Value → xH → Prop} (hI : IV k w c σ) (hk : k < 512) (hi : i + 5 ≤ l.2.1) (hL : l.2.1 ≤ 2560) (K : ∀ w2 c2 σ2, IV (k + 1) w2 c2 σ2 → E l M_L_law 2048 1472 (LLV i) [] (mk σ2) uc us Q) : E l M_L_law 2048 966 (LLV i) [] (mk σ) uc us Q := by
  have hO := hI.2.2.1
  have hq := hO.q (by omega)
  refine oe_aload d_L_law_966 rfl ?_
  refine la_arg (i := i) (j := 1) d_L_law_967 d_L_law_968 d_L_law_970 d_L_law_971 d_L_law_972 rfl rfl (by decide) (by omega) hL ?_
  refine la_call (as := [.int (l.2.2 (i + 1))]) (rest := []) (xc_fates (d := 0) hq hI.1) cw_X_fates (by rfl) (by rfl) (by decide) (by decide) (by decide) d_L_law_973 rfl rfl (Nat.le_of_ble_eq_true rfl) (Nat.le_of_ble_eq_true rfl) rfl rfl (fun r σ1 q => ?_)
  obtain ⟨rfl, x1, f1⟩ := q
  refine oe_aload d_L_law_976 rfl ?_
  refine la_arg (i := i) (j := 1) d_L_law_977 d_L_law_978 d_L_law_980 d_L_law_981 d_L_law_982 rfl rfl (by decide) (by omega) hL ?_
  refine la_call (as := [.int (l.2.2 (i + 1))]) (rest := [_]) (yc_fates (d := 0) hq (hI.2.1.x f1)) cw_Y_fates (by rfl) (by rfl) (by decide) (by decide) (by decide) d_L_law_983 rfl rfl (Nat.le_of_ble_eq_true rfl) (Nat.le_of_ble_eq_true rfl) rfl rfl (fun r σ2 q => ?_)
  obtain ⟨rfl, y2, f2⟩ := q
  refine la_eq (t := 1472) d_L_law_986 (by decide) ?_
  exact K _ _ _ (hI.up x1 f1 y2 f2 (hO.tq tq_fates) (Nat.le_succ c))
theorem lc_minds {l : xLa} {i k uc us c : Nat} {w : wv} {σ : xs} {Q : Option Value → xH → Prop} (hI : IV k w c σ) (hk : k < 512) (hi : i + 5 ≤ l.2.1) (hL : l.2.1 ≤ 2560) (K : ∀ w2 c2 σ2, IV (k + 1) w2 c2 σ2 → E l M_L_law 2048 1472 (LLV i) [] (mk σ2) uc us Q) : E l M_L_law 2048 991 (LLV i) [] (mk σ) uc us Q := by
  have hO := hI.2.2.1
  have hq := hO.q (by omega)
  refine oe_aload d_L_law_991 rfl ?_
  refine la_call (as := []) (rest := []) (xc_minds (d := 0) hq hI.1) cw_X_minds (by rfl) (by rfl) (by decide) (by decide) (by decide) d_L_law_992 rfl rfl (Nat.le_of_ble_eq_true rfl) (Nat.le_of_ble_eq_true rfl) rfl rfl (fun r σ1 q => ?_)
  obtain ⟨rfl, x1, f1⟩ := q
  refine oe_aload d_L_law_995 rfl ?_
  refine la_call (as := []) (rest := [_]) (yc_minds (d := 0) hq (hI.2.1.x f1)) cw_Y_minds (by rfl) (by rfl) (by decide) (by decide) (by decide) d_L_law_996 rfl rfl (Nat.le_of_ble_eq_true rfl) (Nat.le_of_ble_eq_true rfl) rfl rfl (fun r σ2 q => ?_)
  obtain ⟨rfl, y2, f2⟩ := q
  refine la_eq (t := 1472) d_L_law_999 (by decide) ?_
  exact K _ _ _ (hI.up x1 f1 y2 f2 (hO.tq tq_minds) (Nat.le_succ c))
theorem lc_evens {l : xLa} {i k uc us c : Nat} {w : wv} {σ : xs} {Q : Option Value → xH → Prop} (hI : IV k w c σ) (hk : k < 512) (hi : i + 5 ≤ l.2.1) (hL : l.2.1 ≤ 2560) (K : ∀ w2 c2 σ2, IV (k + 1) w2 c2 σ2 → E l M_L_law 2048 1472 (LLV i) [] (mk σ2) uc us Q) : E l M_L_law 2048 1004 (LLV i) [] (mk σ) uc us Q := by
  have hO := hI.2.2.1
  have hq := hO.q (by omega)
  refine oe_aload d_L_law_1004 rfl ?_
  refine la_call (as := []) (rest := []) (xc_evens (d := 0) hq hI.1) cw_X_evens (by rfl) (by rfl) (by decide) (by decide) (by decide) d_L_law_1005 rfl rfl (Nat.le_of_ble_eq_true rfl) (Nat.le_of_ble_eq_true rfl) rfl rfl (fun r σ1 q => ?_)
  obtain ⟨rfl, x1, f1⟩ := q
  refine oe_aload d_L_law_1008 rfl ?_
  refine la_call (as := []) (rest := [_]) (yc_evens (d := 0) hq (hI.2.1.x f1)) cw_Y_evens (by rfl) (by rfl) (by decide) (by decide) (by decide) d_L_law_1009 rfl rfl (Nat.le_of_ble_eq_true rfl) (Nat.le_of_ble_eq_true rfl) rfl rfl (fun r σ2 q => ?_)
  obtain ⟨rfl, y2, f2⟩ := q
  refine la_eq (t := 1472) d_L_law_1012 (by decide) ?_
  exact K _ _ _ (hI.up x1 f1 y2 f2 (hO.tq tq_evens) (Nat.le_succ c))
theorem lc_strongest {l : xLa} {i k uc us c : Nat} {w : wv} {σ : xs} {Q : Option Value → xH → Prop} (hI : IV k w c σ) (hk : k < 512) (hi : i + 5 ≤ l.2.1) (hL : l.2.1 ≤ 2560) (K : ∀ w2 c2 σ2, IV (k + 1) w2 c2 σ2 → E l M_L_law 2048 1472 (LLV i) [] (mk σ2) uc us Q) : E l M_L_law 2048 1017 (LLV i) [] (mk σ) uc us Q := by
  have hO := hI.2.2.1
  have hq := hO.q (by omega)
  refine oe_aload d_L_law_1017 rfl ?_
  refine la_call (as := []) (rest := []) (xc_strongest (d := 0) hq hI.1) cw_X_strongest (by rfl) (by rfl) (by decide) (by decide) (by decide) d_L_law_1018 rfl rfl (Nat.le_of_ble_eq_true rfl) (Nat.le_of_ble_eq_true rfl) rfl rfl (fun r σ1 q => ?_)
  obtain ⟨rfl, x1, f1⟩ := q
  refine oe_aload d_L_law_1021 rfl ?_
  refine la_call (as := []) (rest := [_]) (yc_strongest (d := 0) hq (hI.2.1.x f1)) cw_Y_strongest (by rfl) (by rfl) (by decide) (by decide) (by decide) d_L_law_1022 rfl rfl (Nat.le_of_ble_eq_true rfl) (Nat.le_of_ble_eq_true rfl) rfl rfl (fun r σ2 q => ?_)
  obtain ⟨rfl, y2, f2⟩ := q
  refine la_eq (t := 1472) d_L_law_1025 (by decide) ?_
  exact K _ _ _ (hI.up x1 f1 y2 f2 (hO.tq tq_strongest) (Nat.le_succ c))
theorem lc_sways {l : xLa} {i k uc us c : Nat} {w : wv} {σ : xs} {Q : Option Value → xH → Prop} (hI : IV k w c σ) (hk : k < 512) (hi : i + 5 ≤ l.2.1) (hL : l.2.1 ≤ 2560) (K : ∀ w2 c2 σ2, IV (k + 1) w2 c2 σ2 → E l M_L_law 2048 1472 (LLV i) [] (mk σ2) uc us Q) : E l M_L_law 2048 1030 (LLV i) [] (mk σ) uc us Q := by
  have hO := hI.2.2.1
  have hq := hO.q (by omega)
  refine oe_aload d_L_law_1030 rfl ?_
  refine la_arg (i := i) (j := 1) d_L_law_1031 d_L_law_1032 d_L_law_1034 d_L_law_1035 d_L_law_1036 rfl rfl (by decide) (by omega) hL ?_
  refine la_call (as := [.int (l.2.2 (i + 1))]) (rest := []) (xc_sways (d := 0) hq hI.1) cw_X_sways (by rfl) (by rfl) (by decide) (by decide) (by decide) d_L_law_1037 rfl rfl (Nat.le_of_ble_eq_true rfl) (Nat.le_of_ble_eq_true rfl) rfl rfl (fun r σ1 q => ?_)
  obtain ⟨rfl, x1, f1⟩ := q
  refine oe_aload d_L_law_1040 rfl ?_
  refine la_arg (i := i) (j := 1) d_L_law_1041 d_L_law_1042 d_L_law_1044 d_L_law_1045 d_L_law_1046 rfl rfl (by decide) (by omega) hL ?_
  refine la_call (as := [.int (l.2.2 (i + 1))]) (rest := [_]) (yc_sways (d := 0) hq (hI.2.1.x f1)) cw_Y_sways (by rfl) (by rfl) (by decide) (by decide) (by decide) d_L_law_1047 rfl rfl (Nat.le_of_ble_eq_true rfl) (Nat.le_of_ble_eq_true rfl) rfl rfl (fun r σ2 q => ?_)
  obtain ⟨rfl, y2, f2⟩ := q
  refine la_eq (t := 1472) d_L_law_1050 (by decide) ?_
  exact K _ _ _ (hI.up x1 f1 y2 f2 (hO.tq tq_sways) (Nat.le_succ c))
theorem lc_seen {l : xLa} {i k uc us c : Nat} {w : wv} {σ : xs} {Q : Option Value → xH → Prop} (hI : IV k w c σ) (hk : k < 512) (hi : i + 5 ≤ l.2.1) (hL : l.2.1 ≤ 2560) (K : ∀ w2 c2 σ2, IV (k + 1) w2 c2 σ2 → E l M_L_law 2048 1472 (LLV i) [] (mk σ2) uc us Q) : E l M_L_law 2048 1055 (LLV i) [] (mk σ) uc us Q := by
  have hO := hI.2.2.1
  have hq := hO.q (by omega)
  refine oe_aload d_L_law_1055 rfl ?_
  refine la_arg (i := i) (j := 1) d_L_law_1056 d_L_law_1057 d_L_law_1059 d_L_law_1060 d_L_law_1061 rfl rfl (by decide) (by omega) hL ?_
  refine la_arg (i := i) (j := 2) d_L_law_1062 d_L_law_1063 d_L_law_1065 d_L_law_1066 d_L_law_1067 rfl rfl (by decide) (by omega) hL ?_
  refine la_arg (i := i) (j := 3) d_L_law_1068 d_L_law_1069 d_L_law_1071 d_L_law_1072 d_L_law_1073 rfl rfl (by decide) (by omega) hL ?_
  refine la_call (as := [.int (l.2.2 (i + 1)), .int (l.2.2 (i + 2)), .int (l.2.2 (i + 3))]) (rest := []) (xc_seen (d := 0) hq hI.1 hO.hS) cw_X_seen (by rfl) (by rfl) (by decide) (by decide) (by decide) d_L_law_1074 rfl rfl (Nat.le_of_ble_eq_true rfl) (Nat.le_of_ble_eq_true rfl) rfl rfl (fun r σ1 q => ?_)
  obtain ⟨rfl, x1, f1⟩ := q
  refine oe_aload d_L_law_1077 rfl ?_
  refine la_arg (i := i) (j := 1) d_L_law_1078 d_L_law_1079 d_L_law_1081 d_L_law_1082 d_L_law_1083 rfl rfl (by decide) (by omega) hL ?_
  refine la_arg (i := i) (j := 2) d_L_law_1084 d_L_law_1085 d_L_law_1087 d_L_law_1088 d_L_law_1089 rfl rfl (by decide) (by omega) hL ?_
  refine la_arg (i := i) (j := 3) d_L_law_1090 d_L_law_1091 d_L_law_1093 d_L_law_1094 d_L_law_1095 rfl rfl (by decide) (by omega) hL ?_
  refine la_call (as := [.int (l.2.2 (i + 1)), .int (l.2.2 (i + 2)), .int (l.2.2 (i + 3))]) (rest := [_]) (yc_seen (d := 0) hq (hI.2.1.x f1) hO.hS) cw_Y_seen (by rfl) (by rfl) (by decide) (by decide) (by decide) d_L_law_1096 rfl rfl (Nat.le_of_ble_eq_true rfl) (Nat.le_of_ble_eq_true rfl) rfl rfl (fun r σ2 q => ?_)
  obtain ⟨rfl, y2, f2⟩ := q
  refine la_eq (t := 1472) d_L_law_1099 (by decide) ?_
  exact K _ _ _ (hI.up x1 f1 y2 f2 (hO.seen) (Nat.le_succ c))
theorem lc_forget {l : xLa} {i k uc us c : Nat} {w : wv} {σ : xs} {Q : Option Value → xH → Prop} (hI : IV k w c σ) (hk : k < 512) (hi : i + 5 ≤ l.2.1) (hL : l.2.1 ≤ 2560) (K : ∀ w2 c2 σ2, IV (k + 1) w2 c2 σ2 → E l M_L_law 2048 1472 (LLV i) [] (mk σ2) uc us Q) : E l M_L_law 2048 1104 (LLV i) [] (mk σ) uc us Q := by
  have hO := hI.2.2.1
  have hq := hO.q (by omega)
  refine oe_aload d_L_law_1104 rfl ?_
  refine la_call (as := []) (rest := []) (xc_forget (d := 0) hq hI.1) cw_X_forget (by rfl) (by rfl) (by decide) (by decide) (by decide) d_L_law_1105 rfl rfl (Nat.le_of_ble_eq_true rfl) (Nat.le_of_ble_eq_true rfl) rfl rfl (fun r σ1 q => ?_)
  obtain ⟨rfl, x1, f1⟩ := q
  refine oe_aload d_L_law_1108 rfl ?_
  refine la_call (as := []) (rest := [_]) (yc_forget (d := 0) hq (hI.2.1.x f1)) cw_Y_forget (by rfl) (by rfl) (by decide) (by decide) (by decide) d_L_law_1109 rfl rfl (Nat.le_of_ble_eq_true rfl) (Nat.le_of_ble_eq_true rfl) rfl rfl (fun r σ2 q => ?_)
  obtain ⟨rfl, y2, f2⟩ := q
  refine la_eq (t := 1472) d_L_law_1112 (by decide) ?_
  exact K _ _ _ (hI.up x1 f1 y2 f2 (hO.forget) (Nat.le_succ c))
theorem lc_fits {l : xLa} {i k uc us c : Nat} {w : wv} {σ : xs} {Q : Option Value → xH → Prop} (hI : IV k w c σ) (hk : k < 512) (hi : i + 5 ≤ l.2.1) (hL : l.2.1 ≤ 2560) (K : ∀ w2 c2 σ2, IV (k + 1) w2 c2 σ2 → E l M_L_law 2048 1472 (LLV i) [] (mk σ2) uc us Q) : E l M_L_law 2048 1117 (LLV i) [] (mk σ) uc us Q := by
  have hO := hI.2.2.1
  have hq := hO.q (by omega)
  refine oe_aload d_L_law_1117 rfl ?_
  refine la_call (as := []) (rest := []) (xc_fits (d := 0) hq hI.1 hO.gS) cw_X_fits (by rfl) (by rfl) (by decide) (by decide) (by decide) d_L_law_1118 rfl rfl (Nat.le_of_ble_eq_true rfl) (Nat.le_of_ble_eq_true rfl) rfl rfl (fun r σ1 q => ?_)
  obtain ⟨rfl, x1, f1⟩ := q
  refine oe_aload d_L_law_1121 rfl ?_
  refine la_call (as := []) (rest := [_]) (yc_fits (d := 0) hq (hI.2.1.x f1) hO.gS) cw_Y_fits (by rfl) (by rfl) (by decide) (by decide) (by decide) d_L_law_1122 rfl rfl (Nat.le_of_ble_eq_true rfl) (Nat.le_of_ble_eq_true rfl) rfl rfl (fun r σ2 q => ?_)
  obtain ⟨rfl, y2, f2⟩ := q
  refine la_eq (t := 1472) d_L_law_1125 (by decide) ?_
  exact K _ _ _ (hI.up x1 f1 y2 f2 (hO.tq tq_fits) (Nat.le_succ c))
theorem lc_looks {l : xLa} {i k uc us c : Nat} {w : wv} {σ : xs} {Q : Option Value → xH → Prop} (hI : IV k w c σ) (hk : k < 512) (hi : i + 5 ≤ l.2.1) (hL : l.2.1 ≤ 2560) (K : ∀ w2 c2 σ2, IV (k + 1) w2 c2 σ2 → E l M_L_law 2048 1472 (LLV i) [] (mk σ2) uc us Q) : E l M_L_law 2048 1130 (LLV i) [] (mk σ) uc us Q := by
  have hO := hI.2.2.1
  have hq := hO.q (by omega)
  refine oe_aload d_L_law_1130 rfl ?_
  refine la_call (as := []) (rest := []) (xc_looks (d := 0) hq hI.1 hO.gS) cw_X_looks (by rfl) (by rfl) (by decide) (by decide) (by decide) d_L_law_1131 rfl rfl (Nat.le_of_ble_eq_true rfl) (Nat.le_of_ble_eq_true rfl) rfl rfl (fun r σ1 q => ?_)
  obtain ⟨rfl, x1, f1⟩ := q
  refine oe_aload d_L_law_1134 rfl ?_
  refine la_call (as := []) (rest := [_]) (yc_looks (d := 0) hq (hI.2.1.x f1) hO.gS) cw_Y_looks (by rfl) (by rfl) (by decide) (by decide) (by decide) d_L_law_1135 rfl rfl (Nat.le_of_ble_eq_true rfl) (Nat.le_of_ble_eq_true rfl) rfl rfl (fun r σ2 q => ?_)
  obtain ⟨rfl, y2, f2⟩ := q
  refine la_eq (t := 1472) d_L_law_1138 (by decide) ?_
  exact K _ _ _ (hI.up x1 f1 y2 f2 (hO.tq tq_looks) (Nat.le_succ c))
theorem lc_way {l : xLa} {i k uc us c : Nat} {w : wv} {σ : xs} {Q : Option Value → xH → Prop} (hI : IV k w c σ) (hk : k < 512) (hi : i + 5 ≤ l.2.1) (hL : l.2.1 ≤ 2560) (K : ∀ w2 c2 σ2, IV (k + 1) w2 c2 σ2 → E l M_L_law 2048 1472 (LLV i) [] (mk σ2) uc us Q) : E l M_L_law 2048 1143 (LLV i) [] (mk σ) uc us Q := by
  have hO := hI.2.2.1
  have hq := hO.q (by omega)
  refine oe_aload d_L_law_1143 rfl ?_
  refine la_arg (i := i) (j := 1) d_L_law_1144 d_L_law_1145 d_L_law_1147 d_L_law_1148 d_L_law_1149 rfl rfl (by decide) (by omega) hL ?_
  refine la_arg (i := i) (j := 2) d_L_law_1150 d_L_law_1151 d_L_law_1153 d_L_law_1154 d_L_law_1155 rfl rfl (by decide) (by omega) hL ?_
  refine la_call (as := [.int (l.2.2 (i + 1)), .int (l.2.2 (i + 2))]) (rest := []) (xc_way (d := 0) hq hI.1) cw_X_way (by rfl) (by rfl) (by decide) (by decide) (by decide) d_L_law_1156 rfl rfl (Nat.le_of_ble_eq_true rfl) (Nat.le_of_ble_eq_true rfl) rfl rfl (fun r σ1 q => ?_)
  obtain ⟨rfl, x1, f1⟩ := q
  refine oe_aload d_L_law_1159 rfl ?_
  refine la_arg (i := i) (j := 1) d_L_law_1160 d_L_law_1161 d_L_law_1163 d_L_law_1164 d_L_law_1165 rfl rfl (by decide) (by omega) hL ?_
  refine la_arg (i := i) (j := 2) d_L_law_1166 d_L_law_1167 d_L_law_1169 d_L_law_1170 d_L_law_1171 rfl rfl (by decide) (by omega) hL ?_
  refine la_call (as := [.int (l.2.2 (i + 1)), .int (l.2.2 (i + 2))]) (rest := [_]) (yc_way (d := 0) hq (hI.2.1.x f1)) cw_Y_way (by rfl) (by rfl) (by decide) (by decide) (by decide) d_L_law_1172 rfl rfl (Nat.le_of_ble_eq_true rfl) (Nat.le_of_ble_eq_true rfl) rfl rfl (fun r σ2 q => ?_)
  obtain ⟨rfl, y2, f2⟩ := q
  refine la_eq (t := 1472) d_L_law_1175 (by decide) ?_
  exact K _ _ _ (hI.up x1 f1 y2 f2 (hO.tq (tq_way hO.1)) (Nat.le_succ c))
theorem lc_farthest {l : xLa} {i k uc us c : Nat} {w : wv} {σ : xs} {Q : Option Value → xH → Prop} (hI : IV k w c σ) (hk : k < 512) (hi : i + 5 ≤ l.2.1) (hL : l.2.1 ≤ 2560) (K : ∀ w2 c2 σ2, IV (k + 1) w2 c2 σ2 → E l M_L_law 2048 1472 (LLV i) [] (mk σ2) uc us Q) : E l M_L_law 2048 1180 (LLV i) [] (mk σ) uc us Q := by
  have hO := hI.2.2.1
  have hq := hO.q (by omega)
  refine oe_aload d_L_law_1180 rfl ?_
  refine la_call (as := []) (rest := []) (xc_farthest (d := 0) hq hI.1) cw_X_farthest (by rfl) (by rfl) (by decide) (by decide) (by decide) d_L_law_1181 rfl rfl (Nat.le_of_ble_eq_true rfl) (Nat.le_of_ble_eq_true rfl) rfl rfl (fun r σ1 q => ?_)
  obtain ⟨rfl, x1, f1⟩ := q
  refine oe_aload d_L_law_1184 rfl ?_
  refine la_call (as := []) (rest := [_]) (yc_farthest (d := 0) hq (hI.2.1.x f1)) cw_Y_farthest (by rfl) (by rfl) (by decide) (by decide) (by decide) d_L_law_1185 rfl rfl (Nat.le_of_ble_eq_true rfl) (Nat.le_of_ble_eq_true rfl) rfl rfl (fun r σ2 q => ?_)
  obtain ⟨rfl, y2, f2⟩ := q
  refine la_eq (t := 1472) d_L_law_1188 (by decide) ?_
  exact K _ _ _ (hI.up x1 f1 y2 f2 (hO.tq tq_farthest) (Nat.le_succ c))
theorem lc_drifts {l : xLa} {i k uc us c : Nat} {w : wv} {σ : xs} {Q : Option Value → xH → Prop} (hI : IV k w c σ) (hk : k < 512) (hi : i + 5 ≤ l.2.1) (hL : l.2.1 ≤ 2560) (K : ∀ w2 c2 σ2, IV (k + 1) w2 c2 σ2 → E l M_L_law 2048 1472 (LLV i) [] (mk σ2) uc us Q) : E l M_L_law 2048 1193 (LLV i) [] (mk σ) uc us Q := by
  have hO := hI.2.2.1
  have hq := hO.q (by omega)
  refine oe_aload d_L_law_1193 rfl ?_
  refine la_arg (i := i) (j := 1) d_L_law_1194 d_L_law_1195 d_L_law_1197 d_L_law_1198 d_L_law_1199 rfl rfl (by decide) (by omega) hL ?_
  refine la_arg (i := i) (j := 2) d_L_law_1200 d_L_law_1201 d_L_law_1203 d_L_law_1204 d_L_law_1205 rfl rfl (by decide) (by omega) hL ?_
  refine la_call (as := [.int (l.2.2 (i + 1)), .int (l.2.2 (i + 2))]) (rest := []) (xc_drifts (d := 0) hq hI.1) cw_X_drifts (by rfl) (by rfl) (by decide) (by decide) (by decide) d_L_law_1206 rfl rfl (Nat.le_of_ble_eq_true rfl) (Nat.le_of_ble_eq_true rfl) rfl rfl (fun r σ1 q => ?_)
  obtain ⟨rfl, x1, f1⟩ := q
  refine oe_aload d_L_law_1209 rfl ?_
  refine la_arg (i := i) (j := 1) d_L_law_1210 d_L_law_1211 d_L_law_1213 d_L_law_1214 d_L_law_1215 rfl rfl (by decide) (by omega) hL ?_
  refine la_arg (i := i) (j := 2) d_L_law_1216 d_L_law_1217 d_L_law_1219 d_L_law_1220 d_L_law_1221 rfl rfl (by decide) (by omega) hL ?_
  refine la_call (as := [.int (l.2.2 (i + 1)), .int (l.2.2 (i + 2))]) (rest := [_]) (yc_drifts (d := 0) hq (hI.2.1.x f1)) cw_Y_drifts (by rfl) (by rfl) (by decide) (by decide) (by decide) d_L_law_1222 rfl rfl (Nat.le_of_ble_eq_true rfl) (Nat.le_of_ble_eq_true rfl) rfl rfl (fun r σ2 q => ?_)
  obtain ⟨rfl, y2, f2⟩ := q
  refine la_eq (t := 1472) d_L_law_1225 (by decide) ?_
  exact K _ _ _ (hI.up x1 f1 y2 f2 (hO.tq tq_drifts) (Nat.le_succ c))
theorem lc_game {l : xLa} {i k uc us c : Nat} {w : wv} {σ : xs} {Q : Option Value → xH → Prop} (hI : IV k w c σ) (hk : k < 512) (hi : i + 5 ≤ l.2.1) (hL : l.2.1 ≤ 2560) (K : ∀ w2 c2 σ2, IV (k + 1) w2 c2 σ2 → E l M_L_law 2048 1472 (LLV i) [] (mk σ2) uc us Q) : E l M_L_law 2048 1230 (LLV i) [] (mk σ) uc us Q := by
  have hO := hI.2.2.1
  have hq := hO.q (by omega)
  refine oe_aload d_L_law_1230 rfl ?_
  refine la_arg (i := i) (j := 1) d_L_law_1231 d_L_law_1232 d_L_law_1234 d_L_law_1235 d_L_law_1236 rfl rfl (by decide) (by omega) hL ?_
  refine la_arg (i := i) (j := 2) d_L_law_1237 d_L_law_1238 d_L_law_1240 d_L_law_1241 d_L_law_1242 rfl rfl (by decide) (by omega) hL ?_
  refine la_call (as := [.int (l.2.2 (i + 1)), .int (l.2.2 (i + 2))]) (rest := []) (xc_game (d := 0) hq hI.1) cw_X_game (by rfl) (by rfl) (by decide) (by decide) (by decide) d_L_law_1243 rfl rfl (Nat.le_of_ble_eq_true rfl) (Nat.le_of_ble_eq_true rfl) rfl rfl (fun r σ1 q => ?_)
  obtain ⟨rfl, x1, f1⟩ := q
  refine oe_aload d_L_law_1246 rfl ?_
  refine la_arg (i := i) (j := 1) d_L_law_1247 d_L_law_1248 d_L_law_1250 d_L_law_1251 d_L_law_1252 rfl rfl (by decide) (by omega) hL ?_
  refine la_arg (i := i) (j := 2) d_L_law_1253 d_L_law_1254 d_L_law_1256 d_L_law_1257 d_L_law_1258 rfl rfl (by decide) (by omega) hL ?_
  refine la_call (as := [.int (l.2.2 (i + 1)), .int (l.2.2 (i + 2))]) (rest := [_]) (yc_game (d := 0) hq (hI.2.1.x f1)) cw_Y_game (by rfl) (by rfl) (by decide) (by decide) (by decide) d_L_law_1259 rfl rfl (Nat.le_of_ble_eq_true rfl) (Nat.le_of_ble_eq_true rfl) rfl rfl (fun r σ2 q => ?_)
  obtain ⟨rfl, y2, f2⟩ := q
  refine la_eq (t := 1472) d_L_law_1262 (by decide) ?_
  exact K _ _ _ (hI.up x1 f1 y2 f2 (hO.tq tq_game) (Nat.le_succ c))
theorem lc_law {l : xLa} {i k uc us c : Nat} {w : wv} {σ : xs} {Q : Option Value → xH → Prop} (hI : IV k w c σ) (hk : k < 512) (hi : i + 5 ≤ l.2.1) (hL : l.2.1 ≤ 2560) (K : ∀ w2 c2 σ2, IV (k + 1) w2 c2 σ2 → E l M_L_law 2048 1472 (LLV i) [] (mk σ2) uc us Q) : E l M_L_law 2048 1267 (LLV i) [] (mk σ) uc us Q := by
  have hO := hI.2.2.1
  have hq := hO.q (by omega)
  refine oe_aload d_L_law_1267 rfl ?_
  refine la_call (as := []) (rest := []) (xc_law (d := 0) hq hI.1 hO.okX) cw_X_law (by rfl) (by rfl) (by decide) (by decide) (by decide) d_L_law_1268 rfl rfl (Nat.le_of_ble_eq_true rfl) (Nat.le_of_ble_eq_true rfl) rfl rfl (fun r σ1 q => ?_)
  obtain ⟨rfl, x1, f1⟩ := q
  refine oe_aload d_L_law_1271 rfl ?_
  refine la_call (as := []) (rest := [_]) (yc_law (d := 0) hq (hI.2.1.x f1) hO.okX) cw_Y_law (by rfl) (by rfl) (by decide) (by decide) (by decide) d_L_law_1272 rfl rfl (Nat.le_of_ble_eq_true rfl) (Nat.le_of_ble_eq_true rfl) rfl rfl (fun r σ2 q => ?_)
  obtain ⟨rfl, y2, f2⟩ := q
  refine la_eq (t := 1472) d_L_law_1275 (by decide) ?_
  exact K _ _ _ (hI.up x1 f1 y2 f2 (hO.law) (Nat.le_succ c))
theorem lc_rests {l : xLa} {i k uc us c : Nat} {w : wv} {σ : xs} {Q : Option Value → xH → Prop} (hI : IV k w c σ) (hk : k < 512) (hi : i + 5 ≤ l.2.1) (hL : l.2.1 ≤ 2560) (K : ∀ w2 c2 σ2, IV (k + 1) w2 c2 σ2 → E l M_L_law 2048 1472 (LLV i) [] (mk σ2) uc us Q) : E l M_L_law 2048 1280 (LLV i) [] (mk σ) uc us Q := by
  have hO := hI.2.2.1
  have hq := hO.q (by omega)
  refine oe_aload d_L_law_1280 rfl ?_
  refine la_arg (i := i) (j := 1) d_L_law_1281 d_L_law_1282 d_L_law_1284 d_L_law_1285 d_L_law_1286 rfl rfl (by decide) (by omega) hL ?_
  refine la_call (as := [.int (l.2.2 (i + 1))]) (rest := []) (xc_rests (d := 0) hq hI.1) cw_X_rests (by rfl) (by rfl) (by decide) (by decide) (by decide) d_L_law_1287 rfl rfl (Nat.le_of_ble_eq_true rfl) (Nat.le_of_ble_eq_true rfl) rfl rfl (fun r σ1 q => ?_)
  obtain ⟨rfl, x1, f1⟩ := q
  refine oe_aload d_L_law_1290 rfl ?_
  refine la_arg (i := i) (j := 1) d_L_law_1291 d_L_law_1292 d_L_law_1294 d_L_law_1295 d_L_law_1296 rfl rfl (by decide) (by omega) hL ?_
  refine la_call (as := [.int (l.2.2 (i + 1))]) (rest := [_]) (yc_rests (d := 0) hq (hI.2.1.x f1)) cw_Y_rests (by rfl) (by rfl) (by decide) (by decide) (by decide) d_L_law_1297 rfl rfl (Nat.le_of_ble_eq_true rfl) (Nat.le_of_ble_eq_true rfl) rfl rfl (fun r σ2 q => ?_)
  obtain ⟨rfl, y2, f2⟩ := q
  refine la_eq (t := 1472) d_L_law_1300 (by decide) ?_
  exact K _ _ _ (hI.up x1 f1 y2 f2 (hO.tq tq_rests) (Nat.le_succ c))
theorem lc_years {l : xLa} {i k uc us c : Nat} {w : wv} {σ : xs} {Q : Option Value → xH → Prop} (hI : IV k w c σ) (hk : k < 512) (hi : i + 5 ≤ l.2.1) (hL : l.2.1 ≤ 2560) (K : ∀ w2 c2 σ2, IV (k + 1) w2 c2 σ2 → E l M_L_law 2048 1472 (LLV i) [] (mk σ2) uc us Q) : E l M_L_law 2048 1305 (LLV i) [] (mk σ) uc us Q := by
  have hO := hI.2.2.1
  have hq := hO.q (by omega)
  refine oe_aload d_L_law_1305 rfl ?_
  refine la_arg (i := i) (j := 1) d_L_law_1306 d_L_law_1307 d_L_law_1309 d_L_law_1310 d_L_law_1311 rfl rfl (by decide) (by omega) hL ?_
  refine la_arg (i := i) (j := 2) d_L_law_1312 d_L_law_1313 d_L_law_1315 d_L_law_1316 d_L_law_1317 rfl rfl (by decide) (by omega) hL ?_
  refine la_call (as := [.int (l.2.2 (i + 1)), .int (l.2.2 (i + 2))]) (rest := []) (xc_years (d := 0) hq hI.1) cw_X_years (by rfl) (by rfl) (by decide) (by decide) (by decide) d_L_law_1318 rfl rfl (Nat.le_of_ble_eq_true rfl) (Nat.le_of_ble_eq_true rfl) rfl rfl (fun r σ1 q => ?_)
  obtain ⟨rfl, x1, f1⟩ := q
  refine oe_aload d_L_law_1321 rfl ?_
  refine la_arg (i := i) (j := 1) d_L_law_1322 d_L_law_1323 d_L_law_1325 d_L_law_1326 d_L_law_1327 rfl rfl (by decide) (by omega) hL ?_
  refine la_arg (i := i) (j := 2) d_L_law_1328 d_L_law_1329 d_L_law_1331 d_L_law_1332 d_L_law_1333 rfl rfl (by decide) (by omega) hL ?_
  refine la_call (as := [.int (l.2.2 (i + 1)), .int (l.2.2 (i + 2))]) (rest := [_]) (yc_years (d := 0) hq (hI.2.1.x f1) (hO.hP (by omega))) cw_Y_years (by rfl) (by rfl) (by decide) (by decide) (by decide) d_L_law_1334 rfl rfl (Nat.le_of_ble_eq_true rfl) (Nat.le_of_ble_eq_true rfl) rfl rfl (fun r σ2 q => ?_)
  obtain ⟨rfl, y2, f2⟩ := q
  refine la_eq (t := 1472) d_L_law_1337 (by decide) ?_
  exact K _ _ _ (hI.up x1 f1 y2 f2 (hO.tq tq_years) (Nat.le_succ c))
theorem lc_keep {l : xLa} {i k uc us c : Nat} {w : wv} {σ : xs} {Q : Option Value → xH → Prop} (hI : IV k w c σ) (hk : k < 512) (hi : i + 5 ≤ l.2.1) (hL : l.2.1 ≤ 2560) (K : ∀ w2 c2 σ2, IV (k + 1) w2 c2 σ2 → E l M_L_law 2048 1472 (LLV i) [] (mk σ2) uc us Q) : E l M_L_law 2048 1342 (LLV i) [] (mk σ) uc us Q := by
  have hO := hI.2.2.1
  have hq := hO.q (by omega)
  refine oe_aload d_L_law_1342 rfl ?_
  refine la_arg (i := i) (j := 1) d_L_law_1343 d_L_law_1344 d_L_law_1346 d_L_law_1347 d_L_law_1348 rfl rfl (by decide) (by omega) hL ?_
  refine la_call (as := [.int (l.2.2 (i + 1))]) (rest := []) (xc_keep (d := 0) hq hI.1) cw_X_keep (by rfl) (by rfl) (by decide) (by decide) (by decide) d_L_law_1349 rfl rfl (Nat.le_of_ble_eq_true rfl) (Nat.le_of_ble_eq_true rfl) rfl rfl (fun r σ1 q => ?_)
  obtain ⟨rfl, x1, f1⟩ := q
  refine oe_aload d_L_law_1352 rfl ?_
  refine la_arg (i := i) (j := 1) d_L_law_1353 d_L_law_1354 d_L_law_1356 d_L_law_1357 d_L_law_1358 rfl rfl (by decide) (by omega) hL ?_
  refine la_call (as := [.int (l.2.2 (i + 1))]) (rest := [_]) (yc_keep (d := 0) hq (hI.2.1.x f1)) cw_Y_keep (by rfl) (by rfl) (by decide) (by decide) (by decide) d_L_law_1359 rfl rfl (Nat.le_of_ble_eq_true rfl) (Nat.le_of_ble_eq_true rfl) rfl rfl (fun r σ2 q => ?_)
  obtain ⟨rfl, y2, f2⟩ := q
  refine la_eq (t := 1472) d_L_law_1362 (by decide) ?_
  exact K _ _ _ (hI.up x1 f1 y2 f2 (hO.keep) (Nat.le_succ c))
theorem lc_again {l : xLa} {i k uc us c : Nat} {w : wv} {σ : xs} {Q : Option Value → xH → Prop} (hI : IV k w c σ) (hk : k < 512) (hi : i + 5 ≤ l.2.1) (hL : l.2.1 ≤ 2560) (K : ∀ w2 c2 σ2, IV (k + 1) w2 c2 σ2 → E l M_L_law 2048 1472 (LLV i) [] (mk σ2) uc us Q) : E l M_L_law 2048 1367 (LLV i) [] (mk σ) uc us Q := by
  have hO := hI.2.2.1
  have hq := hO.q (by omega)
  refine oe_aload d_L_law_1367 rfl ?_
  refine la_arg (i := i) (j := 1) d_L_law_1368 d_L_law_1369 d_L_law_1371 d_L_law_1372 d_L_law_1373 rfl rfl (by decide) (by omega) hL ?_
  refine la_call (as := [.int (l.2.2 (i + 1))]) (rest := []) (xc_again (d := 0) hq hI.1) cw_X_again (by rfl) (by rfl) (by decide) (by decide) (by decide) d_L_law_1374 rfl rfl (Nat.le_of_ble_eq_true rfl) (Nat.le_of_ble_eq_true rfl) rfl rfl (fun r σ1 q => ?_)
  obtain ⟨rfl, x1, f1⟩ := q
  refine oe_aload d_L_law_1377 rfl ?_
  refine la_arg (i := i) (j := 1) d_L_law_1378 d_L_law_1379 d_L_law_1381 d_L_law_1382 d_L_law_1383 rfl rfl (by decide) (by omega) hL ?_
  refine la_call (as := [.int (l.2.2 (i + 1))]) (rest := [_]) (yc_again (d := 0) hq (hI.2.1.x f1) (by have := hI.2.2.2; omega)) cw_Y_again (by rfl) (by rfl) (by decide) (by decide) (by decide) d_L_law_1384 rfl rfl (Nat.le_of_ble_eq_true rfl) (Nat.le_of_ble_eq_true rfl) rfl rfl (fun r σ2 q => ?_)
  obtain ⟨rfl, y2, f2⟩ := q
  refine la_eq (t := 1472) d_L_law_1387 (by decide) ?_
  exact K _ _ _ (hI.up x1 f1 y2 f2 (hO.again) (Nat.le_succ c))
theorem lc_count {l : xLa} {i k uc us c : Nat} {w : wv} {σ : xs} {Q : Option Value → xH → Prop} (hI : IV k w c σ) (hk : k < 512) (hi : i + 5 ≤ l.2.1) (hL : l.2.1 ≤ 2560) (K : ∀ w2 c2 σ2, IV (k + 1) w2 c2 σ2 → E l M_L_law 2048 1472 (LLV i) [] (mk σ2) uc us Q) : E l M_L_law 2048 1392 (LLV i) [] (mk σ) uc us Q := by
  have hO := hI.2.2.1
  have hq := hO.q (by omega)
  refine oe_aload d_L_law_1392 rfl ?_
  refine la_arg (i := i) (j := 1) d_L_law_1393 d_L_law_1394 d_L_law_1396 d_L_law_1397 d_L_law_1398 rfl rfl (by decide) (by omega) hL ?_
  refine la_call (as := [.int (l.2.2 (i + 1))]) (rest := []) (xc_count (d := 0) hq hI.1) cw_X_count (by rfl) (by rfl) (by decide) (by decide) (by decide) d_L_law_1399 rfl rfl (Nat.le_of_ble_eq_true rfl) (Nat.le_of_ble_eq_true rfl) rfl rfl (fun r σ1 q => ?_)
  obtain ⟨rfl, x1, f1⟩ := q
  refine oe_aload d_L_law_1402 rfl ?_
  refine la_arg (i := i) (j := 1) d_L_law_1403 d_L_law_1404 d_L_law_1406 d_L_law_1407 d_L_law_1408 rfl rfl (by decide) (by omega) hL ?_
  refine la_call (as := [.int (l.2.2 (i + 1))]) (rest := [_]) (yc_count (d := 0) hq (hI.2.1.x f1)) cw_Y_count (by rfl) (by rfl) (by decide) (by decide) (by decide) d_L_law_1409 rfl rfl (Nat.le_of_ble_eq_true rfl) (Nat.le_of_ble_eq_true rfl) rfl rfl (fun r σ2 q => ?_)
  obtain ⟨rfl, y2, f2⟩ := q
  refine la_eq (t := 1472) d_L_law_1412 (by decide) ?_
  exact K _ _ _ (hI.up x1 f1 y2 f2 (hO.up) (Nat.le_succ c))
