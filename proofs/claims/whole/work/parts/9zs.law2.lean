/-! The law's methods one, field, row: a call that may throw, and its catch. Printed by wip/whole/h_law2.py. -/
/-- as E, of a method with a table of handlers -/
def EC (l : xLa) (M : mT) (hh : List (Nat × Nat × Nat × Nat)) (d pc : Nat) (lv : List (Option Value)) (st : List Value) (h : xH) (uc us : Nat) (Q : Option Value → xH → Prop) : Prop :=
  ∀ (p : Program) (e : Env) (s : State) (m : MethodId) (args : Array Value) (below : List Frame) (meth : Method) (c : Code) (D : va_G) (dA : Nat → ClassId) (A : Nat → Prop) (ad : Nat → Nat) (H : Heap) (locs : List Loc) (ls : Array Slot) (Qc : Array Value → State → Outcome → State → Prop) (free : Addr → Prop),
    xCx M p s m args meth c D dA A → xSX l.2 ad A s s.heap → va_P D xcl (trW ad dA h) H → va_D A (trW ad dA h) → va_S A s.heap H locs → LH ad ls (mLo M) lv → (∀ q, A q → free q) → (uc ≤ mBc M ∧ us ≤ mBs M) → c.exceptionTable.toList = tableOf hh →
    (∀ (r : Option Value) (h' : xH) (ad' : Nat → Nat) (t : State), Q r h' → (∀ k, k < h.1.length ∨ xB ≤ k → ad' k = ad k) → (mBc M = 0 → ad' = ad) → va_P D xcl (trW ad' dA h') t.heap → va_D A (trW ad' dA h') → va_F A s t → s.WarmedH t.vm → Qc args s (.returned (r.map (trV ad'))) t) →
    W p l.1 e (xrm d M) s m args below meth c H locs uc us (MQ below Qc args s (mBc M) (mBs M) free) (F0 m pc ls (st.map (trV ad)))
theorem EC.of {l : xLa} {M : mT} {hh : List (Nat × Nat × Nat × Nat)} {d pc uc us : Nat} {lv : List (Option Value)} {st : List Value} {h : xH} {Q : Option Value → xH → Prop} (k : E l M d pc lv st h uc us Q) : EC l M hh d pc lv st h uc us Q := by
  intro p e s m args below meth c D dA A ad H locs ls Qc free C SX hP hD hS hL hf hu ht hQ
  exact k p e s m args below meth c D dA A ad H locs ls Qc free C SX hP hD hS hL hf hu hQ
def CtC (l : xLa) (M : mT) (hh : List (Nat × Nat × Nat × Nat)) (d : Nat) (as : List Value) (h : xH) (Q : Option Value → xH → Prop) : Prop := EC l M hh d 0 (xent (mLo M) as) [] h 0 0 Q
def xwC (M : mT) (hh : List (Nat × Nat × Nat × Nat)) : List Cond := Cond.codeWith (mY M) (mCd M) (mLo M) (mRt M) hh :: xG
theorem CtC.met {l : xLa} {M : mT} {hh : List (Nat × Nat × Nat × Nat)} {d : Nat} {as : List Value} {h : xH} {Q : Option Value → xH → Prop} (hk : CtC l M hh d as h Q) (hpl : plainName (mY M).cls = true) (hown : mOwn M = (mY M).cls) (hn : (xEnt as).length ≤ mLo M) (D : va_G) (dA : Nat → ClassId) (ad : Nat → Nat) (sz : Nat) :
    Met l.1 (mY M) (xwC M hh) (xrm d M) (xPc l.2 D dA ad h sz as) (xQc M D dA ad h sz Q) (mBc M) (mBs M) (va_A (trW ad dA h) sz) := by
  refine va_MetW (cc := mCd M) (maxL := mLo M) (ret := mRt M) (hh := hh) hpl rfl ?_
  intro p e s m args below meth c s₁ B hml hv
  obtain ⟨rfl, hsz, hP, hK, hD0, hSX⟩ := hv
  have hts := atoms_spec (ws := xwC M hh) B.pre
  have hn1 : s.vm.findClass (mOwn M) = some m.cls := by rw [hown]; exact findClass_of_methodNamed B.named
  have htab : c.exceptionTable.toList = tableOf hh := vx_table (x := mY M) B (hts _ List.mem_cons_self)
  subst hsz
  have hA : ∀ q : Nat, s.heap.size ≤ q → va_A (trW ad dA h) s.heap.size q := fun q g => Or.inr g
  rw [lg_entry_eq]
  refine hk p e s m _ below meth c D dA (va_A (trW ad dA h) s.heap.size) ad s.heap [] _ (xQc M D dA ad h s.heap.size Q) (va_A (trW ad dA h) s.heap.size)
    ⟨B.exec, B.bytes, B.returns, B.notSynchronized, hml, hn1, fun w hw => hts w (List.mem_cons_of_mem _ hw), hA, hK, fun hi => (name_of_methodNamed B.named B.method).1.trans hi⟩
    hSX hP hD0.self va_S.rf (LH.entry hn) (fun q g => g) ⟨Nat.zero_le _, Nat.zero_le _⟩ htab ?_
  intro r h' ad' t q ha hz hP1 hD1 hF hW
  exact ⟨r, h', ad', rfl, q, ha, hz, hP1, hD1, hF⟩
theorem LH.st0 {ad : Nat → Nat} {ls : Array Slot} {nL i : Nat} {lv : List (Option Value)} {w0 : Value} (h : lv_has ls nL ((i, w0) :: (asc ad lv).filter (fun q => !(q.1 == i) && !(q.1 + 1 == i && q.2.category == 2)))) : LH ad ls nL ((xclr lv i).set i none) := by
  refine ⟨h.1, h.2.1, ?_⟩
  intro j w hj
  by_cases e : j = i
  · subst e
    have hl := (List.getElem?_eq_some_iff.mp hj).1
    rw [List.getElem?_set_self (by simpa using hl)] at hj
    cases hj
  · rw [List.getElem?_set_ne (fun q => e q.symm)] at hj
    obtain ⟨h1, h2⟩ := xclr_at hj
    refine h.2.2 (j, trV ad w) (List.mem_cons_of_mem _ (List.mem_filter.mpr ⟨mem_asc.mpr ⟨w, h1, rfl⟩, ?_⟩))
    simp only [trV_cat]
    by_cases q : j + 1 = i
    · have : ¬ w.category = 2 := fun c => h2 ⟨q, c⟩
      simp [e, q, this]
    · simp [e, q]
theorem ec_iconst {l : xLa} {M : mT} {hh : List (Nat × Nat × Nat × Nat)} {d pc uc us len : Nat} {lv : List (Option Value)} {st : List Value} {h : xH} {Q : Option Value → xH → Prop} {x : xS} {n : Int} (hd : decode (mCd M) pc = .ok (.iconst n, len)) (hs : (if len = 1 then some (pc + 1, lv, Value.int (Int32.ofInt n) :: st, h) else none) = some x) (k : EC l M hh d x.1 x.2.1 x.2.2.1 x.2.2.2 uc us Q) : EC l M hh d pc lv st h uc us Q := by
  split at hs
  · rename_i e; subst e; cases hs
    intro p e s m args below meth c D dA A ad H locs ls Qc free C SX hP hD hS hL hf hu ht hQ
    obtain ⟨hx, hb, hr, hlk, hml, hown, hts, hA, hK, hin⟩ := id C
    exact lv_iconst hx hb hd rfl (k p e s m args below meth c D dA A ad H locs ls Qc free C SX hP hD hS hL hf hu ht hQ)
  · cases hs
theorem ec_iload_n {l : xLa} {M : mT} {hh : List (Nat × Nat × Nat × Nat)} {d pc uc us len : Nat} {lv : List (Option Value)} {st : List Value} {h : xH} {Q : Option Value → xH → Prop} {x : xS} {i : Fin 4} (hd : decode (mCd M) pc = .ok (.iload_n i, len)) (hs : s_ld len 1 pc lv st h 0 (i : Nat) = some x) (k : EC l M hh d x.1 x.2.1 x.2.2.1 x.2.2.2 uc us Q) : EC l M hh d pc lv st h uc us Q := by
  obtain ⟨v, hv, rfl, rfl, hc⟩ := v_ld hs
  intro p e s m args below meth c D dA A ad H locs ls Qc free C SX hP hD hS hL hf hu ht hQ
  obtain ⟨hx, hb, hr, hlk, hml, hown, hts, hA, hK, hin⟩ := id C
  rcases hc with ⟨-, a, rfl⟩ | ⟨g, -⟩ | ⟨g, -⟩
  · exact lv_iload_n hx hb hd rfl (hL.2.2 _ _ hv) (k p e s m args below meth c D dA A ad H locs ls Qc free C SX hP hD hS hL hf hu ht hQ)
  · exact absurd g (by decide)
  · exact absurd g (by decide)
theorem ec_aload_n {l : xLa} {M : mT} {hh : List (Nat × Nat × Nat × Nat)} {d pc uc us len : Nat} {lv : List (Option Value)} {st : List Value} {h : xH} {Q : Option Value → xH → Prop} {x : xS} {i : Fin 4} (hd : decode (mCd M) pc = .ok (.aload_n i, len)) (hs : s_ld len 1 pc lv st h 2 (i : Nat) = some x) (k : EC l M hh d x.1 x.2.1 x.2.2.1 x.2.2.2 uc us Q) : EC l M hh d pc lv st h uc us Q := by
  obtain ⟨v, hv, rfl, rfl, hc⟩ := v_ld hs
  intro p e s m args below meth c D dA A ad H locs ls Qc free C SX hP hD hS hL hf hu ht hQ
  obtain ⟨hx, hb, hr, hlk, hml, hown, hts, hA, hK, hin⟩ := id C
  rcases hc with ⟨g, -⟩ | ⟨g, -⟩ | ⟨-, a, rfl⟩
  · exact absurd g (by decide)
  · exact absurd g (by decide)
  · exact lv_aload_n hx hb hd rfl (hL.2.2 _ _ hv) (k p e s m args below meth c D dA A ad H locs ls Qc free C SX hP hD hS hL hf hu ht hQ)
section
variable {l : xLa} {M M' : mT} {hh : List (Nat × Nat × Nat × Nat)} {d d' pc uc us : Nat} {lv : List (Option Value)} {st rest : List Value} {h : xH} {Q : Option Value → xH → Prop} {Qx : xH → Prop}
theorem ec_aload {i : Fin 4} {v : Nat} (hd : decode (mCd M) pc = .ok (.aload_n i, 1)) (hv : (lv[(i : Nat)]?).join = some (.ref v)) (k : EC l M hh d (pc + 1) lv (.ref v :: st) h uc us Q) : EC l M hh d pc lv st h uc us Q := ec_aload_n (x := (pc + 1, lv, .ref v :: st, h)) hd (by unfold s_ld; rw [hv]; rfl) k
theorem ec_iload {i : Fin 4} {v : Int32} (hd : decode (mCd M) pc = .ok (.iload_n i, 1)) (hv : (lv[(i : Nat)]?).join = some (.int v)) (k : EC l M hh d (pc + 1) lv (.int v :: st) h uc us Q) : EC l M hh d pc lv st h uc us Q := ec_iload_n (x := (pc + 1, lv, .int v :: st, h)) hd (by unfold s_ld; rw [hv]; rfl) k
theorem ec_const {i : Int} {v : Int32} (hd : decode (mCd M) pc = .ok (.iconst i, 1)) (hv : Int32.ofInt i = v) (k : EC l M hh d (pc + 1) lv (.int v :: st) h uc us Q) : EC l M hh d pc lv st h uc us Q := ec_iconst (x := (pc + 1, lv, .int v :: st, h)) hd (by subst hv; rfl) k
/-- the call throws; it is caught, and put by -/
theorem ec_call {as : List Value} {i b ci n p1 p2 p3 p4 a1 a2 hp j nx : Nat} (hct : CtT l M' d' (.ref b :: as) h Qx) (hc : xCode M') (hl : xlk xML M.1 i = some (1, M', p1, p2, p3, p4)) (hsh : h.1[b]? = some (0, ci, n)) (hci : ci < 13) (hcn : xcn.getD ci "" = (mY M').cls) (hdd : d' + 1 ≤ d) (hd : decode (mCd M) pc = .ok (.invokevirtual i, 3)) (hst : st = as.reverse ++ .ref b :: rest) (hn : as.length = mN M') (hln : (xEnt (.ref b :: as)).length ≤ mLo M') (hrest : (rest.map fun v => v.category).sum ≤ 8)
    (hb : uc + 1 ≤ mBc M ∧ us + 6 ≤ mBs M) (hpl : plainName (mY M').cls = true) (hM0 : mOwn M = "FishFerryLaw") (hh1 : hh = [(a1, a2, hp, 13)]) (hcov : covers ⟨a1, a2, hp, 13⟩ pc = true) (hj : j < mLo M) (hast : (decode (mCd M) hp = .ok (.astore j, 2) ∧ nx = hp + 2) ∨ ∃ f : Fin 4, decode (mCd M) hp = .ok (.astore_n f, 1) ∧ (f : Nat) = j ∧ nx = hp + 1) (hlen : ∀ h', Qx h' → h.1.length ≤ h'.1.length)
    (k : ∀ h', Qx h' → E l M d nx ((xclr lv j).set j none) [] h' (uc + 1) (us + 6) Q) : EC l M hh d pc lv st h uc us Q := by
  subst hst
  intro p e s m args below meth c D dA A ad H locs ls Qc free C SX hP hD hS hL hf hu ht hQ
  obtain ⟨hx, hb', hr, hlk, hml, hown, hts, hA, hK, hin⟩ := id C
  obtain ⟨w1, w2, w3, w5, w6, w7, w8, w9⟩ := xML_d hl
  dsimp only [xMw1, xMw2, xMw3, xMw5, xMw6, xMw7, xMw8, xMw9] at w1 w2 w3 w5 w6 w7 w8 w9
  rw [if_neg (by decide)] at w1
  rw [if_neg (by decide)] at w2
  replace w5 := w5 (by decide)
  have hM := hct.met hpl w7.2.1 hln D dA ad H.size (fun _ _ _ _ => False)
  have hG : GoodIn xG (wsV (mOwn M) i (mY M').cls (mY M') (xws M')) := xG_GoodIn (fun w hw => by
    rcases List.mem_append.mp hw with g | g
    · rcases List.mem_cons.mp g with rfl | g
      · exact xG_at w1 rfl
      · rcases List.mem_cons.mp g with rfl | g
        · exact xG_at w2 rfl
        · rcases List.mem_cons.mp g with rfl | g
          · exact xG_at w5 rfl
          · rcases List.mem_cons.mp g with rfl | g
            · exact xG_at w3 rfl
            · cases g
    · exact xws_in hc w g)
  have h8 : mLo M' ≤ 21 := w7.1
  have hrv := va_recv hK hP (xcl_at hci) (trW_at (ad := ad) (dA := dA) hsh)
  dsimp only at hrv
  rw [hcn] at hrv
  have run := vx_runV (R := xrm d M) (e := e) (below := below) (meth := meth) (locs := locs) (cells := uc) (slots := us) (g := F0 m pc ls ((as.reverse ++ .ref b :: rest).map (trV ad))) (C := (mY M').cls) (As := as.map (trV ad)) (rest := rest.map (trV ad)) ⟨hx, hb', hml, hown, hts⟩ hM (cwV (mN M') hts hG rfl rfl rfl ⟨rfl, w8.1, w8.2, w9⟩ ⟨hdd, by show 8 + (mLo M' + 11) + (41 * d' + 32) ≤ 41 * d + 32; omega⟩) ⟨xPc_blind, hrv, xPc_at (as := .ref b :: as) C SX hP hD hS⟩ rfl (by rw [List.length_map]; exact hn) hL.1 (by simp [trV]) (lv_room (by rw [trV_cats]; exact hrest)) hd hb
  intro T hT X
  rcases run T hT X with ⟨v, st₀, t, T', L, h0, X', hL', e1, e2, hF, stp⟩ | ⟨q, st₀, t, T', L, E0, ce, h0, X', hL', e1, e2, ⟨hE, h', qh, hP1, hD1, hF⟩, hce, hcv, hcl, stp⟩
  · exact hF.elim
  subst hE
  have hsub := trW_sub hD hS hA
  have hS1 : va_S A s.heap T'.heap (locs ++ L) := by
    obtain ⟨f1, f2⟩ := hF
    rw [h0] at f1 f2
    rw [e1]
    refine ⟨Nat.le_trans hS.1 f1, fun q h1 h2 => ?_, fun z hz => ?_⟩
    · rw [f2 q (Nat.lt_of_lt_of_le h1 hS.1) (fun g => h2 (hsub q g))]
      exact hS.2.1 q h1 h2
    · rcases List.mem_append.mp hz with g | g
      · exact hS.2.2 z g
      · exact hsub _ (hL' z g)
  have kE : ∀ ls', LH ad ls' (mLo M) ((xclr lv j).set j none) → W p l.1 e (xrm d M) s m args below meth c T'.heap (locs ++ L) (uc + 1) (us + 6) (MQ below Qc args s (mBc M) (mBs M) free) (F0 m nx ls' []) := fun ls' hl' =>
    k h' qh p e s m args below meth c D dA A ad T'.heap (locs ++ L) ls' Qc free C SX (by rw [e1]; exact hP1) (hD1.weaken (fun _ _ _ g => hsub _ g)) hS1 hl' hf hb (fun r2 h2 ad2 t2 q2 g1 g2 => hQ r2 h2 ad2 t2 q2 (fun k hk => g1 k (hk.imp (fun z => Nat.lt_of_lt_of_le z (hlen h' qh)) id)) g2)
  have hcat : W p l.1 e (xrm d M) s m args below meth c T'.heap (locs ++ L) (uc + 1) (us + 6) (MQ below Qc args s (mBc M) (mBs M) free) (F0 m hp ls [.ref q]) := by
    rcases hast with ⟨da, rfl⟩ | ⟨f, da, hfj, rfl⟩
    · exact lv_astore hx hb' da hL.has hj rfl (fun ls' hl' => kE ls' (LH.st0 hl'))
    · exact lv_astore_n hx hb' da hfj hL.has hj rfl (fun ls' hl' => kE ls' (LH.st0 hl'))
  rw [hM0] at hown
  have hW := vx_catch (E := nse) (name := nse) (rest := rest.map (trV ad)) (pc := pc) (ls := ls) hown [] ⟨a1, a2, hp, 13⟩ [] (by rw [ht, hh1]; rfl) (fun z hz => nomatch hz) hcov (by show 13 ≠ 0; decide) (hts _ nse_w.2.2) (nse_cast (hts _ nse_w.2.1)) (by rw [e1]; exact hce) hcv hcl hcat
  obtain ⟨t2, a1', b1⟩ := hW T' rfl X'
  exact ⟨t2, stp.trans a1', b1⟩
end
section
variable {l : xLa} {d : Nat} {σ : xs} {w : wv} {a b : Int32}
theorem oe_i2l {M : mT} {pc uc us : Nat} {lv : List (Option Value)} {st : List Value} {h : xH} {Q : Option Value → xH → Prop} {x : Int32} (hd : decode (mCd M) pc = .ok (.i2l, 1)) (k : E l M (d + 1) (pc + 1) lv (.long x.toInt64 :: st) h uc us Q) : E l M (d + 1) pc lv (.int x :: st) h uc us Q := E.step (x := (pc + 1, lv, .long x.toInt64 :: st, h)) (Nat.le_add_left 1 d) hd rfl k
theorem oe_out {M : mT} {pc uc us : Nat} {lv : List (Option Value)} {st : List Value} {Q : Option Value → xH → Prop} {x : Int64} (hd : decode (mCd M) pc = .ok (.lastore, 1)) (k : E l M (d + 1) (pc + 1) lv st (mk (wJ σ 189 0 x)) uc us Q) : E l M (d + 1) pc lv (.long x :: .int 0 :: .ref 189 :: st) (mk σ) uc us Q :=
  E.step (x := (pc + 1, lv, st, mk (wJ σ 189 0 x))) (Nat.le_add_left 1 d) hd (by
    show s_las 1 pc lv (.long x :: .int 0 :: .ref 189 :: st) (mk σ) = _
    unfold s_las
    have hs : (mk σ).1[189]? = some (2, 4, 1) := rfl
    simp only [hs]
    rw [if_pos ⟨trivial, by decide⟩]
    rfl) k
theorem l_one_ok {v : Int32} (hct : TC l M_X_one (d + 30) [.ref 0, .int a, .int b] σ (fun r τ => r = some (.int v) ∧ XW τ w ∧ XF σ τ)) : Ct l M_L_one (d + 31) [.ref 0, .int a, .int b, .ref 189] (mk σ) (fun r h2 => ∃ τ, h2 = mk (wJ τ 189 0 (v.toInt64)) ∧ r = some (.int 0) ∧ XW τ w ∧ XF σ τ) := by
  show E l M_L_one (d + 31) 0 [some (.ref 0), some (.int a), some (.int b), some (.ref 189), none] [] (mk σ) 0 0 _
  refine oe_aload d_L_one_0 rfl ?_
  refine oe_iconst (v := 0) d_L_one_1 (by decide) ?_
  refine oe_aload d_L_one_2 rfl ?_
  refine oe_iload d_L_one_3 rfl ?_
  refine oe_iload d_L_one_4 rfl ?_
  refine E.callV (as := [.int a, .int b]) (rest := [.int 0, .ref 189]) hct cw_X_one (by rfl) rfl (by decide) (by decide) (by omega) d_L_one_5 rfl rfl (Nat.le_of_ble_eq_true rfl) (Nat.le_of_ble_eq_true rfl) rfl rfl (Or.inr (fun r h' q => by obtain ⟨τ, e, -⟩ := q; rw [e]; exact Nat.le_refl _)) (fun r h' q => ?_)
  obtain ⟨τ, rfl, rfl, x1, f1⟩ := q
  refine oe_i2l d_L_one_8 ?_
  refine oe_out d_L_one_9 ?_
  refine oe_goto (t := 17) d_L_one_10 (by decide) ?_
  refine oe_iconst (v := 0) d_L_one_17 (by decide) ?_
  exact E.iret rfl d_L_one_18 ⟨τ, rfl, rfl, x1, f1⟩
theorem l_one_th (hct : CtT l M_X_one (d + 30) [.ref 0, .int a, .int b] (mk σ) (fun h2 => h2 = mk σ)) : CtC l M_L_one [(0, 10, 13, 13)] (d + 31) [.ref 0, .int a, .int b, .ref 189] (mk σ) (fun r h2 => h2 = mk σ ∧ r = some (.int 1)) := by
  show EC l M_L_one _ (d + 31) 0 [some (.ref 0), some (.int a), some (.int b), some (.ref 189), none] [] (mk σ) 0 0 _
  refine ec_aload d_L_one_0 rfl ?_
  refine ec_const (v := 0) d_L_one_1 (by decide) ?_
  refine ec_aload d_L_one_2 rfl ?_
  refine ec_iload d_L_one_3 rfl ?_
  refine ec_iload d_L_one_4 rfl ?_
  refine ec_call (as := [.int a, .int b]) (rest := [.int 0, .ref 189]) (j := 4) (nx := 15) hct cw_X_one (by rfl) rfl (by decide) (by decide) (by omega) d_L_one_5 rfl rfl (Nat.le_of_ble_eq_true rfl) (Nat.le_of_ble_eq_true rfl) (by decide) (by decide +kernel) rfl rfl (by decide) (by decide) (Or.inl ⟨d_L_one_13, rfl⟩) (fun h2 q => by rw [q]; exact Nat.le_refl _) (fun h2 q => ?_)
  subst q
  refine oe_iconst (v := 1) d_L_one_15 (by decide) ?_
  exact E.iret rfl d_L_one_16 ⟨rfl, rfl⟩
theorem l_field_ok {v : Int32} (hct : TC l M_X_field (d + 30) [.ref 0, .int a, .int b] σ (fun r τ => r = some (.int v) ∧ XW τ w ∧ XF σ τ)) : Ct l M_L_field (d + 31) [.ref 0, .int a, .int b, .ref 189] (mk σ) (fun r h2 => ∃ τ, h2 = mk (wJ τ 189 0 (v.toInt64)) ∧ r = some (.int 0) ∧ XW τ w ∧ XF σ τ) := by
  show E l M_L_field (d + 31) 0 [some (.ref 0), some (.int a), some (.int b), some (.ref 189), none] [] (mk σ) 0 0 _
  refine oe_aload d_L_field_0 rfl ?_
  refine oe_iconst (v := 0) d_L_field_1 (by decide) ?_
  refine oe_aload d_L_field_2 rfl ?_
  refine oe_iload d_L_field_3 rfl ?_
  refine oe_iload d_L_field_4 rfl ?_
  refine E.callV (as := [.int a, .int b]) (rest := [.int 0, .ref 189]) hct cw_X_field (by rfl) rfl (by decide) (by decide) (by omega) d_L_field_5 rfl rfl (Nat.le_of_ble_eq_true rfl) (Nat.le_of_ble_eq_true rfl) rfl rfl (Or.inr (fun r h' q => by obtain ⟨τ, e, -⟩ := q; rw [e]; exact Nat.le_refl _)) (fun r h' q => ?_)
  obtain ⟨τ, rfl, rfl, x1, f1⟩ := q
  refine oe_i2l d_L_field_8 ?_
  refine oe_out d_L_field_9 ?_
  refine oe_goto (t := 17) d_L_field_10 (by decide) ?_
  refine oe_iconst (v := 0) d_L_field_17 (by decide) ?_
  exact E.iret rfl d_L_field_18 ⟨τ, rfl, rfl, x1, f1⟩
theorem l_field_th (hct : CtT l M_X_field (d + 30) [.ref 0, .int a, .int b] (mk σ) (fun h2 => h2 = mk σ)) : CtC l M_L_field [(0, 10, 13, 13)] (d + 31) [.ref 0, .int a, .int b, .ref 189] (mk σ) (fun r h2 => h2 = mk σ ∧ r = some (.int 1)) := by
  show EC l M_L_field _ (d + 31) 0 [some (.ref 0), some (.int a), some (.int b), some (.ref 189), none] [] (mk σ) 0 0 _
  refine ec_aload d_L_field_0 rfl ?_
  refine ec_const (v := 0) d_L_field_1 (by decide) ?_
  refine ec_aload d_L_field_2 rfl ?_
  refine ec_iload d_L_field_3 rfl ?_
  refine ec_iload d_L_field_4 rfl ?_
  refine ec_call (as := [.int a, .int b]) (rest := [.int 0, .ref 189]) (j := 4) (nx := 15) hct cw_X_field (by rfl) rfl (by decide) (by decide) (by omega) d_L_field_5 rfl rfl (Nat.le_of_ble_eq_true rfl) (Nat.le_of_ble_eq_true rfl) (by decide) (by decide +kernel) rfl rfl (by decide) (by decide) (Or.inl ⟨d_L_field_13, rfl⟩) (fun h2 q => by rw [q]; exact Nat.le_refl _) (fun h2 q => ?_)
  subst q
  refine oe_iconst (v := 1) d_L_field_15 (by decide) ?_
  exact E.iret rfl d_L_field_16 ⟨rfl, rfl⟩
theorem l_row_ok {v : Int64} (hct : TC l M_X_row (d + 30) [.ref 0, .int a] σ (fun r τ => r = some (.long v) ∧ XW τ w ∧ XF σ τ)) : Ct l M_L_row (d + 31) [.ref 0, .int a, .ref 189] (mk σ) (fun r h2 => ∃ τ, h2 = mk (wJ τ 189 0 (v)) ∧ r = some (.int 0) ∧ XW τ w ∧ XF σ τ) := by
  show E l M_L_row (d + 31) 0 [some (.ref 0), some (.int a), some (.ref 189), none] [] (mk σ) 0 0 _
  refine oe_aload d_L_row_0 rfl ?_
  refine oe_iconst (v := 0) d_L_row_1 (by decide) ?_
  refine oe_aload d_L_row_2 rfl ?_
  refine oe_iload d_L_row_3 rfl ?_
  refine E.callV (as := [.int a]) (rest := [.int 0, .ref 189]) hct cw_X_row (by rfl) rfl (by decide) (by decide) (by omega) d_L_row_4 rfl rfl (Nat.le_of_ble_eq_true rfl) (Nat.le_of_ble_eq_true rfl) rfl rfl (Or.inr (fun r h' q => by obtain ⟨τ, e, -⟩ := q; rw [e]; exact Nat.le_refl _)) (fun r h' q => ?_)
  obtain ⟨τ, rfl, rfl, x1, f1⟩ := q
  refine oe_out d_L_row_7 ?_
  refine oe_goto (t := 14) d_L_row_8 (by decide) ?_
  refine oe_iconst (v := 0) d_L_row_14 (by decide) ?_
  exact E.iret rfl d_L_row_15 ⟨τ, rfl, rfl, x1, f1⟩
theorem l_row_th (hct : CtT l M_X_row (d + 30) [.ref 0, .int a] (mk σ) (fun h2 => h2 = mk σ)) : CtC l M_L_row [(0, 8, 11, 13)] (d + 31) [.ref 0, .int a, .ref 189] (mk σ) (fun r h2 => h2 = mk σ ∧ r = some (.int 1)) := by
  show EC l M_L_row _ (d + 31) 0 [some (.ref 0), some (.int a), some (.ref 189), none] [] (mk σ) 0 0 _
  refine ec_aload d_L_row_0 rfl ?_
  refine ec_const (v := 0) d_L_row_1 (by decide) ?_
  refine ec_aload d_L_row_2 rfl ?_
  refine ec_iload d_L_row_3 rfl ?_
  refine ec_call (as := [.int a]) (rest := [.int 0, .ref 189]) (j := 3) (nx := 12) hct cw_X_row (by rfl) rfl (by decide) (by decide) (by omega) d_L_row_4 rfl rfl (Nat.le_of_ble_eq_true rfl) (Nat.le_of_ble_eq_true rfl) (by decide) (by decide +kernel) rfl rfl (by decide) (by decide) (Or.inr ⟨3, d_L_row_11, rfl, rfl⟩) (fun h2 q => by rw [q]; exact Nat.le_refl _) (fun h2 q => ?_)
  subst q
  refine oe_iconst (v := 1) d_L_row_12 (by decide) ?_
  exact E.iret rfl d_L_row_13 ⟨rfl, rfl⟩
end
