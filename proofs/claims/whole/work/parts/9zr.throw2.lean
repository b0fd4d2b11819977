/-! Frames that throw: rows as in parts 09 to 13, for what ends in a throw. Printed by wip/whole/h_throw2.py. -/
def nse : String := "java/util/NoSuchElementException"
def rmT (d : Nat) : Room := { frames := d, cells := 1, slots := 6, locals := 41 * d + 32 }
/-- from pc, with these locals, this stack and this heap, the method throws a NoSuchElementException with a heap h', and Q h' -/
def EXT (l : xLa) (M : mT) (d pc : Nat) (lv : List (Option Value)) (st : List Value) (h : xH) (Q : xH → Prop) : Prop :=
  ∀ (p : Program) (e : Env) (s : State) (m : MethodId) (args : Array Value) (below : List Frame) (meth : Method) (c : Code) (D : va_G) (dA : Nat → ClassId) (A : Nat → Prop) (ad : Nat → Nat) (H : Heap) (locs : List Loc) (ls : Array Slot) (Qc : Array Value → State → Outcome → State → Prop) (XC : String → State → State → Prop) (free : Addr → Prop),
    xCx M p s m args meth c D dA A → xSX l.2 ad A s s.heap → va_P D xcl (trW ad dA h) H → va_D A (trW ad dA h) → va_S A s.heap H locs → LH ad ls (mLo M) lv → (∀ q, A q → free q) → (∀ x ∈ c.exceptionTable.toList, False) →
    (∀ (h' : xH) (t : State), Q h' → va_P D xcl (trW ad dA h') t.heap → va_D A (trW ad dA h') → va_F A s t → s.vm.Alike t.vm → XC nse s t) →
    W p l.1 e (rmT d) s m args below meth c H locs 0 0 (vx_MQ below Qc XC args s 1 6 free) (F0 m pc ls (st.map (trV ad)))
theorem nse_ng : ((vx_at0 "FishFerry" 177 nse ["java/lang/RuntimeException", "java/lang/Exception"]).filter (fun w => !goodWord w)) = [.declares (mY M_RuntimeException_init), .declares (mY M_Exception_init), .declares (mY M_Throwable_init), .castable nse nse] := by decide +kernel
theorem nse_gd : ∀ w ∈ (vx_at0 "FishFerry" 177 nse ["java/lang/RuntimeException", "java/lang/Exception"]).filter goodWord, w ∈ xG := by decide +kernel
theorem nse_ot : ∀ w ∈ Cond.classLink "FishFerry" 175 nse :: Cond.initialized nse :: vx_at0 "FishFerry" 177 nse ["java/lang/RuntimeException", "java/lang/Exception"], vx_ot w = true := by decide +kernel
theorem nse_w : Cond.classLink "FishFerry" 175 nse ∈ xG ∧ Cond.initialized nse ∈ xG ∧ Cond.classLink "FishFerryLaw" 13 nse ∈ xG := by decide +kernel
theorem nse_as (vm : Vm) (c : ClassId) : vm.assignable c c = true := by
  show vm.assignableAux (255 + 1) c c = true
  rw [Vm.assignableAux]
  simp only [beq_self_eq_true, Bool.true_or]
theorem nse_cast {args : Array Value} {s : State} (h : (Cond.initialized nse).before args s = true) : (Cond.castable nse nse).before args s = true := by
  unfold Cond.before Cond.holds at h ⊢
  simp only [Cond.value] at h ⊢
  cases hc : s.vm.findClass nse with
  | none => rw [hc] at h; simp at h
  | some c => simp [nse_as]
theorem decl_of {args : Array Value} {s : State} {M : mT} (h : (Cond.instanceMethod (mY M)).before args s = true) (hc : (Cond.code (mY M) (mCd M) (mLo M) (mRt M)).before args s = true) : (Cond.declares (mY M)).before args s = true := by
  obtain ⟨m, meth, h1, h2, h3, -⟩ := Cond.instanceMethod_spec h
  obtain ⟨meth', c, g1, g2, g3, g4, g5, g6, g7, g8⟩ := Cond.code_spec h1 hc
  cases Option.some.inj (g1.symm.trans h2)
  unfold Cond.before Cond.holds
  simp only [Cond.value]
  rw [h1, Option.bind_some, h2]
  simp [h3, g8]
theorem nse_im : Cond.instanceMethod (mY M_RuntimeException_init) ∈ xG ∧ Cond.instanceMethod (mY M_Exception_init) ∈ xG ∧ Cond.instanceMethod (mY M_Throwable_init) ∈ xG := by decide +kernel
theorem nse_all {args : Array Value} {s : State} (hts : ∀ w ∈ xG, w.before args s = true) : ∀ w ∈ vx_at0 "FishFerry" 177 nse ["java/lang/RuntimeException", "java/lang/Exception"], w.before args s = true :=
  vx_hat (B := [.declares (mY M_RuntimeException_init), .declares (mY M_Exception_init), .declares (mY M_Throwable_init), .castable nse nse]) (fun w hw => hts w (nse_gd w hw)) (fun w hw => by rw [nse_ng] at hw; exact hw) (vx_c (decl_of (hts _ nse_im.1) (hts _ (xG_of cw_RuntimeException_init rfl))) (vx_c (decl_of (hts _ nse_im.2.1) (hts _ (xG_of cw_Exception_init rfl))) (vx_c (decl_of (hts _ nse_im.2.2) (hts _ (xG_of cw_Throwable_init rfl))) (vx_c (nse_cast (hts _ nse_w.2.1)) vx_n))))
section
variable {l : xLa} {M M' : mT} {d d' pc : Nat} {lv : List (Option Value)} {st rest : List Value} {h : xH} {Q : xH → Prop}
/-- throw new NoSuchElementException() -/
theorem xt_throw (hl : l.1.stackTraces = false) (hM : mOwn M = "FishFerry") (hd6 : 6 ≤ d) (d0 : decode (mCd M) pc = .ok (.new 175, 3)) (d3 : decode (mCd M) (pc + 3) = .ok (.dup, 1)) (d4 : decode (mCd M) (pc + 4) = .ok (.invokespecial 177, 3)) (d7 : decode (mCd M) (pc + 7) = .ok (.athrow, 1)) (q : Q h) : EXT l M d pc lv [] h Q := by
  intro p e s m args below meth c D dA A ad H locs ls Qc XC free C SX hP hD hS hL hf hu hQ
  obtain ⟨hx, hb, hr, hlk, hml, hown, hts, hA, hK, hin⟩ := id C
  rw [hM] at hown
  exact vx_throw0 (A := A) (names := ["java/lang/RuntimeException", "java/lang/Exception"]) hx hb hl hown (by decide +kernel) (by decide +kernel) (hts _ nse_w.1) (hts _ nse_w.2.1) (nse_all hts) nse_ot SX.2.2.2.2.2.2.2.1 SX.2.2.2.2.2.2.2.2.1 hS (hL.1.trans hml.symm) d0 d3 d4 d7 (fun x hx => absurd (hu x hx) id) (by show 2 + 3 < d; omega) (by show 0 + (13 * (2 + 1) + 42) ≤ 41 * d + 32; omega) (Nat.le_refl 1) (Nat.le_refl 6) hlk (fun t ha h1 h2 => hQ h t q (hP.kept (fun k x hx => h2 x.1 ((hP k x hx).lt))) hD ⟨Nat.le_trans hS.1 h1, fun a g1 g2 => (h2 a (Nat.lt_of_lt_of_le g1 hS.1)).trans (hS.2.1 a g1 g2)⟩ ha) (fun z hz => hf _ (hS.2.2 z hz)) (Nat.le_refl 1) (Nat.le_refl 6)
/-- a call of an object's method, that returns -/
theorem xt_call {as : List Value} {Q' : Option Value → xH → Prop} {i b ci n p1 p2 p3 p4 : Nat} (hct : Ct l M' d' (.ref b :: as) h Q') (hc : xCode M') (hl : xlk xML M.1 i = some (1, M', p1, p2, p3, p4)) (hsh : h.1[b]? = some (0, ci, n)) (hci : ci < 13) (hcn : xcn.getD ci "" = (mY M').cls) (hdd : d' + 1 ≤ d) (hd : decode (mCd M) pc = .ok (.invokevirtual i, 3)) (hst : st = as.reverse ++ .ref b :: rest) (hn : as.length = mN M') (hln : (xEnt (.ref b :: as)).length ≤ mLo M') (hrest : (rest.map fun v => v.category).sum ≤ 8)
    (hz : mBc M' = 0) (hzs : mBs M' = 0) (k : ∀ r h', Q' r h' → EXT l M d (pc + 3) lv (r.toList ++ rest) h' Q) : EXT l M d pc lv st h Q := by
  subst hst
  intro p e s m args below meth c D dA A ad H locs ls Qc XC free C SX hP hD hS hL hf hu hQ
  obtain ⟨hx, hb, hr, hlk, hml, hown, hts, hA, hK, hin⟩ := id C
  obtain ⟨w1, w2, w3, w5, w6, w7, w8, w9⟩ := xML_d hl
  dsimp only [xMw1, xMw2, xMw3, xMw5, xMw6, xMw7, xMw8, xMw9] at w1 w2 w3 w5 w6 w7 w8 w9
  rw [if_neg (by decide)] at w1
  rw [if_neg (by decide)] at w2
  replace w5 := w5 (by decide)
  have hM := hct.met w7.2.2 w7.2.1 hln D dA ad H.size
  have hG : GoodIn xG (wsV (mOwn M) i (mY M').cls (mY M') (xws M')) := xG_GoodIn (fun w hw => by
    rcases List.mem_append.mp hw with g | g
    · rcases List.mem_cons.mp g with rfl | g
      · exact xG_at w1 rfl
      · rcases List.mem_cons.mp g with rfl | g
        · exact xG_at w2 rfl
        · rcases List.mem_cons.mp g with rfl | g
          · exact xG_at w5 rfl
          · rcases List.mem_cons.mp g with rfl | g
            · exact xG_at w3 rfl
            · cases g
    · exact xws_in hc w g)
  rw [hz, hzs] at hM
  have h8 : mLo M' ≤ 21 := w7.1
  have hrv := va_recv hK hP (xcl_at hci) (trW_at (ad := ad) (dA := dA) hsh)
  dsimp only at hrv
  rw [hcn] at hrv
  have run := va_runV (R := rmT d) (e := e) (below := below) (meth := meth) (locs := locs) (cells := 0) (slots := 0) (g := F0 m pc ls ((as.reverse ++ .ref b :: rest).map (trV ad))) (C := (mY M').cls) (As := as.map (trV ad)) (rest := rest.map (trV ad)) ⟨hx, hb, hml, hown, hts⟩ hM (cwV (mN M') hts hG rfl hz hzs ⟨rfl, w8.1, w8.2, w9⟩ ⟨hdd, by show 8 + (mLo M' + 11) + (41 * d' + 32) ≤ 41 * d + 32; omega⟩) ⟨xPc_blind, hrv, xPc_at (as := .ref b :: as) C SX hP hD hS⟩ rfl (by rw [List.length_map]; exact hn) hL.1 (by simp [trV]) (lv_room (by rw [trV_cats]; exact hrest)) hd ⟨Nat.zero_le _, Nat.zero_le _⟩
  intro T hT X
  obtain ⟨v, st₀, t, T', L, h0, X', hL', e1, e2, ⟨r, h', ad', hv, q, ha, hza, hP1, hD1, hF⟩, stp⟩ := run T hT X
  have hsub := trW_sub hD hS hA
  obtain rfl : ad' = ad := hza hz
  cases hv
  have hS1 : va_S A s.heap T'.heap (locs ++ L) := by
    obtain ⟨f1, f2⟩ := hF
    rw [h0] at f1 f2
    rw [e1]
    refine ⟨Nat.le_trans hS.1 f1, fun q h1 h2 => ?_, fun z hz => ?_⟩
    · rw [f2 q (Nat.lt_of_lt_of_le h1 hS.1) (fun g => h2 (hsub q g))]
      exact hS.2.1 q h1 h2
    · rcases List.mem_append.mp hz with g | g
      · exact hS.2.2 z g
      · exact hsub _ (hL' z g)
  obtain ⟨t2, a1, b1⟩ := k r h' q p e s m args below meth c D dA A ad' T'.heap (locs ++ L) ls Qc XC free C SX (by rw [e1]; exact hP1) (hD1.weaken (fun _ _ _ g => hsub _ g)) hS1 hL hf hu hQ T' rfl X'
  refine ⟨t2, stp t2 ?_, b1⟩
  have hst : (r.map (trV ad')).toList ++ rest.map (trV ad') = (r.toList ++ rest).map (trV ad') := by cases r <;> rfl
  rw [hst]
  exact a1
end
/-- a method that throws -/
def CtT (l : xLa) (M : mT) (d : Nat) (as : List Value) (h : xH) (Q : xH → Prop) : Prop := EXT l M d 0 (xent (mLo M) as) [] h Q
def xXc (D : va_G) (dA : Nat → ClassId) (ad : Nat → Nat) (h : xH) (sz : Nat) (Q : xH → Prop) : String → State → State → Prop := fun E st t => E = nse ∧ ∃ h' : xH, Q h' ∧ va_P D xcl (trW ad dA h') t.heap ∧ va_D (va_A (trW ad dA h) sz) (trW ad dA h') ∧ va_F (va_A (trW ad dA h) sz) st t
theorem CtT.met {l : xLa} {M : mT} {d : Nat} {as : List Value} {h : xH} {Q : xH → Prop} (hk : CtT l M d as h Q) (hpl : plainName (mY M).cls = true) (hown : mOwn M = (mY M).cls) (hn : (xEnt as).length ≤ mLo M) (D : va_G) (dA : Nat → ClassId) (ad : Nat → Nat) (sz : Nat) (Qc : Array Value → State → Outcome → State → Prop) :
    vx_Met l.1 (mY M) (xws M) (rmT d) (xPc l.2 D dA ad h sz as) Qc (xXc D dA ad h sz Q) 1 6 (va_A (trW ad dA h) sz) := by
  refine vx_ofW (cc := mCd M) (maxL := mLo M) (ret := mRt M) hpl rfl ?_
  intro p e s m args below meth c s₁ B hml ht hv
  obtain ⟨rfl, hsz, hP, hK, hD0, hSX⟩ := hv
  have hts := atoms_spec (ws := xws M) B.pre
  have hn1 : s.vm.findClass (mOwn M) = some m.cls := by rw [hown]; exact findClass_of_methodNamed B.named
  subst hsz
  have hA : ∀ q : Nat, s.heap.size ≤ q → va_A (trW ad dA h) s.heap.size q := fun q g => Or.inr g
  rw [lg_entry_eq]
  refine hk p e s m _ below meth c D dA (va_A (trW ad dA h) s.heap.size) ad s.heap [] _ Qc (xXc D dA ad h s.heap.size Q) (va_A (trW ad dA h) s.heap.size)
    ⟨B.exec, B.bytes, B.returns, B.notSynchronized, hml, hn1, fun w hw => hts w (List.mem_cons_of_mem _ hw), hA, hK, fun hi => (name_of_methodNamed B.named B.method).1.trans hi⟩
    hSX hP hD0.self va_S.rf (LH.entry hn) (fun q g => g) ht ?_
  intro h' t q hP1 hD1 hF ha
  exact ⟨rfl, h', q, hP1, hD1, hF⟩

theorem ex_iconst {l : xLa} {M : mT} {d pc len : Nat} {lv : List (Option Value)} {st : List Value} {h : xH} {Q : xH → Prop} {x : xS} {n : Int} (hd : decode (mCd M) pc = .ok (.iconst n, len)) (hs : (if len = 1 then some (pc + 1, lv, Value.int (Int32.ofInt n) :: st, h) else none) = some x) (k : EXT l M d x.1 x.2.1 x.2.2.1 x.2.2.2 Q) : EXT l M d pc lv st h Q := by
  split at hs
  · rename_i e; subst e; cases hs
    intro p e s m args below meth c D dA A ad H locs ls Qc XC free C SX hP hD hS hL hf hu hQ
    obtain ⟨hx, hb, hr, hlk, hml, hown, hts, hA, hK, hin⟩ := id C
    exact lv_iconst hx hb hd rfl (k p e s m args below meth c D dA A ad H locs ls Qc XC free C SX hP hD hS hL hf hu hQ)
  · cases hs
theorem ex_bipush {l : xLa} {M : mT} {d pc len : Nat} {lv : List (Option Value)} {st : List Value} {h : xH} {Q : xH → Prop} {x : xS} {n : Int} (hd : decode (mCd M) pc = .ok (.bipush n, len)) (hs : (if len = 2 then some (pc + 2, lv, Value.int (Int8.ofInt n).toInt32 :: st, h) else none) = some x) (k : EXT l M d x.1 x.2.1 x.2.2.1 x.2.2.2 Q) : EXT l M d pc lv st h Q := by
  split at hs
  · rename_i e; subst e; cases hs
    intro p e s m args below meth c D dA A ad H locs ls Qc XC free C SX hP hD hS hL hf hu hQ
    obtain ⟨hx, hb, hr, hlk, hml, hown, hts, hA, hK, hin⟩ := id C
    exact lv_bipush hx hb hd rfl (k p e s m args below meth c D dA A ad H locs ls Qc XC free C SX hP hD hS hL hf hu hQ)
  · cases hs
theorem ex_iload_n {l : xLa} {M : mT} {d pc len : Nat} {lv : List (Option Value)} {st : List Value} {h : xH} {Q : xH → Prop} {x : xS} {i : Fin 4} (hd : decode (mCd M) pc = .ok (.iload_n i, len)) (hs : s_ld len 1 pc lv st h 0 (i : Nat) = some x) (k : EXT l M d x.1 x.2.1 x.2.2.1 x.2.2.2 Q) : EXT l M d pc lv st h Q := by
  obtain ⟨v, hv, rfl, rfl, hc⟩ := v_ld hs
  intro p e s m args below meth c D dA A ad H locs ls Qc XC free C SX hP hD hS hL hf hu hQ
  obtain ⟨hx, hb, hr, hlk, hml, hown, hts, hA, hK, hin⟩ := id C
  rcases hc with ⟨-, a, rfl⟩ | ⟨g, -⟩ | ⟨g, -⟩
  · exact lv_iload_n hx hb hd rfl (hL.2.2 _ _ hv) (k p e s m args below meth c D dA A ad H locs ls Qc XC free C SX hP hD hS hL hf hu hQ)
  · exact absurd g (by decide)
  · exact absurd g (by decide)
theorem ex_aload_n {l : xLa} {M : mT} {d pc len : Nat} {lv : List (Option Value)} {st : List Value} {h : xH} {Q : xH → Prop} {x : xS} {i : Fin 4} (hd : decode (mCd M) pc = .ok (.aload_n i, len)) (hs : s_ld len 1 pc lv st h 2 (i : Nat) = some x) (k : EXT l M d x.1 x.2.1 x.2.2.1 x.2.2.2 Q) : EXT l M d pc lv st h Q := by
  obtain ⟨v, hv, rfl, rfl, hc⟩ := v_ld hs
  intro p e s m args below meth c D dA A ad H locs ls Qc XC free C SX hP hD hS hL hf hu hQ
  obtain ⟨hx, hb, hr, hlk, hml, hown, hts, hA, hK, hin⟩ := id C
  rcases hc with ⟨g, -⟩ | ⟨g, -⟩ | ⟨-, a, rfl⟩
  · exact absurd g (by decide)
  · exact absurd g (by decide)
  · exact lv_aload_n hx hb hd rfl (hL.2.2 _ _ hv) (k p e s m args below meth c D dA A ad H locs ls Qc XC free C SX hP hD hS hL hf hu hQ)
theorem ex_get {l : xLa} {M : mT} {d pc len : Nat} {lv : List (Option Value)} {st : List Value} {h : xH} {Q : xH → Prop} {x : xS} {i : Nat} (hd : decode (mCd M) pc = .ok (.getfield i, len)) (hs : s_get M len pc lv st h i = some x) (k : EXT l M d x.1 x.2.1 x.2.2.1 x.2.2.2 Q) : EXT l M d pc lv st h Q := by
  unfold s_get at hs
  split at hs
  · rename_i a r
    split at hs
    · rename_i ci n cj kk ns z hsh hlk0
      split at hs
      · rename_i e; obtain ⟨rfl, hkn, rfl⟩ := e; cases hs
        intro p e s m args below meth c D dA A ad H locs ls Qc XC free C SX hP hD hS hL hf hu hQ
        obtain ⟨hx, hb, hr, hlk, hml, hown, hts, hA, hK, hin⟩ := id C
        obtain ⟨w1, w2, w3⟩ := xFL_w hlk0
        dsimp only at w1 w2 w3
        have hat := trW_at (ad := ad) (dA := dA) hsh
        have hv : ((List.range n).map (fun j => trV ad (hF h a j)))[kk]? = some (trV ad (hF h a kk)) := by
          rw [List.getElem?_map, List.getElem?_range hkn]; rfl
        by_cases hns : ns = 1
        · rw [if_pos hns] at w1
          exact va_getN hx hb hts (xlayG w3) hown hK hP a hat (xcl_at w3) kk w2 (va_Nw.use rfl (SX.1 _ (xN_at w1 rfl))) (fun _ q => q) hv hd (k p e s m args below meth c D dA A ad H locs ls Qc XC free C SX hP hD hS hL hf hu hQ)
        · rw [if_neg hns] at w1
          exact va_get hx hb hts (xlayG w3) hown hK hP a hat (xcl_at w3) kk w2 (hts _ (xG_at w1 rfl)) (fun _ q => q) hv hd (k p e s m args below meth c D dA A ad H locs ls Qc XC free C SX hP hD hS hL hf hu hQ)
      · cases hs
    · cases hs
  · cases hs
theorem ex_len {l : xLa} {M : mT} {d pc len : Nat} {lv : List (Option Value)} {st : List Value} {h : xH} {Q : xH → Prop} {x : xS} (hd : decode (mCd M) pc = .ok (.arraylength, len)) (hs : s_len len pc lv st h = some x) (k : EXT l M d x.1 x.2.1 x.2.2.1 x.2.2.2 Q) : EXT l M d pc lv st h Q := by
  unfold s_len at hs
  split at hs
  · rename_i a r
    split at hs
    · rename_i t w n hsh
      split at hs
      · rename_i e; obtain ⟨rfl, ht, hw⟩ := e; cases hs
        intro p e s m args below meth c D dA A ad H locs ls Qc XC free C SX hP hD hS hL hf hu hQ
        obtain ⟨hx, hb, hr, hlk, hml, hown, hts, hA, hK, hin⟩ := id C
        rcases ht with rfl | rfl | rfl
        · exact va_alen hx hb hK hP a w (trW_at (ad := ad) (dA := dA) hsh) (xtys_at hw) rfl hd (k p e s m args below meth c D dA A ad H locs ls Qc XC free C SX hP hD hS hL hf hu hQ)
        · exact va_alen hx hb hK hP a 4 (trW_at (ad := ad) (dA := dA) hsh) (xtys_at (by decide)) rfl hd (k p e s m args below meth c D dA A ad H locs ls Qc XC free C SX hP hD hS hL hf hu hQ)
        · exact va_alen hx hb hK hP a w (trW_at (ad := ad) (dA := dA) hsh) (xtys_at hw) rfl hd (k p e s m args below meth c D dA A ad H locs ls Qc XC free C SX hP hD hS hL hf hu hQ)
      · cases hs
    · cases hs
  · cases hs
theorem ex_if_eq {l : xLa} {M : mT} {d pc len : Nat} {lv : List (Option Value)} {st : List Value} {h : xH} {Q : xH → Prop} {x : xS} {off : Int} (hd : decode (mCd M) pc = .ok (.ifCond .eq off, len)) (hs : s_if (fun x => x = 0) len pc lv st h off = some x) (k : EXT l M d x.1 x.2.1 x.2.2.1 x.2.2.2 Q) : EXT l M d pc lv st h Q := by
  obtain ⟨a, r, t, rfl, rfl, ht, rfl⟩ := v_if hs
  intro p e s m args below meth c D dA A ad H locs ls Qc XC free C SX hP hD hS hL hf hu hQ
  obtain ⟨hx, hb, hr, hlk, hml, hown, hts, hA, hK, hin⟩ := id C
  dsimp only at k
  exact lv_if_eq hx hb hd ht (fun g => by rw [if_pos g] at k; exact k p e s m args below meth c D dA A ad H locs ls Qc XC free C SX hP hD hS hL hf hu hQ) (fun g => by rw [if_neg g] at k; exact k p e s m args below meth c D dA A ad H locs ls Qc XC free C SX hP hD hS hL hf hu hQ)
theorem ex_if_lt {l : xLa} {M : mT} {d pc len : Nat} {lv : List (Option Value)} {st : List Value} {h : xH} {Q : xH → Prop} {x : xS} {off : Int} (hd : decode (mCd M) pc = .ok (.ifCond .lt off, len)) (hs : s_if (fun x => x < 0) len pc lv st h off = some x) (k : EXT l M d x.1 x.2.1 x.2.2.1 x.2.2.2 Q) : EXT l M d pc lv st h Q := by
  obtain ⟨a, r, t, rfl, rfl, ht, rfl⟩ := v_if hs
  intro p e s m args below meth c D dA A ad H locs ls Qc XC free C SX hP hD hS hL hf hu hQ
  obtain ⟨hx, hb, hr, hlk, hml, hown, hts, hA, hK, hin⟩ := id C
  dsimp only at k
  exact lv_if_lt hx hb hd ht (fun g => by rw [if_pos g] at k; exact k p e s m args below meth c D dA A ad H locs ls Qc XC free C SX hP hD hS hL hf hu hQ) (fun g => by rw [if_neg g] at k; exact k p e s m args below meth c D dA A ad H locs ls Qc XC free C SX hP hD hS hL hf hu hQ)
theorem ex_ic_le {l : xLa} {M : mT} {d pc len : Nat} {lv : List (Option Value)} {st : List Value} {h : xH} {Q : xH → Prop} {x : xS} {off : Int} (hd : decode (mCd M) pc = .ok (.if_icmp .le off, len)) (hs : s_ic (fun x y => x ≤ y) len pc lv st h off = some x) (k : EXT l M d x.1 x.2.1 x.2.2.1 x.2.2.2 Q) : EXT l M d pc lv st h Q := by
  obtain ⟨a, b, r, t, rfl, rfl, ht, rfl⟩ := v_ic hs
  intro p e s m args below meth c D dA A ad H locs ls Qc XC free C SX hP hD hS hL hf hu hQ
  obtain ⟨hx, hb, hr, hlk, hml, hown, hts, hA, hK, hin⟩ := id C
  dsimp only at k
  exact lv_icmp_le hx hb hd ht (fun g => by rw [if_pos g] at k; exact k p e s m args below meth c D dA A ad H locs ls Qc XC free C SX hP hD hS hL hf hu hQ) (fun g => by rw [if_neg g] at k; exact k p e s m args below meth c D dA A ad H locs ls Qc XC free C SX hP hD hS hL hf hu hQ)
theorem ex_ic_ge {l : xLa} {M : mT} {d pc len : Nat} {lv : List (Option Value)} {st : List Value} {h : xH} {Q : xH → Prop} {x : xS} {off : Int} (hd : decode (mCd M) pc = .ok (.if_icmp .ge off, len)) (hs : s_ic (fun x y => y ≤ x) len pc lv st h off = some x) (k : EXT l M d x.1 x.2.1 x.2.2.1 x.2.2.2 Q) : EXT l M d pc lv st h Q := by
  obtain ⟨a, b, r, t, rfl, rfl, ht, rfl⟩ := v_ic hs
  intro p e s m args below meth c D dA A ad H locs ls Qc XC free C SX hP hD hS hL hf hu hQ
  obtain ⟨hx, hb, hr, hlk, hml, hown, hts, hA, hK, hin⟩ := id C
  dsimp only at k
  exact lv_icmp_ge hx hb hd ht (fun g => by rw [if_pos g] at k; exact k p e s m args below meth c D dA A ad H locs ls Qc XC free C SX hP hD hS hL hf hu hQ) (fun g => by rw [if_neg g] at k; exact k p e s m args below meth c D dA A ad H locs ls Qc XC free C SX hP hD hS hL hf hu hQ)
theorem ex_ic_lt {l : xLa} {M : mT} {d pc len : Nat} {lv : List (Option Value)} {st : List Value} {h : xH} {Q : xH → Prop} {x : xS} {off : Int} (hd : decode (mCd M) pc = .ok (.if_icmp .lt off, len)) (hs : s_ic (fun x y => x < y) len pc lv st h off = some x) (k : EXT l M d x.1 x.2.1 x.2.2.1 x.2.2.2 Q) : EXT l M d pc lv st h Q := by
  obtain ⟨a, b, r, t, rfl, rfl, ht, rfl⟩ := v_ic hs
  intro p e s m args below meth c D dA A ad H locs ls Qc XC free C SX hP hD hS hL hf hu hQ
  obtain ⟨hx, hb, hr, hlk, hml, hown, hts, hA, hK, hin⟩ := id C
  dsimp only at k
  exact lv_icmp_lt hx hb hd ht (fun g => by rw [if_pos g] at k; exact k p e s m args below meth c D dA A ad H locs ls Qc XC free C SX hP hD hS hL hf hu hQ) (fun g => by rw [if_neg g] at k; exact k p e s m args below meth c D dA A ad H locs ls Qc XC free C SX hP hD hS hL hf hu hQ)
section
variable {l : xLa} {M : mT} {d pc : Nat} {lv : List (Option Value)} {st : List Value} {h : xH} {Q : xH → Prop}
theorem xt_aload {i : Fin 4} {v : Nat} (hd : decode (mCd M) pc = .ok (.aload_n i, 1)) (hv : (lv[(i : Nat)]?).join = some (.ref v)) (k : EXT l M d (pc + 1) lv (.ref v :: st) h Q) : EXT l M d pc lv st h Q := ex_aload_n (x := (pc + 1, lv, .ref v :: st, h)) hd (by unfold s_ld; rw [hv]; rfl) k
theorem xt_iload {i : Fin 4} {v : Int32} (hd : decode (mCd M) pc = .ok (.iload_n i, 1)) (hv : (lv[(i : Nat)]?).join = some (.int v)) (k : EXT l M d (pc + 1) lv (.int v :: st) h Q) : EXT l M d pc lv st h Q := ex_iload_n (x := (pc + 1, lv, .int v :: st, h)) hd (by unfold s_ld; rw [hv]; rfl) k
theorem xt_iconst {i : Int} {v : Int32} (hd : decode (mCd M) pc = .ok (.iconst i, 1)) (hv : Int32.ofInt i = v) (k : EXT l M d (pc + 1) lv (.int v :: st) h Q) : EXT l M d pc lv st h Q := ex_iconst (x := (pc + 1, lv, .int v :: st, h)) hd (by subst hv; rfl) k
theorem xt_bipush {i : Int} {v : Int32} (hd : decode (mCd M) pc = .ok (.bipush i, 2)) (hv : (Int8.ofInt i).toInt32 = v) (k : EXT l M d (pc + 2) lv (.int v :: st) h Q) : EXT l M d pc lv st h Q := ex_bipush (x := (pc + 2, lv, .int v :: st, h)) hd (by subst hv; rfl) k
theorem xt_get {i ci kk ns p0 nf a : Nat} {v : Value} (hd : decode (mCd M) pc = .ok (.getfield i, 3)) (hl : xlk xFL M.1 i = some (ci, kk, ns, p0)) (hsh : h.1[a]? = some (0, ci, nf)) (hkn : kk < nf) (hv : hF h a kk = v) (k : EXT l M d (pc + 3) lv (v :: st) h Q) : EXT l M d pc lv (.ref a :: st) h Q := ex_get (x := (pc + 3, lv, v :: st, h)) hd (by unfold s_get; simp only [hsh, hl]; rw [if_pos ⟨trivial, hkn, trivial⟩, hv]) k
theorem xt_len {a t w ln : Nat} (hd : decode (mCd M) pc = .ok (.arraylength, 1)) (ha : h.1[a]? = some (t, w, ln)) (ht : t = 1 ∨ t = 2 ∨ t = 3) (hw : w < 7) (k : EXT l M d (pc + 1) lv (.int (nI ln) :: st) h Q) : EXT l M d pc lv (.ref a :: st) h Q := ex_len (x := (pc + 1, lv, .int (nI ln) :: st, h)) hd (by unfold s_len; simp only [ha]; rw [if_pos ⟨trivial, ht, hw⟩]; rfl) k
theorem xt_ifeq {off : Int} {t : Nat} {x : Int32} (hd : decode (mCd M) pc = .ok (.ifCond .eq off, 3)) (ht : xj pc off = some t) (k1 : x = 0 → EXT l M d t lv st h Q) (k2 : ¬ x = 0 → EXT l M d (pc + 3) lv st h Q) : EXT l M d pc lv (.int x :: st) h Q := by
  refine ex_if_eq (x := (if x = 0 then t else pc + 3, lv, st, h)) hd (by unfold s_if; simp only [ht]; rfl) ?_
  dsimp only
  by_cases g : x = 0
  · rw [if_pos g]; exact k1 g
  · rw [if_neg g]; exact k2 g
theorem xt_iflt {off : Int} {t : Nat} {x : Int32} (hd : decode (mCd M) pc = .ok (.ifCond .lt off, 3)) (ht : xj pc off = some t) (k1 : x < 0 → EXT l M d t lv st h Q) (k2 : ¬ x < 0 → EXT l M d (pc + 3) lv st h Q) : EXT l M d pc lv (.int x :: st) h Q := by
  refine ex_if_lt (x := (if x < 0 then t else pc + 3, lv, st, h)) hd (by unfold s_if; simp only [ht]; rfl) ?_
  dsimp only
  by_cases g : x < 0
  · rw [if_pos g]; exact k1 g
  · rw [if_neg g]; exact k2 g
theorem xt_icle {off : Int} {t : Nat} {x y : Int32} (hd : decode (mCd M) pc = .ok (.if_icmp .le off, 3)) (ht : xj pc off = some t) (k1 : x ≤ y → EXT l M d t lv st h Q) (k2 : ¬ x ≤ y → EXT l M d (pc + 3) lv st h Q) : EXT l M d pc lv (.int y :: .int x :: st) h Q := by
  refine ex_ic_le (x := (if x ≤ y then t else pc + 3, lv, st, h)) hd (by unfold s_ic; simp only [ht]; rfl) ?_
  dsimp only
  by_cases g : x ≤ y
  · rw [if_pos g]; exact k1 g
  · rw [if_neg g]; exact k2 g
theorem xt_icge {off : Int} {t : Nat} {x y : Int32} (hd : decode (mCd M) pc = .ok (.if_icmp .ge off, 3)) (ht : xj pc off = some t) (k1 : y ≤ x → EXT l M d t lv st h Q) (k2 : ¬ y ≤ x → EXT l M d (pc + 3) lv st h Q) : EXT l M d pc lv (.int y :: .int x :: st) h Q := by
  refine ex_ic_ge (x := (if y ≤ x then t else pc + 3, lv, st, h)) hd (by unfold s_ic; simp only [ht]; rfl) ?_
  dsimp only
  by_cases g : y ≤ x
  · rw [if_pos g]; exact k1 g
  · rw [if_neg g]; exact k2 g
theorem xt_iclt {off : Int} {t : Nat} {x y : Int32} (hd : decode (mCd M) pc = .ok (.if_icmp .lt off, 3)) (ht : xj pc off = some t) (k1 : x < y → EXT l M d t lv st h Q) (k2 : ¬ x < y → EXT l M d (pc + 3) lv st h Q) : EXT l M d pc lv (.int y :: .int x :: st) h Q := by
  refine ex_ic_lt (x := (if x < y then t else pc + 3, lv, st, h)) hd (by unfold s_ic; simp only [ht]; rfl) ?_
  dsimp only
  by_cases g : x < y
  · rw [if_pos g]; exact k1 g
  · rw [if_neg g]; exact k2 g
end
section
variable {l : xLa} {d : Nat} {σ : xs} {w : wv} {a b : Int32}
theorem xt_one (hl : l.1.stackTraces = false) (ho : okQ w) (hw : XW σ w) (hn : inN a (eN (wE w)) = none ∨ rgN b 0 8 = none) : CtT l M_X_one (d + 30) [.ref 0, .int a, .int b] (mk σ) (fun h' => h' = mk σ) := by
  show EXT l M_X_one (d + 30) 0 [some (.ref 0), some (.int a), some (.int b)] [] (mk σ) _
  have hN : sf σ 9 2 = nI (eN (wE w)) := hw.1.1.1.2.2.1
  refine xt_aload d_X_one_0 rfl ?_
  refine xt_get d_X_one_1 (by rfl) rfl (by decide) (v := .ref 9) rfl ?_
  refine xt_iload d_X_one_4 rfl ?_
  refine xt_call (rest := []) (as := [.int a]) (x_School_has (d := 0) (i := a) hN ho.1.1.2.2.2.2.1) cw_School_has (by rfl) rfl (by decide) (by decide) (by omega) d_X_one_5 rfl rfl (Nat.le_of_ble_eq_true rfl) (Nat.le_of_ble_eq_true rfl) rfl rfl (fun r h' q => ?_)
  obtain ⟨σ', e9, rfl, rfl⟩ := q
  subst e9
  refine xt_ifeq (t := 21) d_X_one_8 (by decide) (fun g => ?_) (fun g => ?_)
  · exact xt_throw hl rfl (by omega) d_X_one_21 d_X_one_24 d_X_one_25 d_X_one_28 rfl
  have g1 := X_in_1 g
  refine xt_iload d_X_one_11 rfl ?_
  refine xt_iflt (t := 21) d_X_one_12 (by decide) (fun g2 => ?_) (fun g2 => ?_)
  · exact xt_throw hl rfl (by omega) d_X_one_21 d_X_one_24 d_X_one_25 d_X_one_28 rfl
  refine xt_iload d_X_one_15 rfl ?_
  refine xt_bipush (v := 8) d_X_one_16 (by decide) ?_
  refine xt_icle (t := 29) d_X_one_18 (by decide) (fun g3 => ?_) (fun g3 => ?_)
  · exfalso
    rw [Int32.lt_iff_toInt_lt] at g2
    rw [Int32.le_iff_toInt_le] at g3
    have z0 : (0 : Int32).toInt = 0 := by decide
    have z8 : (8 : Int32).toInt = 8 := by decide
    rw [z0] at g2
    rw [z8] at g3
    rcases hn with hn | hn
    · unfold inN at hn
      rw [if_pos g1] at hn
      cases hn
    · unfold rgN at hn
      rw [if_pos ⟨by omega, by omega⟩] at hn
      cases hn
  · exact xt_throw hl rfl (by omega) d_X_one_21 d_X_one_24 d_X_one_25 d_X_one_28 rfl
theorem xt_field (hl : l.1.stackTraces = false) (ho : okQ w) (hw : XW σ w) (hn : inN a (eR (wE w) * eC (wE w)) = none ∨ rgN b 0 2 = none) : CtT l M_X_field (d + 30) [.ref 0, .int a, .int b] (mk σ) (fun h' => h' = mk σ) := by
  show EXT l M_X_field (d + 30) 0 [some (.ref 0), some (.int a), some (.int b), none, none] [] (mk σ) _
  refine xt_aload d_X_field_0 rfl ?_
  refine xt_get d_X_field_1 (by rfl) rfl (by decide) (v := .ref 5) rfl ?_
  refine xt_iload d_X_field_4 rfl ?_
  refine xt_call (rest := []) (as := [.int a]) (x_Lake_has (d := 0) (i := a) hw.1.1.1.1 hw.1.1.1.2.1 ho.1.1.2.1 ho.1.1.2.2.2.1 (by have := ho.1.1.2.2.1; omega)) cw_Lake_has (by rfl) rfl (by decide) (by decide) (by omega) d_X_field_5 rfl rfl (Nat.le_of_ble_eq_true rfl) (Nat.le_of_ble_eq_true rfl) rfl rfl (fun r h' q => ?_)
  obtain ⟨σ', e9, rfl, rfl⟩ := q
  subst e9
  refine xt_ifeq (t := 20) d_X_field_8 (by decide) (fun g => ?_) (fun g => ?_)
  · exact xt_throw hl rfl (by omega) d_X_field_20 d_X_field_23 d_X_field_24 d_X_field_27 rfl
  have g1 := X_in_1 g
  refine xt_iload d_X_field_11 rfl ?_
  refine xt_iflt (t := 20) d_X_field_12 (by decide) (fun g2 => ?_) (fun g2 => ?_)
  · exact xt_throw hl rfl (by omega) d_X_field_20 d_X_field_23 d_X_field_24 d_X_field_27 rfl
  refine xt_iload d_X_field_15 rfl ?_
  refine xt_iconst (v := 2) d_X_field_16 (by decide) ?_
  refine xt_icle (t := 28) d_X_field_17 (by decide) (fun g3 => ?_) (fun g3 => ?_)
  · exfalso
    rw [Int32.lt_iff_toInt_lt] at g2
    rw [Int32.le_iff_toInt_le] at g3
    have z0 : (0 : Int32).toInt = 0 := by decide
    have z8 : (2 : Int32).toInt = 2 := by decide
    rw [z0] at g2
    rw [z8] at g3
    rcases hn with hn | hn
    · unfold inN at hn
      rw [if_pos g1] at hn
      cases hn
    · unfold rgN at hn
      rw [if_pos ⟨by omega, by omega⟩] at hn
      cases hn
  · exact xt_throw hl rfl (by omega) d_X_field_20 d_X_field_23 d_X_field_24 d_X_field_27 rfl
theorem xt_row (hl : l.1.stackTraces = false) (hw : XW σ w) (hx : (wD w).1 ≤ 37) (hb : a.toInt < 0 ∨ ((wD w).1 : Int) ≤ a.toInt) : CtT l M_X_row (d + 30) [.ref 0, .int a] (mk σ) (fun h' => h' = mk σ) := by
  show EXT l M_X_row (d + 30) 0 [some (.ref 0), some (.int a)] [] (mk σ) _
  have hD : sf σ 3 1 = nI (wD w).1 := hw.2.2.2.1.1
  refine xt_iload d_X_row_0 rfl ?_
  refine xt_iflt (t := 27) d_X_row_1 (by decide) (fun g => ?_) (fun g => ?_)
  · exact xt_throw hl rfl (by omega) d_X_row_27 d_X_row_30 d_X_row_31 d_X_row_34 rfl
  refine xt_iload d_X_row_4 rfl ?_
  refine xt_aload d_X_row_5 rfl ?_
  refine xt_get d_X_row_6 (by rfl) rfl (by decide) (v := .ref 3) rfl ?_
  refine xt_get d_X_row_9 (by rfl) rfl (by decide) (v := .int (nI (wD w).1)) ((mk_int (σ := σ) (a := 3) (k := 1) (by decide)).trans (congrArg Value.int hD)) ?_
  refine xt_icge (t := 27) d_X_row_12 (by decide) (fun g2 => ?_) (fun g2 => ?_)
  · exact xt_throw hl rfl (by omega) d_X_row_27 d_X_row_30 d_X_row_31 d_X_row_34 rfl
  · exfalso
    rw [Int32.lt_iff_toInt_lt] at g
    rw [Int32.le_iff_toInt_le, nI_toInt (by omega)] at g2
    have z0 : (0 : Int32).toInt = 0 := by decide
    rw [z0] at g
    omega
end
