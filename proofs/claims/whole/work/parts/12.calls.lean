section
variable {l : xLa} {M : mT} {d pc uc us len : Nat} {lv : List (Option Value)} {st : List Value} {h : xH} {Q : Option Value → xH → Prop} {x : xS}
set_option maxHeartbeats 4000000 in
theorem E.step {i : Instr} (h1 : 1 ≤ d) (hd : decode (mCd M) pc = .ok (i, len)) (hs : stpI M i len pc lv st h = some x) (k : E l M d x.1 x.2.1 x.2.2.1 x.2.2.2 uc us Q) : E l M d pc lv st h uc us Q := by
  cases i with
  | iconst n => exact e_iconst hd hs k
  | bipush n => exact e_bipush hd hs k
  | sipush n => exact e_sipush hd hs k
  | lconst n => exact e_lconst hd hs k
  | ldc n => exact e_ldc hd hs k
  | ldc_w n => exact e_ldc_w hd hs k
  | ldc2_w n => exact e_ldc2_w hd hs k
  | iload n => exact e_iload hd hs k
  | iload_n n => exact e_iload_n hd hs k
  | lload n => exact e_lload hd hs k
  | lload_n n => exact e_lload_n hd hs k
  | aload n => exact e_aload hd hs k
  | aload_n n => exact e_aload_n hd hs k
  | istore n => exact e_istore hd hs k
  | istore_n n => exact e_istore_n hd hs k
  | lstore n => exact e_lstore hd hs k
  | lstore_n n => exact e_lstore_n hd hs k
  | astore n => exact e_astore hd hs k
  | astore_n n => exact e_astore_n hd hs k
  | iinc n m => exact e_iinc hd hs k
  | iadd => exact e_iadd hd hs k
  | isub => exact e_isub hd hs k
  | imul => exact e_imul hd hs k
  | iand => exact e_iand hd hs k
  | ior => exact e_ior hd hs k
  | ixor => exact e_ixor hd hs k
  | ishl => exact e_ishl hd hs k
  | ishr => exact e_ishr hd hs k
  | iushr => exact e_iushr hd hs k
  | idiv => exact e_idiv hd hs k
  | irem => exact e_irem hd hs k
  | ldiv => exact e_ldiv hd hs k
  | lrem => exact e_lrem hd hs k
  | ineg => exact e_ineg hd hs k
  | i2l => exact e_i2l hd hs k
  | i2b => exact e_i2b hd hs k
  | i2s => exact e_i2s hd hs k
  | i2c => exact e_i2c hd hs k
  | l2i => exact e_l2i hd hs k
  | ladd => exact e_ladd hd hs k
  | lsub => exact e_lsub hd hs k
  | lmul => exact e_lmul hd hs k
  | land => exact e_land hd hs k
  | lor => exact e_lor hd hs k
  | lcmp => exact e_lcmp hd hs k
  | lshl => exact e_lshl hd hs k
  | lshr => exact e_lshr hd hs k
  | lushr => exact e_lushr hd hs k
  | dup => exact e_dup hd hs k
  | dup2 => exact e_dup2 hd hs k
  | pop => exact e_pop hd hs k
  | goto off => exact e_goto hd hs k
  | ifCond c off =>
    cases c with
    | eq => exact e_if_eq hd hs k
    | ne => exact e_if_ne hd hs k
    | lt => exact e_if_lt hd hs k
    | ge => exact e_if_ge hd hs k
    | gt => exact e_if_gt hd hs k
    | le => exact e_if_le hd hs k
  | if_icmp c off =>
    cases c with
    | eq => exact e_ic_eq hd hs k
    | ne => exact e_ic_ne hd hs k
    | lt => exact e_ic_lt hd hs k
    | ge => exact e_ic_ge hd hs k
    | gt => exact e_ic_gt hd hs k
    | le => exact e_ic_le hd hs k
  | getfield n => exact e_get hd hs k
  | putfield n => exact e_put hd hs k
  | iaload => exact e_iaload hd hs k
  | baload => exact e_baload hd hs k
  | caload => exact e_caload hd hs k
  | laload => exact e_laload hd hs k
  | aaload => exact e_aaload hd hs k
  | iastore => exact e_iastore hd hs k
  | bastore => exact e_bastore hd hs k
  | castore => exact e_castore hd hs k
  | lastore => exact e_lastore hd hs k
  | aastore => exact e_aastore hd hs k
  | arraylength => exact e_len hd hs k
  | tableswitch a b c e => exact e_tab hd hs k
  | lookupswitch a b => exact e_lku hd hs k
  | invokestatic n => exact e_prm h1 hd hs k
  | invokespecial n => exact e_obj h1 hd hs k
  | _ => cases hs
/-! RETURNS -/
theorem E.iret {v : Int32} (hr : mRt M = some .int) (hd : decode (mCd M) pc = .ok (.ireturn, 1)) (q : Q (some (.int v)) h) : E l M d pc lv [.int v] h uc us Q := by
  intro p e s m args below meth c D dA A ad H locs ls Qc free C SX hP hD hS hL hf hu hQ
  obtain ⟨hx, hb, hr0, hlk, hml, hown, hts, hA, hK, hin⟩ := id C
  refine W.widen hu.1 hu.2 ?_
  exact W.iret hx hb (hr0.trans hr) (fun t ht hW => hQ _ _ ad t q (fun _ _ => rfl) (fun _ => rfl) (by rw [ht]; exact hP) hD (hS.F ht) hW) (fun z hz => hf _ (hS.2.2 z hz)) hd hlk
theorem E.zret {v : Int32} {ty : FieldType} (hr : mRt M = some ty) (hn : narrow ty (.int v) = .int v) (hd : decode (mCd M) pc = .ok (.ireturn, 1)) (q : Q (some (.int v)) h) : E l M d pc lv [.int v] h uc us Q := by
  intro p e s m args below meth c D dA A ad H locs ls Qc free C SX hP hD hS hL hf hu hQ
  obtain ⟨hx, hb, hr0, hlk, hml, hown, hts, hA, hK, hin⟩ := id C
  refine W.widen hu.1 hu.2 ?_
  exact W.zret hx hb (hr0.trans hr) hn (fun t ht hW => hQ _ _ ad t q (fun _ _ => rfl) (fun _ => rfl) (by rw [ht]; exact hP) hD (hS.F ht) hW) (fun z hz => hf _ (hS.2.2 z hz)) hd hlk
theorem E.lret {v : Int64} (hr : mRt M = some .long) (hd : decode (mCd M) pc = .ok (.lreturn, 1)) (q : Q (some (.long v)) h) : E l M d pc lv [.long v] h uc us Q := by
  intro p e s m args below meth c D dA A ad H locs ls Qc free C SX hP hD hS hL hf hu hQ
  obtain ⟨hx, hb, hr0, hlk, hml, hown, hts, hA, hK, hin⟩ := id C
  refine W.widen hu.1 hu.2 ?_
  exact W.lret hx hb (hr0.trans hr) (fun t ht hW => hQ _ _ ad t q (fun _ _ => rfl) (fun _ => rfl) (by rw [ht]; exact hP) hD (hS.F ht) hW) (fun z hz => hf _ (hS.2.2 z hz)) hd hlk
theorem E.vret (hr : mRt M = none) (hd : decode (mCd M) pc = .ok (.return_, 1)) (q : Q none h) : E l M d pc lv [] h uc us Q := by
  intro p e s m args below meth c D dA A ad H locs ls Qc free C SX hP hD hS hL hf hu hQ
  obtain ⟨hx, hb, hr0, hlk, hml, hown, hts, hA, hK, hin⟩ := id C
  refine W.widen hu.1 hu.2 ?_
  exact W.vret hx hb (hr0.trans hr) (fun t ht hW => hQ _ _ ad t q (fun _ _ => rfl) (fun _ => rfl) (by rw [ht]; exact hP) hD (hS.F ht) hW) (fun z hz => hf _ (hS.2.2 z hz)) hd hlk
end
/-! CALLS: a contract is the frame at the method's start -/
def Ct (l : xLa) (M : mT) (d : Nat) (as : List Value) (h : xH) (Q : Option Value → xH → Prop) : Prop := E l M d 0 (xent (mLo M) as) [] h 0 0 Q
def xws (M : mT) : List Cond := Cond.code (mY M) (mCd M) (mLo M) (mRt M) :: xG
/-- what a call begins with -/
def xPc (sc : Nat × (Nat → Int32)) (D : va_G) (dA : Nat → ClassId) (ad : Nat → Nat) (h : xH) (sz : Nat) (as : List Value) : Array Value → State → Prop := va_Pc (as.map (trV ad)) (fun U => U.heap.size = sz ∧ va_P D xcl (trW ad dA h) U.heap ∧ va_K D xcl (xtys dA) U ∧ va_D (fun _ => True) (trW ad dA h) ∧ xSX sc ad (va_A (trW ad dA h) sz) U U.heap)
/-- what it ends with -/
def xQc (M : mT) (D : va_G) (dA : Nat → ClassId) (ad : Nat → Nat) (h : xH) (sz : Nat) (Q : Option Value → xH → Prop) : Array Value → State → Outcome → State → Prop := fun _ st o t =>
  ∃ (r : Option Value) (h' : xH) (ad' : Nat → Nat), o = .returned (r.map (trV ad')) ∧ Q r h' ∧ (∀ k, k < h.1.length ∨ xB ≤ k → ad' k = ad k) ∧ (mBc M = 0 → ad' = ad) ∧ va_P D xcl (trW ad' dA h') t.heap ∧ va_D (va_A (trW ad dA h) sz) (trW ad' dA h') ∧ va_F (va_A (trW ad dA h) sz) st t
theorem Ct.met {l : xLa} {M : mT} {d : Nat} {as : List Value} {h : xH} {Q : Option Value → xH → Prop} (hk : Ct l M d as h Q) (hpl : plainFor (mY M) = true) (hown : mOwn M = (mY M).cls) (hn : (xEnt as).length ≤ mLo M) (D : va_G) (dA : Nat → ClassId) (ad : Nat → Nat) (sz : Nat) :
    Met l.1 (mY M) (xws M) (xrm d M) (xPc l.2 D dA ad h sz as) (xQc M D dA ad h sz Q) (mBc M) (mBs M) (va_A (trW ad dA h) sz) := by
  refine va_MetF (cc := mCd M) (maxL := mLo M) (ret := mRt M) hpl rfl ?_
  intro p e s m args below meth c s₁ B hml hv
  obtain ⟨rfl, hsz, hP, hK, hD0, hSX⟩ := hv
  have hts := atoms_spec (ws := xws M) B.pre
  have hn1 : s.vm.findClass (mOwn M) = some m.cls := by rw [hown]; exact findClass_of_methodNamed B.named
  subst hsz
  have hA : ∀ q : Nat, s.heap.size ≤ q → va_A (trW ad dA h) s.heap.size q := fun q g => Or.inr g
  rw [lg_entry_eq]
  refine hk p e s m _ below meth c D dA (va_A (trW ad dA h) s.heap.size) ad s.heap [] _ (xQc M D dA ad h s.heap.size Q) (va_A (trW ad dA h) s.heap.size)
    ⟨B.exec, B.bytes, B.returns, B.notSynchronized, hml, hn1, fun w hw => hts w (List.mem_cons_of_mem _ hw), hA, hK, fun hi => (name_of_methodNamed B.named B.method).1.trans hi⟩
    hSX hP hD0.self va_S.rf (LH.entry hn) (fun q g => g) ⟨Nat.zero_le _, Nat.zero_le _⟩ ?_
  intro r h' ad' t q ha hz hP1 hD1 hF hW
  exact ⟨r, h', ad', rfl, q, ha, hz, hP1, hD1, hF⟩
