/-! Making objects and arrays; calls of constructors; the script's rows. -/
def okv (n : Nat) : Value → Prop
  | .ref r => r < n ∨ xB ≤ r
  | _ => True
/-- no reference dangles -/
def wfh (h : xH) : Prop := h.1.length < xB ∧ (∀ k j, k < h.1.length → okv h.1.length (hF h k j)) ∧ (∀ k j r, k < h.1.length → hR h k j = some r → r < h.1.length)
def wfk (n : Nat) (lv : List (Option Value)) (st : List Value) : Prop := (∀ v, some v ∈ lv → okv n v) ∧ ∀ v, v ∈ st → okv n v
theorem okv.tr {n : Nat} {ad ad' : Nat → Nat} (ha : ∀ k, k < n ∨ xB ≤ k → ad' k = ad k) {v : Value} (h : okv n v) : trV ad' v = trV ad v := by
  cases v <;> first | rfl | exact congrArg Value.ref (ha _ h)
theorem okv.up {n n' : Nat} (hn : n ≤ n') {v : Value} (h : okv n v) : okv n' v := by
  cases v <;> first | trivial | exact h.imp (fun z => Nat.lt_of_lt_of_le z hn) id
theorem wfk.stk {n : Nat} {ad ad' : Nat → Nat} (ha : ∀ k, k < n ∨ xB ≤ k → ad' k = ad k) {lv : List (Option Value)} {st : List Value} (h : wfk n lv st) : st.map (trV ad') = st.map (trV ad) := List.map_congr_left (fun v hv => (h.2 v hv).tr ha)
theorem wfk.lh {n nL : Nat} {ad ad' : Nat → Nat} (ha : ∀ k, k < n ∨ xB ≤ k → ad' k = ad k) {lv : List (Option Value)} {st : List Value} (h : wfk n lv st) {ls : Array Slot} (hL : LH ad ls nL lv) : LH ad' ls nL lv := by
  refine ⟨hL.1, hL.2.1, fun i v hi => ?_⟩
  rw [(h.1 v (List.mem_of_getElem? hi)).tr ha]
  exact hL.2.2 i v hi
theorem wfh.cell {h : xH} (hw : wfh h) {ad ad' : Nat → Nat} (ha : ∀ k, k < h.1.length ∨ xB ≤ k → ad' k = ad k) {dA : Nat → ClassId} {k : Nat} (hk : k < h.1.length) (z : Nat × Nat × Nat) : xCell ad' dA h k z = xCell ad dA h k z := by
  have e1 : (fun j => trV ad' (hF h k j)) = fun j => trV ad (hF h k j) := funext fun j => (hw.2.1 k j hk).tr ha
  have e2 : (fun j => (hR h k j).map ad') = fun j => (hR h k j).map ad := funext fun j => by
    cases hr : hR h k j with
    | none => rfl
    | some r => exact congrArg some (ha _ (Or.inl (hw.2.2 k j r hk hr)))
  unfold xCell
  split
  · rw [e1]
  · rfl
  · rfl
  · rw [e2]
theorem trW_len' {ad : Nat → Nat} {dA : Nat → ClassId} {h : xH} {L : List (Nat × Nat × Nat)} (hw : wfh h) {ad' : Nat → Nat} (ha : ∀ k, k < h.1.length ∨ xB ≤ k → ad' k = ad k) :
    trW ad' dA (h.1 ++ L, h.2) = trW ad dA h ++ (List.range L.length).map (fun i => (ad' (h.1.length + i), xCell ad' dA h (h.1.length + i) (L.getD i (0, 0, 0)))) := by
  unfold trW
  rw [show (h.1 ++ L, h.2).1.length = h.1.length + L.length from List.length_append, List.range_add, List.map_append, List.map_map]
  congr 1
  · refine List.map_congr_left (fun k hk => ?_)
    have hk : k < h.1.length := List.mem_range.mp hk
    show (ad' k, xCell ad' dA (h.1 ++ L, h.2) k ((h.1 ++ L).getD k (0, 0, 0))) = (ad k, xCell ad dA h k (h.1.getD k (0, 0, 0)))
    have e : (h.1 ++ L).getD k (0, 0, 0) = h.1.getD k (0, 0, 0) := by
      rw [List.getD_eq_getElem?_getD, List.getD_eq_getElem?_getD, List.getElem?_append_left hk]
    rw [e, ha k (Or.inl hk), ← hw.cell ha hk]
    rfl
  · refine List.map_congr_left (fun i hi => ?_)
    have hi : i < L.length := List.mem_range.mp hi
    show (ad' (h.1.length + i), xCell ad' dA (h.1 ++ L, h.2) (h.1.length + i) ((h.1 ++ L).getD (h.1.length + i) (0, 0, 0))) = _
    have e : (h.1 ++ L).getD (h.1.length + i) (0, 0, 0) = L.getD i (0, 0, 0) := by
      rw [List.getD_eq_getElem?_getD, List.getD_eq_getElem?_getD, List.getElem?_append_right (by omega), Nat.add_sub_cancel_left]
    rw [e]
    rfl
theorem trV_def (ad : Nat → Nat) (t : FieldType) : trV ad (defaultValue t) = defaultValue t := by cases t <;> rfl
theorem xK_cls {dA : Nat → ClassId} {D : va_G} {s : State} (hK : va_K D xcl (xtys dA) s) {t : Nat} (ht : t < 7) : s.vm.findClass ("[" ++ (xTy t).toString) = some (dA t) := by
  have h := (hK.2 t _ (xtys_at ht)).2
  match t, ht with
  | 0, _ => exact h
  | 1, _ => exact h
  | 2, _ => exact h
  | 3, _ => exact h
  | 4, _ => exact h
  | 5, _ => obtain ⟨_, _, _, _, _, h⟩ := h; exact h
  | 6, _ => exact h
theorem xK_new {tys : List (ClassId × FieldType)} {D : va_G} {s : State} {cA : ClassId} {ty : FieldType} (hK : va_K D xcl (tys ++ [(cA, ty)]) s) : va_RA s cA ty := (hK.2 tys.length (cA, ty) (by simp)).2
section
variable {l : xLa} {M M' : mT} {d d' pc uc us : Nat} {lv : List (Option Value)} {rest : List Value} {h : xH} {Q Q' : Option Value → xH → Prop}
variable {p : Program} {e : Env} {s : State} {m : MethodId} {args : Array Value} {below : List Frame} {meth : Method} {c : Code} {D : va_G} {dA : Nat → ClassId} {A : Nat → Prop} {ad : Nat → Nat} {H H1 : Heap} {locs : List Loc} {ls : Array Slot} {Qc : Array Value → State → Outcome → State → Prop} {free : Addr → Prop}
/-- behind the making of the cells L, whose numbers are the next ones, at the addresses f -/
theorem E.pushK {L : List (Nat × Nat × Nat)} {f : Nat → Nat} (hw : wfh h) (hz : h.1.length + L.length < xB) (hl : wfk h.1.length lv rest) (hne : mBc M ≠ 0)
    (k : E l M d pc lv (.ref h.1.length :: rest) (h.1 ++ L, h.2) uc us Q) (C : xCx M p s m args meth c D dA A) (SX : xSX l.2 ad A s s.heap)
    (hP1 : ∀ ad' : Nat → Nat, (∀ k, k < h.1.length ∨ xB ≤ k → ad' k = ad k) → (∀ i, i < L.length → ad' (h.1.length + i) = f i) → va_P D xcl (trW ad' dA (h.1 ++ L, h.2)) H1 ∧ va_D A (trW ad' dA (h.1 ++ L, h.2)))
    (hS : va_S A s.heap H1 locs) (hL : LH ad ls (mLo M) lv) (hf : ∀ q, A q → free q) (hu : uc ≤ mBc M ∧ us ≤ mBs M) (h1 : 1 ≤ L.length)
    (hQ : ∀ (r : Option Value) (h' : xH) (ad' : Nat → Nat) (t : State), Q r h' → (∀ k, k < h.1.length ∨ xB ≤ k → ad' k = ad k) → (mBc M = 0 → ad' = ad) → va_P D xcl (trW ad' dA h') t.heap → va_D A (trW ad' dA h') → va_F A s t → s.WarmedH t.vm → Qc args s (.returned (r.map (trV ad'))) t) :
    W p l.1 e (xrm d M) s m args below meth c H1 locs uc us (MQ below Qc args s (mBc M) (mBs M) free) (F0 m pc ls (.ref (f 0) :: rest.map (trV ad))) := by
  obtain ⟨ad', hd⟩ : ∃ ad' : Nat → Nat, ad' = fun k => if h.1.length ≤ k ∧ k < h.1.length + L.length then f (k - h.1.length) else ad k := ⟨_, rfl⟩
  have ha : ∀ k, k < h.1.length ∨ xB ≤ k → ad' k = ad k := by
    intro k hk
    rw [hd]
    exact if_neg (by omega)
  have hi : ∀ i, i < L.length → ad' (h.1.length + i) = f i := by
    intro i hi
    rw [hd]
    dsimp only
    rw [if_pos (by omega), Nat.add_sub_cancel_left]
  obtain ⟨g1, g2⟩ := hP1 ad' ha hi
  have hk := k p e s m args below meth c D dA A ad' H1 locs ls Qc free C (SX.cong (fun k hk => ha k (Or.inr hk))) g1 g2 hS (hl.lh ha hL) hf hu (fun r h' ad2 t q z1 z2 z3 z4 z5 z6 => hQ r h' ad2 t q (fun k hk => (z1 k (hk.imp (fun z => by show k < (h.1 ++ L).length; rw [List.length_append]; omega) id)).trans (ha k hk)) (fun z => absurd z hne) z3 z4 z5 z6)
  rw [List.map_cons, hl.stk ha, show trV ad' (.ref h.1.length) = .ref (f 0) from congrArg Value.ref (by have := hi 0 h1; simpa using this)] at hk
  exact hk
theorem E.push1 {z : Nat × Nat × Nat} {q : Nat} {en : va_E} (hw : wfh h) (hz : h.1.length + 1 < xB) (hl : wfk h.1.length lv rest) (hne : mBc M ≠ 0) (he : ∀ ad', xCell ad' dA h h.1.length z = en)
    (k : E l M d pc lv (.ref h.1.length :: rest) (h.1 ++ [z], h.2) uc us Q) (C : xCx M p s m args meth c D dA A) (SX : xSX l.2 ad A s s.heap)
    (hP1 : va_P D xcl (trW ad dA h ++ [(q, en)]) H1) (hD1 : va_D A (trW ad dA h ++ [(q, en)]))
    (hS : va_S A s.heap H1 locs) (hL : LH ad ls (mLo M) lv) (hf : ∀ q, A q → free q) (hu : uc ≤ mBc M ∧ us ≤ mBs M)
    (hQ : ∀ (r : Option Value) (h' : xH) (ad' : Nat → Nat) (t : State), Q r h' → (∀ k, k < h.1.length ∨ xB ≤ k → ad' k = ad k) → (mBc M = 0 → ad' = ad) → va_P D xcl (trW ad' dA h') t.heap → va_D A (trW ad' dA h') → va_F A s t → s.WarmedH t.vm → Qc args s (.returned (r.map (trV ad'))) t) :
    W p l.1 e (xrm d M) s m args below meth c H1 locs uc us (MQ below Qc args s (mBc M) (mBs M) free) (F0 m pc ls (.ref q :: rest.map (trV ad))) := by
  refine E.pushK (L := [z]) (f := fun _ => q) hw hz hl hne k C SX (fun ad' ha hi => ?_) hS hL hf hu (Nat.le_refl 1) hQ
  rw [trW_len' hw ha]
  have e1 : (List.range [z].length).map (fun i => (ad' (h.1.length + i), xCell ad' dA h (h.1.length + i) ([z].getD i (0, 0, 0)))) = [(q, en)] := by
    show [(ad' (h.1.length + 0), xCell ad' dA h (h.1.length + 0) z)] = _
    rw [hi 0 (Nat.le_refl 1), Nat.add_zero, he]
  rw [e1]
  exact ⟨hP1, hD1⟩
end
section
variable {l : xLa} {M M' : mT} {d d' pc uc us : Nat} {lv : List (Option Value)} {rest : List Value} {h : xH} {Q Q' : Option Value → xH → Prop}
theorem xCL_d {o i ci p1 p2 p3 : Nat} (h : xlk xCL o i = some (ci, p1, p2, p3)) : xCLp o (i, ci, p1, p2, p3) := xCL_ok o (xlk_lt h) _ (xlk_mem h)
/-- new -/
theorem E.new {i ci p1 p2 p3 : Nat} (hl : xlk xCL M.1 i = some (ci, p1, p2, p3)) (hci : ci < 13) (hd : decode (mCd M) pc = .ok (.new i, 3)) (hw : wfh h) (hz : h.1.length + 1 < xB) (hlv : wfk h.1.length lv rest) (hdef : ∀ j, j < xN ci → hF h h.1.length j = defaultValue (xty ci j)) (hb : uc + 1 ≤ mBc M ∧ us + xN ci ≤ mBs M)
    (k : E l M d (pc + 3) lv (.ref h.1.length :: rest) (h.1 ++ [(0, ci, xN ci)], h.2) (uc + 1) (us + xN ci) Q) : E l M d pc lv rest h uc us Q := by
  intro p e s m args below meth c D dA A ad H locs ls Qc free C SX hP hD hS hL hf hu hQ
  obtain ⟨hx, hb', hr, hlk, hml, hown, hts, hA, hK, hin⟩ := id C
  obtain ⟨w1, w2, w3⟩ := xCL_d hl
  refine va_new hx hb' hts (xlayG hci) (xty ci) (xcl_ty ci hci) hown (hts _ (xG_at w1 rfl)) (hts _ (xG_at w3.1 rfl)) (hts _ (xG_at w2 rfl)) hK hP hD hS hA (xcl_at hci) (fs := (List.range (xN ci)).map (fun j => defaultValue (xty ci j))) (fun j hj => ?_) hb.1 hb.2 hd (fun q H1 hP1 hD1 hS1 => ?_)
  · unfold vp_V
    rw [List.getD_eq_getElem?_getD, List.getElem?_map, List.getElem?_range hj]
    rfl
  · refine E.push1 hw hz hlv (by omega) (fun ad' => ?_) k C SX hP1 hD1 hS1 hL hf hb hQ
    show Sum.inr (ci, (List.range (xN ci)).map (fun j => trV ad' (hF h h.1.length j))) = _
    congr 2
    refine List.map_congr_left (fun j hj => ?_)
    rw [hdef j (List.mem_range.mp hj), trV_def]
theorem xAC_in : Cond.arrayClass .int ∈ xG ∧ Cond.arrayClass .boolean ∈ xG ∧ Cond.arrayClass .byte ∈ xG ∧ Cond.arrayClass .char ∈ xG ∧ Cond.arrayClass .long ∈ xG := by decide +kernel
theorem xAC_at {t : Nat} (h : t < 5) : Cond.arrayClass (xTy t) ∈ xG := by
  match t, h with
  | 0, _ => exact xAC_in.1
  | 1, _ => exact xAC_in.2.1
  | 2, _ => exact xAC_in.2.2.1
  | 3, _ => exact xAC_in.2.2.2.1
  | 4, _ => exact xAC_in.2.2.2.2
/-- newarray of ints and their like -/
theorem E.newa {at' : ArrayType} {t n : Nat} {v : Int32} (ht : t < 4) (hty : newarray.typeOf at' = xTy t) (hv : Int32.ofNat n = v) (hn : n ≤ 4096) (hd : decode (mCd M) pc = .ok (.newarray at', 2)) (hw : wfh h) (hz : h.1.length + 1 < xB) (hlv : wfk h.1.length lv rest) (hdef : hI h h.1.length = fun _ => 0) (hb : uc + 1 ≤ mBc M ∧ us + n ≤ mBs M)
    (k : E l M d (pc + 2) lv (.ref h.1.length :: rest) (h.1 ++ [(1, t, n)], h.2) (uc + 1) (us + n) Q) : E l M d pc lv (.int v :: rest) h uc us Q := by
  intro p e s m args below meth c D dA A ad H locs ls Qc free C SX hP hD hS hL hf hu hQ
  obtain ⟨hx, hb', hr, hlk, hml, hown, hts, hA, hK, hin⟩ := id C
  have hn' : n < 2 ^ 31 := by omega
  subst hv
  have hbt : n * componentBytes (xTy t) ≤ 536870912 := by
    have : componentBytes (xTy t) ≤ 8 := by
      match t, ht with
      | 0, _ => decide
      | 1, _ => decide
      | 2, _ => decide
      | 3, _ => decide
    exact Nat.le_trans (Nat.mul_le_mul hn this) (by decide)
  have hdv : defaultValue (xTy t) = .int 0 := by
    match t, ht with
    | 0, _ => rfl
    | 1, _ => rfl
    | 2, _ => rfl
    | 3, _ => rfl
  refine va_newa hx hb' (hts _ (by rw [hty]; exact xAC_at (by omega))) hty hK hP hD hS hA (a0 := (n, .inl (fun _ => 0))) (fun cA => by rw [hdv]; rfl) (nI_pos (n := n) hn') (nI_clamp (n := n) hn') hbt hb.1 hb.2 hd (fun q cA H1 hK1 hP1 hD1 hS1 => ?_)
  have hc : cA = dA t := by
    have g := xK_new hK1
    have g2 := xK_cls hK (t := t) (by omega)
    have g3 : s.vm.findClass ("[" ++ (xTy t).toString) = some cA := by
      match t, ht, g with
      | 0, _, g => exact g
      | 1, _, g => exact g
      | 2, _, g => exact g
      | 3, _, g => exact g
    exact Option.some.inj (g3.symm.trans g2)
  subst hc
  refine E.push1 hw hz hlv (by omega) (fun ad' => ?_) k C SX hP1 hD1 hS1 hL hf hb hQ
  show Sum.inl (dA t, n, Sum.inl (hI h h.1.length)) = _
  rw [hdef]
/-- newarray of longs -/
theorem E.newl {at' : ArrayType} {n : Nat} {v : Int32} (hty : newarray.typeOf at' = .long) (hv : Int32.ofNat n = v) (hn : n ≤ 4096) (hd : decode (mCd M) pc = .ok (.newarray at', 2)) (hw : wfh h) (hz : h.1.length + 1 < xB) (hlv : wfk h.1.length lv rest) (hdef : hJ h h.1.length = fun _ => 0) (hb : uc + 1 ≤ mBc M ∧ us + n ≤ mBs M)
    (k : E l M d (pc + 2) lv (.ref h.1.length :: rest) (h.1 ++ [(2, 4, n)], h.2) (uc + 1) (us + n) Q) : E l M d pc lv (.int v :: rest) h uc us Q := by
  intro p e s m args below meth c D dA A ad H locs ls Qc free C SX hP hD hS hL hf hu hQ
  obtain ⟨hx, hb', hr, hlk, hml, hown, hts, hA, hK, hin⟩ := id C
  have hn' : n < 2 ^ 31 := by omega
  subst hv
  have hbt : n * componentBytes .long ≤ 536870912 := Nat.le_trans (Nat.mul_le_mul hn (show componentBytes .long ≤ 8 by decide)) (by decide)
  refine va_newa (ty := .long) hx hb' (hts _ (by rw [hty]; exact xAC_in.2.2.2.2)) hty hK hP hD hS hA (a0 := (n, .inr (.inl (fun _ => 0)))) (fun cA => rfl) (nI_pos (n := n) hn') (nI_clamp (n := n) hn') hbt hb.1 hb.2 hd (fun q cA H1 hK1 hP1 hD1 hS1 => ?_)
  have hc : cA = dA 4 := Option.some.inj ((show s.vm.findClass ("[" ++ (xTy 4).toString) = some cA from xK_new hK1).symm.trans (xK_cls hK (t := 4) (by omega)))
  subst hc
  refine E.push1 hw hz hlv (by omega) (fun ad' => ?_) k C SX hP1 hD1 hS1 hL hf hb hQ
  show Sum.inl (dA 4, n, Sum.inr (Sum.inl (hJ h h.1.length))) = _
  rw [hdef]
/-- anewarray of states -/
theorem E.newq {i p1 p2 p3 n : Nat} {v : Int32} (hl : xlk xCL M.1 i = some (6, p1, p2, p3)) (hv : Int32.ofNat n = v) (hn : n ≤ 4096) (hd : decode (mCd M) pc = .ok (.anewarray i, 3)) (hw : wfh h) (hz : h.1.length + 1 < xB) (hlv : wfk h.1.length lv rest) (hdef : hR h h.1.length = fun _ => none) (hb : uc + 1 ≤ mBc M ∧ us + n ≤ mBs M)
    (k : E l M d (pc + 3) lv (.ref h.1.length :: rest) (h.1 ++ [(3, 5, n)], h.2) (uc + 1) (us + n) Q) : E l M d pc lv (.int v :: rest) h uc us Q := by
  intro p e s m args below meth c D dA A ad H locs ls Qc free C SX hP hD hS hL hf hu hQ
  obtain ⟨hx, hb', hr, hlk, hml, hown, hts, hA, hK, hin⟩ := id C
  obtain ⟨w1, w2, w3⟩ := xCL_d hl
  have hn' : n < 2 ^ 31 := by omega
  subst hv
  refine va_newq (C := "FishFerry$State") hx hb' hown (hts _ (xG_at w1 rfl)) SX.2.1 hK hP hD hS hA (nI_pos (n := n) hn') (nI_clamp (n := n) hn') (by omega) hb.1 hb.2 hd (fun q cA H1 hK1 hP1 hD1 hS1 => ?_)
  have hc : cA = dA 5 := by
    obtain ⟨_, _, _, _, _, g⟩ := xK_new hK1
    exact Option.some.inj (g.symm.trans (xK_cls hK (t := 5) (by omega)))
  subst hc
  refine E.push1 hw hz hlv (by omega) (fun ad' => ?_) k C SX hP1 hD1 hS1 hL hf hb hQ
  show Sum.inl (dA 5, n, Sum.inr (Sum.inr (Sum.inr (Sum.inr (fun j => (hR h h.1.length j).map ad'))))) = _
  rw [hdef]
  rfl
/-- the script -/
theorem E.scrld {i : Int32} (hi : vp_in i l.2.1) (hd : decode (mCd M) pc = .ok (.iaload, 1)) (k : E l M d (pc + 1) lv (.int (l.2.2 i.toNatClampNeg) :: rest) h uc us Q) : E l M d pc lv (.int i :: .ref (xB + 40) :: rest) h uc us Q := by
  intro p e s m args below meth c D dA A ad H locs ls Qc free C SX hP hD hS hL hf hu hQ
  obtain ⟨hx, hb', hr, hlk, hml, hown, hts, hA, hK, hin⟩ := id C
  obtain ⟨z1, z2, z3⟩ := SX.2.2.2.2.2.2.2.2.2.2
  exact va_sld hx hb' z1 z2 z3 hS hi hd (k p e s m args below meth c D dA A ad H locs ls Qc free C SX hP hD hS hL hf hu hQ)
theorem E.scrlen (hd : decode (mCd M) pc = .ok (.arraylength, 1)) (k : E l M d (pc + 1) lv (.int (Int32.ofNat l.2.1) :: rest) h uc us Q) : E l M d pc lv (.ref (xB + 40) :: rest) h uc us Q := by
  intro p e s m args below meth c D dA A ad H locs ls Qc free C SX hP hD hS hL hf hu hQ
  obtain ⟨hx, hb', hr, hlk, hml, hown, hts, hA, hK, hin⟩ := id C
  obtain ⟨z1, z2, z3⟩ := SX.2.2.2.2.2.2.2.2.2.2
  exact va_slen hx hb' z1 z2 z3 hS hd (k p e s m args below meth c D dA A ad H locs ls Qc free C SX hP hD hS hL hf hu hQ)
/-- another heap with the same cells -/
theorem E.ext {st : List Value} {h2 : xH} (h1 : h2.1 = h.1) (hc : ∀ k z, h.1[k]? = some z → ∀ (ad : Nat → Nat) (dA : Nat → ClassId), xCell ad dA h k z = xCell ad dA h2 k z) (k : E l M d pc lv st h2 uc us Q) : E l M d pc lv st h uc us Q := by
  intro p e s m args below meth c D dA A ad H locs ls Qc free C SX hP hD hS hL hf hu hQ
  have ht : trW ad dA h = trW ad dA h2 := by
    unfold trW
    rw [h1]
    refine List.map_congr_left (fun j hj => ?_)
    have hj : j < h.1.length := List.mem_range.mp hj
    rw [hc j (h.1.getD j (0, 0, 0)) (by rw [List.getD_eq_getElem?_getD, List.getElem?_eq_getElem hj]; rfl)]
  rw [ht] at hP hD
  exact k p e s m args below meth c D dA A ad H locs ls Qc free C SX hP hD hS hL hf hu (fun r h' ad' t q z1 => hQ r h' ad' t q (by rw [← h1]; exact z1))
end
/-- behind a call of a method that may make cells -/
theorem xRunB {l : xLa} {M M' : mT} {d pc uc us : Nat} {lv : List (Option Value)} {rest : List Value} {st0 : List Value} {h : xH} {Q Q' : Option Value → xH → Prop}
    {p : Program} {e : Env} {s : State} {m : MethodId} {args : Array Value} {below : List Frame} {meth : Method} {c : Code} {D : va_G} {dA : Nat → ClassId} {A : Nat → Prop} {ad : Nat → Nat} {H : Heap} {locs : List Loc} {ls : Array Slot} {Qc : Array Value → State → Outcome → State → Prop} {free : Addr → Prop} {a : Array Value}
    (C : xCx M p s m args meth c D dA A) (SX : xSX l.2 ad A s s.heap) (hD : va_D A (trW ad dA h)) (hS : va_S A s.heap H locs) (hL : LH ad ls (mLo M) lv) (hf : ∀ q, A q → free q) (hu : uc + mBc M' ≤ mBc M ∧ us + mBs M' ≤ mBs M)
    (hQ : ∀ (r : Option Value) (h' : xH) (ad' : Nat → Nat) (t : State), Q r h' → (∀ k, k < h.1.length ∨ xB ≤ k → ad' k = ad k) → (mBc M = 0 → ad' = ad) → va_P D xcl (trW ad' dA h') t.heap → va_D A (trW ad' dA h') → va_F A s t → s.WarmedH t.vm → Qc args s (.returned (r.map (trV ad'))) t)
    (hne : mBc M ≠ 0) (hw : wfk h.1.length lv rest) (hmono : ∀ r h', Q' r h' → h.1.length ≤ h'.1.length)
    (hr : va_Run p l.1 e (xrm d M) s m args below meth c H locs uc us (mBc M') (mBs M') (F0 m pc ls st0) (rest.map (trV ad)) (xQc M' D dA ad h H.size Q' a) (va_A (trW ad dA h) H.size))
    (k : ∀ r h', Q' r h' → E l M d (pc + 3) lv (r.toList ++ rest) h' (uc + mBc M') (us + mBs M') Q) : W p l.1 e (xrm d M) s m args below meth c H locs uc us (MQ below Qc args s (mBc M) (mBs M) free) (F0 m pc ls st0) := by
  intro T hT X
  obtain ⟨v, st₀, t, T', L, h0, X', hL', e1, e2, ⟨r, h', ad', hv, q, ha, hza, hP1, hD1, hF⟩, st⟩ := hr T hT X
  have hA := C.2.2.2.2.2.2.2.1
  have hsub := trW_sub hD hS hA
  cases hv
  have hS1 : va_S A s.heap T'.heap (locs ++ L) := by
    obtain ⟨f1, f2⟩ := hF
    rw [h0] at f1 f2
    rw [e1]
    refine ⟨Nat.le_trans hS.1 f1, fun q h1 h2 => ?_, fun z hz => ?_⟩
    · rw [f2 q (Nat.lt_of_lt_of_le h1 hS.1) (fun g => h2 (hsub q g))]
      exact hS.2.1 q h1 h2
    · rcases List.mem_append.mp hz with g | g
      · exact hS.2.2 z g
      · exact hsub _ (hL' z g)
  have hQ' : ∀ (r2 : Option Value) (h2 : xH) (ad2 : Nat → Nat) (t2 : State), Q r2 h2 → (∀ k, k < h'.1.length ∨ xB ≤ k → ad2 k = ad' k) → (mBc M = 0 → ad2 = ad') → va_P D xcl (trW ad2 dA h2) t2.heap → va_D A (trW ad2 dA h2) → va_F A s t2 → s.WarmedH t2.vm → Qc args s (.returned (r2.map (trV ad2))) t2 := by
    intro r2 h2 ad2 t2 q2 g1 g2 g3 g4 g5 g6
    refine hQ r2 h2 ad2 t2 q2 (fun k hk => ?_) (fun z => absurd z hne) g3 g4 g5 g6
    rw [g1 k (hk.imp (fun z => Nat.lt_of_lt_of_le z (hmono r h' q)) id)]
    exact ha k hk
  obtain ⟨t2, a1, b1⟩ := k r h' q p e s m args below meth c D dA A ad' T'.heap (locs ++ L) ls Qc free C (SX.cong (fun k hk => ha k (Or.inr hk))) (by rw [e1]; exact hP1) (hD1.weaken (fun _ _ _ g => hsub _ g)) hS1 (hw.lh ha hL) hf hu hQ' T' rfl X'
  refine ⟨t2, st t2 ?_, b1⟩
  have hst : (r.map (trV ad')).toList ++ rest.map (trV ad) = (r.toList ++ rest).map (trV ad') := by
    rw [List.map_append, hw.stk ha]
    cases r <;> rfl
  rw [hst]
  exact a1
section
variable {l : xLa} {M M' : mT} {d d' pc uc us : Nat} {lv : List (Option Value)} {rest : List Value} {h : xH} {Q Q' : Option Value → xH → Prop}
/-- a constructor's call -/
theorem E.callI {as : List Value} {st : List Value} {i b p1 p2 p3 p4 kd : Nat} (hct : Ct l M' d' (.ref b :: as) h Q') (hc : xCode M') (hl : xlk xML M.1 i = some (kd, M', p1, p2, p3, p4)) (hkd : kd = 2 ∨ kd = 12) (hdd : d' + 1 ≤ d) (hd : decode (mCd M) pc = .ok (.invokespecial i, 3)) (hst : st = as.reverse ++ .ref b :: rest) (hn : as.length = mN M') (hln : (xEnt (.ref b :: as)).length ≤ mLo M') (hrest : (rest.map fun v => v.category).sum ≤ 8)
    (hb : uc + mBc M' ≤ mBc M ∧ us + mBs M' ≤ mBs M) (hne : mBc M ≠ 0) (hw : wfk h.1.length lv rest) (hmono : ∀ r h', Q' r h' → h.1.length ≤ h'.1.length) (k : ∀ r h', Q' r h' → E l M d (pc + 3) lv (r.toList ++ rest) h' (uc + mBc M') (us + mBs M') Q) : E l M d pc lv st h uc us Q := by
  subst hst
  intro p e s m args below meth c D dA A ad H locs ls Qc free C SX hP hD hS hL hf hu hQ
  obtain ⟨hx, hb', hr, hlk, hml, hown, hts, hA, hK, hin⟩ := id C
  obtain ⟨w1, w2, w3, w5, w6, w7, w8, w9⟩ := xML_d hl
  dsimp only [xMw1, xMw2, xMw3, xMw5, xMw6, xMw7, xMw8, xMw9] at w1 w2 w3 w5 w6 w7 w8 w9
  refine xRunB (a := (Value.ref (ad b) :: as.map (trV ad)).toArray) C SX hD hS hL hf hb hQ hne hw hmono ?_ k
  have hM := hct.met w7.2.2 w7.2.1 hln D dA ad H.size
  have hG : GoodIn xG (xws M') := xG_GoodIn (xws_in hc)
  have h8 : mLo M' ≤ 21 := w7.1
  have hR : (xrm d' M').frames + 1 ≤ (xrm d M).frames ∧ 8 + (mLo M' + 11) + (xrm d' M').locals ≤ (xrm d M).locals := ⟨hdd, by show 8 + (mLo M' + 11) + (41 * d' + 32) ≤ 41 * d + 32; omega⟩
  have hws : xws M' = Cond.code (mY M') (mCd M') (mLo M') none :: xG := by
    unfold xws
    rcases hkd with rfl | rfl
    · rw [(w6 rfl).2]
    · rw [(w6 rfl).2]
  rcases hkd with rfl | rfl
  · rw [if_neg (by decide)] at w1
    rw [if_neg (by decide)] at w2
    exact va_runI (As := as.map (trV ad)) (rest := rest.map (trV ad)) ⟨hx, hb', hml, hown, hts⟩ hM (cwI (mN M') hts hG hws rfl rfl (hts _ (xG_at w3 rfl)) (hts _ (xG_at w1 rfl)) (hts _ (xG_at w2 rfl)) (w6 rfl).1 ⟨w8.1, w8.2, w9⟩ hR) ⟨xPc_blind, xPc_at (as := .ref b :: as) C SX hP hD hS⟩ rfl (by rw [List.length_map]; exact hn) hL.1 (by simp [trV]) (lv_room (by rw [trV_cats]; exact hrest)) hd hb
  · rw [if_pos (by decide)] at w1
    rw [if_neg (by decide)] at w2
    exact va_runIN (As := as.map (trV ad)) (rest := rest.map (trV ad)) ⟨hx, hb', hml, hown, hts⟩ hM ⟨va_cnB (mN M') hts hG hws rfl rfl (SX.1 _ (xN_at w1 rfl)) (hts _ (xG_at w3 rfl)) ⟨w8.1, w8.2, w9⟩ hR, (w6 rfl).1, hts _ (xG_at w2 rfl)⟩ ⟨xPc_blind, xPc_at (as := .ref b :: as) C SX hP hD hS⟩ rfl (by rw [List.length_map]; exact hn) hL.1 (by simp [trV]) (lv_room (by rw [trV_cats]; exact hrest)) hd hb
end
