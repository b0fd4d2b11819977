theorem xPc_blind {sc : Nat × (Nat → Int32)} {D : va_G} {dA : Nat → ClassId} {ad : Nat → Nat} {h : xH} {sz : Nat} {as : List Value} : FrameBlind (xPc sc D dA ad h sz as) := by
  intro a U g mk q
  obtain ⟨q0, q1, qP, qK, qD, qX⟩ := q
  exact ⟨q0, q1, qP, va_K.moved (u := U) (U := U.calling g mk a) (Vm.Alike.refl U.vm) qK, qD, xSX.same (U := U.calling g mk a) qX rfl⟩
theorem trW_sub {A : Nat → Prop} {ad : Nat → Nat} {dA : Nat → ClassId} {h : xH} {s : State} {H : Heap} {locs : List Loc} (hD : va_D A (trW ad dA h)) (hS : va_S A s.heap H locs) (hA : ∀ q, s.heap.size ≤ q → A q) : ∀ q, va_A (trW ad dA h) H.size q → A q := by
  intro q hq
  rcases hq with ⟨k, e, hk⟩ | hq
  · exact hD.2 k _ hk
  · exact hA q (Nat.le_trans hS.1 hq)
theorem xPc_at {sc : Nat × (Nat → Int32)} {M : mT} {p : Program} {s : State} {m : MethodId} {args : Array Value} {meth : Method} {c : Code} {D : va_G} {dA : Nat → ClassId} {A : Nat → Prop} {ad : Nat → Nat} {h : xH} {H : Heap} {locs : List Loc} {as : List Value} (C : xCx M p s m args meth c D dA A) (SX : xSX sc ad A s s.heap) (hP : va_P D xcl (trW ad dA h) H) (hD : va_D A (trW ad dA h)) (hS : va_S A s.heap H locs) :
    ∀ U : State, U.heap = H → s.WarmedH U.vm → xPc sc D dA ad h H.size as (as.map (trV ad)).toArray U := by
  intro U hU hW
  obtain ⟨hx, hb, hr, hlk, hml, hown, hts, hA, hK, hin⟩ := id C
  refine ⟨rfl, by rw [hU], by rw [hU]; exact hP, va_K.moved hW.alike hK, hD.weaken (fun _ _ _ _ => trivial), ?_⟩
  rw [hU]
  exact ((SX.kept (H1 := H) (fun a h1 h2 => hS.2.1 a h1 h2)).narrow (trW_sub hD hS hA)).warm hW
theorem xG_GoodIn {ws : List Cond} (h : ∀ w ∈ ws, w ∈ xG) : GoodIn xG ws := fun w hw => ⟨h w hw, xG_good w (h w hw)⟩
theorem xws_in {M : mT} (hc : xCode M) : ∀ w ∈ xws M, w ∈ xG := by
  intro w hw
  rcases List.mem_cons.mp hw with rfl | hw
  · exact xG_of hc rfl
  · exact hw
/-- behind a call of a method that makes nothing -/
theorem xRun0 {l : xLa} {M M' : mT} {d pc uc us : Nat} {lv : List (Option Value)} {rest : List Value} {st0 : List Value} {h : xH} {Q Q' : Option Value → xH → Prop}
    {p : Program} {e : Env} {s : State} {m : MethodId} {args : Array Value} {below : List Frame} {meth : Method} {c : Code} {D : va_G} {dA : Nat → ClassId} {A : Nat → Prop} {ad : Nat → Nat} {H : Heap} {locs : List Loc} {ls : Array Slot} {Qc : Array Value → State → Outcome → State → Prop} {free : Addr → Prop} {a : Array Value}
    (C : xCx M p s m args meth c D dA A) (SX : xSX l.2 ad A s s.heap) (hD : va_D A (trW ad dA h)) (hS : va_S A s.heap H locs) (hL : LH ad ls (mLo M) lv) (hf : ∀ q, A q → free q) (hu : uc ≤ mBc M ∧ us ≤ mBs M)
    (hQ : ∀ (r : Option Value) (h' : xH) (ad' : Nat → Nat) (t : State), Q r h' → (∀ k, k < h.1.length ∨ xB ≤ k → ad' k = ad k) → (mBc M = 0 → ad' = ad) → va_P D xcl (trW ad' dA h') t.heap → va_D A (trW ad' dA h') → va_F A s t → s.WarmedH t.vm → Qc args s (.returned (r.map (trV ad'))) t)
    (hz : mBc M' = 0) (hmono : mBc M = 0 ∨ ∀ r h', Q' r h' → h.1.length ≤ h'.1.length)
    (hr : va_Run p l.1 e (xrm d M) s m args below meth c H locs uc us 0 0 (F0 m pc ls st0) (rest.map (trV ad)) (xQc M' D dA ad h H.size Q' a) (va_A (trW ad dA h) H.size))
    (k : ∀ r h', Q' r h' → E l M d (pc + 3) lv (r.toList ++ rest) h' uc us Q) : W p l.1 e (xrm d M) s m args below meth c H locs uc us (MQ below Qc args s (mBc M) (mBs M) free) (F0 m pc ls st0) := by
  intro T hT X
  obtain ⟨v, st₀, t, T', L, h0, X', hL', e1, e2, ⟨r, h', ad', hv, q, ha, hza, hP1, hD1, hF⟩, st⟩ := hr T hT X
  have hA := C.2.2.2.2.2.2.2.1
  have hsub := trW_sub hD hS hA
  obtain rfl : ad' = ad := hza hz
  cases hv
  have hS1 : va_S A s.heap T'.heap (locs ++ L) := by
    obtain ⟨f1, f2⟩ := hF
    rw [h0] at f1 f2
    rw [e1]
    refine ⟨Nat.le_trans hS.1 f1, fun q h1 h2 => ?_, fun z hz => ?_⟩
    · rw [f2 q (Nat.lt_of_lt_of_le h1 hS.1) (fun g => h2 (hsub q g))]
      exact hS.2.1 q h1 h2
    · rcases List.mem_append.mp hz with g | g
      · exact hS.2.2 z g
      · exact hsub _ (hL' z g)
  have hQ' : ∀ (r2 : Option Value) (h2 : xH) (ad2 : Nat → Nat) (t2 : State), Q r2 h2 → (∀ k, k < h'.1.length ∨ xB ≤ k → ad2 k = ad' k) → (mBc M = 0 → ad2 = ad') → va_P D xcl (trW ad2 dA h2) t2.heap → va_D A (trW ad2 dA h2) → va_F A s t2 → s.WarmedH t2.vm → Qc args s (.returned (r2.map (trV ad2))) t2 := by
    intro r2 h2 ad2 t2 q2 g1 g2 g3 g4 g5 g6
    refine hQ r2 h2 ad2 t2 q2 ?_ g2 g3 g4 g5 g6
    rcases hmono with hm | hm
    · intro k _
      rw [g2 hm]
    · intro k hk
      exact g1 k (hk.imp (fun z => Nat.lt_of_lt_of_le z (hm r h' q)) id)
  obtain ⟨t2, a1, b1⟩ := k r h' q p e s m args below meth c D dA A ad' T'.heap (locs ++ L) ls Qc free C SX (by rw [e1]; exact hP1) (hD1.weaken (fun _ _ _ g => hsub _ g)) hS1 hL hf hu hQ' T' rfl X'
  refine ⟨t2, st t2 ?_, b1⟩
  have hst : (r.map (trV ad')).toList ++ rest.map (trV ad') = (r.toList ++ rest).map (trV ad') := by cases r <;> rfl
  rw [hst]
  exact a1
section
variable {l : xLa} {M M' : mT} {d d' pc uc us : Nat} {lv : List (Option Value)} {rest : List Value} {h : xH} {Q Q' : Option Value → xH → Prop}
theorem xML_d {o i kind p1 p2 p3 p4 : Nat} (h : xlk xML o i = some (kind, M', p1, p2, p3, p4)) : xMw1 o (i, kind, M', p1, p2, p3, p4) ∧ xMw2 (i, kind, M', p1, p2, p3, p4) ∧ xMw3 (i, kind, M', p1, p2, p3, p4) ∧ xMw5 (i, kind, M', p1, p2, p3, p4) ∧ xMw6 (i, kind, M', p1, p2, p3, p4) ∧ xMw7 (i, kind, M', p1, p2, p3, p4) ∧ xMw8 (i, kind, M', p1, p2, p3, p4) ∧ xMw9 (i, kind, M', p1, p2, p3, p4) :=
  ⟨xML_1 o (xlk_lt h) _ (xlk_mem h), xML_2 o (xlk_lt h) _ (xlk_mem h), xML_3 o (xlk_lt h) _ (xlk_mem h), xML_5 o (xlk_lt h) _ (xlk_mem h), xML_6 o (xlk_lt h) _ (xlk_mem h), xML_7 o (xlk_lt h) _ (xlk_mem h), xML_8 o (xlk_lt h) _ (xlk_mem h), xML_9 o (xlk_lt h) _ (xlk_mem h)⟩
/-- a static call -/
theorem E.callS {as : List Value} {st : List Value} {i p1 p2 p3 p4 : Nat} (hct : Ct l M' d' as h Q') (hc : xCode M') (hl : xlk xML M.1 i = some (0, M', p1, p2, p3, p4)) (hdd : d' + 1 ≤ d) (hd : decode (mCd M) pc = .ok (.invokestatic i, 3)) (hst : st = as.reverse ++ rest) (hn : as.length = mN M') (hln : (xEnt as).length ≤ mLo M') (hrest : (rest.map fun v => v.category).sum ≤ 8)
    (hz : mBc M' = 0) (hzs : mBs M' = 0) (hmono : mBc M = 0 ∨ ∀ r h', Q' r h' → h.1.length ≤ h'.1.length) (k : ∀ r h', Q' r h' → E l M d (pc + 3) lv (r.toList ++ rest) h' uc us Q) : E l M d pc lv st h uc us Q := by
  subst hst
  intro p e s m args below meth c D dA A ad H locs ls Qc free C SX hP hD hS hL hf hu hQ
  obtain ⟨hx, hb, hr, hlk, hml, hown, hts, hA, hK, hin⟩ := id C
  obtain ⟨w1, w2, w3, w5, w6, w7, w8, w9⟩ := xML_d hl
  dsimp only [xMw1, xMw2, xMw3, xMw5, xMw6, xMw7, xMw8, xMw9] at w1 w2 w3 w5 w6 w7 w8 w9
  rw [if_neg (by decide)] at w1
  rw [if_pos (by decide)] at w2
  refine xRun0 (a := (as.map (trV ad)).toArray) C SX hD hS hL hf hu hQ hz hmono ?_ k
  have hM := hct.met w7.2.2 w7.2.1 hln D dA ad H.size
  have hG : GoodIn xG (va_wsS (mOwn M) i (mY M') (xws M')) := xG_GoodIn (fun w hw => by
    rcases List.mem_append.mp hw with g | g
    · rcases List.mem_cons.mp g with rfl | g
      · exact xG_at w1 rfl
      · rcases List.mem_cons.mp g with rfl | g
        · exact xG_at w2 rfl
        · rcases List.mem_cons.mp g with rfl | g
          · exact xG_at w3 rfl
          · cases g
    · exact xws_in hc w g)
  rw [hz, hzs] at hM
  have h8 : mLo M' ≤ 21 := w7.1
  exact va_runS (As := as.map (trV ad)) (rest := rest.map (trV ad)) ⟨hx, hb, hml, hown, hts⟩ hM (va_cwS (mN M') hts hG rfl hz hzs ⟨w8.1, w8.2, w9⟩ ⟨hdd, by show 8 + (mLo M' + 11) + (41 * d' + 32) ≤ 41 * d + 32; omega⟩) ⟨xPc_blind, xPc_at C SX hP hD hS⟩ rfl (by rw [List.length_map]; exact hn) hL.1 (by simp) (lv_room (by rw [trV_cats]; exact hrest)) hd ⟨hu.1, hu.2⟩
/-- a call of an object's method -/
theorem E.callV {as : List Value} {st : List Value} {i b ci n p1 p2 p3 p4 : Nat} (hct : Ct l M' d' (.ref b :: as) h Q') (hc : xCode M') (hl : xlk xML M.1 i = some (1, M', p1, p2, p3, p4)) (hsh : h.1[b]? = some (0, ci, n)) (hci : ci < 13) (hcn : xcn.getD ci "" = (mY M').cls) (hdd : d' + 1 ≤ d) (hd : decode (mCd M) pc = .ok (.invokevirtual i, 3)) (hst : st = as.reverse ++ .ref b :: rest) (hn : as.length = mN M') (hln : (xEnt (.ref b :: as)).length ≤ mLo M') (hrest : (rest.map fun v => v.category).sum ≤ 8)
    (hz : mBc M' = 0) (hzs : mBs M' = 0) (hmono : mBc M = 0 ∨ ∀ r h', Q' r h' → h.1.length ≤ h'.1.length) (k : ∀ r h', Q' r h' → E l M d (pc + 3) lv (r.toList ++ rest) h' uc us Q) : E l M d pc lv st h uc us Q := by
  subst hst
  intro p e s m args below meth c D dA A ad H locs ls Qc free C SX hP hD hS hL hf hu hQ
  obtain ⟨hx, hb, hr, hlk, hml, hown, hts, hA, hK, hin⟩ := id C
  obtain ⟨w1, w2, w3, w5, w6, w7, w8, w9⟩ := xML_d hl
  dsimp only [xMw1, xMw2, xMw3, xMw5, xMw6, xMw7, xMw8, xMw9] at w1 w2 w3 w5 w6 w7 w8 w9
  rw [if_neg (by decide)] at w1
  rw [if_neg (by decide)] at w2
  replace w5 := w5 (by decide)
  refine xRun0 (a := (Value.ref (ad b) :: as.map (trV ad)).toArray) C SX hD hS hL hf hu hQ hz hmono ?_ k
  have hM := hct.met w7.2.2 w7.2.1 hln D dA ad H.size
  have hG : GoodIn xG (wsV (mOwn M) i (mY M').cls (mY M') (xws M')) := xG_GoodIn (fun w hw => by
    rcases List.mem_append.mp hw with g | g
    · rcases List.mem_cons.mp g with rfl | g
      · exact xG_at w1 rfl
      · rcases List.mem_cons.mp g with rfl | g
        · exact xG_at w2 rfl
        · rcases List.mem_cons.mp g with rfl | g
          · exact xG_at w5 rfl
          · rcases List.mem_cons.mp g with rfl | g
            · exact xG_at w3 rfl
            · cases g
    · exact xws_in hc w g)
  rw [hz, hzs] at hM
  have h8 : mLo M' ≤ 21 := w7.1
  have hrv := va_recv hK hP (xcl_at hci) (trW_at (ad := ad) (dA := dA) hsh)
  dsimp only at hrv
  rw [hcn] at hrv
  exact va_runV (C := (mY M').cls) (As := as.map (trV ad)) (rest := rest.map (trV ad)) ⟨hx, hb, hml, hown, hts⟩ hM (cwV (mN M') hts hG rfl hz hzs ⟨rfl, w8.1, w8.2, w9⟩ ⟨hdd, by show 8 + (mLo M' + 11) + (41 * d' + 32) ≤ 41 * d + 32; omega⟩) ⟨xPc_blind, hrv, xPc_at (as := .ref b :: as) C SX hP hD hS⟩ rfl (by rw [List.length_map]; exact hn) hL.1 (by simp [trV]) (lv_room (by rw [trV_cats]; exact hrest)) hd ⟨hu.1, hu.2⟩
end
