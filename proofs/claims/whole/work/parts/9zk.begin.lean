/-! THE BEGINNING: what the constructors leave (σ0), and the rows by which constructors are walked. -/
def sf0 (a k : Nat) : Int32 := match k with
  | 0 => if a = 5 then 2 else 0
  | 1 => if a = 5 then 2 else if a = 12 then 1 else if a = 127 ∨ a = 133 then 7 else if a ∈ xStates then 20 else 0
  | 3 => if a = 154 then 2 else 0
  | 4 => if a = 154 then 2 else 0
  | 7 => if a = 154 then 1 else 0
  | 8 => if a = 127 ∨ a = 133 then 1 else 0
  | _ => 0
def plF : Nat → Int32 := va_cpy (fun j => ([1000, 1001, 2045, 1002, 1003, 2062, 2043] : List Int32).getD j 0) (fun _ => 0) 0 0 7
def nkF : Nat → Int32 := cpN (fun _ => -1) (fun _ => 0) 1024
def nwF : Nat → Int32 := upd (fun _ => 0) 34 20
def si0 (a : Nat) : Nat → Int32 := if a = 128 ∨ a = 134 then plF else if a = 131 ∨ a = 137 then nkF else if a = 160 then nwF else fun _ => 0
def σ0 : xs := (sf0, si0, fun _ _ => 0, 127, 133)
def TF : Nat → Nat → Value := mkF σ0
def DF (a k : Nat) : Value := if (a = 0 ∧ (k = kPul ∨ k = kOth)) ∨ (xrf a k).isSome = true then .null else .int 0
def R0 (h : xH) (a : Nat) : Prop := hF h a = DF a ∧ hI h a = (fun _ => 0) ∧ hJ h a = (fun _ => 0) ∧ hR h a = fun _ => none
def SameR (h h' : xH) (a : Nat) : Prop := hF h' a = hF h a ∧ hI h' a = hI h a ∧ hJ h' a = hJ h a ∧ hR h' a = hR h a
theorem SameR.rf {h : xH} {a : Nat} : SameR h h a := ⟨rfl, rfl, rfl, rfl⟩
theorem SameR.tr {h h1 h2 : xH} {a : Nat} (x : SameR h h1 a) (y : SameR h1 h2 a) : SameR h h2 a := ⟨y.1.trans x.1, y.2.1.trans x.2.1, y.2.2.1.trans x.2.2.1, y.2.2.2.trans x.2.2.2⟩
/-- n cells stand, all behind them are new -/
def Fr0 (n : Nat) (h : xH) : Prop := h.1 = xSh.take n ∧ wfh h ∧ ∀ a, n ≤ a → R0 h a
/-- the object b is being made: n cells stand, its fields are G, what lies below b is as it was, what lies behind it is made -/
def OP (b n : Nat) (G : Nat → Value) (gI : Nat → Nat → Int32) (gR : Nat → Nat → Option Nat) (h0 h : xH) : Prop :=
  Fr0 n h ∧ (∀ a, a < b → SameR h0 h a) ∧ hF h b = G ∧ (∀ a, b < a → a < n → (xSh.getD a (1, 0, 0)).1 = 0 → hF h a = TF a) ∧ ∀ a, b ≤ a → a < n → hI h a = gI a ∧ hJ h a = (fun _ => 0) ∧ hR h a = gR a
theorem xSh_len : xSh.length = 190 := by decide +kernel
theorem sh_at {n a : Nat} (h : a < n) : (xSh.take n)[a]? = xSh[a]? := List.getElem?_take_of_lt h
theorem sh_push {n : Nat} {z : Nat × Nat × Nat} (h : xSh[n]? = some z) : xSh.take n ++ [z] = xSh.take (n + 1) := by
  rw [List.take_add_one, h]
  rfl
theorem sh_n {n : Nat} (h : n ≤ 190) : (xSh.take n).length = n := by
  rw [List.length_take, xSh_len]
  omega
theorem DF_ok (a k n : Nat) : okv n (DF a k) := by
  unfold DF
  split <;> trivial
theorem Fr0.len {n : Nat} {h : xH} (x : Fr0 n h) (hn : n ≤ 190) : h.1.length = n := by rw [x.1, sh_n hn]
theorem Fr0.sh {n a : Nat} {h : xH} (x : Fr0 n h) (ha : a < n) : h.1[a]? = xSh[a]? := by rw [x.1]; exact sh_at ha
theorem Fr0.push {n : Nat} {h : xH} {z : Nat × Nat × Nat} (x : Fr0 n h) (hz : xSh[n]? = some z) : Fr0 (n + 1) (h.1 ++ [z], h.2) := by
  have hn : n < 190 := by rw [← xSh_len]; exact (List.getElem?_eq_some_iff.mp hz).1
  have hl := x.len (by omega)
  obtain ⟨x1, ⟨w0, w1, w2⟩, x3⟩ := x
  have hl2 : (h.1 ++ [z]).length = n + 1 := by rw [List.length_append, hl]; rfl
  refine ⟨by show h.1 ++ [z] = _; rw [x1]; exact sh_push hz, ⟨?_, fun k j hk => ?_, fun k j r hk hr => ?_⟩, fun a ha => x3 a (by omega)⟩
  · show (h.1 ++ [z]).length < xB
    rw [hl2]; unfold xB; omega
  · have hk : k < (h.1 ++ [z]).length := hk
    show okv (h.1 ++ [z]).length (hF h k j)
    rw [hl2] at hk ⊢
    rcases Nat.lt_or_ge k n with g | g
    · exact (w1 k j (by omega)).up (by omega)
    · rw [(x3 k g).1]; exact DF_ok _ _ _
  · have hk : k < (h.1 ++ [z]).length := hk
    show r < (h.1 ++ [z]).length
    rw [hl2] at hk ⊢
    rcases Nat.lt_or_ge k n with g | g
    · have := w2 k j r (by omega) hr
      omega
    · have hr : hR h k j = some r := hr
      rw [(x3 k g).2.2.2] at hr
      cases hr
theorem Fr0.uF {n b k : Nat} {v : Value} {h : xH} (x : Fr0 n h) (hn : n ≤ 190) (hb : b < n) (hv : okv n v) : Fr0 n (uF h b k v) := by
  have hl := x.len hn
  obtain ⟨x1, ⟨w0, w1, w2⟩, x3⟩ := x
  refine ⟨x1, ⟨w0, fun k' j hk => ?_, w2⟩, fun a ha => ⟨?_, (x3 a ha).2⟩⟩
  · show okv h.1.length (up2 (hF h) b k v k' j)
    unfold up2
    split
    · rw [hl]; exact hv
    · exact w1 k' j hk
  · show up2 (hF h) b k v a = DF a
    rw [up2_o (by omega)]
    exact (x3 a ha).1
theorem Fr0.uR {n b k v : Nat} {h : xH} (x : Fr0 n h) (hn : n ≤ 190) (hb : b < n) (hv : v < n) : Fr0 n (uR h b k (some v)) := by
  have hl := x.len hn
  obtain ⟨x1, ⟨w0, w1, w2⟩, x3⟩ := x
  refine ⟨x1, ⟨w0, w1, fun k' j r hk hr => ?_⟩, fun a ha => ⟨(x3 a ha).1, (x3 a ha).2.1, (x3 a ha).2.2.1, ?_⟩⟩
  · have hr : up2 (hR h) b k (some v) k' j = some r := hr
    unfold up2 at hr
    show r < h.1.length
    split at hr
    · cases hr; omega
    · exact w2 k' j r hk hr
  · show up2 (hR h) b k (some v) a = _
    rw [up2_o (by omega)]
    exact (x3 a ha).2.2.2
theorem Fr0.uI {n b k : Nat} {v : Int32} {h : xH} (x : Fr0 n h) (hb : b < n) : Fr0 n (uI h b k v) := by
  obtain ⟨x1, w, x3⟩ := x
  refine ⟨x1, w, fun a ha => ⟨(x3 a ha).1, ?_, (x3 a ha).2.2⟩⟩
  show up2 (hI h) b k v a = _
  rw [up2_o (by omega)]
  exact (x3 a ha).2.1
theorem Fr0.uA {n b : Nat} {f : Nat → Int32} {h : xH} (x : Fr0 n h) (hb : b < n) : Fr0 n (uA h b f) := by
  obtain ⟨x1, w, x3⟩ := x
  refine ⟨x1, w, fun a ha => ⟨(x3 a ha).1, ?_, (x3 a ha).2.2⟩⟩
  show (if a = b then f else hI h a) = _
  rw [if_neg (by omega)]
  exact (x3 a ha).2.1
section
variable {b n m k v : Nat} {G : Nat → Value} {gI : Nat → Nat → Int32} {gR : Nat → Nat → Option Nat} {h0 h h1 h2 : xH}
theorem OP.start (x : Fr0 (b + 1) h) (hd : hF h b = DF b) (h1 : hI h b = gI b) (h2 : hJ h b = fun _ => 0) (h3 : hR h b = gR b) : OP b (b + 1) (DF b) gI gR h h :=
  ⟨x, fun _ _ => SameR.rf, hd, fun a h1 h2 => by omega, fun a g1 g2 => by obtain rfl : a = b := by omega
                                                                          exact ⟨h1, h2, h3⟩⟩
theorem OP.put {w : Value} (x : OP b n G gI gR h0 h) (hn : n ≤ 190) (hb : b < n) (hv : okv n w) : OP b n (fun j => if j = k then w else G j) gI gR h0 (uF h b k w) := by
  obtain ⟨x1, x2, x3, x4, x5⟩ := x
  refine ⟨x1.uF hn hb hv, fun a ha => ⟨?_, (x2 a ha).2⟩, ?_, fun a g1 g2 g3 => ?_, x5⟩
  · show up2 (hF h) b k w a = _
    rw [up2_o (by omega)]; exact (x2 a ha).1
  · show up2 (hF h) b k w b = _
    rw [up2_s, x3]
  · show up2 (hF h) b k w a = _
    rw [up2_o (by omega)]; exact x4 a g1 g2 g3
theorem OP.push {z : Nat × Nat × Nat} (x : OP b n G gI gR h0 h) (hb : b < n) (hz : xSh[n]? = some z) (hz0 : z.1 ≠ 0) (hi : gI n = fun _ => 0) (hr : gR n = fun _ => none) : OP b (n + 1) G gI gR h0 (h.1 ++ [z], h.2) := by
  obtain ⟨x1, x2, x3, x4, x5⟩ := x
  refine ⟨x1.push hz, x2, x3, fun a g1 g2 g3 => ?_, fun a g1 g2 => ?_⟩
  · rcases Nat.lt_or_ge a n with g | g
    · exact x4 a g1 g g3
    · obtain rfl : a = n := by omega
      rw [List.getD_eq_getElem?_getD, hz] at g3
      exact absurd g3 hz0
  · rcases Nat.lt_or_ge a n with g | g
    · exact x5 a g1 g
    · obtain rfl : a = n := by omega
      obtain ⟨-, y2, y3, y4⟩ := x1.2.2 a g
      exact ⟨y2.trans hi.symm, y3, y4.trans hr.symm⟩
/-- behind the constructor of an object of its own -/
theorem OP.call {z : Nat × Nat × Nat} {gI' : Nat → Nat → Int32} {gR' : Nat → Nat → Option Nat} (x : OP b n G gI gR h0 h) (hb : b < n) (y : OP n (n + m) (TF n) gI' gR' (h.1 ++ [z], h.2) h2) (hm : ∀ a, n ≤ a → a < n + m → gI' a = gI a ∧ gR' a = gR a) : OP b (n + m) G gI gR h0 h2 := by
  obtain ⟨x1, x2, x3, x4, x5⟩ := x
  obtain ⟨y1, y2, y3, y4, y5⟩ := y
  refine ⟨y1, fun a ha => (x2 a ha).tr (y2 a (by omega)), ?_, fun a g1 g2 g3 => ?_, fun a g1 g2 => ?_⟩
  · rw [(y2 b hb).1]; exact x3
  · rcases Nat.lt_or_ge a n with g | g
    · rw [(y2 a g).1]; exact x4 a g1 g g3
    · rcases Nat.eq_or_lt_of_le g with e | e
      · rw [← e]; exact y3
      · exact y4 a e g2 g3
  · rcases Nat.lt_or_ge a n with g | g
    · obtain ⟨q1, q2, q3, q4⟩ := y2 a g
      rw [q2, q3, q4]
      exact x5 a g1 g
    · obtain ⟨q1, q2, q3⟩ := y5 a g g2
      obtain ⟨m1, m2⟩ := hm a g g2
      exact ⟨q1.trans m1, q2, q3.trans m2⟩
theorem OP.to {gI' : Nat → Nat → Int32} {gR' : Nat → Nat → Option Nat} {G' : Nat → Value} (x : OP b n G gI gR h0 h) (hG : G = G') (hi : ∀ a, b ≤ a → a < n → gI a = gI' a) (hr : ∀ a, b ≤ a → a < n → gR a = gR' a) : OP b n G' gI' gR' h0 h := by
  obtain ⟨x1, x2, x3, x4, x5⟩ := x
  refine ⟨x1, x2, x3.trans hG, x4, fun a g1 g2 => ?_⟩
  obtain ⟨q1, q2, q3⟩ := x5 a g1 g2
  exact ⟨q1.trans (hi a g1 g2), q2, q3.trans (hr a g1 g2)⟩
theorem OP.sR {a i : Nat} (x : OP b n G gI gR h0 h) (hn : n ≤ 190) (ha : b < a) (han : a < n) (hv : v < n) : OP b n G gI (up2 gR a i (some v)) h0 (uR h a i (some v)) := by
  obtain ⟨x1, x2, x3, x4, x5⟩ := x
  refine ⟨x1.uR hn han hv, fun c hc => ⟨(x2 c hc).1, (x2 c hc).2.1, (x2 c hc).2.2.1, ?_⟩, x3, x4, fun c g1 g2 => ⟨(x5 c g1 g2).1, (x5 c g1 g2).2.1, ?_⟩⟩
  · show up2 (hR h) a i (some v) c = _
    rw [up2_o (by omega)]; exact (x2 c hc).2.2.2
  · show up2 (hR h) a i (some v) c = up2 gR a i (some v) c
    funext j
    unfold up2
    rw [(x5 c g1 g2).2.2]
theorem OP.sI {a i : Nat} {w : Int32} (x : OP b n G gI gR h0 h) (ha : b < a) (han : a < n) : OP b n G (up2 gI a i w) gR h0 (uI h a i w) := by
  obtain ⟨x1, x2, x3, x4, x5⟩ := x
  refine ⟨x1.uI han, fun c hc => ⟨(x2 c hc).1, ?_, (x2 c hc).2.2⟩, x3, x4, fun c g1 g2 => ⟨?_, (x5 c g1 g2).2⟩⟩
  · show up2 (hI h) a i w c = _
    rw [up2_o (by omega)]; exact (x2 c hc).2.1
  · show up2 (hI h) a i w c = up2 gI a i w c
    funext j
    unfold up2
    rw [(x5 c g1 g2).1]
theorem OP.sA {a : Nat} {f : Nat → Int32} (x : OP b n G gI gR h0 h) (ha : b < a) (han : a < n) : OP b n G (fun c => if c = a then f else gI c) gR h0 (uA h a f) := by
  obtain ⟨x1, x2, x3, x4, x5⟩ := x
  refine ⟨x1.uA han, fun c hc => ⟨(x2 c hc).1, ?_, (x2 c hc).2.2⟩, x3, x4, fun c g1 g2 => ⟨?_, (x5 c g1 g2).2⟩⟩
  · show (if c = a then f else hI h c) = _
    rw [if_neg (by omega)]; exact (x2 c hc).2.1
  · show (if c = a then f else hI h c) = if c = a then f else gI c
    rw [(x5 c g1 g2).1]
end
/-- default fields -/
theorem DF_def : ∀ a, a < 190 → ∀ ci, ci < 13 → xSh[a]? = some (0, ci, xN ci) → ∀ j, j < xN ci → DF a j = defaultValue (xty ci j) := by decide +kernel
/-! rows -/
section
variable {l : xLa} {M M' : mT} {d d' pc uc us b n : Nat} {lv : List (Option Value)} {rest : List Value} {h0 h : xH} {Q Q' : Option Value → xH → Prop} {G : Nat → Value} {gI : Nat → Nat → Int32} {gR : Nat → Nat → Option Nat}
theorem stp_put {i ci kk ns p0 nf : Nat} {v : Value} (hl : xlk xFL M.1 i = some (ci, kk, ns, p0)) (hkn : kk < nf) (hok : xpok ci kk v = true) (hfin : (xT ci kk).2.2.2 = true → ns ≠ 1 ∧ (mY M).name = "<init>" ∧ (xT ci kk).1 = mOwn M) (hsh : h.1[b]? = some (0, ci, nf)) : stpI M (.putfield i) 3 pc lv (v :: .ref b :: rest) h = some (pc + 3, lv, rest, uF h b kk v) := by
  show s_put M 3 pc lv (v :: .ref b :: rest) h i = _
  unfold s_put
  simp only [hsh, hl]
  rw [if_pos ⟨trivial, hkn, trivial, hok, hfin⟩]
theorem xpok_ref {ci kk r : Nat} (h : fits (xty ci kk) (.ref 0) = true) : xpok ci kk (.ref r) = true := by
  unfold xpok
  generalize xty ci kk = t at h
  cases t <;> first | (cases h; done) | simp [narrow, fits]
theorem o_put {i ci kk ns p0 nf : Nat} {v : Value} (x : OP b n G gI gR h0 h) (hn : n ≤ 190) (hb : b < n) (hd : decode (mCd M) pc = .ok (.putfield i, 3)) (hl : xlk xFL M.1 i = some (ci, kk, ns, p0)) (hsh : xSh[b]? = some (0, ci, nf)) (hkn : kk < nf) (hfin : (xT ci kk).2.2.2 = true → ns ≠ 1 ∧ (mY M).name = "<init>" ∧ (xT ci kk).1 = mOwn M) (hv : okv n v) (hok : xpok ci kk v = true)
    (k : ∀ h', OP b n (fun j => if j = kk then v else G j) gI gR h0 h' → E l M (d + 1) (pc + 3) lv rest h' uc us Q) : E l M (d + 1) pc lv (v :: .ref b :: rest) h uc us Q :=
  E.step (x := (pc + 3, lv, rest, uF h b kk v)) (Nat.le_add_left 1 d) hd (stp_put hl hkn hok hfin (by rw [x.1.sh hb]; exact hsh)) (k _ (x.put hn hb hv))
theorem oe_aload {i : Fin 4} {v : Nat} (hd : decode (mCd M) pc = .ok (.aload_n i, 1)) (hv : (lv[(i : Nat)]?).join = some (.ref v)) (k : E l M (d + 1) (pc + 1) lv (.ref v :: rest) h uc us Q) : E l M (d + 1) pc lv rest h uc us Q :=
  E.step (x := (pc + 1, lv, .ref v :: rest, h)) (Nat.le_add_left 1 d) hd (by show s_ld 1 1 pc lv rest h 2 i = _; unfold s_ld; rw [hv]; rfl) k
theorem oe_iload {i : Fin 4} {v : Int32} (hd : decode (mCd M) pc = .ok (.iload_n i, 1)) (hv : (lv[(i : Nat)]?).join = some (.int v)) (k : E l M (d + 1) (pc + 1) lv (.int v :: rest) h uc us Q) : E l M (d + 1) pc lv rest h uc us Q :=
  E.step (x := (pc + 1, lv, .int v :: rest, h)) (Nat.le_add_left 1 d) hd (by show s_ld 1 1 pc lv rest h 0 i = _; unfold s_ld; rw [hv]; rfl) k
theorem oe_iconst {i : Int} {v : Int32} (hd : decode (mCd M) pc = .ok (.iconst i, 1)) (hv : Int32.ofInt i = v) (k : E l M (d + 1) (pc + 1) lv (.int v :: rest) h uc us Q) : E l M (d + 1) pc lv rest h uc us Q :=
  E.step (x := (pc + 1, lv, .int v :: rest, h)) (Nat.le_add_left 1 d) hd (by subst hv; rfl) k
theorem oe_bipush {i : Int} {v : Int32} (hd : decode (mCd M) pc = .ok (.bipush i, 2)) (hv : (Int8.ofInt i).toInt32 = v) (k : E l M (d + 1) (pc + 2) lv (.int v :: rest) h uc us Q) : E l M (d + 1) pc lv rest h uc us Q :=
  E.step (x := (pc + 2, lv, .int v :: rest, h)) (Nat.le_add_left 1 d) hd (by subst hv; rfl) k
theorem oe_sipush {i : Int} {v : Int32} (hd : decode (mCd M) pc = .ok (.sipush i, 3)) (hv : (Int16.ofInt i).toInt32 = v) (k : E l M (d + 1) (pc + 3) lv (.int v :: rest) h uc us Q) : E l M (d + 1) pc lv rest h uc us Q :=
  E.step (x := (pc + 3, lv, .int v :: rest, h)) (Nat.le_add_left 1 d) hd (by subst hv; rfl) k
theorem oe_obj {i p0 r : Nat} (hd : decode (mCd M) pc = .ok (.invokespecial i, 3)) (hl : xlk xPL M.1 i = some (0, p0)) (hc : (rest.map fun v => v.category).sum ≤ 8) (k : E l M (d + 1) (pc + 3) lv rest h uc us Q) : E l M (d + 1) pc lv (.ref r :: rest) h uc us Q :=
  E.step (x := (pc + 3, lv, rest, h)) (Nat.le_add_left 1 d) hd (by show s_obj M 3 pc lv (.ref r :: rest) h i = _; unfold s_obj; simp only [hl]; rw [if_pos ⟨trivial, hc⟩]) k
theorem oe_dup {v : Nat} (hd : decode (mCd M) pc = .ok (.dup, 1)) (k : E l M (d + 1) (pc + 1) lv (.ref v :: .ref v :: rest) h uc us Q) : E l M (d + 1) pc lv (.ref v :: rest) h uc us Q :=
  E.step (x := (pc + 1, lv, .ref v :: .ref v :: rest, h)) (Nat.le_add_left 1 d) hd rfl k
theorem oe_goto {off : Int} {t : Nat} (hd : decode (mCd M) pc = .ok (.goto off, 3)) (ht : xj pc off = some t) (k : E l M (d + 1) t lv rest h uc us Q) : E l M (d + 1) pc lv rest h uc us Q :=
  E.step (x := (t, lv, rest, h)) (Nat.le_add_left 1 d) hd (by show (match xj pc off with | some t => if 3 = 3 then some (t, lv, rest, h) else none | none => none) = _; rw [ht]; rfl) k
theorem oe_istore {i : Fin 4} {v : Int32} {lv' : List (Option Value)} (hd : decode (mCd M) pc = .ok (.istore_n i, 1)) (hi : (i : Nat) < mLo M) (hl : xst1 lv i (.int v) = lv') (k : E l M (d + 1) (pc + 1) lv' rest h uc us Q) : E l M (d + 1) pc lv (.int v :: rest) h uc us Q :=
  E.step (x := (pc + 1, lv', rest, h)) (Nat.le_add_left 1 d) hd (by subst hl; show s_st M 1 1 pc lv (.int v :: rest) h 0 i = _; unfold s_st; simp [hi]) k
theorem oe_get {i ci kk ns p0 nf a : Nat} {v : Value} (hd : decode (mCd M) pc = .ok (.getfield i, 3)) (hl : xlk xFL M.1 i = some (ci, kk, ns, p0)) (hsh : h.1[a]? = some (0, ci, nf)) (hkn : kk < nf) (hv : hF h a kk = v) (k : E l M (d + 1) (pc + 3) lv (v :: rest) h uc us Q) : E l M (d + 1) pc lv (.ref a :: rest) h uc us Q :=
  E.step (x := (pc + 3, lv, v :: rest, h)) (Nat.le_add_left 1 d) hd (by show s_get M 3 pc lv (.ref a :: rest) h i = _; unfold s_get; simp only [hsh, hl]; rw [if_pos ⟨trivial, hkn, trivial⟩, hv]) k
theorem oe_aast {a i nf v ln : Nat} (hd : decode (mCd M) pc = .ok (.aastore, 1)) (ha : h.1[a]? = some (3, 5, ln)) (hv : h.1[v]? = some (0, 6, nf)) (hi : i < ln) (hl : ln < 2 ^ 31) (k : E l M (d + 1) (pc + 1) lv rest (uR h a i (some v)) uc us Q) : E l M (d + 1) pc lv (.ref v :: .int (nI i) :: .ref a :: rest) h uc us Q :=
  E.step (x := (pc + 1, lv, rest, uR h a i (some v))) (Nat.le_add_left 1 d) hd (by
    show s_aas 1 pc lv (.ref v :: .int (nI i) :: .ref a :: rest) h = _
    unfold s_aas
    simp only [ha, hv]
    rw [if_pos ⟨trivial, nI_in hi hl⟩, nI_clamp (by omega)]) k
theorem oe_iast {a i ln : Nat} {v : Int32} (hd : decode (mCd M) pc = .ok (.iastore, 1)) (ha : h.1[a]? = some (1, 0, ln)) (hi : i < ln) (hl : ln < 2 ^ 31) (k : E l M (d + 1) (pc + 1) lv rest (uI h a i v) uc us Q) : E l M (d + 1) pc lv (.int v :: .int (nI i) :: .ref a :: rest) h uc us Q :=
  E.step (x := (pc + 1, lv, rest, uI h a i v)) (Nat.le_add_left 1 d) hd (by
    show s_ias 0 0 1 pc lv (.int v :: .int (nI i) :: .ref a :: rest) h = _
    unfold s_ias
    simp only [ha]
    rw [if_pos ⟨Or.inl trivial, trivial, nI_in hi hl⟩, nI_clamp (by omega)]
    rfl) k
theorem oe_icge {off : Int} {t a c : Nat} (ha : a < 2 ^ 31) (hc : c < 2 ^ 31) (hd : decode (mCd M) pc = .ok (.if_icmp .ge off, 3)) (ht : xj pc off = some t) (k1 : c ≤ a → E l M (d + 1) t lv rest h uc us Q) (k2 : a < c → E l M (d + 1) (pc + 3) lv rest h uc us Q) : E l M (d + 1) pc lv (.int (nI c) :: .int (nI a) :: rest) h uc us Q := by
  refine E.step (x := (if nI c ≤ nI a then t else pc + 3, lv, rest, h)) (Nat.le_add_left 1 d) hd (by show s_ic (fun x y => y ≤ x) 3 pc lv _ h off = _; unfold s_ic; simp only [ht]; rfl) ?_
  rcases Nat.lt_or_ge a c with g | g
  · dsimp only
    rw [if_neg (nI_ge g hc)]
    exact k2 g
  · dsimp only
    rw [if_pos (nI_le g ha)]
    exact k1 g
theorem oe_iinc {i : Nat} {n : Int} {v w : Int32} {lv' : List (Option Value)} (hd : decode (mCd M) pc = .ok (.iinc i n, 3)) (hv : lv[i]? = some (some (.int v))) (hw : v + Int32.ofInt n = w) (hi : i < mLo M) (hl : xst1 lv i (.int w) = lv') (k : E l M (d + 1) (pc + 3) lv' rest h uc us Q) : E l M (d + 1) pc lv rest h uc us Q :=
  E.step (x := (pc + 3, lv', rest, h)) (Nat.le_add_left 1 d) hd (by subst hl; show s_iinc M 3 pc lv rest h i n = _; unfold s_iinc; rw [hv]; simp [hi, hw]) k
theorem oe_len {a t w ln : Nat} (hd : decode (mCd M) pc = .ok (.arraylength, 1)) (ha : h.1[a]? = some (t, w, ln)) (ht : t = 1 ∨ t = 2 ∨ t = 3) (hw : w < 7) (k : E l M (d + 1) (pc + 1) lv (.int (nI ln) :: rest) h uc us Q) : E l M (d + 1) pc lv (.ref a :: rest) h uc us Q :=
  E.step (x := (pc + 1, lv, .int (nI ln) :: rest, h)) (Nat.le_add_left 1 d) hd (by show s_len 1 pc lv (.ref a :: rest) h = _; unfold s_len; simp only [ha]; rw [if_pos ⟨trivial, ht, hw⟩]; rfl) k
theorem o_newa {at' : ArrayType} {t len : Nat} {v : Int32} (x : OP b n G gI gR h0 h) (hb : b < n) (hd : decode (mCd M) pc = .ok (.newarray at', 2)) (ht : t < 4) (hty : newarray.typeOf at' = xTy t) (hv : Int32.ofNat len = v) (hlen : len ≤ 4096) (hsh : xSh[n]? = some (1, t, len)) (hi : gI n = fun _ => 0) (hr : gR n = fun _ => none) (hlv : wfk n lv rest) (hbu : uc + 1 ≤ mBc M ∧ us + len ≤ mBs M)
    (k : ∀ h', OP b (n + 1) G gI gR h0 h' → E l M d (pc + 2) lv (.ref n :: rest) h' (uc + 1) (us + len) Q) : E l M d pc lv (.int v :: rest) h uc us Q := by
  have hn : n < 190 := by rw [← xSh_len]; exact (List.getElem?_eq_some_iff.mp hsh).1
  have hl := x.1.len (by omega)
  refine E.newa ht hty hv hlen hd x.1.2.1 (by rw [hl]; unfold xB; omega) (by rw [hl]; exact hlv) (by rw [hl]; exact (x.1.2.2 n (Nat.le_refl n)).2.1) hbu ?_
  have hk := k _ (x.push hb hsh (by simp) hi hr)
  rw [hl]
  exact hk
theorem o_newl {at' : ArrayType} {len : Nat} {v : Int32} (x : OP b n G gI gR h0 h) (hb : b < n) (hd : decode (mCd M) pc = .ok (.newarray at', 2)) (hty : newarray.typeOf at' = .long) (hv : Int32.ofNat len = v) (hlen : len ≤ 4096) (hsh : xSh[n]? = some (2, 4, len)) (hi : gI n = fun _ => 0) (hr : gR n = fun _ => none) (hlv : wfk n lv rest) (hbu : uc + 1 ≤ mBc M ∧ us + len ≤ mBs M)
    (k : ∀ h', OP b (n + 1) G gI gR h0 h' → E l M d (pc + 2) lv (.ref n :: rest) h' (uc + 1) (us + len) Q) : E l M d pc lv (.int v :: rest) h uc us Q := by
  have hn : n < 190 := by rw [← xSh_len]; exact (List.getElem?_eq_some_iff.mp hsh).1
  have hl := x.1.len (by omega)
  refine E.newl hty hv hlen hd x.1.2.1 (by rw [hl]; unfold xB; omega) (by rw [hl]; exact hlv) (by rw [hl]; exact (x.1.2.2 n (Nat.le_refl n)).2.2.1) hbu ?_
  have hk := k _ (x.push hb hsh (by simp) hi hr)
  rw [hl]
  exact hk
theorem o_newq {i p1 p2 p3 len : Nat} {v : Int32} (x : OP b n G gI gR h0 h) (hb : b < n) (hd : decode (mCd M) pc = .ok (.anewarray i, 3)) (hcl : xlk xCL M.1 i = some (6, p1, p2, p3)) (hv : Int32.ofNat len = v) (hlen : len ≤ 4096) (hsh : xSh[n]? = some (3, 5, len)) (hi : gI n = fun _ => 0) (hr : gR n = fun _ => none) (hlv : wfk n lv rest) (hbu : uc + 1 ≤ mBc M ∧ us + len ≤ mBs M)
    (k : ∀ h', OP b (n + 1) G gI gR h0 h' → E l M d (pc + 3) lv (.ref n :: rest) h' (uc + 1) (us + len) Q) : E l M d pc lv (.int v :: rest) h uc us Q := by
  have hn : n < 190 := by rw [← xSh_len]; exact (List.getElem?_eq_some_iff.mp hsh).1
  have hl := x.1.len (by omega)
  refine E.newq hcl hv hlen hd x.1.2.1 (by rw [hl]; unfold xB; omega) (by rw [hl]; exact hlv) (by rw [hl]; exact (x.1.2.2 n (Nat.le_refl n)).2.2.2) hbu ?_
  have hk := k _ (x.push hb hsh (by simp) hi hr)
  rw [hl]
  exact hk
/-- what a constructor of the object b leaves: m cells, all made -/
def Made (b m : Nat) (h h' : xH) : Prop := OP b (b + m) (TF b) si0 xrr h h'
/-- new, as yet without its constructor's call -/
theorem o_new {i ci p1 p2 p3 : Nat} (x : Fr0 n h) (hd : decode (mCd M) pc = .ok (.new i, 3)) (hcl : xlk xCL M.1 i = some (ci, p1, p2, p3)) (hci : ci < 13) (hsh : xSh[n]? = some (0, ci, xN ci)) (hlv : wfk n lv rest) (hbu : uc + 1 ≤ mBc M ∧ us + xN ci ≤ mBs M)
    (k : Fr0 (n + 1) (h.1 ++ [(0, ci, xN ci)], h.2) → E l M d (pc + 3) lv (.ref n :: rest) (h.1 ++ [(0, ci, xN ci)], h.2) (uc + 1) (us + xN ci) Q) : E l M d pc lv rest h uc us Q := by
  have hn : n < 190 := by rw [← xSh_len]; exact (List.getElem?_eq_some_iff.mp hsh).1
  have hl := x.len (by omega)
  refine E.new hcl hci hd x.2.1 (by rw [hl]; unfold xB; omega) (by rw [hl]; exact hlv) (fun j hj => ?_) hbu ?_
  · rw [hl, (x.2.2 n (Nat.le_refl n)).1]
    exact DF_def n hn ci hci hsh j hj
  · rw [hl]
    exact k (x.push hsh)
/-- the call of a constructor, behind new and dup -/
theorem o_init {as : List Value} {st : List Value} {i p1 p2 p3 p4 kd m ci : Nat} (x : OP b n G gI gR h0 h) (hb : b < n) (hct : ∀ h', Fr0 (n + 1) h' → R0 h' n → (∀ a, a < n → SameR h h' a) → Ct l M' d' (.ref n :: as) h' (fun r h2 => r = none ∧ Made n m h' h2)) (hc : xCode M') (hl : xlk xML M.1 i = some (kd, M', p1, p2, p3, p4)) (hkd : kd = 2 ∨ kd = 12) (hdd : d' + 1 ≤ d) (hd : decode (mCd M) pc = .ok (.invokespecial i, 3)) (hst : st = as.reverse ++ .ref n :: rest) (hna : as.length = mN M') (hln : (xEnt (.ref n :: as)).length ≤ mLo M') (hrest : (rest.map fun v => v.category).sum ≤ 8)
    (hbu : uc + mBc M' ≤ mBc M ∧ us + mBs M' ≤ mBs M) (hne : mBc M ≠ 0) (hw : wfk (n + 1) lv rest) (hsh : xSh[n]? = some (0, ci, xN ci)) (hm : ∀ a, n ≤ a → a < n + m → si0 a = gI a ∧ xrr a = gR a) (hm1 : 1 ≤ m) (hm2 : n + m ≤ 190)
    (k : ∀ h', OP b (n + m) G gI gR h0 h' → E l M d (pc + 3) lv rest h' (uc + mBc M') (us + mBs M') Q) : E l M d pc lv st (h.1 ++ [(0, ci, xN ci)], h.2) uc us Q := by
  have hn : n < 190 := by omega
  have y := x.1.push hsh
  have hl1 : (h.1 ++ [(0, ci, xN ci)], h.2).1.length = n + 1 := y.len (by omega)
  refine E.callI (hct _ y (x.1.2.2 n (Nat.le_refl n)) (fun a ha => SameR.rf)) hc hl hkd hdd hd hst hna hln hrest hbu hne (by rw [hl1]; exact hw) (fun r h2 g => ?_) (fun r h2 g => ?_)
  · rw [hl1, g.2.1.len hm2]
    omega
  · obtain ⟨rfl, g⟩ := g
    exact k h2 (x.call hb g hm)
end
