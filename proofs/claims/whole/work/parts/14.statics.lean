/-! Static int arrays, and System.arraycopy. -/
/-- a whole array is another one -/
def uA (h : xH) (k : Nat) (f : Nat → Int32) : xH := (h.1, h.2.1, (fun a => if a = k then f else hI h a), h.2.2.2)
theorem xCell_uA {ad : Nat → Nat} {dA : Nat → ClassId} {h : xH} {k t n : Nat} {f : Nat → Int32} : xCell ad dA (uA h k f) k (1, t, n) = .inl (dA t, n, .inl f) := by
  show Sum.inl (dA t, n, Sum.inl (if k = k then f else hI h k)) = _
  rw [if_pos rfl]
theorem xCell_uA_o {ad : Nat → Nat} {dA : Nat → ClassId} {h : xH} {k : Nat} {f : Nat → Int32} : ∀ j z, j ≠ k → xCell ad dA (uA h k f) j z = xCell ad dA h j z := by
  intro j z hj
  unfold xCell
  split <;> simp [hF, hI, hJ, hR, uA, hj]
theorem trW_uA {ad : Nat → Nat} {dA : Nat → ClassId} {h : xH} {a t n : Nat} {f : Nat → Int32} (hsh : h.1[a]? = some (1, t, n)) : trW ad dA (uA h a f) = (trW ad dA h).set a (ad a, .inl (dA t, n, .inl f)) := (trW_upd (h := h) (h' := uA h a f) rfl hsh xCell_uA xCell_uA_o).symm
theorem xcp_w : Cond.native arraycopyName ∈ xG ∧ Cond.static arraycopyName ∈ xG ∧ Cond.initialized "java/lang/System" ∈ xG := by decide +kernel
theorem xcp_n : nativeFrameWords "java/lang/System" "arraycopy" 5 + 11 + 8 ≤ 41 := by decide +kernel
section
variable {l : xLa} {M : mT} {d pc uc us : Nat} {lv : List (Option Value)} {r : List Value} {h : xH} {Q : Option Value → xH → Prop}
theorem E.copyI {i p0 a b n0 n1 : Nat} {s0 d0 n : Int32} (h1 : 1 ≤ d) (hl : xlk xPL M.1 i = some (1, p0)) (hd : decode (mCd M) pc = .ok (.invokestatic i, 3)) (ha : h.1[a]? = some (1, 0, n0)) (hb : h.1[b]? = some (1, 0, n1)) (g1 : ¬ s0 < 0) (g2 : ¬ d0 < 0) (g3 : ¬ n < 0) (g4 : s0.toNatClampNeg + n.toNatClampNeg ≤ n0) (g5 : d0.toNatClampNeg + n.toNatClampNeg ≤ n1) (hc : (r.map fun v => v.category).sum ≤ 8)
    (k : E l M d (pc + 3) lv r (uA h b (va_cpy (hI h a) (hI h b) s0.toNatClampNeg d0.toNatClampNeg n.toNatClampNeg)) uc us Q) : E l M d pc lv (.int n :: .int d0 :: .ref b :: .int s0 :: .ref a :: r) h uc us Q := by
  intro p e s m args below meth c D dA A ad H locs ls Qc free C SX hP hD hS hL hf hu hQ
  obtain ⟨hx, hb', hr, hlk, hml, hown, hts, hA, hK, hin⟩ := id C
  have h9 := xcp_n
  refine va_copyi hx hb' (hml.trans hL.1.symm) hown (hts _ (xPL_w hl)) (hts _ xcp_w.1) (hts _ xcp_w.2.1) (hts _ xcp_w.2.2) hK hP hD hS a b 0 0 (trW_at (ad := ad) (dA := dA) ha) (trW_at (ad := ad) (dA := dA) hb) (xtys_at (by decide)) (xtys_at (by decide)) rfl g1 g2 g3 g4 g5 (fun _ _ => rfl) h1 (by rw [trV_cats]; show _ ≤ 41 * d + 32; omega) hd (fun H1 locs1 hP1 hD1 hS1 => ?_)
  have hP1 : va_P D xcl (trW ad dA (uA h b (va_cpy (hI h a) (hI h b) s0.toNatClampNeg d0.toNatClampNeg n.toNatClampNeg))) H1 := by rw [trW_uA hb]; exact hP1
  have hD1 : va_D A (trW ad dA (uA h b (va_cpy (hI h a) (hI h b) s0.toNatClampNeg d0.toNatClampNeg n.toNatClampNeg))) := by rw [trW_uA hb]; exact hD1
  exact k p e s m args below meth c D dA A ad H1 locs1 ls Qc free C SX hP1 hD1 hS1 hL hf hu hQ
theorem E.copyS {i p0 a b n1 : Nat} {q : String × List Int32} {s0 d0 n : Int32} (h1 : 1 ≤ d) (hl : xlk xPL M.1 i = some (1, p0)) (hd : decode (mCd M) pc = .ok (.invokestatic i, 3)) (ha : xsa[a]? = some q) (hb : h.1[b]? = some (1, 0, n1)) (g1 : ¬ s0 < 0) (g2 : ¬ d0 < 0) (g3 : ¬ n < 0) (g4 : s0.toNatClampNeg + n.toNatClampNeg ≤ q.2.length) (g5 : d0.toNatClampNeg + n.toNatClampNeg ≤ n1) (hc : (r.map fun v => v.category).sum ≤ 8)
    (k : E l M d (pc + 3) lv r (uA h b (va_cpy (fun j => q.2.getD j 0) (hI h b) s0.toNatClampNeg d0.toNatClampNeg n.toNatClampNeg)) uc us Q) : E l M d pc lv (.int n :: .int d0 :: .ref b :: .int s0 :: .ref (xB + a) :: r) h uc us Q := by
  intro p e s m args below meth c D dA A ad H locs ls Qc free C SX hP hD hS hL hf hu hQ
  obtain ⟨hx, hb', hr, hlk, hml, hown, hts, hA, hK, hin⟩ := id C
  have h9 := xcp_n
  obtain ⟨z1, z2, z3, z4⟩ := SX.2.2.1 a q ha
  refine va_copyx hx hb' (hml.trans hL.1.symm) hown (hts _ (xPL_w hl)) (hts _ xcp_w.1) (hts _ xcp_w.2.1) (hts _ xcp_w.2.2) hK hP hD hS z3 z4 z2.out b 0 (trW_at (ad := ad) (dA := dA) hb) (xtys_at (by decide)) g1 g2 g3 g4 g5 h1 (by rw [trV_cats]; show _ ≤ 41 * d + 32; omega) hd (fun H1 locs1 hP1 hD1 hS1 => ?_)
  have hP1 : va_P D xcl (trW ad dA (uA h b (va_cpy (fun j => q.2.getD j 0) (hI h b) s0.toNatClampNeg d0.toNatClampNeg n.toNatClampNeg))) H1 := by rw [trW_uA hb]; exact hP1
  have hD1 : va_D A (trW ad dA (uA h b (va_cpy (fun j => q.2.getD j 0) (hI h b) s0.toNatClampNeg d0.toNatClampNeg n.toNatClampNeg))) := by rw [trW_uA hb]; exact hD1
  exact k p e s m args below meth c D dA A ad H1 locs1 ls Qc free C SX hP1 hD1 hS1 hL hf hu hQ
/-- a static int array is fetched -/
theorem E.gets {i a : Nat} {q : String × List Int32} (ha : xsa[a]? = some q) (hw : Cond.fieldLink (mOwn M) i "FishFerry$Rule" q.1 "[I" ∈ xG) (hd : decode (mCd M) pc = .ok (.getstatic i, 3)) (k : E l M d (pc + 3) lv (.ref (xB + a) :: r) h uc us Q) : E l M d pc lv r h uc us Q := by
  intro p e s m args below meth c D dA A ad H locs ls Qc free C SX hP hD hS hL hf hu hQ
  obtain ⟨hx, hb', hr, hlk, hml, hown, hts, hA, hK, hin⟩ := id C
  obtain ⟨z1, z2, z3, z4⟩ := SX.2.2.1 a q ha
  exact va_gets hx hb' z1 hS hown (hts _ hw) (fun _ g => g) hd (k p e s m args below meth c D dA A ad H locs ls Qc free C SX hP hD hS hL hf hu hQ)
theorem E.sald {a : Nat} {i : Int32} {q : String × List Int32} (ha : xsa[a]? = some q) (hi : vp_in i q.2.length) (hd : decode (mCd M) pc = .ok (.iaload, 1)) (k : E l M d (pc + 1) lv (.int (q.2.getD i.toNatClampNeg 0) :: r) h uc us Q) : E l M d pc lv (.int i :: .ref (xB + a) :: r) h uc us Q := by
  intro p e s m args below meth c D dA A ad H locs ls Qc free C SX hP hD hS hL hf hu hQ
  obtain ⟨hx, hb', hr, hlk, hml, hown, hts, hA, hK, hin⟩ := id C
  obtain ⟨z1, z2, z3, z4⟩ := SX.2.2.1 a q ha
  exact va_ti hx hb' z2 hS hi rfl hd (k p e s m args below meth c D dA A ad H locs ls Qc free C SX hP hD hS hL hf hu hQ)
theorem E.slen {a : Nat} {q : String × List Int32} {v : Int32} (ha : xsa[a]? = some q) (hv : Int32.ofNat q.2.length = v) (hd : decode (mCd M) pc = .ok (.arraylength, 1)) (k : E l M d (pc + 1) lv (.int v :: r) h uc us Q) : E l M d pc lv (.ref (xB + a) :: r) h uc us Q := by
  intro p e s m args below meth c D dA A ad H locs ls Qc free C SX hP hD hS hL hf hu hQ
  obtain ⟨hx, hb', hr, hlk, hml, hown, hts, hA, hK, hin⟩ := id C
  obtain ⟨z1, z2, z3, z4⟩ := SX.2.2.1 a q ha
  exact va_tlen hx hb' z2 hS hv hd (k p e s m args below meth c D dA A ad H locs ls Qc free C SX hP hD hS hL hf hu hQ)
end
