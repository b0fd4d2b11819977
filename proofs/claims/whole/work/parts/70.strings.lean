/-! Strings: their machine rows; String.length, charAt, indexOf. Printed by wip/whole. -/
section
variable {l : xLa} {M M' : mT} {d d' pc uc us : Nat} {lv : List (Option Value)} {r rest : List Value} {h : xH} {Q Q' : Option Value → xH → Prop}
/-- the bytes of string j -/
def sb (j : Nat) : List Int32 := (xss.map (fun q => q.2.2.2)).getD j []
theorem E.ldcS {i j : Nat} {q : String × Nat × String × List Int32} (hq : xss[j]? = some q) (ho : q.1 = mOwn M) (hi : q.2.1 = i) (hd : decode (mCd M) pc = .ok (.ldc i, 2)) (k : E l M d (pc + 2) lv (.ref (xB + 10 + j) :: r) h uc us Q) : E l M d pc lv r h uc us Q := by
  intro p e s m args below meth c D dA A ad H locs ls Qc free C SX hP hD hS hL hf hu hQ
  obtain ⟨hx, hb', hr, hlk, hml, hown, hts, hA, hK, hin⟩ := id C
  have hR := SX.2.2.2.2.1 j q hq
  rw [ho, hi] at hR
  exact va_ldcS hx hb' hown hR hd (k p e s m args below meth c D dA A ad H locs ls Qc free C SX hP hD hS hL hf hu hQ)
theorem E.ldcSw {i j : Nat} {q : String × Nat × String × List Int32} (hq : xss[j]? = some q) (ho : q.1 = mOwn M) (hi : q.2.1 = i) (hd : decode (mCd M) pc = .ok (.ldc_w i, 3)) (k : E l M d (pc + 3) lv (.ref (xB + 10 + j) :: r) h uc us Q) : E l M d pc lv r h uc us Q := by
  intro p e s m args below meth c D dA A ad H locs ls Qc free C SX hP hD hS hL hf hu hQ
  obtain ⟨hx, hb', hr, hlk, hml, hown, hts, hA, hK, hin⟩ := id C
  have hR := SX.2.2.2.2.1 j q hq
  rw [ho, hi] at hR
  intro T hT X
  obtain ⟨t, a1, b1⟩ := k p e s m args below meth c D dA A ad H locs ls Qc free C SX hP hD hS hL hf hu hQ T hT X
  exact ⟨t, X.ldcStringW hx hown hR.1 hR.2 (g := F0 m pc ls (r.map (trV ad))) rfl (by rw [hb']; exact hd) t a1, b1⟩
theorem E.getC {i j : Nat} (hj : j < 8) (hw : Cond.fieldLink (mOwn M) i "java/lang/String" "coder" "B" ∈ xG) (hd : decode (mCd M) pc = .ok (.getfield i, 3)) (k : E l M d (pc + 3) lv (.int 0 :: r) h uc us Q) : E l M d pc lv (.ref (xB + 10 + j) :: r) h uc us Q := by
  intro p e s m args below meth c D dA A ad H locs ls Qc free C SX hP hD hS hL hf hu hQ
  obtain ⟨hx, hb', hr, hlk, hml, hown, hts, hA, hK, hin⟩ := id C
  exact vk_getf hx hb' (SX.2.2.2.1.1 j hj).2.1 hS hown (hts _ hw) (fun _ g => g) hd (k p e s m args below meth c D dA A ad H locs ls Qc free C SX hP hD hS hL hf hu hQ)
theorem E.getV {i j : Nat} (hj : j < 8) (hw : Cond.fieldLink (mOwn M) i "java/lang/String" "value" "[B" ∈ xG) (hd : decode (mCd M) pc = .ok (.getfield i, 3)) (k : E l M d (pc + 3) lv (.ref (xB + 20 + j) :: r) h uc us Q) : E l M d pc lv (.ref (xB + 10 + j) :: r) h uc us Q := by
  intro p e s m args below meth c D dA A ad H locs ls Qc free C SX hP hD hS hL hf hu hQ
  obtain ⟨hx, hb', hr, hlk, hml, hown, hts, hA, hK, hin⟩ := id C
  exact vk_getf hx hb' (SX.2.2.2.1.1 j hj).2.2.1 hS hown (hts _ hw) (fun _ g => g) hd (k p e s m args below meth c D dA A ad H locs ls Qc free C SX hP hD hS hL hf hu hQ)
theorem sb_len : ∀ j, j < 8 → (xss.map (fun q => q.2.2.2.length)).getD j 0 = (sb j).length ∧ (sb j).length ≤ 8 ∧ (∀ b ∈ sb j, b.toInt8.toInt32 = b ∧ b &&& nI 255 = b ∧ (b.toUInt32 % 65536).toInt32 = b) := by decide +kernel
theorem E.tlB {j : Nat} (hj : j < 8) (hd : decode (mCd M) pc = .ok (.arraylength, 1)) (k : E l M d (pc + 1) lv (.int (nI (sb j).length) :: r) h uc us Q) : E l M d pc lv (.ref (xB + 20 + j) :: r) h uc us Q := by
  intro p e s m args below meth c D dA A ad H locs ls Qc free C SX hP hD hS hL hf hu hQ
  obtain ⟨hx, hb', hr, hlk, hml, hown, hts, hA, hK, hin⟩ := id C
  refine va_tlen hx hb' (SX.2.2.2.1.1 j hj).2.2.2 hS ?_ hd (k p e s m args below meth c D dA A ad H locs ls Qc free C SX hP hD hS hL hf hu hQ)
  rw [(sb_len j hj).1]; rfl
theorem E.tbB {j i : Nat} (hj : j < 8) (hi : i < (sb j).length) (hd : decode (mCd M) pc = .ok (.baload, 1)) (k : E l M d (pc + 1) lv (.int ((sb j).getD i 0) :: r) h uc us Q) : E l M d pc lv (.int (nI i) :: .ref (xB + 20 + j) :: r) h uc us Q := by
  intro p e s m args below meth c D dA A ad H locs ls Qc free C SX hP hD hS hL hf hu hQ
  obtain ⟨hx, hb', hr, hlk, hml, hown, hts, hA, hK, hin⟩ := id C
  have h9 := sb_len j hj
  refine va_tb hx hb' (SX.2.2.2.1.1 j hj).2.2.2 hS (vp_in_nI (by rw [h9.1]; exact hi) (by rw [h9.1]; omega)) ?_ hd (k p e s m args below meth c D dA A ad H locs ls Qc free C SX hP hD hS hL hf hu hQ)
  rw [nI_clamp (by omega)]; rfl
theorem E.getZ {i : Nat} (hw : Cond.fieldLink (mOwn M) i "java/lang/String" "COMPACT_STRINGS" "Z" ∈ xG) (hd : decode (mCd M) pc = .ok (.getstatic i, 3)) (k : E l M d (pc + 3) lv (.int (nI 1) :: r) h uc us Q) : E l M d pc lv r h uc us Q := by
  intro p e s m args below meth c D dA A ad H locs ls Qc free C SX hP hD hS hL hf hu hQ
  obtain ⟨hx, hb', hr, hlk, hml, hown, hts, hA, hK, hin⟩ := id C
  exact va_gets hx hb' SX.2.2.2.2.2.1 hS hown (hts _ hw) (fun _ g => g) hd (k p e s m args below meth c D dA A ad H locs ls Qc free C SX hP hD hS hL hf hu hQ)
theorem E.getF {i : Nat} (hw : Cond.fieldLink (mOwn M) i "jdk/internal/util/Preconditions" "SIOOBE_FORMATTER" "Ljava/util/function/BiFunction;" ∈ xG) (hd : decode (mCd M) pc = .ok (.getstatic i, 3)) (k : ∀ v : Value, v = .null ∨ v = .ref (xB + 30) → E l M d (pc + 3) lv (v :: r) h uc us Q) : E l M d pc lv r h uc us Q := by
  intro p e s m args below meth c D dA A ad H locs ls Qc free C SX hP hD hS hL hf hu hQ
  obtain ⟨hx, hb', hr, hlk, hml, hown, hts, hA, hK, hin⟩ := id C
  obtain ⟨v, hv, hZ⟩ := SX.2.2.2.2.2.2.1
  exact va_gets hx hb' hZ hS hown (hts _ hw) (fun _ g => g) hd (k v hv p e s m args below meth c D dA A ad H locs ls Qc free C SX hP hD hS hL hf hu hQ)
/-- a call of a String's method -/
theorem E.callT {as : List Value} {st : List Value} {i j p1 p2 p3 p4 : Nat} (hct : Ct l M' d' (.ref (xB + 10 + j) :: as) h Q') (hc : xCode M') (hl : xlk xML M.1 i = some (1, M', p1, p2, p3, p4)) (hj : j < 8) (hcn : (mY M').cls = "java/lang/String") (hdd : d' + 1 ≤ d) (hd : decode (mCd M) pc = .ok (.invokevirtual i, 3)) (hst : st = as.reverse ++ .ref (xB + 10 + j) :: rest) (hn : as.length = mN M') (hln : (xEnt (.ref (xB + 10 + j) :: as)).length ≤ mLo M') (hrest : (rest.map fun v => v.category).sum ≤ 8)
    (hz : mBc M' = 0) (hzs : mBs M' = 0) (hmono : mBc M = 0 ∨ ∀ r h', Q' r h' → h.1.length ≤ h'.1.length) (k : ∀ r h', Q' r h' → E l M d (pc + 3) lv (r.toList ++ rest) h' uc us Q) : E l M d pc lv st h uc us Q := by
  subst hst
  intro p e s m args below meth c D dA A ad H locs ls Qc free C SX hP hD hS hL hf hu hQ
  obtain ⟨hx, hb, hr, hlk, hml, hown, hts, hA, hK, hin⟩ := id C
  obtain ⟨w1, w2, w3, w5, w6, w7, w8, w9⟩ := xML_d hl
  dsimp only [xMw1, xMw2, xMw3, xMw5, xMw6, xMw7, xMw8, xMw9] at w1 w2 w3 w5 w6 w7 w8 w9
  rw [if_neg (by decide)] at w1
  rw [if_neg (by decide)] at w2
  replace w5 := w5 (by decide)
  refine xRun0 (a := (Value.ref (ad (xB + 10 + j)) :: as.map (trV ad)).toArray) C SX hD hS hL hf hu hQ hz hmono ?_ k
  have hM := hct.met w7.2.2 w7.2.1 hln D dA ad H.size
  have hG : GoodIn xG (wsV (mOwn M) i (mY M').cls (mY M') (xws M')) := xG_GoodIn (fun w hw => by
    rcases List.mem_append.mp hw with g | g
    · rcases List.mem_cons.mp g with rfl | g
      · exact xG_at w1 rfl
      · rcases List.mem_cons.mp g with rfl | g
        · exact xG_at w2 rfl
        · rcases List.mem_cons.mp g with rfl | g
          · exact xG_at w5 rfl
          · rcases List.mem_cons.mp g with rfl | g
            · exact xG_at w3 rfl
            · cases g
    · exact xws_in hc w g)
  rw [hz, hzs] at hM
  have h8 : mLo M' ≤ 21 := w7.1
  have hrv := vk_recv (i := j) SX.2.2.2.1 hj hS
  rw [← hcn] at hrv
  exact va_runV (C := (mY M').cls) (As := as.map (trV ad)) (rest := rest.map (trV ad)) ⟨hx, hb, hml, hown, hts⟩ hM (cwV (mN M') hts hG rfl hz hzs ⟨rfl, w8.1, w8.2, w9⟩ ⟨hdd, by show 8 + (mLo M' + 11) + (41 * d' + 32) ≤ 41 * d + 32; omega⟩) ⟨xPc_blind, hrv, xPc_at (as := .ref (xB + 10 + j) :: as) C SX hP hD hS⟩ rfl (by rw [List.length_map]; exact hn) hL.1 (by simp [trV]) (lv_room (by rw [trV_cats]; exact hrest)) hd ⟨hu.1, hu.2⟩
end
section
variable {l : xLa} {M : mT} {d pc : Nat} {lv : List (Option Value)} {st r : List Value} {σ : xs} {Q : Option Value → xs → Prop}
theorem tt_callT {M' : mT} {d' : Nat} {Q' : Option Value → xs → Prop} {as : List Value} {i j p1 p2 p3 p4 : Nat} (hct : TC l M' d' (.ref (xB + 10 + j) :: as) σ Q') (hc : xCode M') (hl : xlk xML M.1 i = some (1, M', p1, p2, p3, p4)) (hj : j < 8) (hcn : (mY M').cls = "java/lang/String") (hdd : d' + 1 ≤ d) (hd : decode (mCd M) pc = .ok (.invokevirtual i, 3)) (hst : st = as.reverse ++ .ref (xB + 10 + j) :: r) (hn : as.length = mN M') (hln : (xEnt (.ref (xB + 10 + j) :: as)).length ≤ mLo M') (hrest : (r.map fun v => v.category).sum ≤ 8)
    (hz : mBc M' = 0) (hzs : mBs M' = 0) (h0 : mBc M = 0) (k : ∀ v σ', Q' v σ' → T l M d (pc + 3) lv (v.toList ++ r) σ' Q) : T l M d pc lv st σ Q := E.callT hct hc hl hj hcn hdd hd hst hn hln hrest hz hzs (Or.inl h0) (fun v h' ⟨σ', e, q⟩ => by subst e; exact k v σ' q)
end
theorem d_String_charAt_0 : decode (mCd M_String_charAt) 0 = .ok (.aload_n 0, 1) := by decide +kernel
theorem d_String_charAt_1 : decode (mCd M_String_charAt) 1 = .ok (.invokevirtual 492, 3) := by decide +kernel
theorem d_String_charAt_4 : decode (mCd M_String_charAt) 4 = .ok (.ifCond .eq 12, 3) := by decide +kernel
theorem d_String_charAt_7 : decode (mCd M_String_charAt) 7 = .ok (.aload_n 0, 1) := by decide +kernel
theorem d_String_charAt_8 : decode (mCd M_String_charAt) 8 = .ok (.getfield 9, 3) := by decide +kernel
theorem d_String_charAt_11 : decode (mCd M_String_charAt) 11 = .ok (.iload_n 1, 1) := by decide +kernel
theorem d_String_charAt_12 : decode (mCd M_String_charAt) 12 = .ok (.invokestatic 495, 3) := by decide +kernel
theorem d_String_charAt_15 : decode (mCd M_String_charAt) 15 = .ok (.ireturn, 1) := by decide +kernel
theorem d_String_charAt_16 : decode (mCd M_String_charAt) 16 = .ok (.aload_n 0, 1) := by decide +kernel
theorem d_String_charAt_17 : decode (mCd M_String_charAt) 17 = .ok (.getfield 9, 3) := by decide +kernel
theorem d_String_charAt_20 : decode (mCd M_String_charAt) 20 = .ok (.iload_n 1, 1) := by decide +kernel
theorem d_String_charAt_21 : decode (mCd M_String_charAt) 21 = .ok (.invokestatic 498, 3) := by decide +kernel
theorem d_String_charAt_24 : decode (mCd M_String_charAt) 24 = .ok (.ireturn, 1) := by decide +kernel
theorem d_StringLatin1_charAt_0 : decode (mCd M_StringLatin1_charAt) 0 = .ok (.iload_n 1, 1) := by decide +kernel
theorem d_StringLatin1_charAt_1 : decode (mCd M_StringLatin1_charAt) 1 = .ok (.aload_n 0, 1) := by decide +kernel
theorem d_StringLatin1_charAt_2 : decode (mCd M_StringLatin1_charAt) 2 = .ok (.arraylength, 1) := by decide +kernel
theorem d_StringLatin1_charAt_3 : decode (mCd M_StringLatin1_charAt) 3 = .ok (.invokestatic 9, 3) := by decide +kernel
theorem d_StringLatin1_charAt_6 : decode (mCd M_StringLatin1_charAt) 6 = .ok (.aload_n 0, 1) := by decide +kernel
theorem d_StringLatin1_charAt_7 : decode (mCd M_StringLatin1_charAt) 7 = .ok (.iload_n 1, 1) := by decide +kernel
theorem d_StringLatin1_charAt_8 : decode (mCd M_StringLatin1_charAt) 8 = .ok (.baload, 1) := by decide +kernel
theorem d_StringLatin1_charAt_9 : decode (mCd M_StringLatin1_charAt) 9 = .ok (.sipush 255, 3) := by decide +kernel
theorem d_StringLatin1_charAt_12 : decode (mCd M_StringLatin1_charAt) 12 = .ok (.iand, 1) := by decide +kernel
theorem d_StringLatin1_charAt_13 : decode (mCd M_StringLatin1_charAt) 13 = .ok (.i2c, 1) := by decide +kernel
theorem d_StringLatin1_charAt_14 : decode (mCd M_StringLatin1_charAt) 14 = .ok (.ireturn, 1) := by decide +kernel
theorem d_String_length_0 : decode (mCd M_String_length) 0 = .ok (.aload_n 0, 1) := by decide +kernel
theorem d_String_length_1 : decode (mCd M_String_length) 1 = .ok (.getfield 9, 3) := by decide +kernel
theorem d_String_length_4 : decode (mCd M_String_length) 4 = .ok (.arraylength, 1) := by decide +kernel
theorem d_String_length_5 : decode (mCd M_String_length) 5 = .ok (.aload_n 0, 1) := by decide +kernel
theorem d_String_length_6 : decode (mCd M_String_length) 6 = .ok (.invokevirtual 335, 3) := by decide +kernel
theorem d_String_length_9 : decode (mCd M_String_length) 9 = .ok (.ishr, 1) := by decide +kernel
theorem d_String_length_10 : decode (mCd M_String_length) 10 = .ok (.ireturn, 1) := by decide +kernel
theorem d_String_coder_0 : decode (mCd M_String_coder) 0 = .ok (.getstatic 38, 3) := by decide +kernel
theorem d_String_coder_3 : decode (mCd M_String_coder) 3 = .ok (.ifCond .eq 10, 3) := by decide +kernel
theorem d_String_coder_6 : decode (mCd M_String_coder) 6 = .ok (.aload_n 0, 1) := by decide +kernel
theorem d_String_coder_7 : decode (mCd M_String_coder) 7 = .ok (.getfield 15, 3) := by decide +kernel
theorem d_String_coder_10 : decode (mCd M_String_coder) 10 = .ok (.goto 4, 3) := by decide +kernel
theorem d_String_coder_13 : decode (mCd M_String_coder) 13 = .ok (.iconst 1, 1) := by decide +kernel
theorem d_String_coder_14 : decode (mCd M_String_coder) 14 = .ok (.ireturn, 1) := by decide +kernel
theorem d_String_isLatin1_0 : decode (mCd M_String_isLatin1) 0 = .ok (.getstatic 38, 3) := by decide +kernel
theorem d_String_isLatin1_3 : decode (mCd M_String_isLatin1) 3 = .ok (.ifCond .eq 14, 3) := by decide +kernel
theorem d_String_isLatin1_6 : decode (mCd M_String_isLatin1) 6 = .ok (.aload_n 0, 1) := by decide +kernel
theorem d_String_isLatin1_7 : decode (mCd M_String_isLatin1) 7 = .ok (.getfield 15, 3) := by decide +kernel
theorem d_String_isLatin1_10 : decode (mCd M_String_isLatin1) 10 = .ok (.ifCond .ne 7, 3) := by decide +kernel
theorem d_String_isLatin1_13 : decode (mCd M_String_isLatin1) 13 = .ok (.iconst 1, 1) := by decide +kernel
theorem d_String_isLatin1_14 : decode (mCd M_String_isLatin1) 14 = .ok (.goto 4, 3) := by decide +kernel
theorem d_String_isLatin1_17 : decode (mCd M_String_isLatin1) 17 = .ok (.iconst 0, 1) := by decide +kernel
theorem d_String_isLatin1_18 : decode (mCd M_String_isLatin1) 18 = .ok (.ireturn, 1) := by decide +kernel
theorem d_String_checkIndex_0 : decode (mCd M_String_checkIndex) 0 = .ok (.iload_n 0, 1) := by decide +kernel
theorem d_String_checkIndex_1 : decode (mCd M_String_checkIndex) 1 = .ok (.iload_n 1, 1) := by decide +kernel
theorem d_String_checkIndex_2 : decode (mCd M_String_checkIndex) 2 = .ok (.getstatic 1053, 3) := by decide +kernel
theorem d_String_checkIndex_5 : decode (mCd M_String_checkIndex) 5 = .ok (.invokestatic 1059, 3) := by decide +kernel
theorem d_String_checkIndex_8 : decode (mCd M_String_checkIndex) 8 = .ok (.pop, 1) := by decide +kernel
theorem d_String_checkIndex_9 : decode (mCd M_String_checkIndex) 9 = .ok (.return_, 1) := by decide +kernel
theorem d_String_indexOf_0 : decode (mCd M_String_indexOf) 0 = .ok (.aload_n 0, 1) := by decide +kernel
theorem d_String_indexOf_1 : decode (mCd M_String_indexOf) 1 = .ok (.iload_n 1, 1) := by decide +kernel
theorem d_String_indexOf_2 : decode (mCd M_String_indexOf) 2 = .ok (.iconst 0, 1) := by decide +kernel
theorem d_String_indexOf_3 : decode (mCd M_String_indexOf) 3 = .ok (.invokevirtual 633, 3) := by decide +kernel
theorem d_String_indexOf_6 : decode (mCd M_String_indexOf) 6 = .ok (.ireturn, 1) := by decide +kernel
theorem d_String_indexOf_2_0 : decode (mCd M_String_indexOf_2) 0 = .ok (.aload_n 0, 1) := by decide +kernel
theorem d_String_indexOf_2_1 : decode (mCd M_String_indexOf_2) 1 = .ok (.invokevirtual 492, 3) := by decide +kernel
theorem d_String_indexOf_2_4 : decode (mCd M_String_indexOf_2) 4 = .ok (.ifCond .eq 19, 3) := by decide +kernel
theorem d_String_indexOf_2_7 : decode (mCd M_String_indexOf_2) 7 = .ok (.aload_n 0, 1) := by decide +kernel
theorem d_String_indexOf_2_8 : decode (mCd M_String_indexOf_2) 8 = .ok (.getfield 9, 3) := by decide +kernel
theorem d_String_indexOf_2_11 : decode (mCd M_String_indexOf_2) 11 = .ok (.iload_n 1, 1) := by decide +kernel
theorem d_String_indexOf_2_12 : decode (mCd M_String_indexOf_2) 12 = .ok (.iload_n 2, 1) := by decide +kernel
theorem d_String_indexOf_2_13 : decode (mCd M_String_indexOf_2) 13 = .ok (.aload_n 0, 1) := by decide +kernel
theorem d_String_indexOf_2_14 : decode (mCd M_String_indexOf_2) 14 = .ok (.invokevirtual 505, 3) := by decide +kernel
theorem d_String_indexOf_2_17 : decode (mCd M_String_indexOf_2) 17 = .ok (.invokestatic 637, 3) := by decide +kernel
theorem d_String_indexOf_2_20 : decode (mCd M_String_indexOf_2) 20 = .ok (.goto 16, 3) := by decide +kernel
theorem d_String_indexOf_2_23 : decode (mCd M_String_indexOf_2) 23 = .ok (.aload_n 0, 1) := by decide +kernel
theorem d_String_indexOf_2_24 : decode (mCd M_String_indexOf_2) 24 = .ok (.getfield 9, 3) := by decide +kernel
theorem d_String_indexOf_2_27 : decode (mCd M_String_indexOf_2) 27 = .ok (.iload_n 1, 1) := by decide +kernel
theorem d_String_indexOf_2_28 : decode (mCd M_String_indexOf_2) 28 = .ok (.iload_n 2, 1) := by decide +kernel
theorem d_String_indexOf_2_29 : decode (mCd M_String_indexOf_2) 29 = .ok (.aload_n 0, 1) := by decide +kernel
theorem d_String_indexOf_2_30 : decode (mCd M_String_indexOf_2) 30 = .ok (.invokevirtual 505, 3) := by decide +kernel
theorem d_String_indexOf_2_33 : decode (mCd M_String_indexOf_2) 33 = .ok (.invokestatic 640, 3) := by decide +kernel
theorem d_String_indexOf_2_36 : decode (mCd M_String_indexOf_2) 36 = .ok (.ireturn, 1) := by decide +kernel
theorem d_StringLatin1_indexOf_0 : decode (mCd M_StringLatin1_indexOf) 0 = .ok (.iload_n 1, 1) := by decide +kernel
theorem d_StringLatin1_indexOf_1 : decode (mCd M_StringLatin1_indexOf) 1 = .ok (.invokestatic 88, 3) := by decide +kernel
theorem d_StringLatin1_indexOf_4 : decode (mCd M_StringLatin1_indexOf) 4 = .ok (.ifCond .ne 5, 3) := by decide +kernel
theorem d_StringLatin1_indexOf_7 : decode (mCd M_StringLatin1_indexOf) 7 = .ok (.iconst (-1), 1) := by decide +kernel
theorem d_StringLatin1_indexOf_8 : decode (mCd M_StringLatin1_indexOf) 8 = .ok (.ireturn, 1) := by decide +kernel
theorem d_StringLatin1_indexOf_9 : decode (mCd M_StringLatin1_indexOf) 9 = .ok (.iload_n 2, 1) := by decide +kernel
theorem d_StringLatin1_indexOf_10 : decode (mCd M_StringLatin1_indexOf) 10 = .ok (.iconst 0, 1) := by decide +kernel
theorem d_StringLatin1_indexOf_11 : decode (mCd M_StringLatin1_indexOf) 11 = .ok (.invokestatic 92, 3) := by decide +kernel
theorem d_StringLatin1_indexOf_14 : decode (mCd M_StringLatin1_indexOf) 14 = .ok (.istore_n 2, 1) := by decide +kernel
theorem d_StringLatin1_indexOf_15 : decode (mCd M_StringLatin1_indexOf) 15 = .ok (.iload_n 3, 1) := by decide +kernel
theorem d_StringLatin1_indexOf_16 : decode (mCd M_StringLatin1_indexOf) 16 = .ok (.aload_n 0, 1) := by decide +kernel
theorem d_StringLatin1_indexOf_17 : decode (mCd M_StringLatin1_indexOf) 17 = .ok (.arraylength, 1) := by decide +kernel
theorem d_StringLatin1_indexOf_18 : decode (mCd M_StringLatin1_indexOf) 18 = .ok (.invokestatic 38, 3) := by decide +kernel
theorem d_StringLatin1_indexOf_21 : decode (mCd M_StringLatin1_indexOf) 21 = .ok (.istore_n 3, 1) := by decide +kernel
theorem d_StringLatin1_indexOf_22 : decode (mCd M_StringLatin1_indexOf) 22 = .ok (.iload_n 2, 1) := by decide +kernel
theorem d_StringLatin1_indexOf_23 : decode (mCd M_StringLatin1_indexOf) 23 = .ok (.iload_n 3, 1) := by decide +kernel
theorem d_StringLatin1_indexOf_24 : decode (mCd M_StringLatin1_indexOf) 24 = .ok (.if_icmp .lt 5, 3) := by decide +kernel
theorem d_StringLatin1_indexOf_27 : decode (mCd M_StringLatin1_indexOf) 27 = .ok (.iconst (-1), 1) := by decide +kernel
theorem d_StringLatin1_indexOf_28 : decode (mCd M_StringLatin1_indexOf) 28 = .ok (.ireturn, 1) := by decide +kernel
theorem d_StringLatin1_indexOf_29 : decode (mCd M_StringLatin1_indexOf) 29 = .ok (.aload_n 0, 1) := by decide +kernel
theorem d_StringLatin1_indexOf_30 : decode (mCd M_StringLatin1_indexOf) 30 = .ok (.iload_n 1, 1) := by decide +kernel
theorem d_StringLatin1_indexOf_31 : decode (mCd M_StringLatin1_indexOf) 31 = .ok (.iload_n 2, 1) := by decide +kernel
theorem d_StringLatin1_indexOf_32 : decode (mCd M_StringLatin1_indexOf) 32 = .ok (.iload_n 3, 1) := by decide +kernel
theorem d_StringLatin1_indexOf_33 : decode (mCd M_StringLatin1_indexOf) 33 = .ok (.invokestatic 95, 3) := by decide +kernel
theorem d_StringLatin1_indexOf_36 : decode (mCd M_StringLatin1_indexOf) 36 = .ok (.ireturn, 1) := by decide +kernel
theorem d_StringLatin1_canEncode_0 : decode (mCd M_StringLatin1_canEncode) 0 = .ok (.iload_n 0, 1) := by decide +kernel
theorem d_StringLatin1_canEncode_1 : decode (mCd M_StringLatin1_canEncode) 1 = .ok (.ifCond .lt 14, 3) := by decide +kernel
theorem d_StringLatin1_canEncode_4 : decode (mCd M_StringLatin1_canEncode) 4 = .ok (.iload_n 0, 1) := by decide +kernel
theorem d_StringLatin1_canEncode_5 : decode (mCd M_StringLatin1_canEncode) 5 = .ok (.sipush 255, 3) := by decide +kernel
theorem d_StringLatin1_canEncode_8 : decode (mCd M_StringLatin1_canEncode) 8 = .ok (.if_icmp .gt 7, 3) := by decide +kernel
theorem d_StringLatin1_canEncode_11 : decode (mCd M_StringLatin1_canEncode) 11 = .ok (.iconst 1, 1) := by decide +kernel
theorem d_StringLatin1_canEncode_12 : decode (mCd M_StringLatin1_canEncode) 12 = .ok (.goto 4, 3) := by decide +kernel
theorem d_StringLatin1_canEncode_15 : decode (mCd M_StringLatin1_canEncode) 15 = .ok (.iconst 0, 1) := by decide +kernel
theorem d_StringLatin1_canEncode_16 : decode (mCd M_StringLatin1_canEncode) 16 = .ok (.ireturn, 1) := by decide +kernel
theorem d_StringLatin1_indexOfChar_0 : decode (mCd M_StringLatin1_indexOfChar) 0 = .ok (.iload_n 1, 1) := by decide +kernel
theorem d_StringLatin1_indexOfChar_1 : decode (mCd M_StringLatin1_indexOfChar) 1 = .ok (.i2b, 1) := by decide +kernel
theorem d_StringLatin1_indexOfChar_2 : decode (mCd M_StringLatin1_indexOfChar) 2 = .ok (.istore 4, 2) := by decide +kernel
theorem d_StringLatin1_indexOfChar_4 : decode (mCd M_StringLatin1_indexOfChar) 4 = .ok (.iload_n 2, 1) := by decide +kernel
theorem d_StringLatin1_indexOfChar_5 : decode (mCd M_StringLatin1_indexOfChar) 5 = .ok (.istore 5, 2) := by decide +kernel
theorem d_StringLatin1_indexOfChar_7 : decode (mCd M_StringLatin1_indexOfChar) 7 = .ok (.iload 5, 2) := by decide +kernel
theorem d_StringLatin1_indexOfChar_9 : decode (mCd M_StringLatin1_indexOfChar) 9 = .ok (.iload_n 3, 1) := by decide +kernel
theorem d_StringLatin1_indexOfChar_10 : decode (mCd M_StringLatin1_indexOfChar) 10 = .ok (.if_icmp .ge 21, 3) := by decide +kernel
theorem d_StringLatin1_indexOfChar_13 : decode (mCd M_StringLatin1_indexOfChar) 13 = .ok (.aload_n 0, 1) := by decide +kernel
theorem d_StringLatin1_indexOfChar_14 : decode (mCd M_StringLatin1_indexOfChar) 14 = .ok (.iload 5, 2) := by decide +kernel
theorem d_StringLatin1_indexOfChar_16 : decode (mCd M_StringLatin1_indexOfChar) 16 = .ok (.baload, 1) := by decide +kernel
theorem d_StringLatin1_indexOfChar_17 : decode (mCd M_StringLatin1_indexOfChar) 17 = .ok (.iload 4, 2) := by decide +kernel
theorem d_StringLatin1_indexOfChar_19 : decode (mCd M_StringLatin1_indexOfChar) 19 = .ok (.if_icmp .ne 6, 3) := by decide +kernel
theorem d_StringLatin1_indexOfChar_22 : decode (mCd M_StringLatin1_indexOfChar) 22 = .ok (.iload 5, 2) := by decide +kernel
theorem d_StringLatin1_indexOfChar_24 : decode (mCd M_StringLatin1_indexOfChar) 24 = .ok (.ireturn, 1) := by decide +kernel
theorem d_StringLatin1_indexOfChar_25 : decode (mCd M_StringLatin1_indexOfChar) 25 = .ok (.iinc 5 1, 3) := by decide +kernel
theorem d_StringLatin1_indexOfChar_28 : decode (mCd M_StringLatin1_indexOfChar) 28 = .ok (.goto (-21), 3) := by decide +kernel
theorem d_StringLatin1_indexOfChar_31 : decode (mCd M_StringLatin1_indexOfChar) 31 = .ok (.iconst (-1), 1) := by decide +kernel
theorem d_StringLatin1_indexOfChar_32 : decode (mCd M_StringLatin1_indexOfChar) 32 = .ok (.ireturn, 1) := by decide +kernel
theorem xz_38 : Cond.fieldLink "java/lang/String" 38 "java/lang/String" "COMPACT_STRINGS" "Z" ∈ xG := by decide +kernel
theorem xz_15 : Cond.fieldLink "java/lang/String" 15 "java/lang/String" "coder" "B" ∈ xG := by decide +kernel
theorem xz_9 : Cond.fieldLink "java/lang/String" 9 "java/lang/String" "value" "[B" ∈ xG := by decide +kernel
theorem xz_1053 : Cond.fieldLink "java/lang/String" 1053 "jdk/internal/util/Preconditions" "SIOOBE_FORMATTER" "Ljava/util/function/BiFunction;" ∈ xG := by decide +kernel
theorem s_coder {l : xLa} {d : Nat} {σ : xs} {j : Nat} (hj : j < 8) : TE l M_String_coder (d + 1) [.ref (xB + 10 + j)] σ (some (.int (nI 0))) σ := by
  show T l M_String_coder (d + 1) 0 _ [] σ _
  refine E.getZ xz_38 d_String_coder_0 ?_
  refine tn_if_eq (t := 13) (by omega) d_String_coder_3 (by decide) (fun c_3 => ?_) (fun c_3 => ?_)
  · omega
  · refine tt_aload_n d_String_coder_6 rfl ?_
    refine E.getC hj xz_15 d_String_coder_7 ?_
    refine tt_goto (t := 14) d_String_coder_10 (by decide) ?_
    refine tt_zret rfl rfl d_String_coder_14 ?_
    exact ⟨rfl, rfl⟩

theorem s_isLatin1 {l : xLa} {d : Nat} {σ : xs} {j : Nat} (hj : j < 8) : TE l M_String_isLatin1 (d + 1) [.ref (xB + 10 + j)] σ (some (.int (nI 1))) σ := by
  show T l M_String_isLatin1 (d + 1) 0 _ [] σ _
  refine E.getZ xz_38 d_String_isLatin1_0 ?_
  refine tn_if_eq (t := 17) (by omega) d_String_isLatin1_3 (by decide) (fun c_3 => ?_) (fun c_3 => ?_)
  · omega
  · refine tt_aload_n d_String_isLatin1_6 rfl ?_
    refine E.getC hj xz_15 d_String_isLatin1_7 ?_
    refine tt_top (y := nI 0) rfl ?_
    refine tn_if_ne (t := 17) (by omega) d_String_isLatin1_10 (by decide) (fun c_10 => ?_) (fun c_10 => ?_)
    · omega
    · refine tt_iconst (v := nI 1) d_String_isLatin1_13 (by decide) ?_
      refine tt_goto (t := 18) d_String_isLatin1_14 (by decide) ?_
      refine tt_zret rfl rfl d_String_isLatin1_18 ?_
      exact ⟨rfl, rfl⟩

theorem s_length {l : xLa} {d : Nat} {σ : xs} {j : Nat} (hj : j < 8) : TE l M_String_length (d + 2) [.ref (xB + 10 + j)] σ (some (.int (nI (sb j).length))) σ := by
  have h9 := sb_len j hj
  show T l M_String_length (d + 2) 0 _ [] σ _
  refine tt_aload_n d_String_length_0 rfl ?_
  refine E.getV hj xz_9 d_String_length_1 ?_
  refine E.tlB hj d_String_length_4 ?_
  refine tt_aload_n d_String_length_5 rfl ?_
  refine tt_callT (s_coder (d := d) hj) cw_String_coder rfl hj rfl (by omega) d_String_length_6 rfl rfl (Nat.le_of_ble_eq_true rfl) (Nat.le_of_ble_eq_true rfl) rfl rfl rfl (fun v σ2 q => ?_)
  obtain ⟨rfl, e9⟩ := q
  rw [e9]
  clear e9
  refine tt_ishr d_String_length_9 ?_
  refine tt_top (y := nI (sb j).length) (by rw [pk_shrN (n := (sb j).length) (by omega) _ 0 (by decide)]; rw [Nat.pow_zero, Nat.div_one]) ?_
  refine tt_iret rfl d_String_length_10 ?_
  exact ⟨rfl, rfl⟩

theorem d_Preconditions_checkIndex_0 : decode (mCd M_Preconditions_checkIndex) 0 = .ok (.iload_n 0, 1) := by decide +kernel
theorem d_Preconditions_checkIndex_1 : decode (mCd M_Preconditions_checkIndex) 1 = .ok (.ifCond .lt 8, 3) := by decide +kernel
theorem d_Preconditions_checkIndex_4 : decode (mCd M_Preconditions_checkIndex) 4 = .ok (.iload_n 0, 1) := by decide +kernel
theorem d_Preconditions_checkIndex_5 : decode (mCd M_Preconditions_checkIndex) 5 = .ok (.iload_n 1, 1) := by decide +kernel
theorem d_Preconditions_checkIndex_6 : decode (mCd M_Preconditions_checkIndex) 6 = .ok (.if_icmp .lt 10, 3) := by decide +kernel
theorem d_Preconditions_checkIndex_16 : decode (mCd M_Preconditions_checkIndex) 16 = .ok (.iload_n 0, 1) := by decide +kernel
theorem d_Preconditions_checkIndex_17 : decode (mCd M_Preconditions_checkIndex) 17 = .ok (.ireturn, 1) := by decide +kernel
theorem s_pci {l : xLa} {d : Nat} {σ : xs} {i n : Nat} {v : Value} (hv : v = .null ∨ v = .ref (xB + 30)) (hi : i < n) (hn : n < 2 ^ 31) : TE l M_Preconditions_checkIndex (d + 1) [.int (nI i), .int (nI n), v] σ (some (.int (nI i))) σ := by
  show T l M_Preconditions_checkIndex (d + 1) 0 _ [] σ _
  rcases hv with rfl | rfl
  · skip
    refine tt_iload_n d_Preconditions_checkIndex_0 rfl ?_
    refine tn_if_lt (t := 9) (by omega) d_Preconditions_checkIndex_1 (by decide) ?_
    refine tt_iload_n d_Preconditions_checkIndex_4 rfl ?_
    refine tt_iload_n d_Preconditions_checkIndex_5 rfl ?_
    refine tn_ic_lt (t := 16) (by omega) (by omega) d_Preconditions_checkIndex_6 (by decide) (fun c_6 => ?_) (fun c_6 => ?_)
    · refine tt_iload_n d_Preconditions_checkIndex_16 rfl ?_
      refine tt_iret rfl d_Preconditions_checkIndex_17 ?_
      exact ⟨rfl, rfl⟩
    · omega
  · skip
    refine tt_iload_n d_Preconditions_checkIndex_0 rfl ?_
    refine tn_if_lt (t := 9) (by omega) d_Preconditions_checkIndex_1 (by decide) ?_
    refine tt_iload_n d_Preconditions_checkIndex_4 rfl ?_
    refine tt_iload_n d_Preconditions_checkIndex_5 rfl ?_
    refine tn_ic_lt (t := 16) (by omega) (by omega) d_Preconditions_checkIndex_6 (by decide) (fun c_6 => ?_) (fun c_6 => ?_)
    · refine tt_iload_n d_Preconditions_checkIndex_16 rfl ?_
      refine tt_iret rfl d_Preconditions_checkIndex_17 ?_
      exact ⟨rfl, rfl⟩
    · omega

theorem s_checkIndex {l : xLa} {d : Nat} {σ : xs} {i n : Nat} (hi : i < n) (hn : n < 2 ^ 31) : TE l M_String_checkIndex (d + 2) [.int (nI i), .int (nI n)] σ none σ := by
  show T l M_String_checkIndex (d + 2) 0 _ [] σ _
  refine tt_iload_n d_String_checkIndex_0 rfl ?_
  refine tt_iload_n d_String_checkIndex_1 rfl ?_
  refine E.getF xz_1053 d_String_checkIndex_2 (fun v hv => ?_)
  have hen : (xEnt [.int (nI i), .int (nI n), v]).length ≤ mLo M_Preconditions_checkIndex := by rcases hv with rfl | rfl <;> exact Nat.le_of_ble_eq_true rfl
  refine tt_callS (s_pci (d := d) hv hi hn) cw_Preconditions_checkIndex rfl (by omega) d_String_checkIndex_5 rfl rfl hen (Nat.le_of_ble_eq_true rfl) rfl rfl rfl (fun v σ2 q => ?_)
  obtain ⟨rfl, e9⟩ := q
  rw [e9]
  clear e9
  refine tt_pop d_String_checkIndex_8 rfl ?_
  refine tt_vret rfl d_String_checkIndex_9 ?_
  exact ⟨rfl, rfl⟩
theorem sb_mem {j i : Nat} (h : i < (sb j).length) : (sb j).getD i 0 ∈ sb j := by
  rw [List.getD_eq_getElem?_getD, List.getElem?_eq_getElem h]
  exact List.getElem_mem h
theorem nar_c {b : Int32} (h : (b.toUInt32 % 65536).toInt32 = b) : narrow .char (.int b) = .int b := by
  have q := pk_nc b
  rw [h] at q
  exact q
theorem s_charL {l : xLa} {d : Nat} {σ : xs} {j i : Nat} (hj : j < 8) (hi : i < (sb j).length) : TE l M_StringLatin1_charAt (d + 3) [.ref (xB + 20 + j), .int (nI i)] σ (some (.int ((sb j).getD i 0))) σ := by
  have h9 := sb_len j hj
  have hb := h9.2.2 ((sb j).getD i 0) (sb_mem hi)
  show T l M_StringLatin1_charAt (d + 3) 0 _ [] σ _
  refine tt_iload_n d_StringLatin1_charAt_0 rfl ?_
  refine tt_aload_n d_StringLatin1_charAt_1 rfl ?_
  refine E.tlB hj d_StringLatin1_charAt_2 ?_
  refine tt_callS (s_checkIndex (d := d) hi (by omega)) cw_String_checkIndex rfl (by omega) d_StringLatin1_charAt_3 rfl rfl (Nat.le_of_ble_eq_true rfl) (Nat.le_of_ble_eq_true rfl) rfl rfl rfl (fun v σ2 q => ?_)
  obtain ⟨rfl, e9⟩ := q
  rw [e9]
  clear e9
  refine tt_aload_n d_StringLatin1_charAt_6 rfl ?_
  refine tt_iload_n d_StringLatin1_charAt_7 rfl ?_
  refine E.tbB hj hi d_StringLatin1_charAt_8 ?_
  refine tt_sipush (v := nI 255) d_StringLatin1_charAt_9 (by decide) ?_
  refine tt_iand d_StringLatin1_charAt_12 ?_
  refine tt_top hb.2.1 ?_
  refine tt_i2c d_StringLatin1_charAt_13 ?_
  refine tt_top hb.2.2 ?_
  refine tt_zret rfl (nar_c hb.2.2) d_StringLatin1_charAt_14 ?_
  exact ⟨rfl, rfl⟩

theorem s_charAt {l : xLa} {d : Nat} {σ : xs} {j i : Nat} (hj : j < 8) (hi : i < (sb j).length) : TE l M_String_charAt (d + 4) [.ref (xB + 10 + j), .int (nI i)] σ (some (.int ((sb j).getD i 0))) σ := by
  have h9 := sb_len j hj
  have hb := h9.2.2 ((sb j).getD i 0) (sb_mem hi)
  show T l M_String_charAt (d + 4) 0 _ [] σ _
  refine tt_aload_n d_String_charAt_0 rfl ?_
  refine tt_callT (s_isLatin1 (d := d) hj) cw_String_isLatin1 rfl hj rfl (by omega) d_String_charAt_1 rfl rfl (Nat.le_of_ble_eq_true rfl) (Nat.le_of_ble_eq_true rfl) rfl rfl rfl (fun v σ2 q => ?_)
  obtain ⟨rfl, e9⟩ := q
  rw [e9]
  clear e9
  refine tn_if_eq (t := 16) (by omega) d_String_charAt_4 (by decide) (fun c_4 => ?_) (fun c_4 => ?_)
  · exact absurd c_4 (by decide)
  · refine tt_aload_n d_String_charAt_7 rfl ?_
    refine E.getV hj xz_9 d_String_charAt_8 ?_
    refine tt_iload_n d_String_charAt_11 rfl ?_
    refine tt_callS (s_charL (d := d) hj hi) cw_StringLatin1_charAt rfl (by omega) d_String_charAt_12 rfl rfl (Nat.le_of_ble_eq_true rfl) (Nat.le_of_ble_eq_true rfl) rfl rfl rfl (fun v σ2 q => ?_)
    obtain ⟨rfl, e9⟩ := q
    rw [e9]
    clear e9
    refine tt_zret rfl (nar_c hb.2.2) d_String_charAt_15 ?_
    exact ⟨rfl, rfl⟩

/-- where a byte stands first, from i on -/
def ixF (b : Int32) : List Int32 → Nat → Int32
  | [], _ => -1
  | x :: l, k => if x = b then nI k else ixF b l (k + 1)
theorem ixF_d {b : Int32} {l : List Int32} {i : Nat} (h : i < l.length) : ixF b (l.drop i) i = if l.getD i 0 = b then nI i else ixF b (l.drop (i + 1)) (i + 1) := by
  rw [List.drop_eq_getElem_cons h, List.getD_eq_getElem?_getD, List.getElem?_eq_getElem h]
  rfl
theorem s_ixC_l {l : xLa} {d : Nat} {σ : xs} {j : Nat} (hj : j < 8) {ch b : Int32} {z : Nat} : ∀ (m : Nat) (i : Nat), (sb j).length - i = m → i ≤ (sb j).length → T l M_StringLatin1_indexOfChar (d + 1) 7 [some (.ref (xB + 20 + j)), some (.int ch), some (.int (nI z)), some (.int (nI (sb j).length)), some (.int b), some (.int (nI i))] [] σ (fun r τ => r = some (.int (ixF b ((sb j).drop i) i)) ∧ τ = σ) := by
  intro m
  induction m using Nat.strongRecOn with
  | ind m ih =>
    intro i hm hi0
    have h9 := sb_len j hj
    refine tt_iload d_StringLatin1_indexOfChar_7 rfl ?_
    refine tt_iload_n d_StringLatin1_indexOfChar_9 rfl ?_
    refine tn_ic_ge (t := 31) (by omega) (by omega) d_StringLatin1_indexOfChar_10 (by decide) (fun c_10 => ?_) (fun c_10 => ?_)
    · obtain rfl : i = (sb j).length := by omega
      rw [List.drop_length]
      refine tt_iconst (v := (-1)) d_StringLatin1_indexOfChar_31 (by decide) ?_
      refine tt_iret rfl d_StringLatin1_indexOfChar_32 ?_
      exact ⟨rfl, rfl⟩
    · have hi : i < (sb j).length := by omega
      rw [ixF_d hi]
      refine tt_aload_n d_StringLatin1_indexOfChar_13 rfl ?_
      refine tt_iload d_StringLatin1_indexOfChar_14 rfl ?_
      refine E.tbB hj hi d_StringLatin1_indexOfChar_16 ?_
      refine tt_iload d_StringLatin1_indexOfChar_17 rfl ?_
      refine tt_ic_ne (t := 25) d_StringLatin1_indexOfChar_19 (by decide) (fun c_19 => ?_) (fun c_19 => ?_)
      · rw [if_neg c_19]
        refine tt_iinc d_StringLatin1_indexOfChar_25 rfl (nI_inc _ 1) (by decide) rfl ?_
        refine tt_goto (t := 7) d_StringLatin1_indexOfChar_28 (by decide) ?_
        exact ih ((sb j).length - (i + 1)) (by omega) (i + 1) rfl (by omega)
      · rw [if_pos (Decidable.not_not.mp c_19)]
        refine tt_iload d_StringLatin1_indexOfChar_22 rfl ?_
        refine tt_iret rfl d_StringLatin1_indexOfChar_24 ?_
        exact ⟨rfl, rfl⟩

theorem s_ixC {l : xLa} {d : Nat} {σ : xs} {j : Nat} (hj : j < 8) {ch : Int32} : TE l M_StringLatin1_indexOfChar (d + 1) [.ref (xB + 20 + j), .int ch, .int (nI 0), .int (nI (sb j).length)] σ (some (.int (ixF ch.toInt8.toInt32 (sb j) 0))) σ := by
  show T l M_StringLatin1_indexOfChar (d + 1) 0 _ [] σ _
  refine tt_iload_n d_StringLatin1_indexOfChar_0 rfl ?_
  refine tt_i2b d_StringLatin1_indexOfChar_1 ?_
  refine tt_istore d_StringLatin1_indexOfChar_2 (by decide) rfl ?_
  refine tt_iload_n d_StringLatin1_indexOfChar_4 rfl ?_
  refine tt_istore d_StringLatin1_indexOfChar_5 (by decide) rfl ?_
  exact s_ixC_l hj (sb j).length 0 rfl (by omega)

theorem s_canE {l : xLa} {d : Nat} {σ : xs} {m : Nat} (hm : m < 2 ^ 31) : TE l M_StringLatin1_canEncode (d + 1) [.int (nI m)] σ (some (.int (nI (if m ≤ 255 then 1 else 0)))) σ := by
  show T l M_StringLatin1_canEncode (d + 1) 0 _ [] σ _
  refine tt_iload_n d_StringLatin1_canEncode_0 rfl ?_
  refine tn_if_lt (t := 15) (by omega) d_StringLatin1_canEncode_1 (by decide) ?_
  refine tt_iload_n d_StringLatin1_canEncode_4 rfl ?_
  refine tt_sipush (v := nI 255) d_StringLatin1_canEncode_5 (by decide) ?_
  refine tn_ic_gt (t := 15) (by omega) (by omega) d_StringLatin1_canEncode_8 (by decide) (fun c_8 => ?_) (fun c_8 => ?_)
  · rw [if_neg (by omega)]
    refine tt_iconst (v := nI 0) d_StringLatin1_canEncode_15 (by decide) ?_
    refine tt_zret rfl rfl d_StringLatin1_canEncode_16 ?_
    exact ⟨rfl, rfl⟩
  · rw [if_pos (by omega)]
    refine tt_iconst (v := nI 1) d_StringLatin1_canEncode_11 (by decide) ?_
    refine tt_goto (t := 16) d_StringLatin1_canEncode_12 (by decide) ?_
    refine tt_zret rfl rfl d_StringLatin1_canEncode_16 ?_
    exact ⟨rfl, rfl⟩

theorem s_ixL {l : xLa} {d : Nat} {σ : xs} {j m : Nat} (hj : j < 8) (hm : m < 65536) (h0 : 0 < (sb j).length) : TE l M_StringLatin1_indexOf (d + 2) [.ref (xB + 20 + j), .int (nI m), .int (nI 0), .int (nI (sb j).length)] σ (some (.int (if m ≤ 255 then ixF (nI m).toInt8.toInt32 (sb j) 0 else -1))) σ := by
  have h9 := sb_len j hj
  have h2 : (if m ≤ 255 then 1 else 0) < 2 ^ 31 := by split <;> decide
  show T l M_StringLatin1_indexOf (d + 2) 0 _ [] σ _
  refine tt_iload_n d_StringLatin1_indexOf_0 rfl ?_
  refine tt_callS (s_canE (d := d) (by omega)) cw_StringLatin1_canEncode rfl (by omega) d_StringLatin1_indexOf_1 rfl rfl (Nat.le_of_ble_eq_true rfl) (Nat.le_of_ble_eq_true rfl) rfl rfl rfl (fun v σ2 q => ?_)
  obtain ⟨rfl, e9⟩ := q
  rw [e9]
  clear e9
  refine tn_if_ne (t := 9) (by omega) d_StringLatin1_indexOf_4 (by decide) (fun c_4 => ?_) (fun c_4 => ?_)
  · have hm2 : m ≤ 255 := Decidable.byContradiction (fun q => c_4 (if_neg q))
    rw [if_pos hm2]
    refine tt_iload_n d_StringLatin1_indexOf_9 rfl ?_
    refine tt_iconst (v := nI 0) d_StringLatin1_indexOf_10 (by decide) ?_
    refine tn_max (by omega) (by omega) d_StringLatin1_indexOf_11 rfl (Nat.le_of_ble_eq_true rfl) ?_
    refine tt_top (y := nI 0) rfl ?_
    refine tt_istore_n d_StringLatin1_indexOf_14 (by decide) rfl ?_
    refine tt_iload_n d_StringLatin1_indexOf_15 rfl ?_
    refine tt_aload_n d_StringLatin1_indexOf_16 rfl ?_
    refine E.tlB hj d_StringLatin1_indexOf_17 ?_
    refine tn_min (by omega) (by omega) d_StringLatin1_indexOf_18 rfl (Nat.le_of_ble_eq_true rfl) ?_
    refine tt_top (y := nI (sb j).length) (by rw [Nat.min_self]) ?_
    refine tt_istore_n d_StringLatin1_indexOf_21 (by decide) rfl ?_
    refine tt_iload_n d_StringLatin1_indexOf_22 rfl ?_
    refine tt_iload_n d_StringLatin1_indexOf_23 rfl ?_
    refine tn_ic_lt (t := 29) (by omega) (by omega) d_StringLatin1_indexOf_24 (by decide) (fun c_24 => ?_) (fun c_24 => ?_)
    · refine tt_aload_n d_StringLatin1_indexOf_29 rfl ?_
      refine tt_iload_n d_StringLatin1_indexOf_30 rfl ?_
      refine tt_iload_n d_StringLatin1_indexOf_31 rfl ?_
      refine tt_iload_n d_StringLatin1_indexOf_32 rfl ?_
      refine tt_callS (s_ixC (d := d) hj) cw_StringLatin1_indexOfChar rfl (by omega) d_StringLatin1_indexOf_33 rfl rfl (Nat.le_of_ble_eq_true rfl) (Nat.le_of_ble_eq_true rfl) rfl rfl rfl (fun v σ2 q => ?_)
      obtain ⟨rfl, e9⟩ := q
      rw [e9]
      clear e9
      refine tt_iret rfl d_StringLatin1_indexOf_36 ?_
      exact ⟨rfl, rfl⟩
    · omega
  · have hm2 : ¬ m ≤ 255 := fun q => by rw [if_pos q] at c_4; omega
    rw [if_neg hm2]
    refine tt_iconst (v := (-1)) d_StringLatin1_indexOf_7 (by decide) ?_
    refine tt_iret rfl d_StringLatin1_indexOf_8 ?_
    exact ⟨rfl, rfl⟩

theorem s_ix2 {l : xLa} {d : Nat} {σ : xs} {j m : Nat} (hj : j < 8) (hm : m < 65536) (h0 : 0 < (sb j).length) : TE l M_String_indexOf_2 (d + 3) [.ref (xB + 10 + j), .int (nI m), .int (nI 0)] σ (some (.int (if m ≤ 255 then ixF (nI m).toInt8.toInt32 (sb j) 0 else -1))) σ := by
  have h9 := sb_len j hj
  show T l M_String_indexOf_2 (d + 3) 0 _ [] σ _
  refine tt_aload_n d_String_indexOf_2_0 rfl ?_
  refine tt_callT (s_isLatin1 (d := d) hj) cw_String_isLatin1 rfl hj rfl (by omega) d_String_indexOf_2_1 rfl rfl (Nat.le_of_ble_eq_true rfl) (Nat.le_of_ble_eq_true rfl) rfl rfl rfl (fun v σ2 q => ?_)
  obtain ⟨rfl, e9⟩ := q
  rw [e9]
  clear e9
  refine tn_if_eq (t := 23) (by omega) d_String_indexOf_2_4 (by decide) (fun c_4 => ?_) (fun c_4 => ?_)
  · exact absurd c_4 (by decide)
  · refine tt_aload_n d_String_indexOf_2_7 rfl ?_
    refine E.getV hj xz_9 d_String_indexOf_2_8 ?_
    refine tt_iload_n d_String_indexOf_2_11 rfl ?_
    refine tt_iload_n d_String_indexOf_2_12 rfl ?_
    refine tt_aload_n d_String_indexOf_2_13 rfl ?_
    refine tt_callT (s_length (d := d) hj) cw_String_length rfl hj rfl (by omega) d_String_indexOf_2_14 rfl rfl (Nat.le_of_ble_eq_true rfl) (Nat.le_of_ble_eq_true rfl) rfl rfl rfl (fun v σ2 q => ?_)
    obtain ⟨rfl, e9⟩ := q
    rw [e9]
    clear e9
    refine tt_callS (s_ixL (d := d) hj hm h0) cw_StringLatin1_indexOf rfl (by omega) d_String_indexOf_2_17 rfl rfl (Nat.le_of_ble_eq_true rfl) (Nat.le_of_ble_eq_true rfl) rfl rfl rfl (fun v σ2 q => ?_)
    obtain ⟨rfl, e9⟩ := q
    rw [e9]
    clear e9
    refine tt_goto (t := 36) d_String_indexOf_2_20 (by decide) ?_
    refine tt_iret rfl d_String_indexOf_2_36 ?_
    exact ⟨rfl, rfl⟩

theorem s_ix {l : xLa} {d : Nat} {σ : xs} {j m : Nat} (hj : j < 8) (hm : m < 65536) (h0 : 0 < (sb j).length) : TE l M_String_indexOf (d + 4) [.ref (xB + 10 + j), .int (nI m)] σ (some (.int (if m ≤ 255 then ixF (nI m).toInt8.toInt32 (sb j) 0 else -1))) σ := by
  show T l M_String_indexOf (d + 4) 0 _ [] σ _
  refine tt_aload_n d_String_indexOf_0 rfl ?_
  refine tt_iload_n d_String_indexOf_1 rfl ?_
  refine tt_iconst (v := nI 0) d_String_indexOf_2 (by decide) ?_
  refine tt_callT (s_ix2 (d := d) hj hm h0) cw_String_indexOf_2 rfl hj rfl (by omega) d_String_indexOf_3 rfl rfl (Nat.le_of_ble_eq_true rfl) (Nat.le_of_ble_eq_true rfl) rfl rfl rfl (fun v σ2 q => ?_)
  obtain ⟨rfl, e9⟩ := q
  rw [e9]
  clear e9
  refine tt_iret rfl d_String_indexOf_6 ?_
  exact ⟨rfl, rfl⟩

