/-! Printed by wip/whole/gen_step.py. -/
theorem e_iadd {l : xLa} {M : mT} {d pc uc us len : Nat} {lv : List (Option Value)} {st : List Value} {h : xH} {Q : Option Value → xH → Prop} {x : xS} (hd : decode (mCd M) pc = .ok (.iadd, len)) (hs : s_ii (fun x y => x + y) len pc lv st h = some x) (k : E l M d x.1 x.2.1 x.2.2.1 x.2.2.2 uc us Q) : E l M d pc lv st h uc us Q := by
  obtain ⟨a, b, r, rfl, rfl, rfl⟩ := v_ii hs
  intro p e s m args below meth c D dA A ad H locs ls Qc free C SX hP hD hS hL hf hu hQ
  obtain ⟨hx, hb, hr, hlk, hml, hown, hts, hA, hK, hin⟩ := id C
  exact lv_iadd hx hb hd (k p e s m args below meth c D dA A ad H locs ls Qc free C SX hP hD hS hL hf hu hQ)
theorem e_isub {l : xLa} {M : mT} {d pc uc us len : Nat} {lv : List (Option Value)} {st : List Value} {h : xH} {Q : Option Value → xH → Prop} {x : xS} (hd : decode (mCd M) pc = .ok (.isub, len)) (hs : s_ii (fun x y => x - y) len pc lv st h = some x) (k : E l M d x.1 x.2.1 x.2.2.1 x.2.2.2 uc us Q) : E l M d pc lv st h uc us Q := by
  obtain ⟨a, b, r, rfl, rfl, rfl⟩ := v_ii hs
  intro p e s m args below meth c D dA A ad H locs ls Qc free C SX hP hD hS hL hf hu hQ
  obtain ⟨hx, hb, hr, hlk, hml, hown, hts, hA, hK, hin⟩ := id C
  exact lv_isub hx hb hd (k p e s m args below meth c D dA A ad H locs ls Qc free C SX hP hD hS hL hf hu hQ)
theorem e_imul {l : xLa} {M : mT} {d pc uc us len : Nat} {lv : List (Option Value)} {st : List Value} {h : xH} {Q : Option Value → xH → Prop} {x : xS} (hd : decode (mCd M) pc = .ok (.imul, len)) (hs : s_ii (fun x y => x * y) len pc lv st h = some x) (k : E l M d x.1 x.2.1 x.2.2.1 x.2.2.2 uc us Q) : E l M d pc lv st h uc us Q := by
  obtain ⟨a, b, r, rfl, rfl, rfl⟩ := v_ii hs
  intro p e s m args below meth c D dA A ad H locs ls Qc free C SX hP hD hS hL hf hu hQ
  obtain ⟨hx, hb, hr, hlk, hml, hown, hts, hA, hK, hin⟩ := id C
  exact lv_imul hx hb hd (k p e s m args below meth c D dA A ad H locs ls Qc free C SX hP hD hS hL hf hu hQ)
theorem e_iand {l : xLa} {M : mT} {d pc uc us len : Nat} {lv : List (Option Value)} {st : List Value} {h : xH} {Q : Option Value → xH → Prop} {x : xS} (hd : decode (mCd M) pc = .ok (.iand, len)) (hs : s_ii (fun x y => x &&& y) len pc lv st h = some x) (k : E l M d x.1 x.2.1 x.2.2.1 x.2.2.2 uc us Q) : E l M d pc lv st h uc us Q := by
  obtain ⟨a, b, r, rfl, rfl, rfl⟩ := v_ii hs
  intro p e s m args below meth c D dA A ad H locs ls Qc free C SX hP hD hS hL hf hu hQ
  obtain ⟨hx, hb, hr, hlk, hml, hown, hts, hA, hK, hin⟩ := id C
  exact lv_iand hx hb hd (k p e s m args below meth c D dA A ad H locs ls Qc free C SX hP hD hS hL hf hu hQ)
theorem e_ior {l : xLa} {M : mT} {d pc uc us len : Nat} {lv : List (Option Value)} {st : List Value} {h : xH} {Q : Option Value → xH → Prop} {x : xS} (hd : decode (mCd M) pc = .ok (.ior, len)) (hs : s_ii (fun x y => x ||| y) len pc lv st h = some x) (k : E l M d x.1 x.2.1 x.2.2.1 x.2.2.2 uc us Q) : E l M d pc lv st h uc us Q := by
  obtain ⟨a, b, r, rfl, rfl, rfl⟩ := v_ii hs
  intro p e s m args below meth c D dA A ad H locs ls Qc free C SX hP hD hS hL hf hu hQ
  obtain ⟨hx, hb, hr, hlk, hml, hown, hts, hA, hK, hin⟩ := id C
  exact lv_ior hx hb hd (k p e s m args below meth c D dA A ad H locs ls Qc free C SX hP hD hS hL hf hu hQ)
theorem e_ixor {l : xLa} {M : mT} {d pc uc us len : Nat} {lv : List (Option Value)} {st : List Value} {h : xH} {Q : Option Value → xH → Prop} {x : xS} (hd : decode (mCd M) pc = .ok (.ixor, len)) (hs : s_ii (fun x y => x ^^^ y) len pc lv st h = some x) (k : E l M d x.1 x.2.1 x.2.2.1 x.2.2.2 uc us Q) : E l M d pc lv st h uc us Q := by
  obtain ⟨a, b, r, rfl, rfl, rfl⟩ := v_ii hs
  intro p e s m args below meth c D dA A ad H locs ls Qc free C SX hP hD hS hL hf hu hQ
  obtain ⟨hx, hb, hr, hlk, hml, hown, hts, hA, hK, hin⟩ := id C
  exact lv_ixor hx hb hd (k p e s m args below meth c D dA A ad H locs ls Qc free C SX hP hD hS hL hf hu hQ)
theorem e_ishl {l : xLa} {M : mT} {d pc uc us len : Nat} {lv : List (Option Value)} {st : List Value} {h : xH} {Q : Option Value → xH → Prop} {x : xS} (hd : decode (mCd M) pc = .ok (.ishl, len)) (hs : s_ii (fun x y => x <<< (y &&& 31)) len pc lv st h = some x) (k : E l M d x.1 x.2.1 x.2.2.1 x.2.2.2 uc us Q) : E l M d pc lv st h uc us Q := by
  obtain ⟨a, b, r, rfl, rfl, rfl⟩ := v_ii hs
  intro p e s m args below meth c D dA A ad H locs ls Qc free C SX hP hD hS hL hf hu hQ
  obtain ⟨hx, hb, hr, hlk, hml, hown, hts, hA, hK, hin⟩ := id C
  exact lv_ishl hx hb hd (k p e s m args below meth c D dA A ad H locs ls Qc free C SX hP hD hS hL hf hu hQ)
theorem e_ishr {l : xLa} {M : mT} {d pc uc us len : Nat} {lv : List (Option Value)} {st : List Value} {h : xH} {Q : Option Value → xH → Prop} {x : xS} (hd : decode (mCd M) pc = .ok (.ishr, len)) (hs : s_ii (fun x y => x >>> (y &&& 31)) len pc lv st h = some x) (k : E l M d x.1 x.2.1 x.2.2.1 x.2.2.2 uc us Q) : E l M d pc lv st h uc us Q := by
  obtain ⟨a, b, r, rfl, rfl, rfl⟩ := v_ii hs
  intro p e s m args below meth c D dA A ad H locs ls Qc free C SX hP hD hS hL hf hu hQ
  obtain ⟨hx, hb, hr, hlk, hml, hown, hts, hA, hK, hin⟩ := id C
  exact lv_ishr hx hb hd (k p e s m args below meth c D dA A ad H locs ls Qc free C SX hP hD hS hL hf hu hQ)
theorem e_iushr {l : xLa} {M : mT} {d pc uc us len : Nat} {lv : List (Option Value)} {st : List Value} {h : xH} {Q : Option Value → xH → Prop} {x : xS} (hd : decode (mCd M) pc = .ok (.iushr, len)) (hs : s_ii (fun x y => (x.toUInt32 >>> (y.toUInt32 &&& Int32.toUInt32 31)).toInt32) len pc lv st h = some x) (k : E l M d x.1 x.2.1 x.2.2.1 x.2.2.2 uc us Q) : E l M d pc lv st h uc us Q := by
  obtain ⟨a, b, r, rfl, rfl, rfl⟩ := v_ii hs
  intro p e s m args below meth c D dA A ad H locs ls Qc free C SX hP hD hS hL hf hu hQ
  obtain ⟨hx, hb, hr, hlk, hml, hown, hts, hA, hK, hin⟩ := id C
  exact lv_iushr hx hb hd rfl (k p e s m args below meth c D dA A ad H locs ls Qc free C SX hP hD hS hL hf hu hQ)
theorem e_ineg {l : xLa} {M : mT} {d pc uc us len : Nat} {lv : List (Option Value)} {st : List Value} {h : xH} {Q : Option Value → xH → Prop} {x : xS} (hd : decode (mCd M) pc = .ok (.ineg, len)) (hs : s_i (fun x => .int (-x)) len pc lv st h = some x) (k : E l M d x.1 x.2.1 x.2.2.1 x.2.2.2 uc us Q) : E l M d pc lv st h uc us Q := by
  obtain ⟨a, r, rfl, rfl, rfl⟩ := v_i hs
  intro p e s m args below meth c D dA A ad H locs ls Qc free C SX hP hD hS hL hf hu hQ
  obtain ⟨hx, hb, hr, hlk, hml, hown, hts, hA, hK, hin⟩ := id C
  exact lv_ineg hx hb hd (k p e s m args below meth c D dA A ad H locs ls Qc free C SX hP hD hS hL hf hu hQ)
theorem e_i2l {l : xLa} {M : mT} {d pc uc us len : Nat} {lv : List (Option Value)} {st : List Value} {h : xH} {Q : Option Value → xH → Prop} {x : xS} (hd : decode (mCd M) pc = .ok (.i2l, len)) (hs : s_i (fun x => .long x.toInt64) len pc lv st h = some x) (k : E l M d x.1 x.2.1 x.2.2.1 x.2.2.2 uc us Q) : E l M d pc lv st h uc us Q := by
  obtain ⟨a, r, rfl, rfl, rfl⟩ := v_i hs
  intro p e s m args below meth c D dA A ad H locs ls Qc free C SX hP hD hS hL hf hu hQ
  obtain ⟨hx, hb, hr, hlk, hml, hown, hts, hA, hK, hin⟩ := id C
  exact lv_i2l hx hb hd rfl (k p e s m args below meth c D dA A ad H locs ls Qc free C SX hP hD hS hL hf hu hQ)
theorem e_i2b {l : xLa} {M : mT} {d pc uc us len : Nat} {lv : List (Option Value)} {st : List Value} {h : xH} {Q : Option Value → xH → Prop} {x : xS} (hd : decode (mCd M) pc = .ok (.i2b, len)) (hs : s_i (fun x => .int x.toInt8.toInt32) len pc lv st h = some x) (k : E l M d x.1 x.2.1 x.2.2.1 x.2.2.2 uc us Q) : E l M d pc lv st h uc us Q := by
  obtain ⟨a, r, rfl, rfl, rfl⟩ := v_i hs
  intro p e s m args below meth c D dA A ad H locs ls Qc free C SX hP hD hS hL hf hu hQ
  obtain ⟨hx, hb, hr, hlk, hml, hown, hts, hA, hK, hin⟩ := id C
  exact lv_i2b hx hb hd rfl (k p e s m args below meth c D dA A ad H locs ls Qc free C SX hP hD hS hL hf hu hQ)
theorem e_i2s {l : xLa} {M : mT} {d pc uc us len : Nat} {lv : List (Option Value)} {st : List Value} {h : xH} {Q : Option Value → xH → Prop} {x : xS} (hd : decode (mCd M) pc = .ok (.i2s, len)) (hs : s_i (fun x => .int x.toInt16.toInt32) len pc lv st h = some x) (k : E l M d x.1 x.2.1 x.2.2.1 x.2.2.2 uc us Q) : E l M d pc lv st h uc us Q := by
  obtain ⟨a, r, rfl, rfl, rfl⟩ := v_i hs
  intro p e s m args below meth c D dA A ad H locs ls Qc free C SX hP hD hS hL hf hu hQ
  obtain ⟨hx, hb, hr, hlk, hml, hown, hts, hA, hK, hin⟩ := id C
  exact lv_i2s hx hb hd rfl (k p e s m args below meth c D dA A ad H locs ls Qc free C SX hP hD hS hL hf hu hQ)
theorem e_i2c {l : xLa} {M : mT} {d pc uc us len : Nat} {lv : List (Option Value)} {st : List Value} {h : xH} {Q : Option Value → xH → Prop} {x : xS} (hd : decode (mCd M) pc = .ok (.i2c, len)) (hs : s_i (fun x => .int (x.toUInt32 % 65536).toInt32) len pc lv st h = some x) (k : E l M d x.1 x.2.1 x.2.2.1 x.2.2.2 uc us Q) : E l M d pc lv st h uc us Q := by
  obtain ⟨a, r, rfl, rfl, rfl⟩ := v_i hs
  intro p e s m args below meth c D dA A ad H locs ls Qc free C SX hP hD hS hL hf hu hQ
  obtain ⟨hx, hb, hr, hlk, hml, hown, hts, hA, hK, hin⟩ := id C
  exact lv_i2c hx hb hd rfl (k p e s m args below meth c D dA A ad H locs ls Qc free C SX hP hD hS hL hf hu hQ)
theorem e_ladd {l : xLa} {M : mT} {d pc uc us len : Nat} {lv : List (Option Value)} {st : List Value} {h : xH} {Q : Option Value → xH → Prop} {x : xS} (hd : decode (mCd M) pc = .ok (.ladd, len)) (hs : s_ll (fun x y => .long (x + y)) len pc lv st h = some x) (k : E l M d x.1 x.2.1 x.2.2.1 x.2.2.2 uc us Q) : E l M d pc lv st h uc us Q := by
  obtain ⟨a, b, r, rfl, rfl, rfl⟩ := v_ll hs
  intro p e s m args below meth c D dA A ad H locs ls Qc free C SX hP hD hS hL hf hu hQ
  obtain ⟨hx, hb, hr, hlk, hml, hown, hts, hA, hK, hin⟩ := id C
  exact lv_ladd hx hb hd (k p e s m args below meth c D dA A ad H locs ls Qc free C SX hP hD hS hL hf hu hQ)
theorem e_lsub {l : xLa} {M : mT} {d pc uc us len : Nat} {lv : List (Option Value)} {st : List Value} {h : xH} {Q : Option Value → xH → Prop} {x : xS} (hd : decode (mCd M) pc = .ok (.lsub, len)) (hs : s_ll (fun x y => .long (x - y)) len pc lv st h = some x) (k : E l M d x.1 x.2.1 x.2.2.1 x.2.2.2 uc us Q) : E l M d pc lv st h uc us Q := by
  obtain ⟨a, b, r, rfl, rfl, rfl⟩ := v_ll hs
  intro p e s m args below meth c D dA A ad H locs ls Qc free C SX hP hD hS hL hf hu hQ
  obtain ⟨hx, hb, hr, hlk, hml, hown, hts, hA, hK, hin⟩ := id C
  exact lv_lsub hx hb hd (k p e s m args below meth c D dA A ad H locs ls Qc free C SX hP hD hS hL hf hu hQ)
theorem e_lmul {l : xLa} {M : mT} {d pc uc us len : Nat} {lv : List (Option Value)} {st : List Value} {h : xH} {Q : Option Value → xH → Prop} {x : xS} (hd : decode (mCd M) pc = .ok (.lmul, len)) (hs : s_ll (fun x y => .long (x * y)) len pc lv st h = some x) (k : E l M d x.1 x.2.1 x.2.2.1 x.2.2.2 uc us Q) : E l M d pc lv st h uc us Q := by
  obtain ⟨a, b, r, rfl, rfl, rfl⟩ := v_ll hs
  intro p e s m args below meth c D dA A ad H locs ls Qc free C SX hP hD hS hL hf hu hQ
  obtain ⟨hx, hb, hr, hlk, hml, hown, hts, hA, hK, hin⟩ := id C
  exact lv_lmul hx hb hd (k p e s m args below meth c D dA A ad H locs ls Qc free C SX hP hD hS hL hf hu hQ)
theorem e_land {l : xLa} {M : mT} {d pc uc us len : Nat} {lv : List (Option Value)} {st : List Value} {h : xH} {Q : Option Value → xH → Prop} {x : xS} (hd : decode (mCd M) pc = .ok (.land, len)) (hs : s_ll (fun x y => .long (x &&& y)) len pc lv st h = some x) (k : E l M d x.1 x.2.1 x.2.2.1 x.2.2.2 uc us Q) : E l M d pc lv st h uc us Q := by
  obtain ⟨a, b, r, rfl, rfl, rfl⟩ := v_ll hs
  intro p e s m args below meth c D dA A ad H locs ls Qc free C SX hP hD hS hL hf hu hQ
  obtain ⟨hx, hb, hr, hlk, hml, hown, hts, hA, hK, hin⟩ := id C
  exact lv_land hx hb hd (k p e s m args below meth c D dA A ad H locs ls Qc free C SX hP hD hS hL hf hu hQ)
theorem e_lor {l : xLa} {M : mT} {d pc uc us len : Nat} {lv : List (Option Value)} {st : List Value} {h : xH} {Q : Option Value → xH → Prop} {x : xS} (hd : decode (mCd M) pc = .ok (.lor, len)) (hs : s_ll (fun x y => .long (x ||| y)) len pc lv st h = some x) (k : E l M d x.1 x.2.1 x.2.2.1 x.2.2.2 uc us Q) : E l M d pc lv st h uc us Q := by
  obtain ⟨a, b, r, rfl, rfl, rfl⟩ := v_ll hs
  intro p e s m args below meth c D dA A ad H locs ls Qc free C SX hP hD hS hL hf hu hQ
  obtain ⟨hx, hb, hr, hlk, hml, hown, hts, hA, hK, hin⟩ := id C
  exact lv_lor hx hb hd (k p e s m args below meth c D dA A ad H locs ls Qc free C SX hP hD hS hL hf hu hQ)
theorem e_lcmp {l : xLa} {M : mT} {d pc uc us len : Nat} {lv : List (Option Value)} {st : List Value} {h : xH} {Q : Option Value → xH → Prop} {x : xS} (hd : decode (mCd M) pc = .ok (.lcmp, len)) (hs : s_ll (fun x y => .int (lg_cmp x y)) len pc lv st h = some x) (k : E l M d x.1 x.2.1 x.2.2.1 x.2.2.2 uc us Q) : E l M d pc lv st h uc us Q := by
  obtain ⟨a, b, r, rfl, rfl, rfl⟩ := v_ll hs
  intro p e s m args below meth c D dA A ad H locs ls Qc free C SX hP hD hS hL hf hu hQ
  obtain ⟨hx, hb, hr, hlk, hml, hown, hts, hA, hK, hin⟩ := id C
  exact W.lcmp hx hb hd (k p e s m args below meth c D dA A ad H locs ls Qc free C SX hP hD hS hL hf hu hQ)
theorem e_lshl {l : xLa} {M : mT} {d pc uc us len : Nat} {lv : List (Option Value)} {st : List Value} {h : xH} {Q : Option Value → xH → Prop} {x : xS} (hd : decode (mCd M) pc = .ok (.lshl, len)) (hs : s_li (fun x y => x <<< (y.toInt64 &&& 63)) len pc lv st h = some x) (k : E l M d x.1 x.2.1 x.2.2.1 x.2.2.2 uc us Q) : E l M d pc lv st h uc us Q := by
  obtain ⟨a, b, r, rfl, rfl, rfl⟩ := v_li hs
  intro p e s m args below meth c D dA A ad H locs ls Qc free C SX hP hD hS hL hf hu hQ
  obtain ⟨hx, hb, hr, hlk, hml, hown, hts, hA, hK, hin⟩ := id C
  exact lv_lshl hx hb hd rfl (k p e s m args below meth c D dA A ad H locs ls Qc free C SX hP hD hS hL hf hu hQ)
theorem e_lshr {l : xLa} {M : mT} {d pc uc us len : Nat} {lv : List (Option Value)} {st : List Value} {h : xH} {Q : Option Value → xH → Prop} {x : xS} (hd : decode (mCd M) pc = .ok (.lshr, len)) (hs : s_li (fun x y => x >>> (y.toInt64 &&& 63)) len pc lv st h = some x) (k : E l M d x.1 x.2.1 x.2.2.1 x.2.2.2 uc us Q) : E l M d pc lv st h uc us Q := by
  obtain ⟨a, b, r, rfl, rfl, rfl⟩ := v_li hs
  intro p e s m args below meth c D dA A ad H locs ls Qc free C SX hP hD hS hL hf hu hQ
  obtain ⟨hx, hb, hr, hlk, hml, hown, hts, hA, hK, hin⟩ := id C
  exact lv_lshr hx hb hd rfl (k p e s m args below meth c D dA A ad H locs ls Qc free C SX hP hD hS hL hf hu hQ)
theorem e_lushr {l : xLa} {M : mT} {d pc uc us len : Nat} {lv : List (Option Value)} {st : List Value} {h : xH} {Q : Option Value → xH → Prop} {x : xS} (hd : decode (mCd M) pc = .ok (.lushr, len)) (hs : s_li (fun x y => (x.toUInt64 >>> (y.toInt64.toUInt64 &&& Int64.toUInt64 63)).toInt64) len pc lv st h = some x) (k : E l M d x.1 x.2.1 x.2.2.1 x.2.2.2 uc us Q) : E l M d pc lv st h uc us Q := by
  obtain ⟨a, b, r, rfl, rfl, rfl⟩ := v_li hs
  intro p e s m args below meth c D dA A ad H locs ls Qc free C SX hP hD hS hL hf hu hQ
  obtain ⟨hx, hb, hr, hlk, hml, hown, hts, hA, hK, hin⟩ := id C
  exact lv_lushr hx hb hd rfl (k p e s m args below meth c D dA A ad H locs ls Qc free C SX hP hD hS hL hf hu hQ)
theorem e_if_eq {l : xLa} {M : mT} {d pc uc us len : Nat} {lv : List (Option Value)} {st : List Value} {h : xH} {Q : Option Value → xH → Prop} {x : xS} {off : Int} (hd : decode (mCd M) pc = .ok (.ifCond .eq off, len)) (hs : s_if (fun x => x = 0) len pc lv st h off = some x) (k : E l M d x.1 x.2.1 x.2.2.1 x.2.2.2 uc us Q) : E l M d pc lv st h uc us Q := by
  obtain ⟨a, r, t, rfl, rfl, ht, rfl⟩ := v_if hs
  intro p e s m args below meth c D dA A ad H locs ls Qc free C SX hP hD hS hL hf hu hQ
  obtain ⟨hx, hb, hr, hlk, hml, hown, hts, hA, hK, hin⟩ := id C
  dsimp only at k
  exact lv_if_eq hx hb hd ht (fun g => by rw [if_pos g] at k; exact k p e s m args below meth c D dA A ad H locs ls Qc free C SX hP hD hS hL hf hu hQ) (fun g => by rw [if_neg g] at k; exact k p e s m args below meth c D dA A ad H locs ls Qc free C SX hP hD hS hL hf hu hQ)
theorem e_if_ne {l : xLa} {M : mT} {d pc uc us len : Nat} {lv : List (Option Value)} {st : List Value} {h : xH} {Q : Option Value → xH → Prop} {x : xS} {off : Int} (hd : decode (mCd M) pc = .ok (.ifCond .ne off, len)) (hs : s_if (fun x => ¬ x = 0) len pc lv st h off = some x) (k : E l M d x.1 x.2.1 x.2.2.1 x.2.2.2 uc us Q) : E l M d pc lv st h uc us Q := by
  obtain ⟨a, r, t, rfl, rfl, ht, rfl⟩ := v_if hs
  intro p e s m args below meth c D dA A ad H locs ls Qc free C SX hP hD hS hL hf hu hQ
  obtain ⟨hx, hb, hr, hlk, hml, hown, hts, hA, hK, hin⟩ := id C
  dsimp only at k
  exact lv_if_ne hx hb hd ht (fun g => by rw [if_pos g] at k; exact k p e s m args below meth c D dA A ad H locs ls Qc free C SX hP hD hS hL hf hu hQ) (fun g => by rw [if_neg (fun q => q g)] at k; exact k p e s m args below meth c D dA A ad H locs ls Qc free C SX hP hD hS hL hf hu hQ)
theorem e_if_lt {l : xLa} {M : mT} {d pc uc us len : Nat} {lv : List (Option Value)} {st : List Value} {h : xH} {Q : Option Value → xH → Prop} {x : xS} {off : Int} (hd : decode (mCd M) pc = .ok (.ifCond .lt off, len)) (hs : s_if (fun x => x < 0) len pc lv st h off = some x) (k : E l M d x.1 x.2.1 x.2.2.1 x.2.2.2 uc us Q) : E l M d pc lv st h uc us Q := by
  obtain ⟨a, r, t, rfl, rfl, ht, rfl⟩ := v_if hs
  intro p e s m args below meth c D dA A ad H locs ls Qc free C SX hP hD hS hL hf hu hQ
  obtain ⟨hx, hb, hr, hlk, hml, hown, hts, hA, hK, hin⟩ := id C
  dsimp only at k
  exact lv_if_lt hx hb hd ht (fun g => by rw [if_pos g] at k; exact k p e s m args below meth c D dA A ad H locs ls Qc free C SX hP hD hS hL hf hu hQ) (fun g => by rw [if_neg g] at k; exact k p e s m args below meth c D dA A ad H locs ls Qc free C SX hP hD hS hL hf hu hQ)
theorem e_if_ge {l : xLa} {M : mT} {d pc uc us len : Nat} {lv : List (Option Value)} {st : List Value} {h : xH} {Q : Option Value → xH → Prop} {x : xS} {off : Int} (hd : decode (mCd M) pc = .ok (.ifCond .ge off, len)) (hs : s_if (fun x => 0 ≤ x) len pc lv st h off = some x) (k : E l M d x.1 x.2.1 x.2.2.1 x.2.2.2 uc us Q) : E l M d pc lv st h uc us Q := by
  obtain ⟨a, r, t, rfl, rfl, ht, rfl⟩ := v_if hs
  intro p e s m args below meth c D dA A ad H locs ls Qc free C SX hP hD hS hL hf hu hQ
  obtain ⟨hx, hb, hr, hlk, hml, hown, hts, hA, hK, hin⟩ := id C
  dsimp only at k
  exact lv_if_ge hx hb hd ht (fun g => by rw [if_pos g] at k; exact k p e s m args below meth c D dA A ad H locs ls Qc free C SX hP hD hS hL hf hu hQ) (fun g => by rw [if_neg g] at k; exact k p e s m args below meth c D dA A ad H locs ls Qc free C SX hP hD hS hL hf hu hQ)
theorem e_if_gt {l : xLa} {M : mT} {d pc uc us len : Nat} {lv : List (Option Value)} {st : List Value} {h : xH} {Q : Option Value → xH → Prop} {x : xS} {off : Int} (hd : decode (mCd M) pc = .ok (.ifCond .gt off, len)) (hs : s_if (fun x => 0 < x) len pc lv st h off = some x) (k : E l M d x.1 x.2.1 x.2.2.1 x.2.2.2 uc us Q) : E l M d pc lv st h uc us Q := by
  obtain ⟨a, r, t, rfl, rfl, ht, rfl⟩ := v_if hs
  intro p e s m args below meth c D dA A ad H locs ls Qc free C SX hP hD hS hL hf hu hQ
  obtain ⟨hx, hb, hr, hlk, hml, hown, hts, hA, hK, hin⟩ := id C
  dsimp only at k
  exact lv_if_gt hx hb hd ht (fun g => by rw [if_pos g] at k; exact k p e s m args below meth c D dA A ad H locs ls Qc free C SX hP hD hS hL hf hu hQ) (fun g => by rw [if_neg g] at k; exact k p e s m args below meth c D dA A ad H locs ls Qc free C SX hP hD hS hL hf hu hQ)
theorem e_if_le {l : xLa} {M : mT} {d pc uc us len : Nat} {lv : List (Option Value)} {st : List Value} {h : xH} {Q : Option Value → xH → Prop} {x : xS} {off : Int} (hd : decode (mCd M) pc = .ok (.ifCond .le off, len)) (hs : s_if (fun x => x ≤ 0) len pc lv st h off = some x) (k : E l M d x.1 x.2.1 x.2.2.1 x.2.2.2 uc us Q) : E l M d pc lv st h uc us Q := by
  obtain ⟨a, r, t, rfl, rfl, ht, rfl⟩ := v_if hs
  intro p e s m args below meth c D dA A ad H locs ls Qc free C SX hP hD hS hL hf hu hQ
  obtain ⟨hx, hb, hr, hlk, hml, hown, hts, hA, hK, hin⟩ := id C
  dsimp only at k
  exact lv_if_le hx hb hd ht (fun g => by rw [if_pos g] at k; exact k p e s m args below meth c D dA A ad H locs ls Qc free C SX hP hD hS hL hf hu hQ) (fun g => by rw [if_neg g] at k; exact k p e s m args below meth c D dA A ad H locs ls Qc free C SX hP hD hS hL hf hu hQ)
theorem e_ic_eq {l : xLa} {M : mT} {d pc uc us len : Nat} {lv : List (Option Value)} {st : List Value} {h : xH} {Q : Option Value → xH → Prop} {x : xS} {off : Int} (hd : decode (mCd M) pc = .ok (.if_icmp .eq off, len)) (hs : s_ic (fun x y => x = y) len pc lv st h off = some x) (k : E l M d x.1 x.2.1 x.2.2.1 x.2.2.2 uc us Q) : E l M d pc lv st h uc us Q := by
  obtain ⟨a, b, r, t, rfl, rfl, ht, rfl⟩ := v_ic hs
  intro p e s m args below meth c D dA A ad H locs ls Qc free C SX hP hD hS hL hf hu hQ
  obtain ⟨hx, hb, hr, hlk, hml, hown, hts, hA, hK, hin⟩ := id C
  dsimp only at k
  exact lv_icmp_eq hx hb hd ht (fun g => by rw [if_pos g] at k; exact k p e s m args below meth c D dA A ad H locs ls Qc free C SX hP hD hS hL hf hu hQ) (fun g => by rw [if_neg g] at k; exact k p e s m args below meth c D dA A ad H locs ls Qc free C SX hP hD hS hL hf hu hQ)
theorem e_ic_ne {l : xLa} {M : mT} {d pc uc us len : Nat} {lv : List (Option Value)} {st : List Value} {h : xH} {Q : Option Value → xH → Prop} {x : xS} {off : Int} (hd : decode (mCd M) pc = .ok (.if_icmp .ne off, len)) (hs : s_ic (fun x y => ¬ x = y) len pc lv st h off = some x) (k : E l M d x.1 x.2.1 x.2.2.1 x.2.2.2 uc us Q) : E l M d pc lv st h uc us Q := by
  obtain ⟨a, b, r, t, rfl, rfl, ht, rfl⟩ := v_ic hs
  intro p e s m args below meth c D dA A ad H locs ls Qc free C SX hP hD hS hL hf hu hQ
  obtain ⟨hx, hb, hr, hlk, hml, hown, hts, hA, hK, hin⟩ := id C
  dsimp only at k
  exact lv_icmp_ne hx hb hd ht (fun g => by rw [if_pos g] at k; exact k p e s m args below meth c D dA A ad H locs ls Qc free C SX hP hD hS hL hf hu hQ) (fun g => by rw [if_neg (fun q => q g)] at k; exact k p e s m args below meth c D dA A ad H locs ls Qc free C SX hP hD hS hL hf hu hQ)
theorem e_ic_lt {l : xLa} {M : mT} {d pc uc us len : Nat} {lv : List (Option Value)} {st : List Value} {h : xH} {Q : Option Value → xH → Prop} {x : xS} {off : Int} (hd : decode (mCd M) pc = .ok (.if_icmp .lt off, len)) (hs : s_ic (fun x y => x < y) len pc lv st h off = some x) (k : E l M d x.1 x.2.1 x.2.2.1 x.2.2.2 uc us Q) : E l M d pc lv st h uc us Q := by
  obtain ⟨a, b, r, t, rfl, rfl, ht, rfl⟩ := v_ic hs
  intro p e s m args below meth c D dA A ad H locs ls Qc free C SX hP hD hS hL hf hu hQ
  obtain ⟨hx, hb, hr, hlk, hml, hown, hts, hA, hK, hin⟩ := id C
  dsimp only at k
  exact lv_icmp_lt hx hb hd ht (fun g => by rw [if_pos g] at k; exact k p e s m args below meth c D dA A ad H locs ls Qc free C SX hP hD hS hL hf hu hQ) (fun g => by rw [if_neg g] at k; exact k p e s m args below meth c D dA A ad H locs ls Qc free C SX hP hD hS hL hf hu hQ)
theorem e_ic_ge {l : xLa} {M : mT} {d pc uc us len : Nat} {lv : List (Option Value)} {st : List Value} {h : xH} {Q : Option Value → xH → Prop} {x : xS} {off : Int} (hd : decode (mCd M) pc = .ok (.if_icmp .ge off, len)) (hs : s_ic (fun x y => y ≤ x) len pc lv st h off = some x) (k : E l M d x.1 x.2.1 x.2.2.1 x.2.2.2 uc us Q) : E l M d pc lv st h uc us Q := by
  obtain ⟨a, b, r, t, rfl, rfl, ht, rfl⟩ := v_ic hs
  intro p e s m args below meth c D dA A ad H locs ls Qc free C SX hP hD hS hL hf hu hQ
  obtain ⟨hx, hb, hr, hlk, hml, hown, hts, hA, hK, hin⟩ := id C
  dsimp only at k
  exact lv_icmp_ge hx hb hd ht (fun g => by rw [if_pos g] at k; exact k p e s m args below meth c D dA A ad H locs ls Qc free C SX hP hD hS hL hf hu hQ) (fun g => by rw [if_neg g] at k; exact k p e s m args below meth c D dA A ad H locs ls Qc free C SX hP hD hS hL hf hu hQ)
theorem e_ic_gt {l : xLa} {M : mT} {d pc uc us len : Nat} {lv : List (Option Value)} {st : List Value} {h : xH} {Q : Option Value → xH → Prop} {x : xS} {off : Int} (hd : decode (mCd M) pc = .ok (.if_icmp .gt off, len)) (hs : s_ic (fun x y => y < x) len pc lv st h off = some x) (k : E l M d x.1 x.2.1 x.2.2.1 x.2.2.2 uc us Q) : E l M d pc lv st h uc us Q := by
  obtain ⟨a, b, r, t, rfl, rfl, ht, rfl⟩ := v_ic hs
  intro p e s m args below meth c D dA A ad H locs ls Qc free C SX hP hD hS hL hf hu hQ
  obtain ⟨hx, hb, hr, hlk, hml, hown, hts, hA, hK, hin⟩ := id C
  dsimp only at k
  exact lv_icmp_gt hx hb hd ht (fun g => by rw [if_pos g] at k; exact k p e s m args below meth c D dA A ad H locs ls Qc free C SX hP hD hS hL hf hu hQ) (fun g => by rw [if_neg g] at k; exact k p e s m args below meth c D dA A ad H locs ls Qc free C SX hP hD hS hL hf hu hQ)
theorem e_ic_le {l : xLa} {M : mT} {d pc uc us len : Nat} {lv : List (Option Value)} {st : List Value} {h : xH} {Q : Option Value → xH → Prop} {x : xS} {off : Int} (hd : decode (mCd M) pc = .ok (.if_icmp .le off, len)) (hs : s_ic (fun x y => x ≤ y) len pc lv st h off = some x) (k : E l M d x.1 x.2.1 x.2.2.1 x.2.2.2 uc us Q) : E l M d pc lv st h uc us Q := by
  obtain ⟨a, b, r, t, rfl, rfl, ht, rfl⟩ := v_ic hs
  intro p e s m args below meth c D dA A ad H locs ls Qc free C SX hP hD hS hL hf hu hQ
  obtain ⟨hx, hb, hr, hlk, hml, hown, hts, hA, hK, hin⟩ := id C
  dsimp only at k
  exact lv_icmp_le hx hb hd ht (fun g => by rw [if_pos g] at k; exact k p e s m args below meth c D dA A ad H locs ls Qc free C SX hP hD hS hL hf hu hQ) (fun g => by rw [if_neg g] at k; exact k p e s m args below meth c D dA A ad H locs ls Qc free C SX hP hD hS hL hf hu hQ)
theorem e_iload {l : xLa} {M : mT} {d pc uc us len : Nat} {lv : List (Option Value)} {st : List Value} {h : xH} {Q : Option Value → xH → Prop} {x : xS} {i : Nat} (hd : decode (mCd M) pc = .ok (.iload i, len)) (hs : s_ld len 2 pc lv st h 0 i = some x) (k : E l M d x.1 x.2.1 x.2.2.1 x.2.2.2 uc us Q) : E l M d pc lv st h uc us Q := by
  obtain ⟨v, hv, rfl, rfl, hc⟩ := v_ld hs
  intro p e s m args below meth c D dA A ad H locs ls Qc free C SX hP hD hS hL hf hu hQ
  obtain ⟨hx, hb, hr, hlk, hml, hown, hts, hA, hK, hin⟩ := id C
  rcases hc with ⟨-, a, rfl⟩ | ⟨g, -⟩ | ⟨g, -⟩
  · exact lv_iload hx hb hd (hL.2.2 _ _ hv) (k p e s m args below meth c D dA A ad H locs ls Qc free C SX hP hD hS hL hf hu hQ)
  · exact absurd g (by decide)
  · exact absurd g (by decide)
theorem e_iload_n {l : xLa} {M : mT} {d pc uc us len : Nat} {lv : List (Option Value)} {st : List Value} {h : xH} {Q : Option Value → xH → Prop} {x : xS} {i : Fin 4} (hd : decode (mCd M) pc = .ok (.iload_n i, len)) (hs : s_ld len 1 pc lv st h 0 (i : Nat) = some x) (k : E l M d x.1 x.2.1 x.2.2.1 x.2.2.2 uc us Q) : E l M d pc lv st h uc us Q := by
  obtain ⟨v, hv, rfl, rfl, hc⟩ := v_ld hs
  intro p e s m args below meth c D dA A ad H locs ls Qc free C SX hP hD hS hL hf hu hQ
  obtain ⟨hx, hb, hr, hlk, hml, hown, hts, hA, hK, hin⟩ := id C
  rcases hc with ⟨-, a, rfl⟩ | ⟨g, -⟩ | ⟨g, -⟩
  · exact lv_iload_n hx hb hd rfl (hL.2.2 _ _ hv) (k p e s m args below meth c D dA A ad H locs ls Qc free C SX hP hD hS hL hf hu hQ)
  · exact absurd g (by decide)
  · exact absurd g (by decide)
theorem e_lload {l : xLa} {M : mT} {d pc uc us len : Nat} {lv : List (Option Value)} {st : List Value} {h : xH} {Q : Option Value → xH → Prop} {x : xS} {i : Nat} (hd : decode (mCd M) pc = .ok (.lload i, len)) (hs : s_ld len 2 pc lv st h 1 i = some x) (k : E l M d x.1 x.2.1 x.2.2.1 x.2.2.2 uc us Q) : E l M d pc lv st h uc us Q := by
  obtain ⟨v, hv, rfl, rfl, hc⟩ := v_ld hs
  intro p e s m args below meth c D dA A ad H locs ls Qc free C SX hP hD hS hL hf hu hQ
  obtain ⟨hx, hb, hr, hlk, hml, hown, hts, hA, hK, hin⟩ := id C
  rcases hc with ⟨g, -⟩ | ⟨-, a, rfl⟩ | ⟨g, -⟩
  · exact absurd g (by decide)
  · exact lv_lload hx hb hd (hL.2.2 _ _ hv) (k p e s m args below meth c D dA A ad H locs ls Qc free C SX hP hD hS hL hf hu hQ)
  · exact absurd g (by decide)
theorem e_lload_n {l : xLa} {M : mT} {d pc uc us len : Nat} {lv : List (Option Value)} {st : List Value} {h : xH} {Q : Option Value → xH → Prop} {x : xS} {i : Fin 4} (hd : decode (mCd M) pc = .ok (.lload_n i, len)) (hs : s_ld len 1 pc lv st h 1 (i : Nat) = some x) (k : E l M d x.1 x.2.1 x.2.2.1 x.2.2.2 uc us Q) : E l M d pc lv st h uc us Q := by
  obtain ⟨v, hv, rfl, rfl, hc⟩ := v_ld hs
  intro p e s m args below meth c D dA A ad H locs ls Qc free C SX hP hD hS hL hf hu hQ
  obtain ⟨hx, hb, hr, hlk, hml, hown, hts, hA, hK, hin⟩ := id C
  rcases hc with ⟨g, -⟩ | ⟨-, a, rfl⟩ | ⟨g, -⟩
  · exact absurd g (by decide)
  · exact lv_lload_n hx hb hd rfl (hL.2.2 _ _ hv) (k p e s m args below meth c D dA A ad H locs ls Qc free C SX hP hD hS hL hf hu hQ)
  · exact absurd g (by decide)
theorem e_aload {l : xLa} {M : mT} {d pc uc us len : Nat} {lv : List (Option Value)} {st : List Value} {h : xH} {Q : Option Value → xH → Prop} {x : xS} {i : Nat} (hd : decode (mCd M) pc = .ok (.aload i, len)) (hs : s_ld len 2 pc lv st h 2 i = some x) (k : E l M d x.1 x.2.1 x.2.2.1 x.2.2.2 uc us Q) : E l M d pc lv st h uc us Q := by
  obtain ⟨v, hv, rfl, rfl, hc⟩ := v_ld hs
  intro p e s m args below meth c D dA A ad H locs ls Qc free C SX hP hD hS hL hf hu hQ
  obtain ⟨hx, hb, hr, hlk, hml, hown, hts, hA, hK, hin⟩ := id C
  rcases hc with ⟨g, -⟩ | ⟨g, -⟩ | ⟨-, a, rfl⟩
  · exact absurd g (by decide)
  · exact absurd g (by decide)
  · exact lv_aload hx hb hd (hL.2.2 _ _ hv) (k p e s m args below meth c D dA A ad H locs ls Qc free C SX hP hD hS hL hf hu hQ)
theorem e_aload_n {l : xLa} {M : mT} {d pc uc us len : Nat} {lv : List (Option Value)} {st : List Value} {h : xH} {Q : Option Value → xH → Prop} {x : xS} {i : Fin 4} (hd : decode (mCd M) pc = .ok (.aload_n i, len)) (hs : s_ld len 1 pc lv st h 2 (i : Nat) = some x) (k : E l M d x.1 x.2.1 x.2.2.1 x.2.2.2 uc us Q) : E l M d pc lv st h uc us Q := by
  obtain ⟨v, hv, rfl, rfl, hc⟩ := v_ld hs
  intro p e s m args below meth c D dA A ad H locs ls Qc free C SX hP hD hS hL hf hu hQ
  obtain ⟨hx, hb, hr, hlk, hml, hown, hts, hA, hK, hin⟩ := id C
  rcases hc with ⟨g, -⟩ | ⟨g, -⟩ | ⟨-, a, rfl⟩
  · exact absurd g (by decide)
  · exact absurd g (by decide)
  · exact lv_aload_n hx hb hd rfl (hL.2.2 _ _ hv) (k p e s m args below meth c D dA A ad H locs ls Qc free C SX hP hD hS hL hf hu hQ)
theorem e_istore {l : xLa} {M : mT} {d pc uc us len : Nat} {lv : List (Option Value)} {st : List Value} {h : xH} {Q : Option Value → xH → Prop} {x : xS} {i : Nat} (hd : decode (mCd M) pc = .ok (.istore i, len)) (hs : s_st M len 2 pc lv st h 0 i = some x) (k : E l M d x.1 x.2.1 x.2.2.1 x.2.2.2 uc us Q) : E l M d pc lv st h uc us Q := by
  obtain ⟨v, r, rfl, rfl, hc⟩ := v_st hs
  intro p e s m args below meth c D dA A ad H locs ls Qc free C SX hP hD hS hL hf hu hQ
  obtain ⟨hx, hb, hr, hlk, hml, hown, hts, hA, hK, hin⟩ := id C
  rcases hc with ⟨-, ⟨a, rfl⟩, hi, rfl⟩ | ⟨g, -⟩ | ⟨g, -⟩
  · exact lv_istore hx hb hd hL.has hi rfl (fun ls hl => k p e s m args below meth c D dA A ad H locs ls Qc free C SX hP hD hS (LH.st1 hl) hf hu hQ)
  · exact absurd g (by decide)
  · exact absurd g (by decide)
theorem e_istore_n {l : xLa} {M : mT} {d pc uc us len : Nat} {lv : List (Option Value)} {st : List Value} {h : xH} {Q : Option Value → xH → Prop} {x : xS} {i : Fin 4} (hd : decode (mCd M) pc = .ok (.istore_n i, len)) (hs : s_st M len 1 pc lv st h 0 (i : Nat) = some x) (k : E l M d x.1 x.2.1 x.2.2.1 x.2.2.2 uc us Q) : E l M d pc lv st h uc us Q := by
  obtain ⟨v, r, rfl, rfl, hc⟩ := v_st hs
  intro p e s m args below meth c D dA A ad H locs ls Qc free C SX hP hD hS hL hf hu hQ
  obtain ⟨hx, hb, hr, hlk, hml, hown, hts, hA, hK, hin⟩ := id C
  rcases hc with ⟨-, ⟨a, rfl⟩, hi, rfl⟩ | ⟨g, -⟩ | ⟨g, -⟩
  · exact lv_istore_n hx hb hd rfl hL.has hi rfl (fun ls hl => k p e s m args below meth c D dA A ad H locs ls Qc free C SX hP hD hS (LH.st1 hl) hf hu hQ)
  · exact absurd g (by decide)
  · exact absurd g (by decide)
theorem e_lstore {l : xLa} {M : mT} {d pc uc us len : Nat} {lv : List (Option Value)} {st : List Value} {h : xH} {Q : Option Value → xH → Prop} {x : xS} {i : Nat} (hd : decode (mCd M) pc = .ok (.lstore i, len)) (hs : s_st M len 2 pc lv st h 1 i = some x) (k : E l M d x.1 x.2.1 x.2.2.1 x.2.2.2 uc us Q) : E l M d pc lv st h uc us Q := by
  obtain ⟨v, r, rfl, rfl, hc⟩ := v_st hs
  intro p e s m args below meth c D dA A ad H locs ls Qc free C SX hP hD hS hL hf hu hQ
  obtain ⟨hx, hb, hr, hlk, hml, hown, hts, hA, hK, hin⟩ := id C
  rcases hc with ⟨g, -⟩ | ⟨-, ⟨a, rfl⟩, hi, rfl⟩ | ⟨g, -⟩
  · exact absurd g (by decide)
  · exact lv_lstore hx hb hd hL.has hi rfl (fun ls hl => k p e s m args below meth c D dA A ad H locs ls Qc free C SX hP hD hS (LH.st2 hl) hf hu hQ)
  · exact absurd g (by decide)
theorem e_lstore_n {l : xLa} {M : mT} {d pc uc us len : Nat} {lv : List (Option Value)} {st : List Value} {h : xH} {Q : Option Value → xH → Prop} {x : xS} {i : Fin 4} (hd : decode (mCd M) pc = .ok (.lstore_n i, len)) (hs : s_st M len 1 pc lv st h 1 (i : Nat) = some x) (k : E l M d x.1 x.2.1 x.2.2.1 x.2.2.2 uc us Q) : E l M d pc lv st h uc us Q := by
  obtain ⟨v, r, rfl, rfl, hc⟩ := v_st hs
  intro p e s m args below meth c D dA A ad H locs ls Qc free C SX hP hD hS hL hf hu hQ
  obtain ⟨hx, hb, hr, hlk, hml, hown, hts, hA, hK, hin⟩ := id C
  rcases hc with ⟨g, -⟩ | ⟨-, ⟨a, rfl⟩, hi, rfl⟩ | ⟨g, -⟩
  · exact absurd g (by decide)
  · exact lv_lstore_n hx hb hd rfl hL.has hi rfl (fun ls hl => k p e s m args below meth c D dA A ad H locs ls Qc free C SX hP hD hS (LH.st2 hl) hf hu hQ)
  · exact absurd g (by decide)
theorem e_astore {l : xLa} {M : mT} {d pc uc us len : Nat} {lv : List (Option Value)} {st : List Value} {h : xH} {Q : Option Value → xH → Prop} {x : xS} {i : Nat} (hd : decode (mCd M) pc = .ok (.astore i, len)) (hs : s_st M len 2 pc lv st h 2 i = some x) (k : E l M d x.1 x.2.1 x.2.2.1 x.2.2.2 uc us Q) : E l M d pc lv st h uc us Q := by
  obtain ⟨v, r, rfl, rfl, hc⟩ := v_st hs
  intro p e s m args below meth c D dA A ad H locs ls Qc free C SX hP hD hS hL hf hu hQ
  obtain ⟨hx, hb, hr, hlk, hml, hown, hts, hA, hK, hin⟩ := id C
  rcases hc with ⟨g, -⟩ | ⟨g, -⟩ | ⟨-, ⟨a, rfl⟩, hi, rfl⟩
  · exact absurd g (by decide)
  · exact absurd g (by decide)
  · exact lv_astore hx hb hd hL.has hi rfl (fun ls hl => k p e s m args below meth c D dA A ad H locs ls Qc free C SX hP hD hS (LH.st1 hl) hf hu hQ)
theorem e_astore_n {l : xLa} {M : mT} {d pc uc us len : Nat} {lv : List (Option Value)} {st : List Value} {h : xH} {Q : Option Value → xH → Prop} {x : xS} {i : Fin 4} (hd : decode (mCd M) pc = .ok (.astore_n i, len)) (hs : s_st M len 1 pc lv st h 2 (i : Nat) = some x) (k : E l M d x.1 x.2.1 x.2.2.1 x.2.2.2 uc us Q) : E l M d pc lv st h uc us Q := by
  obtain ⟨v, r, rfl, rfl, hc⟩ := v_st hs
  intro p e s m args below meth c D dA A ad H locs ls Qc free C SX hP hD hS hL hf hu hQ
  obtain ⟨hx, hb, hr, hlk, hml, hown, hts, hA, hK, hin⟩ := id C
  rcases hc with ⟨g, -⟩ | ⟨g, -⟩ | ⟨-, ⟨a, rfl⟩, hi, rfl⟩
  · exact absurd g (by decide)
  · exact absurd g (by decide)
  · exact lv_astore_n hx hb hd rfl hL.has hi rfl (fun ls hl => k p e s m args below meth c D dA A ad H locs ls Qc free C SX hP hD hS (LH.st1 hl) hf hu hQ)
