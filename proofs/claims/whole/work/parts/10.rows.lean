section
variable {l : xLa} {M : mT} {d pc uc us len : Nat} {lv : List (Option Value)} {st : List Value} {h : xH} {Q : Option Value → xH → Prop} {x : xS}
theorem e_iconst {n : Int} (hd : decode (mCd M) pc = .ok (.iconst n, len)) (hs : (if len = 1 then some (pc + 1, lv, Value.int (Int32.ofInt n) :: st, h) else none) = some x) (k : E l M d x.1 x.2.1 x.2.2.1 x.2.2.2 uc us Q) : E l M d pc lv st h uc us Q := by
  split at hs
  · rename_i e; subst e; cases hs
    intro p e s m args below meth c D dA A ad H locs ls Qc free C SX hP hD hS hL hf hu hQ
    obtain ⟨hx, hb, hr, hlk, hml, hown, hts, hA, hK, hin⟩ := id C
    exact lv_iconst hx hb hd rfl (k p e s m args below meth c D dA A ad H locs ls Qc free C SX hP hD hS hL hf hu hQ)
  · cases hs
theorem e_bipush {n : Int} (hd : decode (mCd M) pc = .ok (.bipush n, len)) (hs : (if len = 2 then some (pc + 2, lv, Value.int (Int8.ofInt n).toInt32 :: st, h) else none) = some x) (k : E l M d x.1 x.2.1 x.2.2.1 x.2.2.2 uc us Q) : E l M d pc lv st h uc us Q := by
  split at hs
  · rename_i e; subst e; cases hs
    intro p e s m args below meth c D dA A ad H locs ls Qc free C SX hP hD hS hL hf hu hQ
    obtain ⟨hx, hb, hr, hlk, hml, hown, hts, hA, hK, hin⟩ := id C
    exact lv_bipush hx hb hd rfl (k p e s m args below meth c D dA A ad H locs ls Qc free C SX hP hD hS hL hf hu hQ)
  · cases hs
theorem e_sipush {n : Int} (hd : decode (mCd M) pc = .ok (.sipush n, len)) (hs : (if len = 3 then some (pc + 3, lv, Value.int (Int16.ofInt n).toInt32 :: st, h) else none) = some x) (k : E l M d x.1 x.2.1 x.2.2.1 x.2.2.2 uc us Q) : E l M d pc lv st h uc us Q := by
  split at hs
  · rename_i e; subst e; cases hs
    intro p e s m args below meth c D dA A ad H locs ls Qc free C SX hP hD hS hL hf hu hQ
    obtain ⟨hx, hb, hr, hlk, hml, hown, hts, hA, hK, hin⟩ := id C
    exact lv_sipush hx hb hd rfl (k p e s m args below meth c D dA A ad H locs ls Qc free C SX hP hD hS hL hf hu hQ)
  · cases hs
theorem e_lconst {n : Fin 2} (hd : decode (mCd M) pc = .ok (.lconst n, len)) (hs : (if len = 1 then some (pc + 1, lv, Value.long (Int64.ofNat (n : Nat)) :: st, h) else none) = some x) (k : E l M d x.1 x.2.1 x.2.2.1 x.2.2.2 uc us Q) : E l M d pc lv st h uc us Q := by
  split at hs
  · rename_i e; subst e; cases hs
    intro p e s m args below meth c D dA A ad H locs ls Qc free C SX hP hD hS hL hf hu hQ
    obtain ⟨hx, hb, hr, hlk, hml, hown, hts, hA, hK, hin⟩ := id C
    exact lv_lconst hx hb hd rfl (k p e s m args below meth c D dA A ad H locs ls Qc free C SX hP hD hS hL hf hu hQ)
  · cases hs
theorem e_goto {off : Int} (hd : decode (mCd M) pc = .ok (.goto off, len)) (hs : (match xj pc off with | some t => if len = 3 then some (t, lv, st, h) else none | none => none) = some x) (k : E l M d x.1 x.2.1 x.2.2.1 x.2.2.2 uc us Q) : E l M d pc lv st h uc us Q := by
  split at hs
  · rename_i t ht
    split at hs
    · rename_i e; subst e; cases hs
      intro p e s m args below meth c D dA A ad H locs ls Qc free C SX hP hD hS hL hf hu hQ
      obtain ⟨hx, hb, hr, hlk, hml, hown, hts, hA, hK, hin⟩ := id C
      exact lv_goto hx hb hd (xj_ok ht) (k p e s m args below meth c D dA A ad H locs ls Qc free C SX hP hD hS hL hf hu hQ)
    · cases hs
  · cases hs
theorem xKI_w {o i p : Nat} {v : Int32} (h : xlk xKI o i = some (v, p)) : Cond.constant (xown.getD o "") i v ∈ xG := by
  have h1 := xKI_ok o (show o < 28 from xlk_lt h) _ (xlk_mem h)
  exact xG_at h1 rfl
theorem xKL_w {o i p : Nat} {v : Int64} (h : xlk xKL o i = some (v, p)) : Cond.constantLong (xown.getD o "") i v ∈ xG := by
  have h1 := xKL_ok o (show o < 28 from xlk_lt h) _ (xlk_mem h)
  exact xG_at h1 rfl
theorem e_ldc {i : Nat} (hd : decode (mCd M) pc = .ok (.ldc i, len)) (hs : (match xlk xKI M.1 i with | some (v, _) => if len = 2 then some (pc + 2, lv, Value.int v :: st, h) else none | none => none) = some x) (k : E l M d x.1 x.2.1 x.2.2.1 x.2.2.2 uc us Q) : E l M d pc lv st h uc us Q := by
  split at hs
  · rename_i v z hv
    split at hs
    · rename_i e; subst e; cases hs
      intro p e s m args below meth c D dA A ad H locs ls Qc free C SX hP hD hS hL hf hu hQ
      obtain ⟨hx, hb, hr, hlk, hml, hown, hts, hA, hK, hin⟩ := id C
      exact lv_ldc hx hb hown (hts _ (xKI_w hv)) hd (k p e s m args below meth c D dA A ad H locs ls Qc free C SX hP hD hS hL hf hu hQ)
    · cases hs
  · cases hs
theorem e_ldc_w {i : Nat} (hd : decode (mCd M) pc = .ok (.ldc_w i, len)) (hs : (match xlk xKI M.1 i with | some (v, _) => if len = 3 then some (pc + 3, lv, Value.int v :: st, h) else none | none => none) = some x) (k : E l M d x.1 x.2.1 x.2.2.1 x.2.2.2 uc us Q) : E l M d pc lv st h uc us Q := by
  split at hs
  · rename_i v z hv
    split at hs
    · rename_i e; subst e; cases hs
      intro p e s m args below meth c D dA A ad H locs ls Qc free C SX hP hD hS hL hf hu hQ
      obtain ⟨hx, hb, hr, hlk, hml, hown, hts, hA, hK, hin⟩ := id C
      exact lv_ldcw hx hb hown (hts _ (xKI_w hv)) hd (k p e s m args below meth c D dA A ad H locs ls Qc free C SX hP hD hS hL hf hu hQ)
    · cases hs
  · cases hs
theorem e_ldc2_w {i : Nat} (hd : decode (mCd M) pc = .ok (.ldc2_w i, len)) (hs : (match xlk xKL M.1 i with | some (v, _) => if len = 3 then some (pc + 3, lv, Value.long v :: st, h) else none | none => none) = some x) (k : E l M d x.1 x.2.1 x.2.2.1 x.2.2.2 uc us Q) : E l M d pc lv st h uc us Q := by
  split at hs
  · rename_i v z hv
    split at hs
    · rename_i e; subst e; cases hs
      intro p e s m args below meth c D dA A ad H locs ls Qc free C SX hP hD hS hL hf hu hQ
      obtain ⟨hx, hb, hr, hlk, hml, hown, hts, hA, hK, hin⟩ := id C
      exact lv_ldc2 hx hb hown (hts _ (xKL_w hv)) hd (k p e s m args below meth c D dA A ad H locs ls Qc free C SX hP hD hS hL hf hu hQ)
    · cases hs
  · cases hs
theorem e_iinc {i : Nat} {n : Int} (hd : decode (mCd M) pc = .ok (.iinc i n, len)) (hs : s_iinc M len pc lv st h i n = some x) (k : E l M d x.1 x.2.1 x.2.2.1 x.2.2.2 uc us Q) : E l M d pc lv st h uc us Q := by
  unfold s_iinc at hs
  split at hs
  · rename_i v hv
    split at hs
    · rename_i e; obtain ⟨rfl, hi⟩ := e; cases hs
      intro p e s m args below meth c D dA A ad H locs ls Qc free C SX hP hD hS hL hf hu hQ
      obtain ⟨hx, hb, hr, hlk, hml, hown, hts, hA, hK, hin⟩ := id C
      have hm : (i, Value.int v) ∈ asc ad lv := mem_asc.mpr ⟨.int v, hv, rfl⟩
      obtain ⟨q, hq⟩ := List.getElem?_of_mem hm
      exact lv_iinc hx hb hd hL.has hq rfl hi rfl (fun ls hl => k p e s m args below meth c D dA A ad H locs ls Qc free C SX hP hD hS (LH.st1 hl) hf hu hQ)
    · cases hs
  · cases hs
theorem e_dup (hd : decode (mCd M) pc = .ok (.dup, len)) (hs : s_dup len pc lv st h = some x) (k : E l M d x.1 x.2.1 x.2.2.1 x.2.2.2 uc us Q) : E l M d pc lv st h uc us Q := by
  unfold s_dup at hs
  split at hs
  · split at hs
    · rename_i e; obtain ⟨rfl, hc⟩ := e; cases hs
      intro p e s m args below meth c D dA A ad H locs ls Qc free C SX hP hD hS hL hf hu hQ
      obtain ⟨hx, hb, hr, hlk, hml, hown, hts, hA, hK, hin⟩ := id C
      exact lv_dup hx hb hd (by rw [trV_cat]; exact hc) (k p e s m args below meth c D dA A ad H locs ls Qc free C SX hP hD hS hL hf hu hQ)
    · cases hs
  · cases hs
theorem e_pop (hd : decode (mCd M) pc = .ok (.pop, len)) (hs : s_pop len pc lv st h = some x) (k : E l M d x.1 x.2.1 x.2.2.1 x.2.2.2 uc us Q) : E l M d pc lv st h uc us Q := by
  unfold s_pop at hs
  split at hs
  · split at hs
    · rename_i e; obtain ⟨rfl, hc⟩ := e; cases hs
      intro p e s m args below meth c D dA A ad H locs ls Qc free C SX hP hD hS hL hf hu hQ
      obtain ⟨hx, hb, hr, hlk, hml, hown, hts, hA, hK, hin⟩ := id C
      exact lv_pop hx hb hd (by rw [trV_cat]; exact hc) (k p e s m args below meth c D dA A ad H locs ls Qc free C SX hP hD hS hL hf hu hQ)
    · cases hs
  · cases hs
theorem e_dup2 (hd : decode (mCd M) pc = .ok (.dup2, len)) (hs : s_dup2 len pc lv st h = some x) (k : E l M d x.1 x.2.1 x.2.2.1 x.2.2.2 uc us Q) : E l M d pc lv st h uc us Q := by
  unfold s_dup2 at hs
  split at hs
  · split at hs
    · rename_i e; obtain ⟨rfl, hc, hc2⟩ := e; cases hs
      intro p e s m args below meth c D dA A ad H locs ls Qc free C SX hP hD hS hL hf hu hQ
      obtain ⟨hx, hb, hr, hlk, hml, hown, hts, hA, hK, hin⟩ := id C
      exact lv_dup2_11 hx hb hd (by rw [trV_cat]; exact hc) (by rw [trV_cat]; exact hc2) (k p e s m args below meth c D dA A ad H locs ls Qc free C SX hP hD hS hL hf hu hQ)
    · cases hs
  · cases hs
theorem e_idiv (hd : decode (mCd M) pc = .ok (.idiv, len)) (hs : (match st with | .int y :: .int x :: r => if len = 1 ∧ ¬ y = 0 then some (pc + 1, lv, Value.int (x / y) :: r, h) else none | _ => none) = some x) (k : E l M d x.1 x.2.1 x.2.2.1 x.2.2.2 uc us Q) : E l M d pc lv st h uc us Q := by
  split at hs
  · split at hs
    · rename_i e; obtain ⟨rfl, hc⟩ := e; cases hs
      intro p e s m args below meth c D dA A ad H locs ls Qc free C SX hP hD hS hL hf hu hQ
      obtain ⟨hx, hb, hr, hlk, hml, hown, hts, hA, hK, hin⟩ := id C
      exact lv_idiv hx hb hd hc (k p e s m args below meth c D dA A ad H locs ls Qc free C SX hP hD hS hL hf hu hQ)
    · cases hs
  · cases hs
theorem e_irem (hd : decode (mCd M) pc = .ok (.irem, len)) (hs : (match st with | .int y :: .int x :: r => if len = 1 ∧ ¬ y = 0 then some (pc + 1, lv, Value.int (x - x / y * y) :: r, h) else none | _ => none) = some x) (k : E l M d x.1 x.2.1 x.2.2.1 x.2.2.2 uc us Q) : E l M d pc lv st h uc us Q := by
  split at hs
  · split at hs
    · rename_i e; obtain ⟨rfl, hc⟩ := e; cases hs
      intro p e s m args below meth c D dA A ad H locs ls Qc free C SX hP hD hS hL hf hu hQ
      obtain ⟨hx, hb, hr, hlk, hml, hown, hts, hA, hK, hin⟩ := id C
      exact lv_irem hx hb hd hc (k p e s m args below meth c D dA A ad H locs ls Qc free C SX hP hD hS hL hf hu hQ)
    · cases hs
  · cases hs
theorem e_ldiv (hd : decode (mCd M) pc = .ok (.ldiv, len)) (hs : (match st with | .long y :: .long x :: r => if len = 1 ∧ ¬ y = 0 then some (pc + 1, lv, Value.long (x / y) :: r, h) else none | _ => none) = some x) (k : E l M d x.1 x.2.1 x.2.2.1 x.2.2.2 uc us Q) : E l M d pc lv st h uc us Q := by
  split at hs
  · split at hs
    · rename_i e; obtain ⟨rfl, hc⟩ := e; cases hs
      intro p e s m args below meth c D dA A ad H locs ls Qc free C SX hP hD hS hL hf hu hQ
      obtain ⟨hx, hb, hr, hlk, hml, hown, hts, hA, hK, hin⟩ := id C
      exact lv_ldiv hx hb hd hc (k p e s m args below meth c D dA A ad H locs ls Qc free C SX hP hD hS hL hf hu hQ)
    · cases hs
  · cases hs
theorem e_lrem (hd : decode (mCd M) pc = .ok (.lrem, len)) (hs : (match st with | .long y :: .long x :: r => if len = 1 ∧ ¬ y = 0 then some (pc + 1, lv, Value.long (x - x / y * y) :: r, h) else none | _ => none) = some x) (k : E l M d x.1 x.2.1 x.2.2.1 x.2.2.2 uc us Q) : E l M d pc lv st h uc us Q := by
  split at hs
  · split at hs
    · rename_i e; obtain ⟨rfl, hc⟩ := e; cases hs
      intro p e s m args below meth c D dA A ad H locs ls Qc free C SX hP hD hS hL hf hu hQ
      obtain ⟨hx, hb, hr, hlk, hml, hown, hts, hA, hK, hin⟩ := id C
      exact lv_lrem hx hb hd hc (k p e s m args below meth c D dA A ad H locs ls Qc free C SX hP hD hS hL hf hu hQ)
    · cases hs
  · cases hs
theorem e_l2i (hd : decode (mCd M) pc = .ok (.l2i, len)) (hs : (match st with | .long x :: r => if len = 1 then some (pc + 1, lv, Value.int x.toInt32 :: r, h) else none | _ => none) = some x) (k : E l M d x.1 x.2.1 x.2.2.1 x.2.2.2 uc us Q) : E l M d pc lv st h uc us Q := by
  split at hs
  · split at hs
    · rename_i e; subst e; cases hs
      intro p e s m args below meth c D dA A ad H locs ls Qc free C SX hP hD hS hL hf hu hQ
      obtain ⟨hx, hb, hr, hlk, hml, hown, hts, hA, hK, hin⟩ := id C
      exact lv_l2i hx hb hd rfl (k p e s m args below meth c D dA A ad H locs ls Qc free C SX hP hD hS hL hf hu hQ)
    · cases hs
  · cases hs
theorem xFL_w {o i ci k ns p : Nat} (h : xlk xFL o i = some (ci, k, ns, p)) : xFLp o (i, ci, k, ns, p) := xFL_ok o (show o < 28 from xlk_lt h) _ (xlk_mem h)
theorem xlayG {ci : Nat} (h : ci < 13) : ∀ w ∈ u_ws (xcn.getD ci "") (xT ci) (xN ci), w ∈ xG := fun w hw => xG_of (xcl_lay ci h w hw).1 (xcl_lay ci h w hw).2
theorem e_get {i : Nat} (hd : decode (mCd M) pc = .ok (.getfield i, len)) (hs : s_get M len pc lv st h i = some x) (k : E l M d x.1 x.2.1 x.2.2.1 x.2.2.2 uc us Q) : E l M d pc lv st h uc us Q := by
  unfold s_get at hs
  split at hs
  · rename_i a r
    split at hs
    · rename_i ci n cj kk ns z hsh hlk0
      split at hs
      · rename_i e; obtain ⟨rfl, hkn, rfl⟩ := e; cases hs
        intro p e s m args below meth c D dA A ad H locs ls Qc free C SX hP hD hS hL hf hu hQ
        obtain ⟨hx, hb, hr, hlk, hml, hown, hts, hA, hK, hin⟩ := id C
        obtain ⟨w1, w2, w3⟩ := xFL_w hlk0
        dsimp only at w1 w2 w3
        have hat := trW_at (ad := ad) (dA := dA) hsh
        have hv : ((List.range n).map (fun j => trV ad (hF h a j)))[kk]? = some (trV ad (hF h a kk)) := by
          rw [List.getElem?_map, List.getElem?_range hkn]; rfl
        by_cases hns : ns = 1
        · rw [if_pos hns] at w1
          exact va_getN hx hb hts (xlayG w3) hown hK hP a hat (xcl_at w3) kk w2 (va_Nw.use rfl (SX.1 _ (xN_at w1 rfl))) (fun _ q => q) hv hd (k p e s m args below meth c D dA A ad H locs ls Qc free C SX hP hD hS hL hf hu hQ)
        · rw [if_neg hns] at w1
          exact va_get hx hb hts (xlayG w3) hown hK hP a hat (xcl_at w3) kk w2 (hts _ (xG_at w1 rfl)) (fun _ q => q) hv hd (k p e s m args below meth c D dA A ad H locs ls Qc free C SX hP hD hS hL hf hu hQ)
      · cases hs
    · cases hs
  · cases hs
theorem e_put {i : Nat} (hd : decode (mCd M) pc = .ok (.putfield i, len)) (hs : s_put M len pc lv st h i = some x) (k : E l M d x.1 x.2.1 x.2.2.1 x.2.2.2 uc us Q) : E l M d pc lv st h uc us Q := by
  unfold s_put at hs
  split at hs
  · rename_i v a r
    split at hs
    · rename_i ci n cj kk ns z hsh hlk0
      split at hs
      · rename_i e; obtain ⟨rfl, hkn, rfl, hok, hfin⟩ := e; cases hs
        intro p e s m args below meth c D dA A ad H locs ls Qc free C SX hP hD hS hL hf hu hQ
        obtain ⟨hx, hb, hr, hlk, hml, hown, hts, hA, hK, hin⟩ := id C
        obtain ⟨w1, w2, w3⟩ := xFL_w hlk0
        dsimp only at w1 w2 w3
        have hat := trW_at (ad := ad) (dA := dA) hsh
        obtain ⟨hn, hfit⟩ : narrow (xty ci kk) v = v ∧ fits (xty ci kk) v = true := by
          unfold xpok at hok
          simpa using hok
        have hup : (trW ad dA h).set a (ad a, .inr (ci, ((List.range n).map (fun j => trV ad (hF h a j))).set kk (trV ad v))) = trW ad dA (uF h a kk v) := trW_upd rfl hsh (xCell_uF hkn) xCell_uF_o
        have hk' : ∀ (H1 : Heap) (locs1 : List Loc), va_P D xcl ((trW ad dA h).set a (ad a, .inr (ci, ((List.range n).map (fun j => trV ad (hF h a j))).set kk (trV ad v)))) H1 → va_D A ((trW ad dA h).set a (ad a, .inr (ci, ((List.range n).map (fun j => trV ad (hF h a j))).set kk (trV ad v)))) → va_S A s.heap H1 locs1 → W p l.1 e (xrm d M) s m args below meth c H1 locs1 uc us (MQ below Qc args s (mBc M) (mBs M) free) (F0 m (pc + 3) ls (r.map (trV ad))) := by
          intro H1 locs1 hP1 hD1 hS1
          rw [hup] at hP1 hD1
          exact k p e s m args below meth c D dA A ad H1 locs1 ls Qc free C SX hP1 hD1 hS1 hL hf hu hQ
        have hl0 : kk < ((List.range n).map (fun j => trV ad (hF h a j))).length := by simpa using hkn
        cases hff : (xT ci kk).2.2.2 with
        | false =>
          by_cases hns : ns = 1
          · rw [if_pos hns] at w1
            exact va_putN hx hb hts (xlayG w3) (xty ci) (xcl_ty ci w3) (xcl_nm ci w3) hown hK hP hD hS a hat (xcl_at w3) kk w2 (va_Nw.use rfl (SX.1 _ (xN_at w1 rfl))) (fun _ q => q) hff (xcl_ty ci w3 kk w2) (trV_narrow ad _ v hn) (trV_fits ad _ v hfit) hl0 hd hk'
          · rw [if_neg hns] at w1
            exact va_put hx hb hts (xlayG w3) (xty ci) (xcl_ty ci w3) (xcl_nm ci w3) hown hK hP hD hS a hat (xcl_at w3) kk w2 (hts _ (xG_at w1 rfl)) (fun _ q => q) hff (xcl_ty ci w3 kk w2) (trV_narrow ad _ v hn) (trV_fits ad _ v hfit) hl0 hd hk'
        | true =>
          obtain ⟨g1, g2, g3⟩ := hfin hff
          rw [if_neg g1] at w1
          exact va_putF hx hb hts (xlayG w3) (xty ci) (xcl_ty ci w3) (xcl_nm ci w3) hown hK hP hD hS a hat (xcl_at w3) kk w2 (hts _ (xG_at w1 rfl)) (fun _ q => q) hff (hin g2) g3 (xcl_ty ci w3 kk w2) (trV_narrow ad _ v hn) (trV_fits ad _ v hfit) hl0 hd hk'
      · cases hs
    · cases hs
  · cases hs
end
