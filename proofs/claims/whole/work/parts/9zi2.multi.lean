/-! new int[n][k]: the outer array and its rows, as the next numbers -/
theorem fill_lp {α : Type} {L R : List α} {i : Nat} {x : α} (h : (L ++ R)[i]? = some x) : (i < L.length ∧ L[i]? = some x) ∨ (L.length ≤ i ∧ R[i - L.length]? = some x) := by
  rcases Nat.lt_or_ge i L.length with g | g
  · rw [List.getElem?_append_left g] at h
    exact Or.inl ⟨g, h⟩
  · rw [List.getElem?_append_right g] at h
    exact Or.inr ⟨g, h⟩
theorem vr_outer (c : ClassId) (N h0 : Nat) : ∀ i : Nat, Jvm.Free.Multi.outerC c N h0 i = arrV c N (fun j => va_rf (if j < i then some (h0 + 1 + j) else none))
  | 0 => by
    show ({ cls := c, slots := Array.replicate N .null, vm := .none } : Cell) = _
    rw [arrV_new]
    refine congrArg (arrV c N) (funext fun j => ?_)
    simp [va_rf]
  | i + 1 => by
    show (Jvm.Free.Multi.outerC c N h0 i).setSlot i (.ref (h0 + 1 + i)) = _
    rw [vr_outer c N h0 i, arrV_store]
    refine congrArg (arrV c N) (funext fun j => ?_)
    by_cases e : j = i
    · subst e
      simp [updV, va_rf]
    · by_cases h : j < i
      · simp [updV, e, h, Nat.lt_succ_of_lt h]
      · simp [updV, e, h, show ¬ j < i + 1 by omega]
def mlt (h : xH) (n : Nat) : xH := (h.1, h.2.1, h.2.2.1, h.2.2.2.1, fun a => if a = h.1.length then (fun j => if j < n then some (h.1.length + 1 + j) else none) else hR h a)
theorem mlt_cell {h : xH} {n k : Nat} (hk : k < h.1.length) (ad : Nat → Nat) (dA : Nat → ClassId) (z : Nat × Nat × Nat) : xCell ad dA (mlt h n) k z = xCell ad dA h k z := by
  have e : hR (mlt h n) k = hR h k := if_neg (by omega)
  unfold xCell
  rw [e]
  rfl
theorem mlt_trW {h : xH} {n : Nat} (ad : Nat → Nat) (dA : Nat → ClassId) : trW ad dA (mlt h n) = trW ad dA h := by
  unfold trW
  refine List.map_congr_left (fun k hk => ?_)
  have hk : k < h.1.length := List.mem_range.mp hk
  rw [mlt_cell hk]
  rfl
theorem mlt_wfh {h : xH} {n : Nat} (hw : wfh h) : wfh (mlt h n) := by
  refine ⟨hw.1, hw.2.1, fun k j r hk hr => ?_⟩
  have e : hR (mlt h n) k = hR h k := if_neg (by have : k < h.1.length := hk; omega)
  rw [e] at hr
  exact hw.2.2 k j r hk hr
theorem E.multi {l : xLa} {M : mT} {d pc uc us : Nat} {lv : List (Option Value)} {rest : List Value} {h : xH} {Q : Option Value → xH → Prop} {i n k' : Nat} {vn vk : Int32} (hw2 : Cond.classLink (mOwn M) i "[[I" ∈ xG) (hvn : Int32.ofNat n = vn) (hvk : Int32.ofNat k' = vk) (hn : n ≤ 4096) (hk : k' ≤ 4096) (hd : decode (mCd M) pc = .ok (.multianewarray i 2, 4)) (hw : wfh h) (hz : h.1.length + (n + 1) < xB) (hlv : wfk h.1.length lv rest) (hdI : ∀ j, j < n → hI h (h.1.length + 1 + j) = fun _ => 0) (hb : uc + (1 + n) ≤ mBc M ∧ us + (n + n * k') ≤ mBs M)
    (k : E l M d (pc + 4) lv (.ref h.1.length :: rest) ((mlt h n).1 ++ ((3, 6, n) :: List.replicate n (1, 0, k')), (mlt h n).2) (uc + 1 + n) (us + n + n * k') Q) : E l M d pc lv (.int vk :: .int vn :: rest) h uc us Q := by
  intro p e s m args below meth c D dA A ad H locs ls Qc free C SX hP hD hS hL hf hu hQ
  obtain ⟨hx, hb', hr, hlk, hml, hown, hts, hA, hK, hin⟩ := id C
  have hn31 : n < 2 ^ 31 := by omega
  have hk31 : k' < 2 ^ 31 := by omega
  subst hvn
  subst hvk
  have cn : (Int32.ofNat n).toNatClampNeg = n := nI_clamp (n := n) hn31
  have ck : (Int32.ofNat k').toNatClampNeg = k' := nI_clamp (n := k') hk31
  intro T hT Xs
  obtain ⟨vm₁, cA, comp, -, fA, fC, hO, -, X', step⟩ := Xs.multianewarray2F (ty := .int) hx hown (hts _ hw2) (xAO2.use SX.2.2.2.2.2.2.2.2.2.1) (hts _ xAC_in.1) (g := F0 m pc ls (.int (Int32.ofNat k') :: .int (Int32.ofNat n) :: rest.map (trV ad))) rfl (by rw [hb']; exact hd) rfl (nI_pos (n := n) hn31) (nI_pos (n := k') hk31) (by rw [cn]; omega) (by rw [ck]; exact Nat.le_trans (Nat.mul_le_mul hk (show componentBytes .int ≤ 8 by decide)) (by decide)) (by rw [ck]; omega) (by decide) (by decide) (by rw [cn]; exact hb.1) (by rw [cn, ck]; exact hb.2)
  rw [cn, ck] at X' step
  have eA : cA = dA 6 := Option.some.inj (fA.symm.trans (xK_cls hK (t := 6) (by omega)))
  have eC : comp = dA 0 := Option.some.inj (fC.symm.trans (xK_cls hK (t := 0) (by omega)))
  subst eA
  subst eC
  generalize hF : Jvm.Free.Multi.fill (T.setVm vm₁) (dA 6) (dA 0) n k' (defaultValue .int) n = F at X' step
  have hTh : (T.setVm vm₁).heap = H := hT
  obtain ⟨f1, f2, -, -⟩ := Jvm.Free.Multi.fill_facts (T.setVm vm₁) (dA 6) (dA 0) n k' (defaultValue .int) n
  rw [hF, hTh] at f1 f2
  have hold : ∀ x : Nat, x < H.size → F.heap[x]? = H[x]? := fun x hx => by
    have := Jvm.Free.Multi.fill_old (T.setVm vm₁) (dA 6) (dA 0) n k' (defaultValue .int) (a := x) (by rw [hTh]; exact hx) n
    rw [hF, hTh] at this
    exact this
  have hrow : ∀ j : Nat, j < n → F.heap[H.size + 1 + j]? = some (vp_cell (dA 0) (k', .inl (fun _ => 0))) := fun j hj => by
    have := Jvm.Free.Multi.fill_inner (T.setVm vm₁) (dA 6) (dA 0) n k' (defaultValue .int) n j hj
    rw [hF, hTh] at this
    rw [this]
    show some ({ cls := dA 0, slots := Array.replicate k' (defaultValue .int), vm := .none } : Cell) = _
    rw [arrV_new]
    rfl
  have hout : Jvm.Free.Multi.outerC (dA 6) n H.size n = vp_cell (dA 6) (n, .inr (.inr (.inr (.inr (fun i => if i < n then some (H.size + 1 + i) else none))))) := by
    rw [vp_cell_q]
    exact vr_outer (dA 6) n H.size n
  rw [hout] at f2
  have hS1 : va_S A s.heap F.heap locs := ⟨by rw [f1]; have := hS.1; omega, fun x h1 h2 => (hold x (Nat.lt_of_lt_of_le h1 hS.1)).trans (hS.2.1 x h1 h2), hS.2.2⟩
  have hlen : ((3, 6, n) :: List.replicate n ((1, 0, k') : Nat × Nat × Nat)).length = n + 1 := by simp
  have kk := E.pushK (h := mlt h n) (L := (3, 6, n) :: List.replicate n (1, 0, k')) (f := fun i => H.size + i) (mlt_wfh hw) (by rw [hlen]; exact hz) hlv (by omega) k C SX (H1 := F.heap) (fun ad' ha hi => ?_) hS1 hL hf (by have := hb.1; have := hb.2; omega) (by simp) hQ (e := e) (below := below)
  · obtain ⟨t, a1, b1⟩ := kk F rfl X'
    refine ⟨t, step t ?_, b1⟩
    have e9 : T.heap.size = H.size := by rw [hT]
    rw [e9]
    exact a1
  · rw [trW_len' (mlt_wfh hw) ha, mlt_trW]
    have hlt : ∀ (k9 : Nat) (x : Nat × va_E), (trW ad dA h)[k9]? = some x → x.1 < H.size := fun k9 x hx => (hP k9 x hx).lt
    have hRr : ∀ (k9 : Nat) (x : Nat × va_E), ((List.range ((3, 6, n) :: List.replicate n ((1, 0, k') : Nat × Nat × Nat)).length).map (fun i => (ad' ((mlt h n).1.length + i), xCell ad' dA (mlt h n) ((mlt h n).1.length + i) (((3, 6, n) :: List.replicate n (1, 0, k')).getD i (0, 0, 0)))))[k9]? = some x → k9 < n + 1 ∧ x = (H.size + k9, xCell ad' dA (mlt h n) (h.1.length + k9) (((3, 6, n) :: List.replicate n (1, 0, k')).getD k9 (0, 0, 0))) := by
      intro k9 x hx
      rw [List.getElem?_map] at hx
      rcases Nat.lt_or_ge k9 (n + 1) with g | g
      · rw [List.getElem?_range (by rw [hlen]; exact g)] at hx
        refine ⟨g, ?_⟩
        rw [← Option.some.inj hx]
        show (ad' ((mlt h n).1.length + k9), _) = _
        rw [hi k9 (by rw [hlen]; exact g)]
        rfl
      · rw [List.getElem?_eq_none (by rw [List.length_range, hlen]; omega)] at hx
        cases hx
    refine ⟨fun k9 x hx => ?_, fun i j x y hx hy hxy => ?_, fun k9 x hx => ?_⟩
    · rcases fill_lp hx with ⟨-, hx⟩ | ⟨-, hx⟩
      · exact (hP k9 x hx).kept (hold x.1 (hlt k9 x hx))
      · obtain ⟨g, rfl⟩ := hRr _ _ hx
        generalize k9 - (trW ad dA h).length = q at g
        cases q with
        | zero =>
          show F.heap[H.size + 0]? = some (vp_cell (dA 6) (n, .inr (.inr (.inr (.inr (fun j => (hR (mlt h n) (h.1.length + 0) j).map ad'))))))
          have e1 : (fun j => (hR (mlt h n) (h.1.length + 0) j).map ad') = fun i => if i < n then some (H.size + 1 + i) else none := by
            funext j
            have e4 : hR (mlt h n) (h.1.length + 0) = fun j => if j < n then some (h.1.length + 1 + j) else none := if_pos rfl
            rw [e4]
            dsimp only
            split
            · rename_i hj
              have := hi (1 + j) (by rw [hlen]; omega)
              show some (ad' (h.1.length + 1 + j)) = _
              rw [show h.1.length + 1 + j = (mlt h n).1.length + (1 + j) by show _ = h.1.length + (1 + j); omega, this, show H.size + (1 + j) = H.size + 1 + j by omega]
            · rfl
          rw [e1, Nat.add_zero]
          exact f2
        | succ q =>
          have e2 : ((3, 6, n) :: List.replicate n ((1, 0, k') : Nat × Nat × Nat)).getD (q + 1) (0, 0, 0) = (1, 0, k') := by
            rw [List.getD_eq_getElem?_getD, List.getElem?_cons_succ, List.getElem?_replicate, if_pos (by omega)]
            rfl
          rw [e2]
          show F.heap[H.size + (q + 1)]? = some (vp_cell (dA 0) (k', .inl (hI (mlt h n) (h.1.length + (q + 1)))))
          have e3 : hI (mlt h n) (h.1.length + (q + 1)) = fun _ => 0 := by
            rw [show h.1.length + (q + 1) = h.1.length + 1 + q by omega]
            exact hdI q (by omega)
          rw [e3, show H.size + (q + 1) = H.size + 1 + q by omega]
          exact hrow q (by omega)
    · rcases fill_lp hx with ⟨g1, hx⟩ | ⟨g1, hx⟩ <;> rcases fill_lp hy with ⟨g2, hy⟩ | ⟨g2, hy⟩
      · exact hD.1 i j x y hx hy hxy
      · have := hlt _ _ hx
        obtain ⟨-, rfl⟩ := hRr _ _ hy
        dsimp only at hxy
        omega
      · have := hlt _ _ hy
        obtain ⟨-, rfl⟩ := hRr _ _ hx
        dsimp only at hxy
        omega
      · obtain ⟨-, rfl⟩ := hRr _ _ hx
        obtain ⟨-, rfl⟩ := hRr _ _ hy
        dsimp only at hxy
        omega
    · rcases fill_lp hx with ⟨g1, hx⟩ | ⟨g1, hx⟩
      · exact hD.2 _ _ hx
      · obtain ⟨-, rfl⟩ := hRr _ _ hx
        exact hA _ (by have := hS.1; dsimp only; omega)
