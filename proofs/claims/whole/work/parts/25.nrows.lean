/-! Rows over ints that are known as naturals. -/
section
variable {l : xLa} {M : mT} {d pc : Nat} {lv : List (Option Value)} {st r : List Value} {σ : xs} {Q : Option Value → xs → Prop}
theorem tn_get {i ci j ns p n a : Nat} {v : Int32} (hd : decode (mCd M) pc = .ok (.getfield i, 3)) (hl : xlk xFL M.1 i = some (ci, j, ns, p)) (hs : xSh[a]? = some (0, ci, n)) (hj : j < n) (hr : xint a j = true) (hv : sf σ a j = v) (k : T l M (d + 1) (pc + 3) lv (.int v :: r) σ Q) : T l M (d + 1) pc lv (.ref a :: r) σ Q := by
  subst hv
  exact tt_getI hd hl hs hj hr k
theorem tn_iald {n a j : Nat} {x : Int32} (hd : decode (mCd M) pc = .ok (.iaload, 1)) (hs : xSh[a]? = some (1, 0, n)) (hn : n < 2 ^ 31) (hj : j < n) (hv : si σ a j = x) (k : T l M (d + 1) (pc + 1) lv (.int x :: r) σ Q) : T l M (d + 1) pc lv (.int (nI j) :: .ref a :: r) σ Q := by
  subst hv
  refine tt_iald hd hs (vp_in_nI hj hn) ?_
  rw [nI_clamp (by omega)]
  exact k
theorem tn_cald {n a j : Nat} {x : Int32} (hd : decode (mCd M) pc = .ok (.caload, 1)) (hs : xSh[a]? = some (1, 3, n)) (hn : n < 2 ^ 31) (hj : j < n) (hv : si σ a j = x) (k : T l M (d + 1) (pc + 1) lv (.int x :: r) σ Q) : T l M (d + 1) pc lv (.int (nI j) :: .ref a :: r) σ Q := by
  subst hv
  refine tt_cald hd hs (vp_in_nI hj hn) ?_
  rw [nI_clamp (by omega)]
  exact k
theorem tn_zald {n a j : Nat} {x : Int32} (hd : decode (mCd M) pc = .ok (.baload, 1)) (hs : xSh[a]? = some (1, 1, n)) (hn : n < 2 ^ 31) (hj : j < n) (hv : si σ a j = x) (k : T l M (d + 1) (pc + 1) lv (.int x :: r) σ Q) : T l M (d + 1) pc lv (.int (nI j) :: .ref a :: r) σ Q := by
  subst hv
  refine tt_zald hd hs (vp_in_nI hj hn) ?_
  rw [nI_clamp (by omega)]
  exact k
theorem tn_bald {n a j : Nat} {x : Int32} (hd : decode (mCd M) pc = .ok (.baload, 1)) (hs : xSh[a]? = some (1, 2, n)) (hn : n < 2 ^ 31) (hj : j < n) (hv : si σ a j = x) (k : T l M (d + 1) (pc + 1) lv (.int x :: r) σ Q) : T l M (d + 1) pc lv (.int (nI j) :: .ref a :: r) σ Q := by
  subst hv
  refine tt_bald hd hs (vp_in_nI hj hn) ?_
  rw [nI_clamp (by omega)]
  exact k
theorem tn_lald {n a t j : Nat} {x : Int64} (hd : decode (mCd M) pc = .ok (.laload, 1)) (hs : xSh[a]? = some (2, t, n)) (hn : n < 2 ^ 31) (hj : j < n) (hv : sj σ a j = x) (k : T l M (d + 1) (pc + 1) lv (.long x :: r) σ Q) : T l M (d + 1) pc lv (.int (nI j) :: .ref a :: r) σ Q := by
  subst hv
  refine tt_lald hd hs (vp_in_nI hj hn) ?_
  rw [nI_clamp (by omega)]
  exact k
theorem tn_aald {n a t b j : Nat} (hd : decode (mCd M) pc = .ok (.aaload, 1)) (hs : xSh[a]? = some (3, t, n)) (ht : t = 5 ∨ t = 6) (hn : n < 2 ^ 31) (hj : j < n) (hb : xrr a j = some b) (k : T l M (d + 1) (pc + 1) lv (.ref b :: r) σ Q) : T l M (d + 1) pc lv (.int (nI j) :: .ref a :: r) σ Q := by
  refine tt_aald hd hs ht (vp_in_nI hj hn) ?_ k
  rw [nI_clamp (by omega)]
  exact hb
theorem tn_iast {n a j : Nat} {x : Int32} (hd : decode (mCd M) pc = .ok (.iastore, 1)) (hs : xSh[a]? = some (1, 0, n)) (hn : n < 2 ^ 31) (hj : j < n) (k : T l M (d + 1) (pc + 1) lv r (wI σ a j x) Q) : T l M (d + 1) pc lv (.int x :: .int (nI j) :: .ref a :: r) σ Q := by
  refine tt_iast hd hs (vp_in_nI hj hn) ?_
  rw [nI_clamp (by omega)]
  exact k
theorem tn_cast {n a j : Nat} {x y : Int32} (hd : decode (mCd M) pc = .ok (.castore, 1)) (hs : xSh[a]? = some (1, 3, n)) (hn : n < 2 ^ 31) (hj : j < n) (hy : vp_nar .char x = y) (k : T l M (d + 1) (pc + 1) lv r (wI σ a j y) Q) : T l M (d + 1) pc lv (.int x :: .int (nI j) :: .ref a :: r) σ Q := by
  refine tt_cast hd hs (vp_in_nI hj hn) ?_
  rw [nI_clamp (by omega), show xkp 3 x = y from hy]
  exact k
theorem tn_zast {n a j : Nat} {x y : Int32} (hd : decode (mCd M) pc = .ok (.bastore, 1)) (hs : xSh[a]? = some (1, 1, n)) (hn : n < 2 ^ 31) (hj : j < n) (hy : vp_nar .boolean x = y) (k : T l M (d + 1) (pc + 1) lv r (wI σ a j y) Q) : T l M (d + 1) pc lv (.int x :: .int (nI j) :: .ref a :: r) σ Q := by
  refine tt_zast hd hs (vp_in_nI hj hn) ?_
  rw [nI_clamp (by omega), show xkp 1 x = y from hy]
  exact k
theorem tn_bast {n a j : Nat} {x y : Int32} (hd : decode (mCd M) pc = .ok (.bastore, 1)) (hs : xSh[a]? = some (1, 2, n)) (hn : n < 2 ^ 31) (hj : j < n) (hy : vp_nar .byte x = y) (k : T l M (d + 1) (pc + 1) lv r (wI σ a j y) Q) : T l M (d + 1) pc lv (.int x :: .int (nI j) :: .ref a :: r) σ Q := by
  refine tt_bast hd hs (vp_in_nI hj hn) ?_
  rw [nI_clamp (by omega), show xkp 2 x = y from hy]
  exact k
theorem tn_last {n a t j : Nat} {x : Int64} (hd : decode (mCd M) pc = .ok (.lastore, 1)) (hs : xSh[a]? = some (2, t, n)) (hn : n < 2 ^ 31) (hj : j < n) (k : T l M (d + 1) (pc + 1) lv r (wJ σ a j x) Q) : T l M (d + 1) pc lv (.long x :: .int (nI j) :: .ref a :: r) σ Q := by
  refine tt_last hd hs (vp_in_nI hj hn) ?_
  rw [nI_clamp (by omega)]
  exact k
theorem tn_iadd {a b : Nat} (hd : decode (mCd M) pc = .ok (.iadd, 1)) (k : T l M (d + 1) (pc + 1) lv (.int (nI (a + b)) :: r) σ Q) : T l M (d + 1) pc lv (.int (nI b) :: .int (nI a) :: r) σ Q := by
  refine tt_iadd hd ?_
  rw [nI_add]
  exact k
theorem tn_imul {a b : Nat} (hd : decode (mCd M) pc = .ok (.imul, 1)) (k : T l M (d + 1) (pc + 1) lv (.int (nI (a * b)) :: r) σ Q) : T l M (d + 1) pc lv (.int (nI b) :: .int (nI a) :: r) σ Q := by
  refine tt_imul hd ?_
  rw [pk_mul]
  exact k
theorem tn_isub {a b : Nat} (hle : b ≤ a) (hd : decode (mCd M) pc = .ok (.isub, 1)) (k : T l M (d + 1) (pc + 1) lv (.int (nI (a - b)) :: r) σ Q) : T l M (d + 1) pc lv (.int (nI b) :: .int (nI a) :: r) σ Q := by
  refine tt_isub hd ?_
  rw [pk_sub hle]
  exact k
theorem tn_idiv {a b : Nat} (ha : a < 2 ^ 31) (h0 : 0 < b) (hb : b < 2 ^ 31) (hd : decode (mCd M) pc = .ok (.idiv, 1)) (k : T l M (d + 1) (pc + 1) lv (.int (nI (a / b)) :: r) σ Q) : T l M (d + 1) pc lv (.int (nI b) :: .int (nI a) :: r) σ Q := by
  refine tt_idiv hd (nI_ne0 h0 hb) ?_
  rw [pk_div ha h0 hb]
  exact k
theorem tn_irem {a b : Nat} (ha : a < 2 ^ 31) (h0 : 0 < b) (hb : b < 2 ^ 31) (hd : decode (mCd M) pc = .ok (.irem, 1)) (k : T l M (d + 1) (pc + 1) lv (.int (nI (a % b)) :: r) σ Q) : T l M (d + 1) pc lv (.int (nI b) :: .int (nI a) :: r) σ Q := by
  refine tt_irem hd (nI_ne0 h0 hb) ?_
  rw [pk_rem ha h0 hb]
  exact k
theorem nI_inc (a k : Nat) : nI a + Int32.ofInt (k : Int) = nI (a + k) := by
  rw [← nI_add]
  rfl
theorem tn_ic_eq {a b t : Nat} {off : Int} (ha : a < 2 ^ 31) (hb : b < 2 ^ 31) (hd : decode (mCd M) pc = .ok (.if_icmp .eq off, 3)) (ht : xj pc off = some t) (kt : a = b → T l M (d + 1) t lv r σ Q) (kf : ¬ a = b → T l M (d + 1) (pc + 3) lv r σ Q) : T l M (d + 1) pc lv (.int (nI b) :: .int (nI a) :: r) σ Q :=
  tt_ic_eq hd ht (fun c => kt ((nI_eq ha hb).mp c)) (fun c => kf (fun q => c ((nI_eq ha hb).mpr q)))
theorem tn_ic_ne {a b t : Nat} {off : Int} (ha : a < 2 ^ 31) (hb : b < 2 ^ 31) (hd : decode (mCd M) pc = .ok (.if_icmp .ne off, 3)) (ht : xj pc off = some t) (kt : ¬ a = b → T l M (d + 1) t lv r σ Q) (kf : a = b → T l M (d + 1) (pc + 3) lv r σ Q) : T l M (d + 1) pc lv (.int (nI b) :: .int (nI a) :: r) σ Q :=
  tt_ic_ne hd ht (fun c => kt (fun q => c ((nI_eq ha hb).mpr q))) (fun c => kf ((nI_eq ha hb).mp (Classical.not_not.mp c)))
theorem tn_ic_lt {a b t : Nat} {off : Int} (ha : a < 2 ^ 31) (hb : b < 2 ^ 31) (hd : decode (mCd M) pc = .ok (.if_icmp .lt off, 3)) (ht : xj pc off = some t) (kt : a < b → T l M (d + 1) t lv r σ Q) (kf : b ≤ a → T l M (d + 1) (pc + 3) lv r σ Q) : T l M (d + 1) pc lv (.int (nI b) :: .int (nI a) :: r) σ Q :=
  tt_ic_lt hd ht (fun c => kt ((nI_ltI ha hb).mp c)) (fun c => kf (Nat.not_lt.mp (fun q => c ((nI_ltI ha hb).mpr q))))
theorem tn_ic_ge {a b t : Nat} {off : Int} (ha : a < 2 ^ 31) (hb : b < 2 ^ 31) (hd : decode (mCd M) pc = .ok (.if_icmp .ge off, 3)) (ht : xj pc off = some t) (kt : b ≤ a → T l M (d + 1) t lv r σ Q) (kf : a < b → T l M (d + 1) (pc + 3) lv r σ Q) : T l M (d + 1) pc lv (.int (nI b) :: .int (nI a) :: r) σ Q :=
  tt_ic_ge hd ht (fun c => kt ((nI_leI hb ha).mp c)) (fun c => kf (Nat.not_le.mp (fun q => c ((nI_leI hb ha).mpr q))))
theorem tn_ic_gt {a b t : Nat} {off : Int} (ha : a < 2 ^ 31) (hb : b < 2 ^ 31) (hd : decode (mCd M) pc = .ok (.if_icmp .gt off, 3)) (ht : xj pc off = some t) (kt : b < a → T l M (d + 1) t lv r σ Q) (kf : a ≤ b → T l M (d + 1) (pc + 3) lv r σ Q) : T l M (d + 1) pc lv (.int (nI b) :: .int (nI a) :: r) σ Q :=
  tt_ic_gt hd ht (fun c => kt ((nI_ltI hb ha).mp c)) (fun c => kf (Nat.not_lt.mp (fun q => c ((nI_ltI hb ha).mpr q))))
theorem tn_ic_le {a b t : Nat} {off : Int} (ha : a < 2 ^ 31) (hb : b < 2 ^ 31) (hd : decode (mCd M) pc = .ok (.if_icmp .le off, 3)) (ht : xj pc off = some t) (kt : a ≤ b → T l M (d + 1) t lv r σ Q) (kf : b < a → T l M (d + 1) (pc + 3) lv r σ Q) : T l M (d + 1) pc lv (.int (nI b) :: .int (nI a) :: r) σ Q :=
  tt_ic_le hd ht (fun c => kt ((nI_leI ha hb).mp c)) (fun c => kf (Nat.not_le.mp (fun q => c ((nI_leI ha hb).mpr q))))
theorem tn_if_eq {a t : Nat} {off : Int} (ha : a < 2 ^ 31) (hd : decode (mCd M) pc = .ok (.ifCond .eq off, 3)) (ht : xj pc off = some t) (kt : a = 0 → T l M (d + 1) t lv r σ Q) (kf : ¬ a = 0 → T l M (d + 1) (pc + 3) lv r σ Q) : T l M (d + 1) pc lv (.int (nI a) :: r) σ Q :=
  tt_if_eq hd ht (fun c => kt ((nI_eq ha (by decide)).mp (c.trans nI_0.symm))) (fun c => kf (fun q => c (by rw [q]; rfl)))
theorem tn_if_ne {a t : Nat} {off : Int} (ha : a < 2 ^ 31) (hd : decode (mCd M) pc = .ok (.ifCond .ne off, 3)) (ht : xj pc off = some t) (kt : ¬ a = 0 → T l M (d + 1) t lv r σ Q) (kf : a = 0 → T l M (d + 1) (pc + 3) lv r σ Q) : T l M (d + 1) pc lv (.int (nI a) :: r) σ Q :=
  tt_if_ne hd ht (fun c => kt (fun q => c (by rw [q]; rfl))) (fun c => kf ((nI_eq ha (by decide)).mp ((Classical.not_not.mp c).trans nI_0.symm)))
theorem tn_if_lt {a t : Nat} {off : Int} (ha : a < 2 ^ 31) (hd : decode (mCd M) pc = .ok (.ifCond .lt off, 3)) (ht : xj pc off = some t) (kf : T l M (d + 1) (pc + 3) lv r σ Q) : T l M (d + 1) pc lv (.int (nI a) :: r) σ Q :=
  tt_if_lt hd ht (fun c => absurd c (nI_pos ha)) (fun _ => kf)
theorem tn_if_ge {a t : Nat} {off : Int} (ha : a < 2 ^ 31) (hd : decode (mCd M) pc = .ok (.ifCond .ge off, 3)) (ht : xj pc off = some t) (kt : T l M (d + 1) t lv r σ Q) : T l M (d + 1) pc lv (.int (nI a) :: r) σ Q :=
  tt_if_ge hd ht (fun _ => kt) (fun c => absurd (nI_pos' ha) c)
theorem tn_if_gt {a t : Nat} {off : Int} (ha : a < 2 ^ 31) (hd : decode (mCd M) pc = .ok (.ifCond .gt off, 3)) (ht : xj pc off = some t) (kt : 0 < a → T l M (d + 1) t lv r σ Q) (kf : a = 0 → T l M (d + 1) (pc + 3) lv r σ Q) : T l M (d + 1) pc lv (.int (nI a) :: r) σ Q :=
  tt_if_gt hd ht (fun c => kt ((nI_ltI (a := 0) (by decide) ha).mp (by rw [nI_0]; exact c))) (fun c => kf (Nat.eq_zero_of_not_pos (fun q => c (by rw [← nI_0]; exact (nI_ltI (by decide) ha).mpr q))))
theorem tn_if_le {a t : Nat} {off : Int} (ha : a < 2 ^ 31) (hd : decode (mCd M) pc = .ok (.ifCond .le off, 3)) (ht : xj pc off = some t) (kt : a = 0 → T l M (d + 1) t lv r σ Q) (kf : 0 < a → T l M (d + 1) (pc + 3) lv r σ Q) : T l M (d + 1) pc lv (.int (nI a) :: r) σ Q :=
  tt_if_le hd ht (fun c => kt (Nat.le_zero.mp ((nI_leI (b := 0) ha (by decide)).mp (by rw [nI_0]; exact c)))) (fun c => kf (Nat.pos_of_ne_zero (fun q => c (by rw [q]; decide))))
end
/-! reading what was written -/
theorem sf_wF (σ : xs) (a k : Nat) (x : Int32) (b j : Nat) : sf (wF σ a k x) b j = if b = a ∧ j = k then x else sf σ b j := rfl
theorem sf_wI (σ : xs) (a k : Nat) (x : Int32) : sf (wI σ a k x) = sf σ := rfl
theorem sf_wJ (σ : xs) (a k : Nat) (x : Int64) : sf (wJ σ a k x) = sf σ := rfl
theorem si_wI (σ : xs) (a k : Nat) (x : Int32) (b j : Nat) : si (wI σ a k x) b j = if b = a ∧ j = k then x else si σ b j := rfl
theorem si_wF (σ : xs) (a k : Nat) (x : Int32) : si (wF σ a k x) = si σ := rfl
theorem si_wJ (σ : xs) (a k : Nat) (x : Int64) : si (wJ σ a k x) = si σ := rfl
theorem sj_wJ (σ : xs) (a k : Nat) (x : Int64) (b j : Nat) : sj (wJ σ a k x) b j = if b = a ∧ j = k then x else sj σ b j := rfl
theorem sj_wF (σ : xs) (a k : Nat) (x : Int32) : sj (wF σ a k x) = sj σ := rfl
theorem sj_wI (σ : xs) (a k : Nat) (x : Int32) : sj (wI σ a k x) = sj σ := rfl
theorem sp_wF (σ : xs) (a k : Nat) (x : Int32) : sp (wF σ a k x) = sp σ := rfl
theorem sp_wI (σ : xs) (a k : Nat) (x : Int32) : sp (wI σ a k x) = sp σ := rfl
theorem sp_wJ (σ : xs) (a k : Nat) (x : Int64) : sp (wJ σ a k x) = sp σ := rfl
theorem so_wF (σ : xs) (a k : Nat) (x : Int32) : so (wF σ a k x) = so σ := rfl
theorem so_wI (σ : xs) (a k : Nat) (x : Int32) : so (wI σ a k x) = so σ := rfl
theorem so_wJ (σ : xs) (a k : Nat) (x : Int64) : so (wJ σ a k x) = so σ := rfl
theorem wF_wF (σ : xs) (a k : Nat) (x y : Int32) : wF (wF σ a k x) a k y = wF σ a k y := by
  show (up2 (up2 (sf σ) a k x) a k y, σ.2) = _
  have : up2 (up2 (sf σ) a k x) a k y = up2 (sf σ) a k y := by
    funext b j
    unfold up2
    by_cases e : b = a ∧ j = k
    · rw [if_pos e, if_pos e]
    · rw [if_neg e, if_neg e, if_neg e]
  rw [this]
  rfl
