/-! THE ABSTRACT HEAP: cells by number; a shape that only grows, and what the cells hold. -/
/-- (tag, a, n): 0 an object of class a with n fields; 1 an array (of type a) of ints and their like, n long; 2 of longs; 3 of references (of type a) -/
abbrev xH : Type := List (Nat × Nat × Nat) × (Nat → Nat → Value) × (Nat → Nat → Int32) × (Nat → Nat → Int64) × (Nat → Nat → Option Nat)
def hF (h : xH) : Nat → Nat → Value := h.2.1
def hI (h : xH) : Nat → Nat → Int32 := h.2.2.1
def hJ (h : xH) : Nat → Nat → Int64 := h.2.2.2.1
def hR (h : xH) : Nat → Nat → Option Nat := h.2.2.2.2
def up2 {α : Type} (f : Nat → Nat → α) (k j : Nat) (v : α) : Nat → Nat → α := fun a b => if a = k ∧ b = j then v else f a b
theorem up2_o {α : Type} {f : Nat → Nat → α} {k j a : Nat} {v : α} (h : a ≠ k) : up2 f k j v a = f a := by
  funext b
  simp [up2, h]
theorem up2_s {α : Type} {f : Nat → Nat → α} {k j : Nat} {v : α} : up2 f k j v k = fun b => if b = j then v else f k b := by
  funext b
  simp [up2]
theorem up2_at {α : Type} {f : Nat → Nat → α} {k j a b : Nat} {v : α} : up2 f k j v a b = if a = k ∧ b = j then v else f a b := rfl
def uF (h : xH) (k j : Nat) (v : Value) : xH := (h.1, up2 (hF h) k j v, h.2.2)
def uI (h : xH) (k j : Nat) (v : Int32) : xH := (h.1, h.2.1, up2 (hI h) k j v, h.2.2.2)
def uJ (h : xH) (k j : Nat) (v : Int64) : xH := (h.1, h.2.1, h.2.2.1, up2 (hJ h) k j v, h.2.2.2.2)
def uR (h : xH) (k j : Nat) (v : Option Nat) : xH := (h.1, h.2.1, h.2.2.1, h.2.2.2.1, up2 (hR h) k j v)
/-- static things have numbers from here on -/
def xB : Nat := 1048576
def xTy : Nat → FieldType
  | 0 => .int
  | 1 => .boolean
  | 2 => .byte
  | 3 => .char
  | 4 => .long
  | 5 => .object "FishFerry$State"
  | _ => .array .int
def xtys (dA : Nat → ClassId) : List (ClassId × FieldType) := (List.range 7).map (fun t => (dA t, xTy t))
theorem xtys_at {dA : Nat → ClassId} {t : Nat} (h : t < 7) : (xtys dA)[t]? = some (dA t, xTy t) := by
  unfold xtys
  rw [List.getElem?_map, List.getElem?_range h]
  rfl
def trV (ad : Nat → Nat) : Value → Value
  | .ref k => .ref (ad k)
  | v => v
theorem trV_cat (ad : Nat → Nat) (v : Value) : (trV ad v).category = v.category := by cases v <;> rfl
theorem trV_cats (ad : Nat → Nat) (l : List Value) : ((l.map (trV ad)).map fun v => v.category).sum = (l.map fun v => v.category).sum := by
  rw [List.map_map]
  congr 1
  exact List.map_congr_left (fun v _ => trV_cat ad v)
theorem trV_narrow (ad : Nat → Nat) (ty : FieldType) (v : Value) (h : narrow ty v = v) : narrow ty (trV ad v) = trV ad v := by
  cases v with
  | ref k => cases ty <;> rfl
  | _ => exact h
theorem trV_fits (ad : Nat → Nat) (ty : FieldType) (v : Value) (h : fits ty v = true) : fits ty (trV ad v) = true := by
  cases v with
  | ref k => cases ty <;> first | rfl | cases h
  | _ => exact h
def xCell (ad : Nat → Nat) (dA : Nat → ClassId) (h : xH) (k : Nat) (z : Nat × Nat × Nat) : va_E :=
  match z.1 with
  | 0 => .inr (z.2.1, (List.range z.2.2).map (fun j => trV ad (hF h k j)))
  | 1 => .inl (dA z.2.1, z.2.2, .inl (hI h k))
  | 2 => .inl (dA 4, z.2.2, .inr (.inl (hJ h k)))
  | _ => .inl (dA z.2.1, z.2.2, .inr (.inr (.inr (.inr (fun j => (hR h k j).map ad)))))
def trW (ad : Nat → Nat) (dA : Nat → ClassId) (h : xH) : va_W := (List.range h.1.length).map (fun k => (ad k, xCell ad dA h k (h.1.getD k (0, 0, 0))))
theorem trW_len (ad : Nat → Nat) (dA : Nat → ClassId) (h : xH) : (trW ad dA h).length = h.1.length := by simp [trW]
theorem trW_at {ad : Nat → Nat} {dA : Nat → ClassId} {h : xH} {k : Nat} {z : Nat × Nat × Nat} (hk : h.1[k]? = some z) : (trW ad dA h)[k]? = some (ad k, xCell ad dA h k z) := by
  have hl : k < h.1.length := (List.getElem?_eq_some_iff.mp hk).1
  unfold trW
  rw [List.getElem?_map, List.getElem?_range hl]
  show some (ad k, xCell ad dA h k (h.1.getD k (0, 0, 0))) = _
  rw [List.getD_eq_getElem?_getD, hk]
  rfl
theorem trW_none {ad : Nat → Nat} {dA : Nat → ClassId} {h : xH} {k : Nat} (hk : h.1[k]? = none) : (trW ad dA h)[k]? = none := by
  rw [List.getElem?_eq_none_iff] at hk ⊢
  rw [trW_len]
  exact hk
/-- one cell is another, the rest as it was -/
theorem trW_upd {ad : Nat → Nat} {dA : Nat → ClassId} {h h' : xH} {k : Nat} {z : Nat × Nat × Nat} {e : va_E} (hs : h'.1 = h.1) (hk : h.1[k]? = some z) (he : xCell ad dA h' k z = e)
    (ho : ∀ j z, j ≠ k → xCell ad dA h' j z = xCell ad dA h j z) : (trW ad dA h).set k (ad k, e) = trW ad dA h' := by
  apply List.ext_getElem?
  intro j
  by_cases hj : j = k
  · subst hj
    rw [trW_at (h := h') (z := z) (by rw [hs]; exact hk), he, List.getElem?_set_self (by rw [trW_len]; exact (List.getElem?_eq_some_iff.mp hk).1)]
  · rw [List.getElem?_set_ne (fun q => hj q.symm)]
    cases hz : h.1[j]? with
    | none => rw [trW_none hz, trW_none (by rw [hs]; exact hz)]
    | some w => rw [trW_at hz, trW_at (by rw [hs]; exact hz), ho j w hj]
theorem xCell_uF {ad : Nat → Nat} {dA : Nat → ClassId} {h : xH} {k i ci n : Nat} {v : Value} (hi : i < n) : xCell ad dA (uF h k i v) k (0, ci, n) = .inr (ci, ((List.range n).map (fun j => trV ad (hF h k j))).set i (trV ad v)) := by
  show Sum.inr (ci, _) = Sum.inr (ci, _)
  congr 2
  apply List.ext_getElem?
  intro j
  by_cases hj : j = i
  · subst hj
    rw [List.getElem?_set_self (by simpa using hi), List.getElem?_map, List.getElem?_range hi]
    simp [hF, uF, up2]
  · rw [List.getElem?_set_ne (fun q => hj q.symm), List.getElem?_map, List.getElem?_map]
    cases hr : (List.range n)[j]? with
    | none => rfl
    | some b =>
      have hb : b = j := by
        have h1 := (List.getElem?_eq_some_iff.mp hr)
        obtain ⟨h2, h3⟩ := h1
        rw [List.getElem_range] at h3
        exact h3.symm
      subst hb
      show some (trV ad (up2 (hF h) k i v k b)) = some (trV ad (hF h k b))
      rw [up2_s]
      simp [hj]
theorem xCell_uF_o {ad : Nat → Nat} {dA : Nat → ClassId} {h : xH} {k i : Nat} {v : Value} : ∀ j z, j ≠ k → xCell ad dA (uF h k i v) j z = xCell ad dA h j z := by
  intro j z hj
  unfold xCell
  split <;> simp [hF, hI, hJ, hR, uF, up2_o hj]
theorem xCell_uI {ad : Nat → Nat} {dA : Nat → ClassId} {h : xH} {k i t n : Nat} {v : Int32} : xCell ad dA (uI h k i v) k (1, t, n) = .inl (dA t, n, .inl (upd (hI h k) i v)) := by
  show Sum.inl (dA t, n, Sum.inl _) = Sum.inl (dA t, n, Sum.inl _)
  have : hI (uI h k i v) k = upd (hI h k) i v := by
    show up2 (hI h) k i v k = _
    rw [up2_s]
    rfl
  rw [this]
theorem xCell_uI_o {ad : Nat → Nat} {dA : Nat → ClassId} {h : xH} {k i : Nat} {v : Int32} : ∀ j z, j ≠ k → xCell ad dA (uI h k i v) j z = xCell ad dA h j z := by
  intro j z hj
  unfold xCell
  split <;> simp [hF, hI, hJ, hR, uI, up2_o hj]
theorem xCell_uJ {ad : Nat → Nat} {dA : Nat → ClassId} {h : xH} {k i t n : Nat} {v : Int64} : xCell ad dA (uJ h k i v) k (2, t, n) = .inl (dA 4, n, .inr (.inl (vp_updL (hJ h k) i v))) := by
  show Sum.inl (dA 4, n, Sum.inr (Sum.inl _)) = Sum.inl (dA 4, n, Sum.inr (Sum.inl _))
  have : hJ (uJ h k i v) k = vp_updL (hJ h k) i v := by
    show up2 (hJ h) k i v k = _
    rw [up2_s]
    rfl
  rw [this]
theorem xCell_uJ_o {ad : Nat → Nat} {dA : Nat → ClassId} {h : xH} {k i : Nat} {v : Int64} : ∀ j z, j ≠ k → xCell ad dA (uJ h k i v) j z = xCell ad dA h j z := by
  intro j z hj
  unfold xCell
  split <;> simp [hF, hI, hJ, hR, uJ, up2_o hj]
theorem xCell_uR {ad : Nat → Nat} {dA : Nat → ClassId} {h : xH} {k i t n v : Nat} : xCell ad dA (uR h k i (some v)) k (3, t, n) = .inl (dA t, n, .inr (.inr (.inr (.inr (va_up (fun j => (hR h k j).map ad) i (some (ad v))))))) := by
  show Sum.inl (dA t, n, Sum.inr (Sum.inr (Sum.inr (Sum.inr _)))) = Sum.inl (dA t, n, Sum.inr (Sum.inr (Sum.inr (Sum.inr _))))
  have : (fun j => (hR (uR h k i (some v)) k j).map ad) = va_up (fun j => (hR h k j).map ad) i (some (ad v)) := by
    funext b
    show (up2 (hR h) k i (some v) k b).map ad = _
    rw [up2_s]
    unfold va_up
    by_cases hb : b = i <;> simp [hb]
  rw [this]
theorem xCell_uR_o {ad : Nat → Nat} {dA : Nat → ClassId} {h : xH} {k i : Nat} {v : Option Nat} : ∀ j z, j ≠ k → xCell ad dA (uR h k i v) j z = xCell ad dA h j z := by
  intro j z hj
  unfold xCell
  split <;> simp [hF, hI, hJ, hR, uR, up2_o hj]
/-! LOCALS, by their places. -/
def LH (ad : Nat → Nat) (ls : Array Slot) (nL : Nat) (lv : List (Option Value)) : Prop := ls.size = nL ∧ lv_wf ls ∧ ∀ (i : Nat) (v : Value), lv[i]? = some (some v) → ls[i]? = some (.val (trV ad v))
def asc (ad : Nat → Nat) (lv : List (Option Value)) : List (Nat × Value) := (List.range lv.length).filterMap (fun i => ((lv[i]?).join).map (fun v => (i, trV ad v)))
theorem mem_asc {ad : Nat → Nat} {lv : List (Option Value)} {i : Nat} {w : Value} : (i, w) ∈ asc ad lv ↔ ∃ v, lv[i]? = some (some v) ∧ w = trV ad v := by
  unfold asc
  rw [List.mem_filterMap]
  constructor
  · rintro ⟨j, hj, h⟩
    cases hv : lv[j]? with
    | none => rw [hv] at h; cases h
    | some o =>
      cases o with
      | none => rw [hv] at h; cases h
      | some v =>
        rw [hv] at h
        simp only [Option.join_some, Option.map_some, Option.some.injEq, Prod.mk.injEq] at h
        exact ⟨v, by rw [← h.1]; exact hv, h.2.symm⟩
  · rintro ⟨v, hv, rfl⟩
    refine ⟨i, List.mem_range.mpr (List.getElem?_eq_some_iff.mp hv).1, ?_⟩
    rw [hv]
    rfl
theorem LH.has {ad : Nat → Nat} {ls : Array Slot} {nL : Nat} {lv : List (Option Value)} (h : LH ad ls nL lv) : lv_has ls nL (asc ad lv) := by
  refine ⟨h.1, h.2.1, ?_⟩
  rintro ⟨i, w⟩ hq
  obtain ⟨v, h1, rfl⟩ := mem_asc.mp hq
  exact h.2.2 i v h1
def xclr (lv : List (Option Value)) : Nat → List (Option Value)
  | 0 => lv
  | j + 1 => match lv[j]? with
    | some (some w) => if w.category = 2 then lv.set j none else lv
    | _ => lv
theorem xclr_at {lv : List (Option Value)} {i j : Nat} {w : Value} (h : (xclr lv i)[j]? = some (some w)) : lv[j]? = some (some w) ∧ ¬ (j + 1 = i ∧ w.category = 2) := by
  cases i with
  | zero => exact ⟨h, fun q => by omega⟩
  | succ i =>
    replace h : (match lv[i]? with
      | some (some w) => if w.category = 2 then lv.set i none else lv
      | _ => lv)[j]? = some (some w) := h
    cases hv : lv[i]? with
    | none =>
      rw [hv] at h
      exact ⟨h, fun q => by obtain rfl : j = i := by omega
                            rw [hv] at h; cases h⟩
    | some o =>
      rw [hv] at h
      cases o with
      | none =>
        exact ⟨h, fun q => by obtain rfl : j = i := by omega
                              rw [hv] at h; cases h⟩
      | some u =>
        dsimp only at h
        by_cases hc : u.category = 2
        · rw [if_pos hc] at h
          by_cases hj : j = i
          · subst hj
            rw [List.getElem?_set_self (List.getElem?_eq_some_iff.mp hv).1] at h
            cases h
          · rw [List.getElem?_set_ne (fun q => hj q.symm)] at h
            exact ⟨h, fun q => hj (by omega)⟩
        · rw [if_neg hc] at h
          refine ⟨h, fun q => ?_⟩
          obtain rfl : j = i := by omega
          rw [hv] at h
          cases h
          exact hc q.2
def xst1 (lv : List (Option Value)) (i : Nat) (v : Value) : List (Option Value) := (xclr lv i).set i (some v)
def xst2 (lv : List (Option Value)) (i : Nat) (v : Value) : List (Option Value) := ((xclr lv i).set i (some v)).set (i + 1) none
theorem LH.st1 {ad : Nat → Nat} {ls : Array Slot} {nL i : Nat} {lv : List (Option Value)} {v : Value} (h : lv_has ls nL ((i, trV ad v) :: (asc ad lv).filter (fun q => !(q.1 == i) && !(q.1 + 1 == i && q.2.category == 2)))) : LH ad ls nL (xst1 lv i v) := by
  refine ⟨h.1, h.2.1, ?_⟩
  intro j w hj
  unfold xst1 at hj
  by_cases e : j = i
  · subst e
    have hl := (List.getElem?_eq_some_iff.mp hj).1
    rw [List.getElem?_set_self (by simpa using hl)] at hj
    cases hj
    exact h.2.2 (j, trV ad v) List.mem_cons_self
  · rw [List.getElem?_set_ne (fun q => e q.symm)] at hj
    obtain ⟨h1, h2⟩ := xclr_at hj
    refine h.2.2 (j, trV ad w) (List.mem_cons_of_mem _ (List.mem_filter.mpr ⟨mem_asc.mpr ⟨w, h1, rfl⟩, ?_⟩))
    simp only [trV_cat]
    by_cases q : j + 1 = i
    · have : ¬ w.category = 2 := fun c => h2 ⟨q, c⟩
      simp [e, q, this]
    · simp [e, q]
theorem LH.st2 {ad : Nat → Nat} {ls : Array Slot} {nL i : Nat} {lv : List (Option Value)} {v : Value} (h : lv_has ls nL ((i, trV ad v) :: (asc ad lv).filter (fun q => !(q.1 == i) && (!(q.1 == i + 1) && !(q.1 + 1 == i && q.2.category == 2))))) : LH ad ls nL (xst2 lv i v) := by
  refine ⟨h.1, h.2.1, ?_⟩
  intro j w hj
  unfold xst2 at hj
  by_cases e2 : j = i + 1
  · subst e2
    have hl := (List.getElem?_eq_some_iff.mp hj).1
    rw [List.getElem?_set_self (by simpa using hl)] at hj
    cases hj
  rw [List.getElem?_set_ne (fun q => e2 q.symm)] at hj
  by_cases e : j = i
  · subst e
    have hl := (List.getElem?_eq_some_iff.mp hj).1
    rw [List.getElem?_set_self (by simpa using hl)] at hj
    cases hj
    exact h.2.2 (j, trV ad v) List.mem_cons_self
  · rw [List.getElem?_set_ne (fun q => e q.symm)] at hj
    obtain ⟨h1, h2⟩ := xclr_at hj
    refine h.2.2 (j, trV ad w) (List.mem_cons_of_mem _ (List.mem_filter.mpr ⟨mem_asc.mpr ⟨w, h1, rfl⟩, ?_⟩))
    simp only [trV_cat]
    by_cases q : j + 1 = i
    · have : ¬ w.category = 2 := fun c => h2 ⟨q, c⟩
      simp [e, e2, q, this]
    · simp [e, e2, q]
/-- the locals at a method's start -/
def xEnt : List Value → List (Option Value)
  | [] => []
  | v :: vs => if v.category = 2 then some v :: none :: xEnt vs else some v :: xEnt vs
def xent (n : Nat) (vs : List Value) : List (Option Value) := xEnt vs ++ List.replicate (n - (xEnt vs).length) none
theorem xEnt_args {ad : Nat → Nat} : ∀ (vs : List Value) (o i : Nat) (v : Value), (xEnt vs)[i]? = some (some v) → (o + i, trV ad v) ∈ lv_args o (vs.map (trV ad))
  | [], _, _, _, h => by cases h
  | u :: us, o, i, v, h => by
    unfold xEnt at h
    show (o + i, trV ad v) ∈ (o, trV ad u) :: lv_args (if (trV ad u).category = 2 then o + 2 else o + 1) (us.map (trV ad))
    rw [trV_cat]
    by_cases hc : u.category = 2
    · rw [if_pos hc] at h ⊢
      match i, h with
      | 0, h => cases h; exact List.mem_cons_self
      | 1, h => cases h
      | i + 2, h => 
        have := xEnt_args (ad := ad) us (o + 2) i v h
        rw [show o + (i + 2) = o + 2 + i by omega]
        exact List.mem_cons_of_mem _ this
    · rw [if_neg hc] at h ⊢
      match i, h with
      | 0, h => cases h; exact List.mem_cons_self
      | i + 1, h =>
        have := xEnt_args (ad := ad) us (o + 1) i v h
        rw [show o + (i + 1) = o + 1 + i by omega]
        exact List.mem_cons_of_mem _ this
theorem xEnt_len (ad : Nat → Nat) : ∀ vs : List Value, (lg_sl (vs.map (trV ad))).length = (xEnt vs).length
  | [] => rfl
  | u :: us => by
    have ih := xEnt_len ad us
    unfold lg_sl at ih ⊢
    rw [List.map_cons, List.flatMap_cons, List.length_append, ih, trV_cat]
    show _ = (if u.category = 2 then some u :: none :: xEnt us else some u :: xEnt us).length
    by_cases hc : u.category = 2
    · rw [if_pos hc, if_pos hc]; simp; omega
    · rw [if_neg hc, if_neg hc]; simp; omega
theorem LH.entry {ad : Nat → Nat} {vs : List Value} {n : Nat} (hn : (xEnt vs).length ≤ n) : LH ad ((lg_sl (vs.map (trV ad)) ++ List.replicate (n - (lg_sl (vs.map (trV ad))).length) Slot.unset).toArray) n (xent n vs) := by
  have h := lv_entry (vs.map (trV ad)) (n := n) (by rw [xEnt_len]; exact hn)
  refine ⟨h.1, h.2.1, ?_⟩
  intro i v hi
  unfold xent at hi
  rcases Nat.lt_or_ge i (xEnt vs).length with q | q
  · rw [List.getElem?_append_left q] at hi
    have := xEnt_args (ad := ad) vs 0 i v hi
    rw [Nat.zero_add] at this
    exact h.2.2 _ this
  · rw [List.getElem?_append_right q, List.getElem?_replicate] at hi
    split at hi <;> cases hi
