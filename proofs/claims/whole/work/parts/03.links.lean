/-! The tables' words that go with every call, and what the printed links say of them. -/
def xG : List Cond := lw_tbl.filter goodWord
theorem xG_of {w : Cond} (h : w ∈ lw_tbl) (hg : goodWord w = true) : w ∈ xG := List.mem_filter.mpr ⟨h, hg⟩
theorem xG_at {w : Cond} {i : Nat} (h : lw_tbl[i]? = some w) (hg : goodWord w = true) : w ∈ xG := xG_of (List.mem_of_getElem? h) hg
theorem xG_good : ∀ w ∈ xG, (w.onTables && w.keeps) = true ∨ ∃ ty, w = .arrayClass ty := fun w h => good_of_word (List.mem_filter.mp h).2
def xIsN : Cond → Bool
  | .fieldLinkNest .. => true
  | .methodLinkNest .. => true
  | _ => false
def xNst : List Cond := lw_tbl.filter xIsN
theorem xN_at {w : Cond} {i : Nat} (h : lw_tbl[i]? = some w) (hg : xIsN w = true) : w ∈ xNst := List.mem_filter.mpr ⟨List.mem_of_getElem? h, hg⟩
def xlk {α : Type} (T : List (List (Nat × α))) (o i : Nat) : Option α := ((T.getD o []).find? (fun r => r.1 == i)).map (fun r => r.2)
theorem xlk_mem {α : Type} {T : List (List (Nat × α))} {o i : Nat} {x : α} (h : xlk T o i = some x) : (i, x) ∈ T.getD o [] := by
  unfold xlk at h
  cases hf : (T.getD o []).find? (fun r => r.1 == i) with
  | none => rw [hf] at h; cases h
  | some r =>
    rw [hf] at h
    have h1 := List.find?_some hf
    have h2 := List.mem_of_find?_eq_some hf
    simp only [Option.map_some, Option.some.injEq] at h
    have h3 : r.1 = i := by simpa using h1
    rw [← h3, ← h]
    exact h2
theorem xlk_lt {α : Type} {T : List (List (Nat × α))} {o i : Nat} {x : α} (h : xlk T o i = some x) : o < T.length := by
  rcases Nat.lt_or_ge o T.length with q | q
  · exact q
  · have := xlk_mem h
    rw [List.getD_eq_getElem?_getD, List.getElem?_eq_none q] at this
    simp at this
abbrev xFLp (o : Nat) (r : Nat × Nat × Nat × Nat × Nat) : Prop :=
  lw_tbl[r.2.2.2.2]? = some (if r.2.2.2.1 = 1 then Cond.fieldLinkNest (xown.getD o "") r.1 (xT r.2.1 r.2.2.1).1 (xT r.2.1 r.2.2.1).2.1 (xT r.2.1 r.2.2.1).2.2.1 "FishFerry" else Cond.fieldLink (xown.getD o "") r.1 (xT r.2.1 r.2.2.1).1 (xT r.2.1 r.2.2.1).2.1 (xT r.2.1 r.2.2.1).2.2.1) ∧ r.2.2.1 < xN r.2.1 ∧ r.2.1 < 13
theorem xFL_ok : ∀ o, o < 28 → ∀ r ∈ xFL.getD o [], xFLp o r := by decide +kernel
theorem xcl_lay : ∀ ci, ci < 13 → ∀ w ∈ u_ws (xcn.getD ci "") (xT ci) (xN ci), w ∈ lw_tbl ∧ goodWord w = true := by decide +kernel
theorem xcl_ty : ∀ ci, ci < 13 → ∀ k, k < xN ci → parseFieldDescriptor (xT ci k).2.2.1 = some (xty ci k) := by decide +kernel
theorem xcl_nm : ∀ ci, ci < 13 → ∀ a, a < xN ci → ∀ b, b < xN ci → a ≠ b → (xT ci a).2.1 ≠ (xT ci b).2.1 := by decide +kernel
theorem xcl_at {ci : Nat} (h : ci < 13) : xcl[ci]? = some (xcn.getD ci "", xT ci, xN ci) := by
  unfold xcl
  rw [List.getElem?_map, List.getElem?_range h]
  rfl
abbrev xKIp (o : Nat) (r : Nat × Int32 × Nat) : Prop := lw_tbl[r.2.2]? = some (Cond.constant (xown.getD o "") r.1 r.2.1)
theorem xKI_ok : ∀ o, o < 28 → ∀ r ∈ xKI.getD o [], xKIp o r := by decide +kernel
abbrev xKLp (o : Nat) (r : Nat × Int64 × Nat) : Prop := lw_tbl[r.2.2]? = some (Cond.constantLong (xown.getD o "") r.1 r.2.1)
theorem xKL_ok : ∀ o, o < 28 → ∀ r ∈ xKL.getD o [], xKLp o r := by decide +kernel
abbrev xCLp (o : Nat) (r : Nat × Nat × Nat × Nat × Nat) : Prop := lw_tbl[r.2.2.1]? = some (Cond.classLink (xown.getD o "") r.1 (xcn.getD r.2.1 "")) ∧ lw_tbl[r.2.2.2.1]? = some (Cond.initialized (xcn.getD r.2.1 "")) ∧ lw_tbl[r.2.2.2.2]? = some (Cond.instantiable (xcn.getD r.2.1 "") (xN r.2.1)) ∧ r.2.1 < 13
theorem xCL_ok : ∀ o, o < 28 → ∀ r ∈ xCL.getD o [], xCLp o r := by decide +kernel
