section
variable {l : xLa} {M : mT} {d pc : Nat} {lv : List (Option Value)} {r : List Value} {σ : xs} {Q : Option Value → xs → Prop}
theorem tn_max {a b i p : Nat} (ha : a < 2 ^ 31) (hb : b < 2 ^ 31) (hd : decode (mCd M) pc = .ok (.invokestatic i, 3)) (hl : xlk xPL M.1 i = some (2, p)) (hc : (r.map fun v => v.category).sum ≤ 8) (k : T l M (d + 1) (pc + 3) lv (.int (nI (max a b)) :: r) σ Q) : T l M (d + 1) pc lv (.int (nI b) :: .int (nI a) :: r) σ Q := by
  refine tt_max hd hl hc ?_
  have : (if nI a < nI b then nI b else nI a) = nI (max a b) := by
    by_cases h : a < b
    · rw [if_pos ((nI_ltI ha hb).mpr h), Nat.max_eq_right (by omega)]
    · rw [if_neg (fun q => h ((nI_ltI ha hb).mp q)), Nat.max_eq_left (by omega)]
  rw [this]
  exact k
theorem tn_min {a b i p : Nat} (ha : a < 2 ^ 31) (hb : b < 2 ^ 31) (hd : decode (mCd M) pc = .ok (.invokestatic i, 3)) (hl : xlk xPL M.1 i = some (3, p)) (hc : (r.map fun v => v.category).sum ≤ 8) (k : T l M (d + 1) (pc + 3) lv (.int (nI (min a b)) :: r) σ Q) : T l M (d + 1) pc lv (.int (nI b) :: .int (nI a) :: r) σ Q := by
  refine tt_min hd hl hc ?_
  have : (if nI b < nI a then nI b else nI a) = nI (min a b) := by
    by_cases h : b < a
    · rw [if_pos ((nI_ltI hb ha).mpr h), Nat.min_eq_right (by omega)]
    · rw [if_neg (fun q => h ((nI_ltI hb ha).mp q)), Nat.min_eq_left (by omega)]
  rw [this]
  exact k
end
