def wA (σ : xs) (k : Nat) (f : Nat → Int32) : xs := (σ.1, (fun a => if a = k then f else si σ a), σ.2.2)
theorem si_wA (σ : xs) (k : Nat) (f : Nat → Int32) (a j : Nat) : si (wA σ k f) a j = if a = k then f j else si σ a j := by
  show (if a = k then f else si σ a) j = _
  by_cases h : a = k <;> simp [h]
theorem sf_wA (σ : xs) (k : Nat) (f : Nat → Int32) : sf (wA σ k f) = sf σ := rfl
theorem sj_wA (σ : xs) (k : Nat) (f : Nat → Int32) : sj (wA σ k f) = sj σ := rfl
theorem sp_wA (σ : xs) (k : Nat) (f : Nat → Int32) : sp (wA σ k f) = sp σ := rfl
theorem so_wA (σ : xs) (k : Nat) (f : Nat → Int32) : so (wA σ k f) = so σ := rfl
/-- the first n entries of f over those of g -/
def cpN (f g : Nat → Int32) (n : Nat) : Nat → Int32 := fun k => if k < n then f k else g k
section
variable {l : xLa} {M : mT} {d pc : Nat} {lv : List (Option Value)} {r : List Value} {σ : xs} {Q : Option Value → xs → Prop}
/-- arraycopy of the first n -/
theorem tn_copyI {i p0 a b n0 n1 n : Nat} (hd : decode (mCd M) pc = .ok (.invokestatic i, 3)) (hl : xlk xPL M.1 i = some (1, p0)) (ha : xSh[a]? = some (1, 0, n0)) (hb : xSh[b]? = some (1, 0, n1)) (hn : n < 2 ^ 31) (g4 : n ≤ n0) (g5 : n ≤ n1) (hc : (r.map fun v => v.category).sum ≤ 8)
    (k : T l M (d + 1) (pc + 3) lv r (wA σ b (cpN (si σ a) (si σ b) n)) Q) : T l M (d + 1) pc lv (.int (nI n) :: .int (nI 0) :: .ref b :: .int (nI 0) :: .ref a :: r) σ Q := by
  have e : va_cpy (hI (mk σ) a) (hI (mk σ) b) (nI 0).toNatClampNeg (nI 0).toNatClampNeg (nI n).toNatClampNeg = cpN (si σ a) (si σ b) n := by
    rw [nI_clamp hn, nI_clamp (by decide)]
    funext j
    simp [va_cpy, cpN]
    rfl
  refine E.copyI (Nat.le_add_left 1 d) hl hd ha hb (by decide) (by decide) (nI_pos hn) ?_ ?_ hc ?_
  · rw [nI_clamp hn, nI_clamp (by decide)]; omega
  · rw [nI_clamp hn, nI_clamp (by decide)]; omega
  · rw [e]; exact k
theorem tn_copyS {i p0 a b n1 n : Nat} {q : String × List Int32} (hd : decode (mCd M) pc = .ok (.invokestatic i, 3)) (hl : xlk xPL M.1 i = some (1, p0)) (ha : xsa[a]? = some q) (hb : xSh[b]? = some (1, 0, n1)) (hn : n < 2 ^ 31) (g4 : n ≤ q.2.length) (g5 : n ≤ n1) (hc : (r.map fun v => v.category).sum ≤ 8)
    (k : T l M (d + 1) (pc + 3) lv r (wA σ b (cpN (fun j => q.2.getD j 0) (si σ b) n)) Q) : T l M (d + 1) pc lv (.int (nI n) :: .int (nI 0) :: .ref b :: .int (nI 0) :: .ref (xB + a) :: r) σ Q := by
  have e : va_cpy (fun j => q.2.getD j 0) (hI (mk σ) b) (nI 0).toNatClampNeg (nI 0).toNatClampNeg (nI n).toNatClampNeg = cpN (fun j => q.2.getD j 0) (si σ b) n := by
    rw [nI_clamp hn, nI_clamp (by decide)]
    funext j
    simp [va_cpy, cpN]
    rfl
  refine E.copyS (Nat.le_add_left 1 d) hl hd ha hb (by decide) (by decide) (nI_pos hn) ?_ ?_ hc ?_
  · rw [nI_clamp hn, nI_clamp (by decide)]; omega
  · rw [nI_clamp hn, nI_clamp (by decide)]; omega
  · rw [e]; exact k
end
/-! the objects that are states -/
def isS (a : Nat) : Prop := a ∈ xStates
theorem xS_sh {a : Nat} (h : isS a) : xSh[a]? = some (0, 6, 10) := (show ∀ a ∈ xStates, xSh[a]? = some (0, 6, 10) by decide +kernel) a h
theorem xS_i {a : Nat} (h : isS a) : ∀ k, k < 6 → xint a k = true := (show ∀ a ∈ xStates, ∀ k, k < 6 → xint a k = true by decide +kernel) a h
theorem xS_r {a : Nat} (h : isS a) : xrf a 6 = some (a + 1) ∧ xrf a 7 = some (a + 2) ∧ xrf a 8 = some (a + 3) ∧ xrf a 9 = some (a + 4) := (show ∀ a ∈ xStates, xrf a 6 = some (a + 1) ∧ xrf a 7 = some (a + 2) ∧ xrf a 8 = some (a + 3) ∧ xrf a 9 = some (a + 4) by decide +kernel) a h
theorem xS_a {a : Nat} (h : isS a) : xSh[a + 1]? = some (1, 0, 8) ∧ xSh[a + 2]? = some (1, 0, 8) ∧ xSh[a + 3]? = some (1, 0, 8) ∧ xSh[a + 4]? = some (1, 0, 8) := (show ∀ a ∈ xStates, xSh[a + 1]? = some (1, 0, 8) ∧ xSh[a + 2]? = some (1, 0, 8) ∧ xSh[a + 3]? = some (1, 0, 8) ∧ xSh[a + 4]? = some (1, 0, 8) by decide +kernel) a h
theorem xS_0 {a : Nat} (h : isS a) : ∀ k, k < 10 → (a == 0 && (k == kPul || k == kOth)) = false := (show ∀ a ∈ xStates, ∀ k, k < 10 → (a == 0 && (k == kPul || k == kOth)) = false by decide +kernel) a h
theorem xS_far {a b : Nat} (ha : isS a) (hb : isS b) : a = b ∨ a + 5 ≤ b ∨ b + 5 ≤ a := (show ∀ a ∈ xStates, ∀ b ∈ xStates, a = b ∨ a + 5 ≤ b ∨ b + 5 ≤ a by decide +kernel) a ha b hb
theorem xS_in {a : Nat} (h : isS a) : 20 ≤ a ∧ a + 4 ≤ 153 := (show ∀ a ∈ xStates, 20 ≤ a ∧ a + 4 ≤ 153 by decide +kernel) a h
