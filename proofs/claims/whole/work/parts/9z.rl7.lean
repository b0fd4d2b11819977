/-! A rule while it is read: what the reference reads is what the class reads. Printed by wip/whole. -/
/-- signs that bind tighter than a rank -/
def tgt (r : Nat) : List Nat → Prop
  | [] => True
  | t :: P => (t = 3000 ∨ (¬ t = 40 ∧ r + 1 ≤ bnd (t - 2000))) ∧ tgt r P
theorem tgt_m {r k : Nat} (h : k ≤ r) : ∀ {P : List Nat}, tgt r P → tgt k P
  | [], _ => trivial
  | _ :: _, q => ⟨q.1.elim Or.inl (fun z => Or.inr ⟨z.1, by have := z.2; omega⟩), tgt_m h q.2⟩
theorem tgt_a {r t : Nat} (h : t = 3000 ∨ (¬ t = 40 ∧ r + 1 ≤ bnd (t - 2000))) : ∀ {P : List Nat}, tgt r P → tgt r (P ++ [t])
  | [], _ => ⟨h, trivial⟩
  | _ :: _, q => ⟨q.1, tgt_a h q.2⟩
theorem rx_a {t : Nat} : ∀ (P C : List Nat), List.reverseAux (P ++ [t]) C = t :: List.reverseAux P C
  | [], _ => rfl
  | a :: P, C => rx_a P (a :: C)
theorem rx_l : ∀ (P C : List Nat), (List.reverseAux P C).length = P.length + C.length
  | [], C => (Nat.zero_add _).symm
  | a :: P, C => by
    show (List.reverseAux P (a :: C)).length = P.length + 1 + C.length
    rw [rx_l P (a :: C)]
    show P.length + (C.length + 1) = _
    omega
theorem stl_P {b : Nat} {W : List Nat} : ∀ (P C : List Nat) (r : Nat), tgt r P → b ≤ r + 1 → stl b (P ++ W) C = stl b W (List.reverseAux P C)
  | [], _, _, _, _ => rfl
  | t :: P, C, r, h, hb => by
    show stl b (t :: (P ++ W)) C = stl b W (List.reverseAux P (t :: C))
    rw [stl_y (fun z => by rcases h.1 with y | y; omega; exact y.1 z) (fun z => by rcases h.1 with y | y; exact z.1 y; have := z.2; have := y.2; omega)]
    exact stl_P P (t :: C) r h.2 hb
/-- what lies under a rank -/
def ctx (r : Nat) (W : List Nat) : Prop := ∀ t V, W = t :: V → t = 40 ∨ (¬ t = 3000 ∧ bnd (t - 2000) < r + 1)
theorem stl_W {r : Nat} {W C : List Nat} (h : ctx r W) : stl (r + 1) W C = (C, W) := by
  cases W with
  | nil => rfl
  | cons t V =>
    by_cases c : t = 40
    · subst c; exact stl_4
    · exact stl_n c ((h t V rfl).elim (fun z => absurd z c) id)
theorem ctx_m {r k : Nat} {W : List Nat} (h : ctx r W) (hk : r ≤ k) : ctx k W := fun t V e => (h t V e).elim Or.inl (fun z => Or.inr ⟨z.1, by have := z.2; omega⟩)
/-- reading ends with a fault at place q -/
def RNf (N : Nat) (R : Nat ⊕ rst) (q : Nat) : Prop := (R = .inl q ∧ q < N) ∨ (q = N ∧ ∃ S', R = .inr S' ∧ (rN S' = 1 ∨ 0 < rD S'))
section
variable {x : Nat × (Nat → Nat)} {N r p q k : Nat} {S S' S1 S2 : rst} {L L2 : List Nat}
/-- what is asked before a rank -/
def PRr (N r p : Nat) (S : rst) : Prop := p ≤ N ∧ RI S p ∧ rN S = 1 ∧ (r < 3 → ctx r (rW S)) ∧ (r = 0 → (rM S).testBit (rD S) = false)
/-- a rank was read from place p to place q; L: its code as the reference has it then -/
def OKb (x : Nat × (Nat → Nat)) (N r p q : Nat) (S S' : rst) (L : List Nat) : Prop := (p < q ∧ q ≤ N) ∧ rn x (N - p) p S = rn x (N - q) q S' ∧ RI S' q ∧ (rN S' = 0 ∧ rD S' = rD S) ∧ (∀ j, j < rD S + (if r = 0 then 0 else 1) → (rM S').testBit j = (rM S).testBit j) ∧ (∃ P, rW S' = P ++ rW S ∧ tgt r P ∧ L = List.reverseAux P (rC S')) ∧ (isD x.2 N q → rG S' = 0 ∨ rG S' = 3)
def OKr (x : Nat × (Nat → Nat)) (N r p q : Nat) (S S' : rst) (L : List Nat) : Prop := OKb x N r p q S S' L ∧ (q < N → bnd (x.2 q) ≤ r ∨ (r = 0 ∧ bnd (x.2 q) = 1 ∧ (rM S').testBit (rD S') = true))
def LPr (x : Nat × (Nat → Nat)) (N r p q : Nat) (S S' : rst) (L : List Nat) : Prop := OKb x N r p q S S' L ∧ (q < N → bnd (x.2 q) ≤ r + 1) ∧ (r = 0 → (rM S').testBit (rD S') = false)
def NOr (x : Nat × (Nat → Nat)) (N p q : Nat) (S : rst) : Prop := (p ≤ q ∧ q ≤ N) ∧ RNf N (rn x (N - p) p S) q
theorem rn_1 (hp : p < N) (h : tk S (x.2 p) = some S1) : rn x (N - p) p S = rn x (N - (p + 1)) (p + 1) S1 := by
  rw [show N - p = N - (p + 1) + 1 by omega]
  exact rn_s h
theorem NO_n (hp : p < N) (h : tk S (x.2 p) = none) : NOr x N p p S := ⟨⟨Nat.le_refl _, by omega⟩, Or.inl ⟨by rw [show N - p = N - (p + 1) + 1 by omega]; exact rn_n h, hp⟩⟩
theorem NO_e (h : rN S = 1 ∨ 0 < rD S) : NOr x N N N S := ⟨⟨Nat.le_refl _, Nat.le_refl _⟩, Or.inr ⟨rfl, S, by rw [Nat.sub_self]; rfl, h⟩⟩
theorem NO_t (e : rn x (N - p) p S = rn x (N - k) k S1) (hk : p ≤ k) (h : NOr x N k q S1) : NOr x N p q S := ⟨⟨by have := h.1.1; omega, h.1.2⟩, by rw [e]; exact h.2⟩
/-- a minus -/
def sT (S : rst) : rst := ((rC S, 3000 :: rW S), (rD S, rM S), rG S, 1)
theorem tk_T (hn : rN S = 1) : tk S 45 = some (sT S) := (if_pos hn).trans (if_pos rfl)
theorem PR_T (h : PRr N 3 p S) (hp : p < N) (e : x.2 p = 45) : PRr N 3 (p + 1) (sT S) ∧ rn x (N - p) p S = rn x (N - (p + 1)) (p + 1) (sT S) := by
  have ht : tk S (x.2 p) = some (sT S) := by rw [e]; exact tk_T h.2.2.1
  exact ⟨⟨hp, tk_ok h.2.1 ht, rfl, fun z => absurd z (by decide), fun z => absurd z (by decide)⟩, rn_1 hp ht⟩
theorem OK_T (e : rn x (N - p) p S = rn x (N - (p + 1)) (p + 1) (sT S)) (h : OKr x N 3 (p + 1) q (sT S) S' L) : OKr x N 3 p q S S' (3000 :: L) := by
  obtain ⟨⟨⟨a1, a2⟩, a3, a4, a5, a6, ⟨P, b1, b2, b3⟩, a7⟩, a8⟩ := h
  refine ⟨⟨⟨by omega, a2⟩, e.trans a3, a4, a5, a6, ⟨P ++ [3000], ?_, tgt_a (Or.inl rfl) b2, ?_⟩, a7⟩, a8⟩
  · rw [b1]
    show P ++ 3000 :: rW S = P ++ [3000] ++ rW S
    rw [List.append_assoc]
    rfl
  · rw [rx_a, b3]
/-- a number -/
theorem num_l {C0 W : List Nat} {D M : Nat} : ∀ (k g v a : Nat), k + g = 3 → 1 ≤ g → a ≤ N → RI ((v :: C0, W), (D, M), g, 0) a → ∃ g', (a ≤ (nmF x.2 N k v a).2 ∧ (nmF x.2 N k v a).2 ≤ N) ∧ rn x (N - a) a ((v :: C0, W), (D, M), g, 0) = rn x (N - (nmF x.2 N k v a).2) (nmF x.2 N k v a).2 (((nmF x.2 N k v a).1 :: C0, W), (D, M), g', 0) ∧ RI (((nmF x.2 N k v a).1 :: C0, W), (D, M), g', 0) (nmF x.2 N k v a).2 ∧ (isD x.2 N (nmF x.2 N k v a).2 → g' = 3) ∧ 1 ≤ g' ∧ g' ≤ 3
  | 0, g, v, a, hk, hg, ha, hI => ⟨g, ⟨Nat.le_refl _, ha⟩, rfl, hI, fun _ => by omega, hg, by omega⟩
  | k + 1, g, v, a, hk, hg, ha, hI => by
    by_cases c : isD x.2 N a
    · rw [nm_y c]
      have c' : a < N ∧ 48 ≤ x.2 a ∧ x.2 a ≤ 57 := c
      have ht : tk ((v :: C0, W), (D, M), g, 0) (x.2 a) = some (((10 * v + x.2 a - 48) :: C0, W), (D, M), g + 1, 0) := by
        refine (if_neg (show ¬ (0 : Nat) = 1 by decide)).trans ((if_pos c'.2).trans ((if_neg (by show ¬ (g = 0 ∨ g = 3); omega)).trans ?_))
        show some (((v * 10 + (x.2 a - 48)) :: C0, W), (D, M), g + 1, 0) = _
        rw [show v * 10 + (x.2 a - 48) = 10 * v + x.2 a - 48 by omega]
      obtain ⟨g', a1, a2, a3, a4, a5⟩ := num_l k (g + 1) (10 * v + x.2 a - 48) (a + 1) (by omega) (by omega) (by omega) (tk_ok hI ht)
      exact ⟨g', ⟨by omega, a1.2⟩, (rn_1 c'.1 ht).trans a2, a3, a4, a5⟩
    · rw [nm_n c]
      exact ⟨g, ⟨Nat.le_refl _, ha⟩, rfl, hI, fun z => absurd z c, hg, by omega⟩
theorem OK_N (h : PRr N 3 p S) (hd : isD x.2 N p) : ∃ S', OKr x N 3 p (nmF x.2 N 3 0 p).2 S S' ((nmF x.2 N 3 0 p).1 :: rC S) ∧ (nmF x.2 N 3 0 p).1 < 1000 := by
  have c' : p < N ∧ 48 ≤ x.2 p ∧ x.2 p ≤ 57 := hd
  have ht : tk S (x.2 p) = some (((x.2 p - 48) :: rC S, rW S), (rD S, rM S), 1, 0) := (if_pos h.2.2.1).trans ((if_neg (by omega)).trans ((if_neg (by omega)).trans (if_pos c'.2)))
  obtain ⟨g', a1, a2, a3, a4, a5, a6⟩ := num_l (x := x) (N := N) 2 1 (x.2 p - 48) (p + 1) rfl (Nat.le_refl _) c'.1 (tk_ok h.2.1 ht)
  have e : nmF x.2 N 3 0 p = nmF x.2 N 2 (x.2 p - 48) (p + 1) := by
    rw [nm_y hd, show 10 * 0 + x.2 p - 48 = x.2 p - 48 by omega]
  rw [e]
  obtain ⟨c, C, ec, hc⟩ := a3.2.2.2.2.2.2 rfl (by show 0 < g'; omega)
  have ec' : (nmF x.2 N 2 (x.2 p - 48) (p + 1)).1 = c := (List.cons.inj ec).1
  have hp : 10 ^ g' ≤ 10 ^ 3 := Nat.pow_le_pow_right (by decide) a6
  have hc' : c < 10 ^ g' := hc
  refine ⟨_, ⟨⟨⟨by omega, a1.2⟩, (rn_1 c'.1 ht).trans a2, a3, ⟨rfl, rfl⟩, fun j _ => rfl, ⟨[], rfl, trivial, rfl⟩, fun z => Or.inr (a4 z)⟩, fun _ => Or.inl ?_⟩, by rw [ec']; omega⟩
  by_cases z : bnd (x.2 (nmF x.2 N 2 (x.2 p - 48) (p + 1)).2) = 0
  · omega
  · exact (bnd_c z).2.1
theorem b3 (s : Nat) : bnd s ≤ 3 := by
  by_cases z : bnd s = 0
  · omega
  · exact (bnd_c z).2.1
/-- a letter -/
def sL (S : rst) (s : Nat) : rst := (((999 + ltN s) :: rC S, rW S), (rD S, rM S), 0, 0)
theorem OK_L (h : PRr N 3 p S) (hp : p < N) (hl : ¬ ltN (x.2 p) = 0) : OKr x N 3 p (p + 1) S (sL S (x.2 p)) ((999 + ltN (x.2 p)) :: rC S) := by
  have h9 := (lt_c (x.2 p)).2 hl
  have ht : tk S (x.2 p) = some (sL S (x.2 p)) := (if_pos h.2.2.1).trans ((if_neg (by omega)).trans ((if_neg (by omega)).trans ((if_neg (by omega)).trans (if_neg hl))))
  exact ⟨⟨⟨by omega, hp⟩, rn_1 hp ht, tk_ok h.2.1 ht, ⟨rfl, rfl⟩, fun j _ => rfl, ⟨[], rfl, trivial, rfl⟩, fun _ => Or.inl rfl⟩, fun _ => Or.inl (b3 _)⟩
/-- nothing that is a thing -/
theorem NO_T (h : PRr N 3 p S) (h1 : ¬ (p < N ∧ x.2 p = 45)) (h2 : ¬ isD x.2 N p) (h3 : p < N → ltN (x.2 p) = 0) (h4 : rD S = 4 ∨ ¬ (p < N ∧ x.2 p = 40)) : NOr x N p p S := by
  by_cases hp : p < N
  · have h2' : ¬ (p < N ∧ 48 ≤ x.2 p ∧ x.2 p ≤ 57) := h2
    refine NO_n hp ((if_pos h.2.2.1).trans ((if_neg (by omega)).trans ?_))
    by_cases c : x.2 p = 40
    · exact (if_pos c).trans (if_pos (by omega))
    · exact (if_neg c).trans ((if_neg (by omega)).trans (if_pos (h3 hp)))
  · obtain rfl : p = N := by have := h.1; omega
    exact NO_e (Or.inl h.2.2.1)
/-- a bracket -/
def sB (S : rst) : rst := ((rC S, 40 :: rW S), (rD S + 1, clb (rM S) (rD S + 1)), rG S, 1)
theorem PR_B (h : PRr N 3 p S) (hp : p < N) (e : x.2 p = 40) (hd : ¬ rD S = 4) : PRr N 0 (p + 1) (sB S) ∧ rn x (N - p) p S = rn x (N - (p + 1)) (p + 1) (sB S) := by
  have i4 := h.2.1.2.2.2.1
  have ht : tk S (x.2 p) = some (sB S) := by rw [e]; exact (if_pos h.2.2.1).trans ((if_neg (by decide)).trans ((if_pos rfl).trans (if_neg hd)))
  exact ⟨⟨hp, tk_ok h.2.1 ht, rfl, fun _ t V e => Or.inl (List.cons.inj e).1.symm, fun _ => (clb_lt _ (by omega) _ i4.2.1).2.1⟩, rn_1 hp ht⟩
def sC (S S2 : rst) (L : List Nat) : rst := ((L, rW S), (rD S, rM S2), 0, 0)
theorem OK_B (h : PRr N 3 p S) (hd : ¬ rD S = 4) (e : rn x (N - p) p S = rn x (N - (p + 1)) (p + 1) (sB S)) (ho : OKr x N 0 (p + 1) q (sB S) S2 L) (hq : q < N) (e2 : x.2 q = 41) : OKr x N 3 p (q + 1) S (sC S S2 L) L := by
  have i4 := h.2.1.2.2.2.1
  obtain ⟨⟨⟨a1, a2⟩, a3, a4, ⟨a5, a5'⟩, a6, ⟨P, b1, b2, b3'⟩, a7⟩, a8⟩ := ho
  have e5 : rD S2 = rD S + 1 := a5'
  have es : stl 0 (rW S2) (rC S2) = (L, 40 :: rW S) := by
    rw [b1, stl_P P (rC S2) 0 b2 (by decide), ← b3']
    exact stl_4
  have ht : tk S2 (x.2 q) = some (sC S S2 L) := by
    rw [e2]
    refine (if_neg (by omega)).trans ((if_neg (by decide)).trans ((if_pos rfl).trans ((if_neg (by omega)).trans ?_)))
    rw [es, e5]
    rfl
  refine ⟨⟨⟨by omega, hq⟩, (e.trans a3).trans (rn_1 hq ht), tk_ok a4 ht, ⟨rfl, rfl⟩, fun j hj => ?_, ⟨[], rfl, trivial, rfl⟩, fun _ => Or.inl rfl⟩, fun _ => Or.inl (b3 _)⟩
  have hj' : j < rD S + 1 := hj
  have q1 : (rM S2).testBit j = (clb (rM S) (rD S + 1)).testBit j := a6 j hj'
  exact q1.trans ((clb_lt _ (by omega) _ i4.2.1).2.2 j (by omega) (by omega))
theorem NO_B (e : rn x (N - p) p S = rn x (N - (p + 1)) (p + 1) (sB S)) (ho : OKr x N 0 (p + 1) q (sB S) S2 L) (hq : ¬ (q < N ∧ x.2 q = 41)) : NOr x N p q S := by
  obtain ⟨⟨⟨a1, a2⟩, a3, a4, ⟨a5, a5'⟩, a6, a7, a8⟩, a9⟩ := ho
  have e5 : rD S2 = rD S + 1 := a5'
  refine NO_t (e.trans a3) (by omega) ?_
  by_cases c : q < N
  · refine NO_n c ((if_neg (by omega)).trans ?_)
    by_cases c1 : 48 ≤ x.2 q ∧ x.2 q ≤ 57
    · exact (if_pos c1).trans (if_pos (a8 ⟨c, c1⟩))
    · refine (if_neg c1).trans ((if_neg (fun z => hq ⟨c, z⟩)).trans (if_pos ?_))
      rcases a9 c with z | z
      · exact Or.inl (by omega)
      · exact Or.inr z.2
  · obtain rfl : q = N := by omega
    exact NO_e (Or.inr (by omega))
/-- ranks -/
theorem PR_up (h : PRr N r p S) (hr : r < 3) : PRr N (r + 1) p S := ⟨h.1, h.2.1, h.2.2.1, fun _ => ctx_m (h.2.2.2.1 hr) (by omega), fun z => absurd z (by omega)⟩
theorem LP_0 (h : PRr N r p S) (hr : r < 3) (ho : OKr x N (r + 1) p q S S' L) : LPr x N r p q S S' L := by
  obtain ⟨⟨a1, a3, a4, a5, a6, ⟨P, b1, b2, b3'⟩, a7⟩, a8⟩ := ho
  have a6' : ∀ j, j < rD S + 1 → (rM S').testBit j = (rM S).testBit j := fun j hj => a6 j (by rw [if_neg (by omega)]; exact hj)
  refine ⟨⟨a1, a3, a4, a5, fun j hj => a6' j (by by_cases z : r = 0 <;> simp [z] at hj <;> omega), ⟨P, b1, tgt_m (by omega) b2, b3'⟩, a7⟩, fun z => (a8 z).elim id (fun y => by omega), fun z => ?_⟩
  rw [a5.2, a6' _ (by omega)]
  exact h.2.2.2.2 z
theorem OK_l (h : LPr x N r p q S S' L) (hn : q < N → ¬ bnd (x.2 q) = r + 1) : OKr x N r p q S S' L := ⟨h.1, fun z => Or.inl (by have := h.2.1 z; have := hn z; omega)⟩
def sO (S S' : rst) (L : List Nat) (s : Nat) : rst := ((L, (2000 + s) :: rW S), (rD S', if bnd s = 1 then rM S' ||| 2 ^ rD S' else rM S'), 0, 1)
theorem PR_O (h : PRr N r p S) (hr : r < 3) (ho : LPr x N r p q S S' L) (hq : q < N) (hb : bnd (x.2 q) = r + 1) : PRr N (r + 1) (q + 1) (sO S S' L (x.2 q)) ∧ rn x (N - p) p S = rn x (N - (q + 1)) (q + 1) (sO S S' L (x.2 q)) := by
  obtain ⟨⟨⟨a1, a2⟩, a3, a4, ⟨a5, a5'⟩, a6, ⟨P, b1, b2, b3'⟩, a7⟩, a8, a9⟩ := ho
  have hs : stl (bnd (x.2 q)) (rW S') (rC S') = (L, rW S) := by
    rw [hb, b1, stl_P P (rC S') r b2 (Nat.le_refl _), ← b3']
    exact stl_W (h.2.2.2.1 hr)
  have hd : ¬ (48 ≤ x.2 q ∧ x.2 q ≤ 57) ∧ ¬ x.2 q = 41 := by
    have : ¬ bnd (x.2 q) = 0 := by omega
    unfold bnd at this
    constructor
    · intro z
      rw [if_neg (by omega), if_neg (by omega), if_neg (by omega)] at this
      exact this rfl
    · intro z
      rw [z] at this
      exact this rfl
  have ht : tk S' (x.2 q) = some (sO S S' L (x.2 q)) := by
    refine (if_neg (by omega)).trans ((if_neg hd.1).trans ((if_neg hd.2).trans ((if_neg ?_).trans ?_)))
    · intro z
      rcases z with z | z
      · omega
      · have := a9 (by omega)
        rw [this] at z
        exact absurd z.2 (by decide)
    · rw [hs]
      rfl
  obtain ⟨k1, k2, k3, k4, k5, k6⟩ := bnd_c (s := x.2 q) (by omega)
  refine ⟨⟨hq, tk_ok a4 ht, rfl, fun _ t V e => Or.inr ?_, fun z => absurd z (by omega)⟩, a3.trans (rn_1 hq ht)⟩
  obtain rfl : 2000 + x.2 q = t := (List.cons.inj e).1
  exact ⟨k4, by omega⟩
theorem O_bits (h : PRr N r p S) (ho : LPr x N r p q S S' L) (s : Nat) (hb : bnd s = r + 1) : (∀ j, j < rD S + (if r = 0 then 0 else 1) → (rM (sO S S' L s)).testBit j = (rM S).testBit j) ∧ (r = 0 → (rM (sO S S' L s)).testBit (rD S) = true) := by
  obtain ⟨⟨⟨a1, a2⟩, a3, a4, ⟨a5, a5'⟩, a6, a7⟩, a8, a9⟩ := ho
  have i4 := a4.2.2.2.1
  by_cases z : r = 0
  · have e : rM (sO S S' L s) = rM S' ||| 2 ^ rD S' := if_pos (by omega)
    have o := orb_lt (rD S') (by omega) (rM S') i4.2.1
    refine ⟨fun j hj => ?_, fun _ => ?_⟩
    · rw [if_pos z] at hj
      rw [e, o.2.2 j (by omega) (by omega)]
      exact a6 j (by rw [if_pos z]; exact hj)
    · rw [e, ← a5']; exact o.2.1
  · have e : rM (sO S S' L s) = rM S' := if_neg (by omega)
    exact ⟨fun j hj => by rw [e]; exact a6 j hj, fun y => absurd y z⟩
theorem OKb_O {q2 : Nat} (h : PRr N r p S) (hr : r < 3) (ho : LPr x N r p q S S' L) (hq : q < N) (hb : bnd (x.2 q) = r + 1) (e : rn x (N - p) p S = rn x (N - (q + 1)) (q + 1) (sO S S' L (x.2 q))) (h2 : OKr x N (r + 1) (q + 1) q2 (sO S S' L (x.2 q)) S2 L2) : OKb x N r p q2 S S2 ((2000 + x.2 q) :: L2) := by
  have ob := (O_bits h ho (x.2 q) hb).1
  have o1 := ho.1.1
  have o5 := ho.1.2.2.2.1.2
  obtain ⟨⟨⟨a1, a2⟩, a3, a4, ⟨a5, a5'⟩, a6, ⟨P, b1, b2, b3'⟩, a7⟩, a8⟩ := h2
  obtain ⟨k1, k2, k3, k4, k5, k6⟩ := bnd_c (s := x.2 q) (by omega)
  have e5 : rD S2 = rD S' := a5'
  refine ⟨⟨by omega, a2⟩, e.trans a3, a4, ⟨a5, e5.trans o5⟩, fun j hj => ?_, ⟨P ++ [2000 + x.2 q], ?_, tgt_a (Or.inr ⟨k3, by omega⟩) (tgt_m (by omega) b2), ?_⟩, a7⟩
  · have hj' : j < rD S + 1 := by by_cases z : r = 0 <;> simp [z] at hj <;> omega
    rw [a6 j (by show j < rD S' + _; rw [if_neg (by omega), o5]; exact hj')]
    exact ob j hj
  · rw [b1]
    show P ++ (2000 + x.2 q) :: rW S = P ++ [2000 + x.2 q] ++ rW S
    rw [List.append_assoc]
    rfl
  · rw [rx_a, b3']
theorem LP_O {q2 : Nat} (h : PRr N r p S) (hr : r < 3) (h0 : ¬ r = 0) (ho : LPr x N r p q S S' L) (hq : q < N) (hb : bnd (x.2 q) = r + 1) (e : rn x (N - p) p S = rn x (N - (q + 1)) (q + 1) (sO S S' L (x.2 q))) (h2 : OKr x N (r + 1) (q + 1) q2 (sO S S' L (x.2 q)) S2 L2) : LPr x N r p q2 S S2 ((2000 + x.2 q) :: L2) := ⟨OKb_O h hr ho hq hb e h2, fun z => (h2.2 z).elim id (fun y => by omega), fun z => absurd z h0⟩
theorem OK_O {q2 : Nat} (h : PRr N r p S) (h0 : r = 0) (ho : LPr x N r p q S S' L) (hq : q < N) (hb : bnd (x.2 q) = r + 1) (e : rn x (N - p) p S = rn x (N - (q + 1)) (q + 1) (sO S S' L (x.2 q))) (h2 : OKr x N (r + 1) (q + 1) q2 (sO S S' L (x.2 q)) S2 L2) : OKr x N r p q2 S S2 ((2000 + x.2 q) :: L2) := by
  have ob := (O_bits h ho (x.2 q) hb).2 h0
  have o5 := ho.1.2.2.2.1.2
  have h3 := OKb_O h (by omega) ho hq hb e h2
  refine ⟨h3, fun z => ?_⟩
  by_cases y : bnd (x.2 q2) = 0
  · exact Or.inl (by omega)
  · refine Or.inr ⟨h0, ?_, ?_⟩
    · rcases h2.2 z with t | t
      · omega
      · omega
    · rw [h3.2.2.2.1.2, h2.1.2.2.2.2.1 (rD S) (by show rD S < rD S' + _; rw [if_neg (by omega), o5]; omega)]
      exact ob
theorem OK_len (h : OKb x N r p q S S' L) : L.length ≤ q := by
  obtain ⟨a1, a3, a4, a5, a6, ⟨P, b1, b2, b3'⟩, a7⟩ := h
  have h1 := a4.1
  rw [b1, List.length_append] at h1
  rw [b3', rx_l]
  omega
end

