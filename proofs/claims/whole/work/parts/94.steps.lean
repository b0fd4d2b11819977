/-! STEPS OVER WATER: what they are; the class's search finds them. -/
/-- the field beside, plus 1; 0: none -/
def beN (R C f w : Nat) : Nat := if X_bes R C f w = -1 then 0 else (X_bes R C f w).toNatClampNeg + 1
def beOK (R C f w : Nat) : Bool := decide (beN R C f w = 0) || (decide (beN R C f w - 1 < R * C) && decide (beN R C (beN R C f w - 1) ((w + 2) % 4) = f + 1))
theorem beOK_all : ∀ R, R < 7 → ∀ C, C < 7 → ∀ f, f < 36 → ∀ w, w < 4 → (decide (f < R * C) = true → beOK R C f w = true) := by decide +kernel
theorem be_c {R C f w : Nat} (hR : R ≤ 6) (hC : C ≤ 6) (hw : w < 4) (hf : f < R * C) : beN R C f w = 0 ∨ (beN R C f w - 1 < R * C ∧ beN R C (beN R C f w - 1) ((w + 2) % 4) = f + 1) := by
  have h36 : R * C ≤ 36 := Nat.mul_le_mul hR hC
  have q := beOK_all R (by omega) C (by omega) f (by omega) w hw (decide_eq_true hf)
  unfold beOK at q
  simpa using q
theorem be_g {R C f w : Nat} (hR : R ≤ 6) (hC : C ≤ 6) (hw : w < 4) (hf : f < R * C) : X_bes R C f w = gI (beN R C f w) := by
  have h36 : R * C ≤ 36 := Nat.mul_le_mul hR hC
  unfold beN
  by_cases c : X_bes R C f w = -1
  · rw [if_pos c, c]; rfl
  · rw [if_neg c]
    rcases bes_in R (by omega) C (by omega) f (by omega) w hw hf with g | g
    · exact absurd g c
    · exact g.2.1
theorem fst_is {P : Nat → Bool} : ∀ n i h, i ≤ h → h < i + n → P h = true → (∀ j, i ≤ j → j < h → ¬ P j = true) → fstN P n i = some h
  | 0, _, _, h1, h2, _, _ => by omega
  | n + 1, i, h, h1, h2, h3, h4 => by
    show (if P i = true then some i else fstN P n (i + 1)) = some h
    by_cases c : i = h
    · subst c; rw [if_pos h3]
    · rw [if_neg (h4 i (Nat.le_refl _) (by omega))]
      exact fst_is n (i + 1) h (by omega) (by omega) h3 (fun j g1 g2 => h4 j (by omega) g2)
/-! counting -/
def cuN (P : Nat → Bool) : Nat → Nat
  | 0 => 0
  | n + 1 => cuN P n + (if P n = true then 1 else 0)
theorem cn_le (P : Nat → Bool) : ∀ n, cuN P n ≤ n
  | 0 => Nat.le_refl _
  | n + 1 => by
    have := cn_le P n
    show cuN P n + (if P n = true then 1 else 0) ≤ n + 1
    split <;> omega
theorem cn_mono {P Q : Nat → Bool} : ∀ n, (∀ i, i < n → P i = true → Q i = true) → cuN P n ≤ cuN Q n
  | 0, _ => Nat.le_refl _
  | n + 1, h => by
    have h1 := cn_mono n (fun i hi => h i (by omega))
    have h2 := h n (by omega)
    show cuN P n + (if P n = true then 1 else 0) ≤ cuN Q n + (if Q n = true then 1 else 0)
    by_cases c : P n = true
    · rw [if_pos c, if_pos (h2 c)]; omega
    · rw [if_neg c]; omega
theorem cn_lt {P Q : Nat → Bool} {j : Nat} : ∀ n, (∀ i, i < n → P i = true → Q i = true) → j < n → Q j = true → ¬ P j = true → cuN P n < cuN Q n
  | 0, _, h, _, _ => absurd h (Nat.not_lt_zero j)
  | n + 1, h, hj, hq, hp => by
    show cuN P n + (if P n = true then 1 else 0) < cuN Q n + (if Q n = true then 1 else 0)
    by_cases c : j = n
    · subst c
      have h1 := cn_mono j (fun i hi => h i (by omega))
      rw [if_neg hp, if_pos hq]; omega
    · have h1 := cn_lt n (fun i hi => h i (by omega)) (by omega) hq hp
      have h2 := h n (by omega)
      by_cases c : P n = true
      · rw [if_pos c, if_pos (h2 c)]; omega
      · rw [if_neg c]; omega
theorem cn_c {P Q : Nat → Bool} : ∀ n, (∀ i, i < n → P i = Q i) → cuN P n = cuN Q n
  | 0, _ => rfl
  | n + 1, h => by
    show cuN P n + (if P n = true then 1 else 0) = cuN Q n + (if Q n = true then 1 else 0)
    rw [cn_c n (fun i hi => h i (by omega)), h n (by omega)]
theorem cn_s {P Q : Nat → Bool} {j : Nat} : ∀ n, (∀ i, i < n → ¬ i = j → P i = Q i) → j < n → Q j = true → ¬ P j = true → cuN Q n = cuN P n + 1
  | 0, _, h, _, _ => absurd h (Nat.not_lt_zero j)
  | n + 1, h, hj, hq, hp => by
    show cuN Q n + (if Q n = true then 1 else 0) = cuN P n + (if P n = true then 1 else 0) + 1
    by_cases c : j = n
    · subst c
      rw [cn_c (P := P) (Q := Q) j (fun i hi => h i (by omega) (by omega)), if_neg hp, if_pos hq]
    · rw [cn_s n (fun i hi => h i (by omega)) (by omega) hq hp, h n (by omega) (by omega)]; omega
theorem cn_pos {P : Nat → Bool} {j : Nat} : ∀ n, j < n → P j = true → 1 ≤ cuN P n
  | 0, h, _ => absurd h (Nat.not_lt_zero j)
  | n + 1, h, hp => by
    show 1 ≤ cuN P n + (if P n = true then 1 else 0)
    by_cases c : j = n
    · subst c; rw [if_pos hp]; omega
    · have := cn_pos n (by omega) hp; omega
/-! what can be reached in so many steps -/
def dR (R C : Nat) (B : Nat → Nat) (s : Nat) : Nat → Nat → Bool
  | 0, f => decide (f = s)
  | n + 1, f => dR R C B s n f || (decide (B f = 0) && (List.range 4).any (fun w => decide (¬ beN R C f w = 0) && dR R C B s n (beN R C f w - 1)))
section
variable {R C s : Nat} {B : Nat → Nat}
theorem dR_0 {f : Nat} : dR R C B s 0 f = true ↔ f = s := decide_eq_true_iff
theorem dR_t {n f : Nat} : dR R C B s (n + 1) f = true ↔ dR R C B s n f = true ∨ (B f = 0 ∧ ∃ w, w < 4 ∧ ¬ beN R C f w = 0 ∧ dR R C B s n (beN R C f w - 1) = true) := by
  show (dR R C B s n f || (decide (B f = 0) && (List.range 4).any (fun w => decide (¬ beN R C f w = 0) && dR R C B s n (beN R C f w - 1)))) = true ↔ _
  rw [Bool.or_eq_true, Bool.and_eq_true, decide_eq_true_iff, List.any_eq_true]
  constructor
  · rintro (h | ⟨h1, w, h2, h3⟩)
    · exact Or.inl h
    · rw [Bool.and_eq_true, decide_eq_true_iff] at h3
      exact Or.inr ⟨h1, w, List.mem_range.mp h2, h3.1, h3.2⟩
  · rintro (h | ⟨h1, w, h2, h3, h4⟩)
    · exact Or.inl h
    · exact Or.inr ⟨h1, w, List.mem_range.mpr h2, by rw [Bool.and_eq_true, decide_eq_true_iff]; exact ⟨h3, h4⟩⟩
theorem dR_mono {f k : Nat} (h : dR R C B s k f = true) : ∀ m, dR R C B s (k + m) f = true
  | 0 => h
  | m + 1 => dR_t.mpr (Or.inl (dR_mono h m))
theorem dR_le {f k n : Nat} (h : dR R C B s k f = true) (hk : k ≤ n) : dR R C B s n f = true := by
  have := dR_mono h (n - k)
  rwa [show k + (n - k) = n by omega] at this
theorem dR_nx (hR : R ≤ 6) (hC : C ≤ 6) {n m : Nat} (h : ∀ f, f < R * C → dR R C B s m f = true → dR R C B s n f = true) {f : Nat} (hf : f < R * C) (hd : dR R C B s (m + 1) f = true) : dR R C B s (n + 1) f = true := by
  rcases dR_t.mp hd with g | ⟨g1, w, g2, g3, g4⟩
  · exact dR_t.mpr (Or.inl (h f hf g))
  · refine dR_t.mpr (Or.inr ⟨g1, w, g2, g3, h _ ?_ g4⟩)
    rcases be_c hR hC g2 hf with q | q
    · exact absurd q g3
    · exact q.1
theorem dR_gr (hR : R ≤ 6) (hC : C ≤ 6) (hs : s < R * C) : ∀ n, n + 1 ≤ cuN (dR R C B s n) (R * C) ∨ ∀ f, f < R * C → dR R C B s (n + 1) f = true → dR R C B s n f = true
  | 0 => Or.inl (cn_pos _ hs (dR_0.mpr rfl))
  | n + 1 => by
    by_cases c : ∀ f, f < R * C → dR R C B s (n + 1) f = true → dR R C B s n f = true
    · exact Or.inr (fun f hf h => dR_nx hR hC c hf h)
    · rcases dR_gr hR hC hs n with g | g
      · refine Or.inl ?_
        have : ∃ f, f < R * C ∧ dR R C B s (n + 1) f = true ∧ ¬ dR R C B s n f = true := Classical.byContradiction (fun q => c (fun f hf h => Classical.byContradiction (fun z => q ⟨f, hf, h, z⟩)))
        obtain ⟨f, h1, h2, h3⟩ := this
        have := cn_lt (P := dR R C B s n) (Q := dR R C B s (n + 1)) (R * C) (fun i _ h => dR_t.mpr (Or.inl h)) h1 h2 h3
        omega
      · exact absurd g c
theorem dR_st (hR : R ≤ 6) (hC : C ≤ 6) (hs : s < R * C) {k f : Nat} (hf : f < R * C) (h : dR R C B s k f = true) : dR R C B s (R * C) f = true := by
  have h0 : ∀ f, f < R * C → dR R C B s (R * C + 1) f = true → dR R C B s (R * C) f = true := by
    rcases dR_gr (B := B) hR hC hs (R * C) with g | g
    · have := cn_le (dR R C B s (R * C)) (R * C); omega
    · exact g
  have h1 : ∀ m f, f < R * C → dR R C B s (R * C + m) f = true → dR R C B s (R * C) f = true := by
    intro m
    induction m with
    | zero => exact fun f _ h => h
    | succ m ih => exact fun f hf h => h0 f hf (dR_nx hR hC ih hf h)
  exact h1 k f hf (dR_le h (by omega))
/-- the steps from s to f; none: it can't be reached -/
def dN (R C : Nat) (B : Nat → Nat) (s f : Nat) : Option Nat := fstN (fun k => dR R C B s k f) (R * C + 1) 0
theorem dN_of (hR : R ≤ 6) (hC : C ≤ 6) (hs : s < R * C) {t : Nat → Nat} (ha : ∀ f, f < R * C → ∀ k, t f = k + 1 → dR R C B s k f = true) (hb : ∀ n, n ≤ R * C → ∀ f, f < R * C → dR R C B s n f = true → ∃ k, k ≤ n ∧ t f = k + 1) {f : Nat} (hf : f < R * C) : (t f = 0 → dN R C B s f = none) ∧ ∀ k, t f = k + 1 → dN R C B s f = some k ∧ k ≤ R * C := by
  constructor
  · intro h
    refine fst_no _ _ (fun j h1 h2 q => ?_)
    obtain ⟨k, _, hk⟩ := hb j (by omega) f hf q
    omega
  · intro k hk
    obtain ⟨k', h1, h2⟩ := hb _ (Nat.le_refl _) f hf (dR_st hR hC hs hf (ha f hf k hk))
    refine ⟨fst_is _ _ _ (Nat.zero_le _) (by omega) (ha f hf k hk) (fun j _ h3 q => ?_), by omega⟩
    obtain ⟨k2, h4, h5⟩ := hb j (by omega) f hf q
    omega
/-- as a number: 0 none, else steps + 1 -/
def dT (R C : Nat) (B : Nat → Nat) (s f : Nat) : Nat := match dN R C B s f with
  | none => 0
  | some k => k + 1
theorem dT_of (hR : R ≤ 6) (hC : C ≤ 6) (hs : s < R * C) {t : Nat → Nat} (ha : ∀ f, f < R * C → ∀ k, t f = k + 1 → dR R C B s k f = true) (hb : ∀ n, n ≤ R * C → ∀ f, f < R * C → dR R C B s n f = true → ∃ k, k ≤ n ∧ t f = k + 1) {f : Nat} (hf : f < R * C) : t f = dT R C B s f ∧ dT R C B s f ≤ 37 := by
  have h36 : R * C ≤ 36 := Nat.mul_le_mul hR hC
  obtain ⟨h1, h2⟩ := dN_of hR hC hs ha hb hf
  unfold dT
  cases q : t f with
  | zero => rw [h1 q]; exact ⟨rfl, by show 0 ≤ 37; omega⟩
  | succ k =>
    obtain ⟨h3, h4⟩ := h2 k q
    rw [h3]
    exact ⟨rfl, by show k + 1 ≤ 37; omega⟩
end
/-! the class's search -/
theorem gD_l {q : List Nat} {k j : Nat} (h : j < q.length) : (q ++ [k]).getD j 0 = q.getD j 0 := by
  simp [List.getD_eq_getElem?_getD, List.getElem?_append_left h]
theorem gD_e {q : List Nat} {k : Nat} : (q ++ [k]).getD q.length 0 = k := by simp
theorem len_1 {q : List Nat} {k : Nat} : (q ++ [k]).length = q.length + 1 := by simp
/-- what holds while the ways from field number i of the row are looked at, those below w being done -/
def BV (R C : Nat) (B : Nat → Nat) (s i w : Nat) (X : xBf) (t : Nat → Nat) : Prop :=
  (∀ f, f < R * C → X.1 f = gI (t f)) ∧ (∀ f, f < R * C → (¬ t f = 0 ↔ ∃ j, j < X.2.length ∧ X.2.getD j 0 = f)) ∧ (∀ f, f < R * C → ∀ k, t f = k + 1 → dR R C B s k f = true) ∧
  (∀ a b, a ≤ b → b < X.2.length → t (X.2.getD a 0) ≤ t (X.2.getD b 0)) ∧ (∀ f, f < R * C → i < X.2.length → t f ≤ t (X.2.getD i 0) + 1) ∧
  (∀ j v, j < X.2.length → (j < i ∨ j = i ∧ v < w) → v < 4 → ¬ beN R C (X.2.getD j 0) v = 0 → B (beN R C (X.2.getD j 0) v - 1) = 0 → ¬ t (beN R C (X.2.getD j 0) v - 1) = 0 ∧ t (beN R C (X.2.getD j 0) v - 1) ≤ t (X.2.getD j 0) + 1) ∧
  X.2.length = cuN (fun f => decide (¬ t f = 0)) (R * C) ∧ t s = 1 ∧ bF (R * C) X ∧ ∀ f, f < R * C → t f ≤ X.2.length
section
variable {σ : xs} {R C s i w : Nat} {B t : Nat → Nat} {X : xBf}
theorem gI_1 {g : Nat} (h : g < 2 ^ 30) : gI g = -1 ↔ g = 0 := by
  cases g with
  | zero => exact ⟨fun _ => rfl, fun _ => rfl⟩
  | succ g =>
    refine ⟨fun q => ?_, fun q => by omega⟩
    have := congrArg Int32.toInt q
    rw [show gI (g + 1) = nI g from rfl, nI_toInt (by omega)] at this
    have e : (-1 : Int32).toInt = -1 := rfl
    omega
theorem BV_s (hR : R ≤ 6) (hC : C ≤ 6) (hw : w < 4) (hB : ∀ f, f < 36 → si σ 6 f = nI (B f)) (hB1 : ∀ f, f < 36 → B f ≤ 1) (hi : i < X.2.length) (h : BV R C B s i w X t) : ∃ t', BV R C B s i (w + 1) (bW σ R C (X.2.getD i 0) X w) t' := by
  have h36 : R * C ≤ 36 := Nat.mul_le_mul hR hC
  obtain ⟨a1, a2, a3, a4, a5, a6, a7, a8, a9, a10⟩ := h
  have hf := bF_get a9 hi
  have hb := be_g hR hC hw hf
  have hbc := be_c hR hC hw hf
  have hlen : X.2.length ≤ R * C := by rw [a7]; exact cn_le _ _
  have old : ∀ (n : Nat), beN R C (X.2.getD i 0) w = n → (n = 0 ∨ ¬ B (n - 1) = 0 ∨ ¬ t (n - 1) = 0) → BV R C B s i (w + 1) X t := by
    intro n hn hc
    refine ⟨a1, a2, a3, a4, a5, fun j v hj hv hv4 g1 g2 => ?_, a7, a8, a9, a10⟩
    by_cases c : j < i ∨ j = i ∧ v < w
    · exact a6 j v hj c hv4 g1 g2
    · obtain ⟨rfl, rfl⟩ : j = i ∧ v = w := by omega
      rw [hn] at g1 g2 ⊢
      rcases hc with hc | hc | hc
      · exact absurd hc g1
      · exact absurd g2 hc
      · refine ⟨hc, a5 _ ?_ hi⟩
        rcases hbc with q | q
        · omega
        · rw [hn] at q; exact q.1
  unfold bW bK
  rw [hb]
  cases hn : beN R C (X.2.getD i 0) w with
  | zero =>
    refine ⟨t, ?_⟩
    rw [if_neg (nn1 (nn1 (fun z => by have := z.1; rw [show (gI 0).toInt = -1 from rfl] at this; omega)))]
    exact old 0 hn (Or.inl rfl)
  | succ g =>
    rw [hn] at hbc
    obtain ⟨g1, g2⟩ : g < R * C ∧ beN R C g ((w + 2) % 4) = X.2.getD i 0 + 1 := by
      rcases hbc with q | q
      · omega
      · exact q
    have e1 : (gI (g + 1)).toNatClampNeg = g := nI_clamp (by omega)
    have e2 : (gI (g + 1)).toInt = g := nI_toInt (by omega)
    rw [e1, e2]
    have hr : si σ 6 g = 0 ↔ B g = 0 := by
      rw [hB g (by omega)]
      have := hB1 g (by omega)
      rcases (show B g = 0 ∨ B g = 1 by omega) with q | q
      · rw [q]; decide
      · rw [q]; decide
    have ht : X.1 g = -1 ↔ t g = 0 := by
      have := a10 g g1
      rw [a1 g g1]; exact gI_1 (by omega)
    by_cases c1 : B g = 0
    · by_cases c2 : t g = 0
      · have hlt : X.2.length < R * C := by
          rw [a7]
          have := cn_lt (P := fun f => decide (¬ t f = 0)) (Q := fun _ => true) (j := g) (R * C) (fun _ _ _ => rfl) g1 rfl (by simp [c2])
          have := cn_le (fun _ => true) (R * C)
          omega
        rw [if_pos ⟨⟨⟨by omega, by omega⟩, hr.mpr c1⟩, ht.mpr c2, by omega⟩]
        obtain ⟨k, hk⟩ : ∃ k, t (X.2.getD i 0) = k + 1 := by
          have := (a2 _ hf).mpr ⟨i, hi, rfl⟩
          exact ⟨t (X.2.getD i 0) - 1, by omega⟩
        have hne : ∀ j, j < X.2.length → ¬ X.2.getD j 0 = g := fun j hj q => by
          have := (a2 g g1).mpr ⟨j, hj, q⟩
          exact this c2
        have up : ∀ f, ¬ f = g → (if f = g then k + 2 else t f) = t f := fun f hq => if_neg hq
        refine ⟨fun f => if f = g then k + 2 else t f, ?_, ?_, ?_, ?_, ?_, ?_, ?_, ?_, ?_, ?_⟩
        · intro f hf2
          show (if f = g then X.1 (X.2.getD i 0) + nI 1 else X.1 f) = gI (if f = g then k + 2 else t f)
          by_cases c : f = g
          · rw [if_pos c, if_pos c, a1 _ hf, hk]
            show nI k + nI 1 = nI (k + 1)
            rw [nI_add]
          · rw [if_neg c, if_neg c]; exact a1 f hf2
        · intro f hf2
          show ¬ (if f = g then k + 2 else t f) = 0 ↔ ∃ j, j < (X.2 ++ [g]).length ∧ (X.2 ++ [g]).getD j 0 = f
          rw [len_1]
          by_cases c : f = g
          · rw [if_pos c]
            exact ⟨fun _ => ⟨X.2.length, by omega, by rw [gD_e, c]⟩, fun _ => by omega⟩
          · rw [if_neg c, a2 f hf2]
            constructor
            · rintro ⟨j, h1, h2⟩
              exact ⟨j, by omega, by rw [gD_l h1, h2]⟩
            · rintro ⟨j, h1, h2⟩
              by_cases cj : j = X.2.length
              · rw [cj, gD_e] at h2; exact absurd h2.symm c
              · exact ⟨j, by omega, by rw [← h2, gD_l (by omega)]⟩
        · intro f hf2 k2 hk2
          replace hk2 : (if f = g then k + 2 else t f) = k2 + 1 := hk2
          by_cases c : f = g
          · rw [if_pos c] at hk2
            obtain rfl : k2 = k + 1 := by omega
            rw [c]
            refine dR_t.mpr (Or.inr ⟨c1, (w + 2) % 4, by omega, by omega, ?_⟩)
            rw [g2, Nat.add_sub_cancel]
            exact a3 _ hf k hk
          · rw [if_neg c] at hk2
            exact a3 f hf2 k2 hk2
        · intro a b hab hb2
          replace hb2 : b < (X.2 ++ [g]).length := hb2
          rw [len_1] at hb2
          show (if (X.2 ++ [g]).getD a 0 = g then k + 2 else t ((X.2 ++ [g]).getD a 0)) ≤ (if (X.2 ++ [g]).getD b 0 = g then k + 2 else t ((X.2 ++ [g]).getD b 0))
          by_cases cb : b = X.2.length
          · rw [cb, gD_e, if_pos rfl]
            by_cases ca : a = X.2.length
            · rw [ca, gD_e, if_pos rfl]; exact Nat.le_refl _
            · rw [gD_l (by omega), if_neg (hne a (by omega))]
              have := a5 _ (bF_get a9 (show a < X.2.length by omega)) hi
              omega
          · rw [gD_l (show b < X.2.length by omega), gD_l (show a < X.2.length by omega), if_neg (hne a (by omega)), if_neg (hne b (by omega))]
            exact a4 a b hab (by omega)
        · intro f hf2 _
          show (if f = g then k + 2 else t f) ≤ (if (X.2 ++ [g]).getD i 0 = g then k + 2 else t ((X.2 ++ [g]).getD i 0)) + 1
          rw [gD_l hi, if_neg (hne i hi)]
          by_cases c : f = g
          · rw [if_pos c]; omega
          · rw [if_neg c]; exact a5 f hf2 hi
        · intro j v hj hv hv4
          replace hj : j < (X.2 ++ [g]).length := hj
          rw [len_1] at hj
          have hj2 : j < X.2.length := by omega
          show ¬ beN R C ((X.2 ++ [g]).getD j 0) v = 0 → B (beN R C ((X.2 ++ [g]).getD j 0) v - 1) = 0 → ¬ (if beN R C ((X.2 ++ [g]).getD j 0) v - 1 = g then k + 2 else t (beN R C ((X.2 ++ [g]).getD j 0) v - 1)) = 0 ∧ (if beN R C ((X.2 ++ [g]).getD j 0) v - 1 = g then k + 2 else t (beN R C ((X.2 ++ [g]).getD j 0) v - 1)) ≤ (if (X.2 ++ [g]).getD j 0 = g then k + 2 else t ((X.2 ++ [g]).getD j 0)) + 1
          rw [gD_l hj2, if_neg (hne j hj2)]
          intro z1 z2
          by_cases c : j < i ∨ j = i ∧ v < w
          · obtain ⟨q1, q2⟩ := a6 j v hj2 c hv4 z1 z2
            rw [if_neg (fun z => q1 (by rw [z]; exact c2))]
            exact ⟨q1, q2⟩
          · obtain ⟨rfl, rfl⟩ : j = i ∧ v = w := by omega
            rw [hn, Nat.add_sub_cancel, if_pos rfl]
            omega
        · show (X.2 ++ [g]).length = cuN (fun f => decide (¬ (if f = g then k + 2 else t f) = 0)) (R * C)
          rw [len_1, a7]
          refine (cn_s (P := fun f => decide (¬ t f = 0)) (j := g) (R * C) (fun f _ hq => ?_) g1 ?_ ?_).symm
          · show decide (¬ t f = 0) = decide (¬ (if f = g then k + 2 else t f) = 0)
            rw [if_neg hq]
          · show decide (¬ (if g = g then k + 2 else t g) = 0) = true
            rw [if_pos rfl]; exact decide_eq_true (by omega)
          · simp [c2]
        · show (if s = g then k + 2 else t s) = 1
          rw [if_neg (fun q => by rw [q] at a8; omega)]; exact a8
        · intro f hf2
          rcases List.mem_append.mp hf2 with q | q
          · exact a9 f q
          · rw [List.mem_singleton.mp q]; exact g1
        · intro f hf2
          show (if f = g then k + 2 else t f) ≤ (X.2 ++ [g]).length
          rw [len_1]
          have h1 := a10 f hf2
          have h2 := a10 _ hf
          by_cases c : f = g
          · rw [if_pos c]; omega
          · rw [if_neg c]; omega
      · refine ⟨t, ?_⟩
        rw [if_neg (nn2 (nn1 (fun z => c2 (ht.mp z))))]
        exact old _ hn (Or.inr (Or.inr c2))
    · refine ⟨t, ?_⟩
      rw [if_neg (nn1 (nn2 (fun z => c1 (hr.mp z))))]
      exact old _ hn (Or.inr (Or.inl c1))
theorem BV_4 (hR : R ≤ 6) (hC : C ≤ 6) (hB : ∀ f, f < 36 → si σ 6 f = nI (B f)) (hB1 : ∀ f, f < 36 → B f ≤ 1) (hi : i < X.2.length) (h36 : X.2.length ≤ 36) (h : BV R C B s i 0 X t) : ∀ w, w ≤ 4 → ∃ t', BV R C B s i w (bI σ R C (X.2.getD i 0) X w) t'
  | 0, _ => ⟨t, h⟩
  | w + 1, hw => by
    obtain ⟨t1, h1⟩ := BV_4 hR hC hB hB1 hi h36 h w (by omega)
    have hl := bI_len (σ := σ) (R := R) (C := C) (f := X.2.getD i 0) h36 w
    have hg := bI_get (σ := σ) (R := R) (C := C) (f := X.2.getD i 0) h36 hi w
    have := BV_s hR hC (show w < 4 by omega) hB hB1 (by omega) h1
    rw [hg] at this
    exact this
theorem BV_n (h : BV R C B s i 4 X t) : BV R C B s (i + 1) 0 X t := by
  obtain ⟨a1, a2, a3, a4, a5, a6, a7, a8, a9, a10⟩ := h
  refine ⟨a1, a2, a3, a4, fun f hf hi => ?_, fun j v hj hv hv4 => a6 j v hj (by omega) hv4, a7, a8, a9, a10⟩
  have h1 := a5 f hf (by omega)
  have h2 := a4 i (i + 1) (by omega) hi
  omega
theorem BV_O (hR : R ≤ 6) (hC : C ≤ 6) (hB : ∀ f, f < 36 → si σ 6 f = nI (B f)) (hB1 : ∀ f, f < 36 → B f ≤ 1) : ∀ (k i : Nat) (X : xBf) (t : Nat → Nat), i + k = 36 → BV R C B s i 0 X t → ∃ t' i', (bO σ R C k i X).2.length ≤ i' ∧ BV R C B s i' 0 (bO σ R C k i X) t'
  | 0, i, X, t, hk, h => by
    have h36 : R * C ≤ 36 := Nat.mul_le_mul hR hC
    have := h.2.2.2.2.2.2.1
    have := cn_le (fun f => decide (¬ t f = 0)) (R * C)
    exact ⟨t, i, by show X.2.length ≤ i; omega, h⟩
  | k + 1, i, X, t, hk, h => by
    have h36 : R * C ≤ 36 := Nat.mul_le_mul hR hC
    have h1 := h.2.2.2.2.2.2.1
    have h2 := cn_le (fun f => decide (¬ t f = 0)) (R * C)
    show ∃ t' i', (if i < X.2.length ∧ i < 36 then bO σ R C k (i + 1) (bI σ R C (X.2.getD i 0) X 4) else X).2.length ≤ i' ∧ BV R C B s i' 0 (if i < X.2.length ∧ i < 36 then bO σ R C k (i + 1) (bI σ R C (X.2.getD i 0) X 4) else X) t'
    by_cases c : i < X.2.length ∧ i < 36
    · rw [if_pos c]
      obtain ⟨t1, g⟩ := BV_4 hR hC hB hB1 c.1 (by omega) h 4 (Nat.le_refl _)
      exact BV_O hR hC hB hB1 k (i + 1) _ t1 (by omega) (BV_n g)
    · rw [if_neg c]
      exact ⟨t, i, by omega, h⟩
theorem BV_0 (hR : R ≤ 6) (hC : C ≤ 6) (hs : s < R * C) : BV R C B s 0 0 (bZ σ s) (fun f => if f = s then 1 else 0) := by
  have h36 : R * C ≤ 36 := Nat.mul_le_mul hR hC
  refine ⟨fun f hf => ?_, fun f hf => ?_, fun f hf k hk => ?_, fun a b hab hb => ?_, fun f hf _ => ?_, fun j v _ hv => by omega, ?_, if_pos rfl, fun k hk => ?_, fun f hf => ?_⟩
  · show (if f = s then nI 0 else cpN (fun _ => -1) (si σ 7) 36 f) = gI (if f = s then 1 else 0)
    by_cases c : f = s
    · rw [if_pos c, if_pos c]; rfl
    · rw [if_neg c, if_neg c]
      show (if f < 36 then -1 else _) = _
      rw [if_pos (by omega)]; rfl
  · show ¬ (if f = s then 1 else 0) = 0 ↔ ∃ j, j < [s].length ∧ [s].getD j 0 = f
    by_cases c : f = s
    · rw [if_pos c]; exact ⟨fun _ => ⟨0, Nat.zero_lt_one, c.symm⟩, fun _ => by decide⟩
    · rw [if_neg c]
      refine ⟨fun q => absurd rfl q, ?_⟩
      rintro ⟨j, h1, h2⟩
      have : j = 0 := by have : j < 1 := h1; omega
      rw [this] at h2
      exact absurd h2.symm c
  · replace hk : (if f = s then 1 else 0) = k + 1 := hk
    by_cases c : f = s
    · rw [if_pos c] at hk
      obtain rfl : k = 0 := by omega
      exact dR_0.mpr c
    · rw [if_neg c] at hk; omega
  · have : b < 1 := hb
    obtain rfl : a = b := by omega
    exact Nat.le_refl _
  · show (if f = s then 1 else 0) ≤ (if s = s then 1 else 0) + 1
    rw [if_pos (rfl : s = s)]
    split <;> omega
  · show 1 = cuN (fun f => decide (¬ (if f = s then 1 else 0) = 0)) (R * C)
    have h1 := cn_s (P := fun _ => false) (Q := fun f => decide (¬ (if f = s then 1 else 0) = 0)) (j := s) (R * C) (fun i _ hq => by show false = decide (¬ (if i = s then 1 else 0) = 0); rw [if_neg hq]; rfl) hs (by show decide (¬ (if s = s then 1 else 0) = 0) = true; rw [if_pos rfl]; rfl) (by decide)
    have h2 : ∀ n, cuN (fun _ => false) n = 0 := by
      intro n
      induction n with
      | zero => rfl
      | succ n ih => show cuN (fun _ => false) n + (if false = true then 1 else 0) = 0; rw [ih]; rfl
    rw [h2] at h1
    omega
  · rw [List.mem_singleton.mp hk]; exact hs
  · show (if f = s then 1 else 0) ≤ 1
    split <;> omega
/-- the class's search finds the steps -/
theorem bfs_d (hR : R ≤ 6) (hC : C ≤ 6) (hs : s < R * C) (hB : ∀ f, f < 36 → si σ 6 f = nI (B f)) (hB1 : ∀ f, f < 36 → B f ≤ 1) : ∀ f, f < R * C → (bO σ R C 36 0 (bZ σ s)).1 f = gI (dT R C B s f) ∧ dT R C B s f ≤ 37 := by
  obtain ⟨t, i, hi, a1, a2, a3, a4, a5, a6, a7, a8, a9, a10⟩ := BV_O hR hC hB hB1 36 0 (bZ σ s) _ rfl (BV_0 (B := B) hR hC hs)
  have hb : ∀ n, ∀ f, f < R * C → dR R C B s n f = true → ∃ k, k ≤ n ∧ t f = k + 1 := by
    intro n
    induction n with
    | zero =>
      intro f hf h
      rw [dR_0.mp h]
      exact ⟨0, Nat.le_refl _, a8⟩
    | succ n ih =>
      intro f hf h
      rcases dR_t.mp h with g | ⟨g1, w, g2, g3, g4⟩
      · obtain ⟨k, h1, h2⟩ := ih f hf g
        exact ⟨k, by omega, h2⟩
      · rcases be_c hR hC g2 hf with q | ⟨q1, q2⟩
        · exact absurd q g3
        · obtain ⟨k, h1, h2⟩ := ih _ q1 g4
          obtain ⟨j, z1, z2⟩ := (a2 _ q1).mp (by omega)
          have := a6 j ((w + 2) % 4) z1 (by omega) (by omega)
          rw [z2, q2, Nat.add_sub_cancel] at this
          obtain ⟨y1, y2⟩ := this (by omega) g1
          exact ⟨t f - 1, by omega, by omega⟩
  intro f hf
  obtain ⟨h1, h2⟩ := dT_of hR hC hs a3 (fun n _ => hb n) hf
  exact ⟨by rw [a1 f hf, h1], h2⟩
end
