/-! Numbers that calls ask with; hours without their counters; promises that stand. -/
/-- a number from 0 on, below n -/
def inN (i : Int32) (n : Nat) : Option Nat := if 0 ≤ i.toInt ∧ i.toInt < n then some i.toInt.toNat else none
theorem inN_c (i : Int32) (n : Nat) : (∃ m, m < n ∧ i = nI m ∧ inN i n = some m) ∨ (inN i n = none ∧ (i.toInt < 0 ∨ (n : Int) ≤ i.toInt)) := by
  unfold inN
  by_cases c : 0 ≤ i.toInt ∧ i.toInt < n
  · refine Or.inl ⟨i.toInt.toNat, by omega, ?_, if_pos c⟩
    apply Int32.toInt_inj.mp
    have : i.toInt < 2 ^ 31 := Int32.toInt_lt i
    rw [nI_toInt (by omega)]; omega
  · exact Or.inr ⟨if_neg c, by omega⟩
theorem inN_N {m n : Nat} (h : m < n) (hm : m < 2 ^ 31) : inN (nI m) n = some m := by
  unfold inN
  rw [nI_toInt hm, if_pos (by omega)]
  simp
theorem X_in_N {m n : Nat} (h : m < n) (hm : m < 2 ^ 31) : X_in (nI m) n = nI 1 := by
  unfold X_in
  rw [nI_toInt hm, if_pos (by omega)]
theorem X_in_none {i : Int32} {n : Nat} (h : i.toInt < 0 ∨ (n : Int) ≤ i.toInt) : X_in i n = nI 0 := by
  unfold X_in
  rw [if_neg (by omega)]
/-- not from 0 to b, though tests say so -/
theorem rg_no {i : Int32} {b : Nat} (hb : b < 2 ^ 31) (h : i.toInt < 0 ∨ ((b + 1 : Nat) : Int) ≤ i.toInt) (h1 : ¬ i < 0) (h2 : i ≤ nI b) : False := by
  rw [fa_lt'] at h1
  rw [fa_le', nI_toInt hb] at h2
  have : (0 : Int32).toInt = 0 := rfl
  omega
theorem Yin_1 {i : Int32} {x y : Int64} (h1 : x.toInt ≤ i.toInt) (h2 : i.toInt ≤ y.toInt) : Yin i.toInt64 x y = nI 1 := by
  rw [Yin_toInt, Int32.toInt_toInt64, if_pos ⟨h1, h2⟩]
theorem Yin_0 {i : Int32} {x y : Int64} (h : i.toInt < x.toInt ∨ y.toInt < i.toInt) : Yin i.toInt64 x y = nI 0 := by
  rw [Yin_toInt, Int32.toInt_toInt64, if_neg (by omega)]
/-- the first number from h on, of n, with P -/
def fstN (P : Nat → Bool) : Nat → Nat → Option Nat
  | 0, _ => none
  | n + 1, h => if P h = true then some h else fstN P n (h + 1)
/-! rows 0 to 4 -/
def e5 (v w : sv) : Prop := ∀ a b, ¬ a = 5 → v a b = w a b
def c5 (v : sv) : sv := fun a b => if a = 5 then 0 else v a b
theorem e5.rf {v : sv} : e5 v v := fun _ _ _ => rfl
theorem e5.sy {v w : sv} (h : e5 v w) : e5 w v := fun a b c => (h a b c).symm
theorem e5.tr {v w x : sv} (h : e5 v w) (g : e5 w x) : e5 v x := fun a b c => (h a b c).trans (g a b c)
theorem e5.c {v w : sv} (h : e5 v w) : c5 v = c5 w := by
  funext a b
  unfold c5
  by_cases q : a = 5
  · rw [if_pos q, if_pos q]
  · rw [if_neg q, if_neg q]; exact h a b q
theorem e5.up {v w : sv} {r k x : Nat} (h : e5 v w) : e5 (upv v r k x) (upv w r k x) := fun a b c => by
  unfold upv
  split
  · rfl
  · exact h a b c
theorem e5.up' {v w : sv} {r k x y : Nat} (h : e5 v w) (e : x = y) : e5 (upv v r k x) (upv w r k y) := by subst e; exact h.up
theorem e5.u5 {v w : sv} {k x y : Nat} (h : e5 v w) : e5 (upv v 5 k x) (upv w 5 k y) := fun a b c => by
  unfold upv
  rw [if_neg (fun q => c q.1), if_neg (fun q => c q.1)]; exact h a b c
theorem e5.l5 {v : sv} {k x : Nat} : e5 (upv v 5 k x) v := fun a b c => by
  unfold upv
  rw [if_neg (fun q => c q.1)]
theorem z5_e5 {v : sv} : e5 (z5V v) v := ((((e5.l5.tr e5.l5).tr e5.l5).tr e5.l5).tr e5.l5)
theorem pl_c5 (e : xe) (v : sv) (i : Nat) : plV e (c5 v) i = plV e v i := rfl
theorem e5.pl {v w : sv} (h : e5 v w) (e : xe) (i : Nat) : plV e v i = plV e w i := by rw [← pl_c5 e v, ← pl_c5 e w, h.c]
theorem nt_c5 (e : xe) (v : sv) (z : Int32) (f : Nat → Int32) : ∀ n, ntF e (c5 v) z f n = ntF e v z f n
  | 0 => rfl
  | n + 1 => by
    show ntS e (c5 v) z (ntF e (c5 v) z f n) n = ntS e v z (ntF e v z f n) n
    rw [nt_c5 e v z f n]
    rfl
theorem go_c5 (e : xe) (v : sv) (z : Int32) : goV e (c5 v) z = goV e v z := by
  unfold goV
  rw [nt_c5]
  rfl
theorem e5.go {v w : sv} (h : e5 v w) (e : xe) (z : Int32) : goV e v z = goV e w z := by rw [← go_c5 e v, ← go_c5 e w, h.c]
theorem e5.mv {v w : sv} (h : e5 v w) (e : xe) : e5 (mvV e v) (mvV e w) := by
  unfold mvV
  rw [h.go e, h 0 0 (by decide)]
  by_cases c : goV e w (nI 255) = 0
  · rw [if_pos c, if_pos c]; exact h.u5
  · rw [if_neg c, if_neg c]; exact h.up
theorem e5.rew {v w : sv} (h : e5 v w) (j : Nat) : e5 (rewV v j) (rewV w j) := by
  unfold rewV
  rw [h 4 j (by decide), h 0 1 (by decide), h 0 2 (by decide), h 2 j (by decide), h 0 3 (by decide)]
  by_cases c : w 4 j ≤ w 0 1
  · rw [if_pos c, if_pos c]; exact (h.up.up.up.u5.u5).up
  · rw [if_neg c, if_neg c]; exact (h.up.up.u5.u5).up
theorem e5.tir {v w : sv} (h : e5 v w) (p : Int32) (j : Nat) : e5 (tirV p v j) (tirV p w j) := by
  unfold tirV
  rw [h 1 j (by decide)]
  exact h.up
theorem e5.fis {v w : sv} (h : e5 v w) (pl : Nat → Int32) : ∀ n, e5 (fisV pl v n) (fisV pl w n)
  | 0 => h
  | n + 1 => by
    have q := (h.fis pl n).tir (pl n) n
    show e5 (fshV pl (fisV pl v n) n) (fshV pl (fisV pl w n) n)
    unfold fshV
    rw [q 3 n (by decide), q 0 0 (by decide)]
    split
    · exact q.rew n
    · exact q
theorem e5.hr {v w : sv} (h : e5 v w) (e : xe) : e5 (hrV e v) (hrV e w) := by
  unfold hrV
  have : plV e v = plV e w := funext (h.pl e)
  rw [this]
  have q := (h.mv e).fis (plV e w) (eN e)
  exact q.up' (by rw [q 0 4 (by decide)])
theorem e5.hrs {v w : sv} (h : e5 v w) (e : xe) : ∀ n, e5 (hrsV e v n) (hrsV e w n)
  | 0 => h
  | n + 1 => (h.hrs e n).hr e
theorem e5.ok {v w : sv} {e : xe} (h : e5 v w) (g : okV e v) : okV e w := by
  obtain ⟨a1, a2, a3, a4, a5, a6, a7⟩ := g
  rw [h 0 0 (by decide)] at a1
  rw [h 0 1 (by decide)] at a2
  rw [h 0 2 (by decide)] at a3
  rw [h 0 3 (by decide)] at a4
  rw [h 0 4 (by decide)] at a5
  rw [h 0 5 (by decide)] at a6
  refine ⟨a1, a2, a3, a4, a5, a6, fun i hi => ?_⟩
  rw [← h 1 i (by decide), ← h 2 i (by decide), ← h 3 i (by decide), ← h 4 i (by decide)]
  exact a7 i hi
theorem ST.e5 {σ : xs} {a : Nat} {v w : sv} (g : ST σ a v) (h : e5 v w) : ST σ a w := ⟨fun k hk => by rw [← h 0 k (by decide)]; exact g.1 k hk, fun i hi => by rw [← h 1 i (by decide), ← h 2 i (by decide), ← h 3 i (by decide), ← h 4 i (by decide)]; exact g.2 i hi⟩
theorem SY.e5 {σ : xs} {b n : Nat} {v w : sv} (g : SY σ b n v) (h : e5 v w) : SY σ b n w := ⟨by rw [← h 0 0 (by decide), ← h 0 1 (by decide), ← h 0 2 (by decide), ← h 0 3 (by decide), ← h 0 4 (by decide), ← h 0 5 (by decide)]; exact g.1, fun i hi => by rw [← h 1 i (by decide), ← h 2 i (by decide), ← h 3 i (by decide), ← h 4 i (by decide)]; exact g.2 i hi⟩
theorem hrs_z (e : xe) (v : sv) (n : Nat) : e5 (hrsV e (z5V v) n) (hrsV e v n) := z5_e5.hrs e n
theorem hrs_add (e : xe) (v : sv) (n : Nat) : ∀ m, hrsV e (hrsV e v n) m = hrsV e v (n + m)
  | 0 => rfl
  | m + 1 => by
    show hrV e (hrsV e (hrsV e v n) m) = hrV e (hrsV e v (n + m))
    rw [hrs_add e v n m]
/-! the counters of an hour -/
theorem fis_52 (pl : Nat → Int32) (v : sv) : ∀ n, (fisV pl v n) 5 2 = v 5 2
  | 0 => rfl
  | n + 1 => by
    show (fshV pl (fisV pl v n) n) 5 2 = _
    have := fis_52 pl v n
    unfold fshV rewV
    split
    · split <;> exact this
    · exact this
theorem hr_52 (e : xe) (v : sv) : (hrV e v) 5 2 = v 5 2 + (if goV e v (nI 255) = 0 then 1 else 0) := by
  show (fisV (plV e v) (mvV e v) (eN e)) 5 2 = _
  rw [fis_52]
  unfold mvV
  split
  · rfl
  · rfl
theorem rew_00 (v : sv) (j : Nat) : (rewV v j) 0 0 = v 0 0 := by
  unfold rewV
  split <;> rfl
theorem fis_00 (pl : Nat → Int32) (v : sv) : ∀ n, (fisV pl v n) 0 0 = v 0 0
  | 0 => rfl
  | n + 1 => by
    show (fshV pl (fisV pl v n) n) 0 0 = _
    have := fis_00 pl v n
    unfold fshV
    split
    · rw [rew_00]; exact this
    · exact this
theorem hr_00 (e : xe) (v : sv) : (hrV e v) 0 0 = if goV e v (nI 255) = 0 then v 0 0 else (X_bes (eR e) (eC e) (v 0 0) (goV e v (nI 255) - 1)).toNatClampNeg := by
  show (fisV (plV e v) (mvV e v) (eN e)) 0 0 = _
  rw [fis_00]
  unfold mvV
  split
  · rfl
  · rfl
theorem hr_05 (e : xe) (v : sv) : (hrV e v) 0 5 = v 0 5 := by
  have h1 : ∀ (pl : Nat → Int32) (v : sv) (n : Nat), (fisV pl v n) 0 5 = v 0 5 := by
    intro pl v n
    induction n with
    | zero => rfl
    | succ n ih =>
      show (fshV pl (fisV pl v n) n) 0 5 = _
      unfold fshV rewV
      split
      · split <;> exact ih
      · exact ih
  show (fisV (plV e v) (mvV e v) (eN e)) 0 5 = _
  rw [h1]
  unfold mvV
  split <;> rfl
/-! promises that stand, and those that came true: their number does not grow -/
theorem gl_c {v w : sv} : ∀ n, (∀ i, i < n → (v 3 i = 0 ↔ w 3 i = 0)) → glN v n = glN w n
  | 0, _ => rfl
  | n + 1, h => by
    show glN v n + _ = glN w n + _
    rw [gl_c n (fun i hi => h i (by omega))]
    have := h n (by omega)
    by_cases c : v 3 n = 0
    · rw [if_pos c, if_pos (this.mp c)]
    · rw [if_neg c, if_neg (fun q => c (this.mpr q))]
theorem gl_0 {v : sv} {j : Nat} : ∀ n, j < n → ¬ v 3 j = 0 → glN (upv v 3 j 0) n + 1 = glN v n
  | 0, h, _ => absurd h (Nat.not_lt_zero j)
  | n + 1, h, hg => by
    show glN (upv v 3 j 0) n + (if (upv v 3 j 0) 3 n = 0 then 0 else 1) + 1 = glN v n + (if v 3 n = 0 then 0 else 1)
    by_cases c : j = n
    · subst c
      have e1 : glN (upv v 3 j 0) j = glN v j := gl_c j (fun i hi => by
        have : (upv v 3 j 0) 3 i = v 3 i := if_neg (fun q => by omega)
        rw [this])
      rw [e1, show (upv v 3 j 0) 3 j = 0 from if_pos ⟨rfl, rfl⟩, if_pos rfl, if_neg hg]
    · have e1 := gl_0 (v := v) (j := j) n (by omega) hg
      have : (upv v 3 j 0) 3 n = v 3 n := if_neg (fun q => by omega)
      rw [this]; omega
theorem gl_up {v : sv} {j x : Nat} : ∀ n, glN (upv v 3 j x) n ≤ glN v n + 1 ∧ (n ≤ j → glN (upv v 3 j x) n = glN v n)
  | 0 => ⟨by show 0 ≤ 0 + 1; omega, fun _ => rfl⟩
  | n + 1 => by
    obtain ⟨h1, h2⟩ := gl_up (v := v) (j := j) (x := x) n
    show glN (upv v 3 j x) n + (if (upv v 3 j x) 3 n = 0 then 0 else 1) ≤ glN v n + (if v 3 n = 0 then 0 else 1) + 1 ∧ (n + 1 ≤ j → glN (upv v 3 j x) n + (if (upv v 3 j x) 3 n = 0 then 0 else 1) = glN v n + (if v 3 n = 0 then 0 else 1))
    by_cases c : n = j
    · subst c
      rw [h2 (Nat.le_refl _)]
      refine ⟨by split <;> split <;> omega, fun q => by omega⟩
    · have : (upv v 3 j x) 3 n = v 3 n := if_neg (fun q => c q.2)
      rw [this]
      exact ⟨by omega, fun q => by rw [h2 (by omega)]⟩
/-- promises that came true or failed, and those that stand -/
def ptN (e : xe) (v : sv) : Nat := v 0 2 + v 0 3 + glN v (eN e)
theorem gl_n3 {v : sv} {r k x : Nat} (h : ¬ r = 3) (n : Nat) : glN (upv v r k x) n = glN v n := gl_c n (fun i _ => by
  have : (upv v r k x) 3 i = v 3 i := if_neg (fun q => h q.1.symm)
  rw [this])
theorem pt_rew {e : xe} {v : sv} {j : Nat} (hj : j < eN e) (hg : ¬ v 3 j = 0) : ptN e (rewV v j) ≤ ptN e v ∧ (ptN e v < 999 → (rewV v j) 0 2 + v 5 0 = v 0 2 + (rewV v j) 5 0 ∧ (rewV v j) 0 3 + v 5 1 = v 0 3 + (rewV v j) 5 1) := by
  unfold ptN rewV
  by_cases c : v 4 j ≤ v 0 1
  · rw [if_pos c]
    have e1 := gl_0 (v := upv (upv (upv (upv (upv v 0 1 (v 0 1 - v 4 j)) 0 2 (min 999 (v 0 2 + 1))) 2 j (min 9 (v 2 j + 1))) 5 0 (v 5 0 + 1)) 5 3 (v 5 3 ||| 2 ^ j)) (j := j) (eN e) hj hg
    have e2 : glN (upv (upv (upv (upv (upv v 0 1 (v 0 1 - v 4 j)) 0 2 (min 999 (v 0 2 + 1))) 2 j (min 9 (v 2 j + 1))) 5 0 (v 5 0 + 1)) 5 3 (v 5 3 ||| 2 ^ j)) (eN e) = glN v (eN e) := gl_c _ (fun i _ => Iff.rfl)
    rw [e2] at e1
    refine ⟨?_, fun q => ⟨?_, ?_⟩⟩
    · show min 999 (v 0 2 + 1) + v 0 3 + _ ≤ _
      omega
    · show min 999 (v 0 2 + 1) + v 5 0 = v 0 2 + (v 5 0 + 1)
      omega
    · show v 0 3 + v 5 1 = v 0 3 + v 5 1
      rfl
  · rw [if_neg c]
    have e1 := gl_0 (v := upv (upv (upv (upv v 0 3 (min 999 (v 0 3 + 1))) 2 j 0) 5 1 (v 5 1 + 1)) 5 4 (v 5 4 ||| 2 ^ j)) (j := j) (eN e) hj hg
    have e2 : glN (upv (upv (upv (upv v 0 3 (min 999 (v 0 3 + 1))) 2 j 0) 5 1 (v 5 1 + 1)) 5 4 (v 5 4 ||| 2 ^ j)) (eN e) = glN v (eN e) := gl_c _ (fun i _ => Iff.rfl)
    rw [e2] at e1
    refine ⟨?_, fun q => ⟨?_, ?_⟩⟩
    · show v 0 2 + min 999 (v 0 3 + 1) + _ ≤ _
      omega
    · show v 0 2 + v 5 0 = v 0 2 + v 5 0
      rfl
    · show min 999 (v 0 3 + 1) + v 5 1 = v 0 3 + (v 5 1 + 1)
      omega
theorem pt_n {e : xe} {v : sv} {r k x : Nat} (h : ¬ r = 3) (h2 : ¬ (r = 0 ∧ k = 2)) (h3 : ¬ (r = 0 ∧ k = 3)) : ptN e (upv v r k x) = ptN e v := by
  unfold ptN
  rw [gl_n3 h, show (upv v r k x) 0 2 = v 0 2 from if_neg (fun q => h2 ⟨q.1.symm, q.2.symm⟩), show (upv v r k x) 0 3 = v 0 3 from if_neg (fun q => h3 ⟨q.1.symm, q.2.symm⟩)]
theorem pt_fis {e : xe} {pl : Nat → Int32} {v : sv} : ∀ n, n ≤ eN e → ptN e (fisV pl v n) ≤ ptN e v ∧ (ptN e v < 999 → (fisV pl v n) 0 2 + v 5 0 = v 0 2 + (fisV pl v n) 5 0 ∧ (fisV pl v n) 0 3 + v 5 1 = v 0 3 + (fisV pl v n) 5 1)
  | 0, _ => ⟨Nat.le_refl _, fun _ => ⟨rfl, rfl⟩⟩
  | n + 1, hn => by
    obtain ⟨h1, h2⟩ := pt_fis (e := e) (pl := pl) (v := v) n (by omega)
    have e1 : ptN e (tirV (pl n) (fisV pl v n) n) = ptN e (fisV pl v n) := pt_n (by decide) (by omega) (by omega)
    show ptN e (fshV pl (fisV pl v n) n) ≤ _ ∧ (_ → (fshV pl (fisV pl v n) n) 0 2 + _ = _ + (fshV pl (fisV pl v n) n) 5 0 ∧ (fshV pl (fisV pl v n) n) 0 3 + _ = _ + (fshV pl (fisV pl v n) n) 5 1)
    unfold fshV
    by_cases c : (tirV (pl n) (fisV pl v n) n) 3 n = (tirV (pl n) (fisV pl v n) n) 0 0 + 1
    · rw [if_pos c]
      obtain ⟨g1, g2⟩ := pt_rew (e := e) (v := tirV (pl n) (fisV pl v n) n) (j := n) (by omega) (by omega)
      refine ⟨by omega, fun q => ?_⟩
      obtain ⟨k1, k2⟩ := h2 q
      obtain ⟨k3, k4⟩ := g2 (by omega)
      have z1 : (tirV (pl n) (fisV pl v n) n) 0 2 = (fisV pl v n) 0 2 := rfl
      have z2 : (tirV (pl n) (fisV pl v n) n) 0 3 = (fisV pl v n) 0 3 := rfl
      have z3 : (tirV (pl n) (fisV pl v n) n) 5 0 = (fisV pl v n) 5 0 := rfl
      have z4 : (tirV (pl n) (fisV pl v n) n) 5 1 = (fisV pl v n) 5 1 := rfl
      omega
    · rw [if_neg c, e1]
      exact ⟨h1, h2⟩
theorem pt_mv {e : xe} {v : sv} : ptN e (mvV e v) = ptN e v ∧ (mvV e v) 0 2 = v 0 2 ∧ (mvV e v) 0 3 = v 0 3 ∧ (mvV e v) 5 0 = v 5 0 ∧ (mvV e v) 5 1 = v 5 1 := by
  unfold mvV
  split
  · exact ⟨pt_n (by decide) (by decide) (by decide), rfl, rfl, rfl, rfl⟩
  · exact ⟨pt_n (by decide) (by decide) (by decide), rfl, rfl, rfl, rfl⟩
theorem pt_hr {e : xe} {v : sv} : ptN e (hrV e v) ≤ ptN e v ∧ (ptN e v < 999 → (hrV e v) 0 2 + v 5 0 = v 0 2 + (hrV e v) 5 0 ∧ (hrV e v) 0 3 + v 5 1 = v 0 3 + (hrV e v) 5 1) := by
  obtain ⟨a1, a2, a3, a4, a5⟩ := pt_mv (e := e) (v := v)
  obtain ⟨h1, h2⟩ := pt_fis (e := e) (pl := plV e v) (v := mvV e v) (eN e) (Nat.le_refl _)
  have e1 : ptN e (hrV e v) = ptN e (fisV (plV e v) (mvV e v) (eN e)) := pt_n (by decide) (by decide) (by decide)
  rw [e1, a1.symm]
  rw [a2, a3, a4, a5] at h2
  exact ⟨h1, h2⟩
theorem pt_hrs {e : xe} {v : sv} : ∀ n, ptN e (hrsV e v n) ≤ ptN e v
  | 0 => Nat.le_refl _
  | n + 1 => Nat.le_trans pt_hr.1 (pt_hrs n)
theorem okS_pt {e : xe} {k n : Nat} {v : sv} : okS e k n v ↔ okV e v ∧ v 0 4 ≤ 1000 * k ∧ ptN e v + (n + 3) / 4 ≤ k := Iff.rfl
theorem pt_e5 {e : xe} {v w : sv} (h : e5 v w) : ptN e v = ptN e w := by
  unfold ptN
  rw [h 0 2 (by decide), h 0 3 (by decide), gl_c (w := w) _ (fun i _ => by rw [h 3 i (by decide)])]
