/-! Questions: fates. Printed by wip/whole. -/
/-- what an hour does to fish i: its promise stands, or it is kept, or it is broken -/
def fR (i : Nat) (v u : sv) : Prop := (u 3 i = v 3 i ∧ (u 5 3).testBit i = (v 5 3).testBit i ∧ (u 5 4).testBit i = (v 5 4).testBit i) ∨ (¬ v 3 i = 0 ∧ u 3 i = 0 ∧ ((0 < u 2 i ∧ (u 5 3).testBit i = true ∧ (u 5 4).testBit i = (v 5 4).testBit i) ∨ (u 2 i = 0 ∧ (u 5 4).testBit i = true ∧ (u 5 3).testBit i = (v 5 3).testBit i)))
theorem tb_or {m i j : Nat} : (m ||| 2 ^ j).testBit i = (m.testBit i || decide (j = i)) := by rw [Nat.testBit_or, tb_pow]
/-- what fish j does does not touch fish i -/
def fO (i : Nat) (v u : sv) : Prop := u 3 i = v 3 i ∧ u 2 i = v 2 i ∧ (u 5 3).testBit i = (v 5 3).testBit i ∧ (u 5 4).testBit i = (v 5 4).testBit i
theorem fsh_o {pl : Nat → Int32} {v : sv} {i j : Nat} (h : ¬ i = j) : fO i v (fshV pl v j) := by
  have hj : decide (j = i) = false := decide_eq_false (fun q => h q.symm)
  have e3 : ∀ (x : sv) (z : Nat), (upv x 3 j z) 3 i = x 3 i := fun x z => if_neg (fun q => h q.2)
  have e2 : ∀ (x : sv) (z : Nat), (upv x 2 j z) 2 i = x 2 i := fun x z => if_neg (fun q => h q.2)
  unfold fO fshV
  split
  · unfold rewV
    split
    · refine ⟨e3 _ _, e2 _ _, ?_, rfl⟩
      show ((tirV (pl j) v j) 5 3 ||| 2 ^ j).testBit i = (v 5 3).testBit i
      rw [tb_or, hj, Bool.or_false]; rfl
    · refine ⟨e3 _ _, e2 _ _, rfl, ?_⟩
      show ((tirV (pl j) v j) 5 4 ||| 2 ^ j).testBit i = (v 5 4).testBit i
      rw [tb_or, hj, Bool.or_false]; rfl
  · exact ⟨rfl, rfl, rfl, rfl⟩
theorem fsh_r {pl : Nat → Int32} {v : sv} {i : Nat} : fR i v (fshV pl v i) := by
  unfold fR fshV
  split
  · rename_i c
    have c3 : ¬ v 3 i = 0 := by
      have e : (tirV (pl i) v i) 3 i = v 3 i := rfl
      omega
    refine Or.inr ?_
    unfold rewV
    split
    · refine ⟨c3, if_pos ⟨rfl, rfl⟩, Or.inl ⟨?_, ?_, rfl⟩⟩
      · show 0 < (if 2 = 2 ∧ i = i then min 9 ((tirV (pl i) v i) 2 i + 1) else _)
        rw [if_pos ⟨rfl, rfl⟩]; omega
      · show ((tirV (pl i) v i) 5 3 ||| 2 ^ i).testBit i = true
        rw [tb_or]; simp
    · refine ⟨c3, if_pos ⟨rfl, rfl⟩, Or.inr ⟨?_, ?_, rfl⟩⟩
      · show (if 2 = 2 ∧ i = i then 0 else _) = 0
        rw [if_pos ⟨rfl, rfl⟩]
      · show ((tirV (pl i) v i) 5 4 ||| 2 ^ i).testBit i = true
        rw [tb_or]; simp
  · exact Or.inl ⟨rfl, rfl, rfl⟩
theorem fR.r_ {i : Nat} {v u x : sv} (h : fR i v u) (g : fO i u x) : fR i v x := by
  obtain ⟨g1, g2, g3, g4⟩ := g
  unfold fR
  rw [g1, g2, g3, g4]
  exact h
theorem fO.rr {i : Nat} {v u x : sv} (h : fO i v u) (g : fR i u x) : fR i v x := by
  obtain ⟨g1, g2, g3, g4⟩ := h
  unfold fR at g ⊢
  rw [g1, g3, g4] at g
  exact g
theorem fO.tr {i : Nat} {v u x : sv} (h : fO i v u) (g : fO i u x) : fO i v x := ⟨g.1.trans h.1, g.2.1.trans h.2.1, g.2.2.1.trans h.2.2.1, g.2.2.2.trans h.2.2.2⟩
theorem fO.rf {i : Nat} {v : sv} : fO i v v := ⟨rfl, rfl, rfl, rfl⟩
theorem fis_r {pl : Nat → Int32} {v : sv} {i : Nat} : ∀ n, (n ≤ i → fO i v (fisV pl v n)) ∧ (i < n → fR i v (fisV pl v n))
  | 0 => ⟨fun _ => fO.rf, fun h => absurd h (Nat.not_lt_zero _)⟩
  | n + 1 => by
    obtain ⟨h1, h2⟩ := fis_r (pl := pl) (v := v) (i := i) n
    refine ⟨fun h => (h1 (by omega)).tr (fsh_o (by omega)), fun h => ?_⟩
    by_cases c : i = n
    · subst c
      exact (h1 (Nat.le_refl _)).rr fsh_r
    · exact (h2 (by omega)).r_ (fsh_o c)
theorem hr_fR (e : xe) (v : sv) (i : Nat) : (i < eN e → fR i v (hrV e v)) ∧ (eN e ≤ i → fO i v (hrV e v)) := by
  have hm : fO i v (mvV e v) := by
    unfold mvV
    split
    · exact ⟨rfl, rfl, rfl, rfl⟩
    · exact ⟨rfl, rfl, rfl, rfl⟩
  have hl : fO i (fisV (plV e v) (mvV e v) (eN e)) (hrV e v) := ⟨rfl, rfl, rfl, rfl⟩
  obtain ⟨h1, h2⟩ := fis_r (pl := plV e v) (v := mvV e v) (i := i) (eN e)
  exact ⟨fun h => (hm.rr (h2 h)).r_ hl, fun h => (hm.tr (h1 h)).tr hl⟩
/-- behind n hours: what became of the promise of fish i -/
def fI (v u : sv) (i : Nat) : Prop := (¬ u 3 i = 0 → ¬ v 3 i = 0 ∧ (u 5 3).testBit i = false ∧ (u 5 4).testBit i = false) ∧ (u 3 i = 0 → (v 3 i = 0 ∧ (u 5 3).testBit i = false ∧ (u 5 4).testBit i = false) ∨ (¬ v 3 i = 0 ∧ (u 5 3).testBit i = !(u 5 4).testBit i))
theorem hrs_fI (e : xe) (v : sv) (i : Nat) : ∀ n, (i < eN e → fI v (hrsV e (z5V v) n) i) ∧ (eN e ≤ i → ((hrsV e (z5V v) n) 5 3).testBit i = false ∧ ((hrsV e (z5V v) n) 5 4).testBit i = false)
  | 0 => by
    have e3 : ((hrsV e (z5V v) 0) 5 3).testBit i = false := Nat.zero_testBit i
    have e4 : ((hrsV e (z5V v) 0) 5 4).testBit i = false := Nat.zero_testBit i
    have e1 : (hrsV e (z5V v) 0) 3 i = v 3 i := rfl
    refine ⟨fun _ => ⟨fun h => ⟨by rw [← e1]; exact h, e3, e4⟩, fun h => Or.inl ⟨by rw [← e1]; exact h, e3, e4⟩⟩, fun _ => ⟨e3, e4⟩⟩
  | n + 1 => by
    obtain ⟨h1, h2⟩ := hrs_fI e v i n
    obtain ⟨g1, g2⟩ := hr_fR e (hrsV e (z5V v) n) i
    refine ⟨fun hi => ?_, fun hi => ?_⟩
    · have a := h1 hi
      have b := g1 hi
      show fI v (hrV e (hrsV e (z5V v) n)) i
      rcases b with ⟨b1, b2, b3⟩ | ⟨b1, b2, b3⟩
      · unfold fI at a ⊢
        rw [b1, b2, b3]; exact a
      · have a1 := a.1 b1
        refine ⟨fun q => absurd b2 q, fun _ => Or.inr ⟨a1.1, ?_⟩⟩
        rcases b3 with ⟨_, b4, b5⟩ | ⟨_, b4, b5⟩
        · rw [b4, b5, a1.2.2]; rfl
        · rw [b4, b5, a1.2.1]; rfl
    · have a := h2 hi
      have b := g2 hi
      show ((hrV e (hrsV e (z5V v) n)) 5 3).testBit i = false ∧ ((hrV e (hrsV e (z5V v) n)) 5 4).testBit i = false
      rw [b.2.2.1, b.2.2.2]; exact a
/-- fish that are kept in the hour behind n -/
def ftP (e : xe) (v : sv) (n i : Nat) : Bool := decide (¬ (hrsV e (z5V v) n) 3 i = 0) && (decide ((hrsV e (z5V v) (n + 1)) 3 i = 0) && decide (0 < (hrsV e (z5V v) (n + 1)) 2 i))
theorem ft_kept (e : xe) (v : sv) (n : Nat) : (hrsV e (z5V v) (n + 1)) 5 3 = (hrsV e (z5V v) n) 5 3 ||| bsN (ftP e v n) (eN e) := by
  apply Nat.eq_of_testBit_eq
  intro i
  rw [Nat.testBit_or, bsN_t]
  by_cases c : i < eN e
  · rw [decide_eq_true c, Bool.true_and]
    unfold ftP
    have a := (hrs_fI e v i n).1 c
    rcases (hr_fR e (hrsV e (z5V v) n) i).1 c with ⟨b1, b2, b3⟩ | ⟨b1, b2, b3⟩
    · have z : (hrsV e (z5V v) (n + 1)) 3 i = (hrsV e (z5V v) n) 3 i := b1
      rw [z]
      show ((hrV e (hrsV e (z5V v) n)) 5 3).testBit i = _
      rw [b2]
      by_cases q : (hrsV e (z5V v) n) 3 i = 0
      · simp [q]
      · simp [q]
    · have z : (hrsV e (z5V v) (n + 1)) 3 i = 0 := b2
      rw [z]
      show ((hrV e (hrsV e (z5V v) n)) 5 3).testBit i = _
      rcases b3 with ⟨b4, b5, _⟩ | ⟨b4, b5, b6⟩
      · rw [b5, decide_eq_true b1, decide_eq_true (show 0 < (hrsV e (z5V v) (n + 1)) 2 i from b4)]; simp
      · rw [b6, decide_eq_false (show ¬ 0 < (hrsV e (z5V v) (n + 1)) 2 i by show ¬ 0 < (hrV e (hrsV e (z5V v) n)) 2 i; omega)]; simp
  · rw [decide_eq_false c, Bool.false_and, Bool.or_false]
    show ((hrV e (hrsV e (z5V v) n)) 5 3).testBit i = _
    rw [((hr_fR e (hrsV e (z5V v) n) i).2 (by omega)).2.2.1]
theorem ft_broken (e : xe) (v : sv) (n : Nat) : (hrsV e (z5V v) n) 5 4 = dfN (dfN (prN v (eN e)) (prN (hrsV e (z5V v) n) (eN e))) ((hrsV e (z5V v) n) 5 3) := by
  apply Nat.eq_of_testBit_eq
  intro i
  rw [dfN_t, dfN_t]
  obtain ⟨h1, h2⟩ := hrs_fI e v i n
  have p1 := prN_t v (eN e) i
  have p2 := prN_t (hrsV e (z5V v) n) (eN e) i
  by_cases c : i < eN e
  · obtain ⟨a1, a2⟩ := h1 c
    by_cases q : (hrsV e (z5V v) n) 3 i = 0
    · have e2 : (prN (hrsV e (z5V v) n) (eN e)).testBit i = false := Bool.eq_false_iff.mpr (fun z => (p2.mp z).2 q)
      rw [e2]
      rcases a2 q with ⟨b1, b2, b3⟩ | ⟨b1, b2⟩
      · have e1 : (prN v (eN e)).testBit i = false := Bool.eq_false_iff.mpr (fun z => (p1.mp z).2 b1)
        rw [b3, e1]; rfl
      · rw [p1.mpr ⟨c, b1⟩, b2]
        cases ((hrsV e (z5V v) n) 5 4).testBit i <;> rfl
    · obtain ⟨b1, b2, b3⟩ := a1 q
      rw [b3, p2.mpr ⟨c, q⟩]
      cases (prN v (eN e)).testBit i <;> rfl
  · have e1 : (prN v (eN e)).testBit i = false := Bool.eq_false_iff.mpr (fun z => c (p1.mp z).1)
    rw [(h2 (by omega)).2, e1]; rfl
def q_fates (w : wv) (n : Int32) : Int32 × Option (List Int64) := match rgN n 1 99 with
  | none => (-1, none)
  | some m => (nI ((hrsV (wE w) (z5V (wV w)) m) 5 3), some [(nI ((hrsV (wE w) (z5V (wV w)) m) 5 4)).toInt64, (nI (prN (hrsV (wE w) (wV w) m) (eN (wE w)))).toInt64])
theorem kp_lt {e : xe} (he : okE e) (v : sv) (n : Nat) : (hrsV e (z5V v) n) 5 3 < 256 := by
  have h8 := he.1.2.2.2.2.1
  have : (hrsV e (z5V v) n) 5 3 < 2 ^ 8 := by
    apply Nat.lt_pow_two_of_testBit
    intro i hi
    exact ((hrs_fI e v i n).2 (by omega)).1
  exact this
theorem prN_e5 {v w : sv} (h : e5 v w) (n : Nat) : prN v n = prN w n := bsN_c n (fun i _ => by rw [h 3 i (by decide)])
set_option maxHeartbeats 4000000 in
theorem xc_fates {l : xLa} {d : Nat} {σ : xs} {w : wv} (ho : okQ w) (hw : XW σ w) {n : Int32} : TC l M_X_fates (d + 30) [.ref 0, .int n] σ (fun r τ => r = some (.int ((q_fates w n).1)) ∧ XW τ (stD w ((q_fates w n).2)) ∧ XF σ τ) := by
  show T l M_X_fates (d + 30) 0 _ [] σ _
  refine T_lv (lv2 := [_, _]) rfl ?_
  have h := XQ.rf hw.v
  have hd0 := hw.2.2.2.1
  have hb0 := ho.fb
  have hb8 := ho.n8
  rcases rgN_c n 1 99 with ⟨m, hm1, hm2, hm3, rfl, hq⟩ | ⟨hq, hb⟩
  · have hqv : q_fates w (nI m) = (nI ((hrsV (wE w) (z5V (wV w)) m) 5 3), some [(nI ((hrsV (wE w) (z5V (wV w)) m) 5 4)).toInt64, (nI (prN (hrsV (wE w) (wV w) m) (eN (wE w)))).toInt64]) := by unfold q_fates; rw [hq]
    rw [hqv]
    refine tt_iload_n d_X_fates_0 rfl ?_
    refine tt_iconst (v := nI 1) d_X_fates_1 (by decide) ?_
    refine tn_ic_lt (t := 11) (by omega) (by omega) d_X_fates_2 (by decide) (fun c_2 => ?_) (fun c_2 => ?_)
    · omega
    · refine tt_iload_n d_X_fates_5 rfl ?_
      refine tt_bipush (v := nI 99) d_X_fates_6 (by decide) ?_
      refine tn_ic_le (t := 13) (by omega) (by omega) d_X_fates_8 (by decide) (fun c_8 => ?_) (fun c_8 => ?_)
      · refine tt_aload_n d_X_fates_13 rfl ?_
        refine tt_getR d_X_fates_14 rfl rfl (by decide) rfl rfl ?_
        refine tt_aload_n d_X_fates_17 rfl ?_
        refine tt_getR d_X_fates_18 rfl rfl (by decide) rfl rfl ?_
        refine tt_callV (xq_copy (d := d) h) cw_State_copy rfl rfl (by decide) rfl (by omega) d_X_fates_21 rfl rfl (Nat.le_of_ble_eq_true rfl) (Nat.le_of_ble_eq_true rfl) rfl rfl rfl (fun v σ2 q => ?_)
        obtain ⟨rfl, h, hS, hu⟩ := q
        replace hd0 := hd0.tn hu
        refine tt_aload_n d_X_fates_24 rfl ?_
        refine tt_getR d_X_fates_25 rfl rfl (by decide) rfl rfl ?_
        refine tt_aload_n d_X_fates_28 rfl ?_
        refine tt_getR d_X_fates_29 rfl rfl (by decide) rfl rfl ?_
        refine tt_aload_n d_X_fates_32 rfl ?_
        refine tt_getP d_X_fates_33 rfl ?_
        refine tt_iload_n d_X_fates_36 rfl ?_
        refine tt_callV (xq_hrs (d := d) h ho ho.2.1 hS (by have := ho.2.2; omega)) cw_Trip_pass rfl rfl (by decide) rfl (by omega) d_X_fates_37 rfl rfl (Nat.le_of_ble_eq_true rfl) (Nat.le_of_ble_eq_true rfl) rfl rfl rfl (fun v σ2 q => ?_)
        obtain ⟨rfl, h, hS, hT, hu⟩ := q
        replace hd0 := hd0.tn hu
        refine tt_aload_n d_X_fates_40 rfl ?_
        refine tt_getR d_X_fates_41 rfl rfl (by decide) rfl rfl ?_
        refine tt_callV (xq_start (d := d) h) cw_Told_start rfl rfl (by decide) rfl (by omega) d_X_fates_44 rfl rfl (Nat.le_of_ble_eq_true rfl) (Nat.le_of_ble_eq_true rfl) rfl rfl rfl (fun v σ2 q => ?_)
        obtain ⟨rfl, h, hd, hf⟩ := q
        replace hS := hf.st hS (by decide)
        replace hT := hf.tr hT
        refine tt_aload_n d_X_fates_47 rfl ?_
        refine tt_getR d_X_fates_48 rfl rfl (by decide) rfl rfl ?_
        refine tt_aload_n d_X_fates_51 rfl ?_
        refine tt_getR d_X_fates_52 rfl rfl (by decide) rfl rfl ?_
        refine tn_get d_X_fates_55 rfl rfl (by decide) rfl (hT 4 (by decide)) ?_
        refine tt_i2l d_X_fates_58 ?_
        refine tt_callV (xq_add (d := d) h hd (Nat.le_of_ble_eq_true rfl)) cw_Told_add rfl rfl (by decide) rfl (by omega) d_X_fates_59 rfl rfl (Nat.le_of_ble_eq_true rfl) (Nat.le_of_ble_eq_true rfl) rfl rfl rfl (fun v σ2 q => ?_)
        obtain ⟨rfl, h, hd, hf⟩ := q
        replace hS := hf.st hS (by decide)
        replace hT := hf.tr hT
        refine tt_aload_n d_X_fates_62 rfl ?_
        refine tt_getR d_X_fates_63 rfl rfl (by decide) rfl rfl ?_
        refine tt_aload_n d_X_fates_66 rfl ?_
        refine tt_getR d_X_fates_67 rfl rfl (by decide) rfl rfl ?_
        refine tt_aload_n d_X_fates_70 rfl ?_
        refine tt_getR d_X_fates_71 rfl rfl (by decide) rfl rfl ?_
        refine tn_get d_X_fates_74 rfl rfl (by decide) rfl h.n ?_
        refine tt_callV (x_promN (d := d) isS_30 ho.1 (ok_h ho (n := m) (by omega)).1 hS) cw_State_promised rfl rfl (by decide) rfl (by omega) d_X_fates_77 rfl rfl (Nat.le_of_ble_eq_true rfl) (Nat.le_of_ble_eq_true rfl) rfl rfl rfl (fun v σ2 q => ?_)
        obtain ⟨rfl, e9⟩ := q
        rw [e9]
        clear e9
        refine tt_i2l d_X_fates_80 ?_
        refine tt_callV (xq_add (d := d) h hd (Nat.le_of_ble_eq_true rfl)) cw_Told_add rfl rfl (by decide) rfl (by omega) d_X_fates_81 rfl rfl (Nat.le_of_ble_eq_true rfl) (Nat.le_of_ble_eq_true rfl) rfl rfl rfl (fun v σ2 q => ?_)
        obtain ⟨rfl, h, hd, hf⟩ := q
        replace hS := hf.st hS (by decide)
        replace hT := hf.tr hT
        refine tt_aload_n d_X_fates_84 rfl ?_
        refine tt_getR d_X_fates_85 rfl rfl (by decide) rfl rfl ?_
        refine tn_get d_X_fates_88 rfl rfl (by decide) rfl (hT 3 (by decide)) ?_
        refine tt_iret rfl d_X_fates_91 ?_
        exact ⟨rfl, h.done hd, h.2.1⟩
      · omega
  · have hqv : q_fates w n = (-1, none) := by unfold q_fates; rw [hq]
    rw [hqv]
    refine tt_iload_n d_X_fates_0 rfl ?_
    refine tt_iconst (v := nI 1) d_X_fates_1 (by decide) ?_
    refine tt_ic_lt (t := 11) d_X_fates_2 (by decide) (fun c_2 => ?_) (fun c_2 => ?_)
    · refine tt_iconst (v := (-1)) d_X_fates_11 (by decide) ?_
      refine tt_iret rfl d_X_fates_12 ?_
      exact ⟨rfl, h.none hd0, h.2.1⟩
    · refine tt_iload_n d_X_fates_5 rfl ?_
      refine tt_bipush (v := nI 99) d_X_fates_6 (by decide) ?_
      refine tt_ic_le (t := 13) d_X_fates_8 (by decide) (fun c_8 => ?_) (fun c_8 => ?_)
      · exact (rg_f (a := 1) (b := 99) (by decide) (by decide) hb c_2 c_8).elim
      · refine tt_iconst (v := (-1)) d_X_fates_11 (by decide) ?_
        refine tt_iret rfl d_X_fates_12 ?_
        exact ⟨rfl, h.none hd0, h.2.1⟩

theorem ft_g {w : wv} {i j : Nat} (hj : j < eN (wE w)) : ((dfN (prN (hrsV (wE w) (wV w) i) (eN (wE w))) (prN (hrsV (wE w) (wV w) (i + 1)) (eN (wE w)))).testBit j = true ∧ 0 < (hrsV (wE w) (wV w) (i + 1)) 2 j) ↔ ftP (wE w) (wV w) i j = true := by
  have h1 := hrs_z (wE w) (wV w) i
  have h2 := hrs_z (wE w) (wV w) (i + 1)
  unfold ftP
  rw [dfN_t, h1 3 j (by decide), h2 3 j (by decide), h2 2 j (by decide)]
  have p1 := prN_t (hrsV (wE w) (wV w) i) (eN (wE w)) j
  have p2 := prN_t (hrsV (wE w) (wV w) (i + 1)) (eN (wE w)) j
  rw [Bool.and_eq_true, Bool.and_eq_true, Bool.and_eq_true, decide_eq_true_iff, decide_eq_true_iff, decide_eq_true_iff, p1]
  constructor
  · rintro ⟨⟨⟨_, a⟩, b⟩, c⟩
    refine ⟨a, Decidable.byContradiction (fun q => ?_), c⟩
    rw [p2.mpr ⟨hj, q⟩] at b
    cases b
  · rintro ⟨a, b, c⟩
    refine ⟨⟨⟨hj, a⟩, ?_⟩, c⟩
    have : (prN (hrsV (wE w) (wV w) (i + 1)) (eN (wE w))).testBit j = false := Bool.eq_false_iff.mpr (fun z => (p2.mp z).2 b)
    rw [this]; rfl
set_option maxHeartbeats 4000000 in
theorem y_fates_i {l : xLa} {d : Nat} {σ : xs} {c : Nat} {w : wv} {n i : Nat} (hi : i < n ∧ n ≤ 99) (ho : okQ w) : ∀ (m : Nat) (j b : Nat) (τ : xs), eN (wE w) - j = m → j ≤ eN (wE w) → YQ c w σ τ → SY τ 161 (eN (wE w)) (hrsV (wE w) (wV w) (i + 1)) → b = (hrsV (wE w) (z5V (wV w)) i) 5 3 ||| bsN (ftP (wE w) (wV w) i) j → (∀ τ z z2, YQ c w σ τ → SY τ 161 (eN (wE w)) (hrsV (wE w) (wV w) (i + 1)) → T l M_Y_fates (d + 150) 37 [some (.ref 154), some (.int (nI n)), some (.int (nI (prN (wV w) (eN (wE w))))), some (.int (nI ((hrsV (wE w) (z5V (wV w)) (i + 1)) 5 3))), some (.int (nI (i + 1))), some (.int z), some (.int z2), some (.int (nI (eN (wE w))))] [] τ (fun r τ => r = some (.int (nI ((hrsV (wE w) (z5V (wV w)) n) 5 3))) ∧ YW τ c (stD w (some [(nI ((hrsV (wE w) (z5V (wV w)) n) 5 4)).toInt64, (nI (prN (hrsV (wE w) (wV w) n) (eN (wE w)))).toInt64])) ∧ YF σ τ)) → T l M_Y_fates (d + 150) 79 [some (.ref 154), some (.int (nI n)), some (.int (nI (prN (wV w) (eN (wE w))))), some (.int (nI b)), some (.int (nI i)), some (.int (nI (prN (hrsV (wE w) (wV w) i) (eN (wE w))))), some (.int (nI (dfN (prN (hrsV (wE w) (wV w) i) (eN (wE w))) (prN (hrsV (wE w) (wV w) (i + 1)) (eN (wE w)))))), some (.int (nI j))] [] τ (fun r τ => r = some (.int (nI ((hrsV (wE w) (z5V (wV w)) n) 5 3))) ∧ YW τ c (stD w (some [(nI ((hrsV (wE w) (z5V (wV w)) n) 5 4)).toInt64, (nI (prN (hrsV (wE w) (wV w) n) (eN (wE w)))).toInt64])) ∧ YF σ τ) := by
  have hb0 := ho.fb
  have hb8 := ho.n8
  intro m
  induction m using Nat.strongRecOn with
  | ind m ih =>
    intro j b τ hm hj h hS hb hk
    have hgl : dfN (prN (hrsV (wE w) (wV w) i) (eN (wE w))) (prN (hrsV (wE w) (wV w) (i + 1)) (eN (wE w))) < 256 := dfN_lt (n := 8) (prN_lt _ ho.n8)
    have htb := tbN_c (dfN (prN (hrsV (wE w) (wV w) i) (eN (wE w))) (prN (hrsV (wE w) (wV w) (i + 1)) (eN (wE w)))) j
    refine tt_iload d_Y_fates_79 rfl ?_
    refine tt_aload_n d_Y_fates_81 rfl ?_
    refine tn_get d_Y_fates_82 rfl rfl (by decide) rfl h.e.1.2.2.1 ?_
    refine tn_ic_ge (t := 129) (by omega) (by omega) d_Y_fates_85 (by decide) (fun c_85 => ?_) (fun c_85 => ?_)
    · obtain rfl : j = eN (wE w) := by omega
      rw [← ft_kept] at hb
      subst hb
      refine tt_iinc (lv2 := [_, _, _, _, _, _, _, _]) d_Y_fates_129 rfl (nI_inc _ 1) (by decide) rfl ?_
      refine tt_goto (t := 37) d_Y_fates_132 (by decide) ?_
      exact hk _ _ _ h hS
    · have hok := (ok_h ho (n := i + 1) (by omega)).1
      have h29 := (hok.2.2.2.2.2.2 j (by omega)).2.1
      refine tt_iload_n d_Y_fates_88 rfl ?_
      refine tt_iload d_Y_fates_89 rfl ?_
      refine tt_i2l d_Y_fates_91 ?_
      refine tt_iload d_Y_fates_92 rfl ?_
      refine tt_callS (y_hasN (d := d) (by omega) (by omega)) cw_Y_has rfl (by omega) d_Y_fates_94 rfl rfl (Nat.le_of_ble_eq_true rfl) (Nat.le_of_ble_eq_true rfl) rfl rfl rfl (fun v σ2 q => ?_)
      obtain ⟨rfl, e9⟩ := q
      rw [e9]
      clear e9
      refine tn_if_eq (t := 120) (by omega) d_Y_fates_97 (by decide) (fun c_97 => ?_) (fun c_97 => ?_)
      · have hz : b ||| 0 = (hrsV (wE w) (z5V (wV w)) i) 5 3 ||| bsN (ftP (wE w) (wV w) i) (j + 1) := by
          show _ = _ ||| (bsN (ftP (wE w) (wV w) i) j ||| (if ftP (wE w) (wV w) i j = true then 2 ^ j else 0))
          rw [if_neg (fun q => htb.2.2.mp c_97 ((ft_g (by omega)).mpr q).1), Nat.or_zero, Nat.or_zero, hb]
        refine tt_iconst (v := nI 0) d_Y_fates_120 (by decide) ?_
        refine tt_ior d_Y_fates_121 ?_
        refine tt_top (or_N _ _) ?_
        refine tt_istore_n (lv2 := [_, _, _, _, _, _, _, _]) d_Y_fates_122 (by decide) rfl ?_
        refine tt_iinc (lv2 := [_, _, _, _, _, _, _, _]) d_Y_fates_123 rfl (nI_inc _ 1) (by decide) rfl ?_
        refine tt_goto (t := 79) d_Y_fates_126 (by decide) ?_
        exact ih (eN (wE w) - (j + 1)) (by omega) (j + 1) _ _ rfl (by omega) h hS hz hk
      · refine tt_aload_n d_Y_fates_100 rfl ?_
        refine tt_getR d_Y_fates_101 rfl rfl (by decide) rfl rfl ?_
        refine tt_bipush (v := nI 9) d_Y_fates_104 (by decide) ?_
        refine tt_iload d_Y_fates_106 rfl ?_
        refine tn_iadd d_Y_fates_108 ?_
        refine tn_iald d_Y_fates_109 rfl (by decide) (by omega) ((hS.2 _ (by omega)).2.1) ?_
        refine tn_if_le (t := 120) (by omega) d_Y_fates_110 (by decide) (fun c_110 => ?_) (fun c_110 => ?_)
        · have hz : b ||| 0 = (hrsV (wE w) (z5V (wV w)) i) 5 3 ||| bsN (ftP (wE w) (wV w) i) (j + 1) := by
            show _ = _ ||| (bsN (ftP (wE w) (wV w) i) j ||| (if ftP (wE w) (wV w) i j = true then 2 ^ j else 0))
            rw [if_neg (fun q => by have := ((ft_g (by omega)).mpr q).2; omega), Nat.or_zero, Nat.or_zero, hb]
          refine tt_iconst (v := nI 0) d_Y_fates_120 (by decide) ?_
          refine tt_ior d_Y_fates_121 ?_
          refine tt_top (or_N _ _) ?_
          refine tt_istore_n (lv2 := [_, _, _, _, _, _, _, _]) d_Y_fates_122 (by decide) rfl ?_
          refine tt_iinc (lv2 := [_, _, _, _, _, _, _, _]) d_Y_fates_123 rfl (nI_inc _ 1) (by decide) rfl ?_
          refine tt_goto (t := 79) d_Y_fates_126 (by decide) ?_
          exact ih (eN (wE w) - (j + 1)) (by omega) (j + 1) _ _ rfl (by omega) h hS hz hk
        · have hz : b ||| 2 ^ j = (hrsV (wE w) (z5V (wV w)) i) 5 3 ||| bsN (ftP (wE w) (wV w) i) (j + 1) := by
            show _ = _ ||| (bsN (ftP (wE w) (wV w) i) j ||| (if ftP (wE w) (wV w) i j = true then 2 ^ j else 0))
            rw [if_pos ((ft_g (by omega)).mp ⟨Decidable.not_not.mp (fun q => c_97 (htb.2.2.mpr q)), by omega⟩), hb, Nat.or_assoc]
          refine tt_iconst (v := nI 1) d_Y_fates_113 (by decide) ?_
          refine tt_iload d_Y_fates_114 rfl ?_
          refine tt_ishl d_Y_fates_116 ?_
          refine tt_top (shl_9 _ (by omega)) ?_
          refine tt_goto (t := 121) d_Y_fates_117 (by decide) ?_
          refine tt_ior d_Y_fates_121 ?_
          refine tt_top (or_N _ _) ?_
          refine tt_istore_n (lv2 := [_, _, _, _, _, _, _, _]) d_Y_fates_122 (by decide) rfl ?_
          refine tt_iinc (lv2 := [_, _, _, _, _, _, _, _]) d_Y_fates_123 rfl (nI_inc _ 1) (by decide) rfl ?_
          refine tt_goto (t := 79) d_Y_fates_126 (by decide) ?_
          exact ih (eN (wE w) - (j + 1)) (by omega) (j + 1) _ _ rfl (by omega) h hS hz hk

set_option maxHeartbeats 4000000 in
theorem y_fates_l {l : xLa} {d : Nat} {σ : xs} {c : Nat} {w : wv} {n : Nat} (hn : n ≤ 99) (ho : okQ w) : ∀ (m : Nat) (i : Nat) (z5 z6 z7 : Option Int32) (τ : xs), n - i = m → i ≤ n → YQ c w σ τ → SY τ 161 (eN (wE w)) (hrsV (wE w) (wV w) i) → T l M_Y_fates (d + 150) 37 [some (.ref 154), some (.int (nI n)), some (.int (nI (prN (wV w) (eN (wE w))))), some (.int (nI ((hrsV (wE w) (z5V (wV w)) i) 5 3))), some (.int (nI i)), z5.map Value.int, z6.map Value.int, z7.map Value.int] [] τ (fun r τ => r = some (.int (nI ((hrsV (wE w) (z5V (wV w)) n) 5 3))) ∧ YW τ c (stD w (some [(nI ((hrsV (wE w) (z5V (wV w)) n) 5 4)).toInt64, (nI (prN (hrsV (wE w) (wV w) n) (eN (wE w)))).toInt64])) ∧ YF σ τ) := by
  have hb0 := ho.fb
  have hb8 := ho.n8
  intro m
  induction m using Nat.strongRecOn with
  | ind m ih =>
    intro i z5 z6 z7 τ hm hi h hS
    have hok := ok_h ho (n := i) (by omega)
    have hkl := kp_lt ho.1 (wV w) i
    have hp1 := prN_lt (hrsV (wE w) (wV w) i) ho.n8
    have hp2 := prN_lt (hrsV (wE w) (wV w) (i + 1)) ho.n8
    refine tt_iload d_Y_fates_37 rfl ?_
    refine tt_iload_n d_Y_fates_39 rfl ?_
    refine tn_ic_ge (t := 135) (by omega) (by omega) d_Y_fates_40 (by decide) (fun c_40 => ?_) (fun c_40 => ?_)
    · obtain rfl : i = n := by omega
      rw [ft_broken, prN_e5 (hrs_z (wE w) (wV w) i)]
      refine tt_aload_n d_Y_fates_135 rfl ?_
      refine tt_iconst (v := nI 0) d_Y_fates_136 (by decide) ?_
      refine tt_putI d_Y_fates_137 rfl rfl (by decide) rfl (xpok_int rfl) rfl ?_
      replace h := h.td0
      have hd := YD_0t h
      replace hS := SY_0t h hS
      refine tt_aload_n d_Y_fates_140 rfl ?_
      refine tt_iload_n d_Y_fates_141 rfl ?_
      refine tt_aload_n d_Y_fates_142 rfl ?_
      refine tt_aload_n d_Y_fates_143 rfl ?_
      refine tt_getR d_Y_fates_144 rfl rfl (by decide) rfl rfl ?_
      refine tt_callV (y_promN (d := d) isY_161 ho.1 (ok_h ho (n := i) (by omega)).1 h.e.1.2.2.1 hS) cw_Y_promised rfl rfl (by decide) rfl (by omega) d_Y_fates_147 rfl rfl (Nat.le_of_ble_eq_true rfl) (Nat.le_of_ble_eq_true rfl) rfl rfl rfl (fun v σ2 q => ?_)
      obtain ⟨rfl, e9⟩ := q
      rw [e9]
      clear e9
      refine tt_iconst (v := (-1)) d_Y_fates_150 (by decide) ?_
      refine tt_ixor d_Y_fates_151 ?_
      refine tt_iand d_Y_fates_152 ?_
      refine tt_top (an_N _ _) ?_
      refine tt_iload_n d_Y_fates_153 rfl ?_
      refine tt_iconst (v := (-1)) d_Y_fates_154 (by decide) ?_
      refine tt_ixor d_Y_fates_155 ?_
      refine tt_iand d_Y_fates_156 ?_
      refine tt_top (an_N _ _) ?_
      refine tt_i2l d_Y_fates_157 ?_
      refine tt_callV (yq_add (d := d) h hd (Nat.le_of_ble_eq_true rfl)) cw_Y_enters rfl rfl (by decide) rfl (by omega) d_Y_fates_158 rfl rfl (Nat.le_of_ble_eq_true rfl) (Nat.le_of_ble_eq_true rfl) rfl rfl rfl (fun v σ2 q => ?_)
      obtain ⟨rfl, h, hd, hf⟩ := q
      replace hS := hf.sy hS
      refine tt_aload_n d_Y_fates_161 rfl ?_
      refine tt_aload_n d_Y_fates_162 rfl ?_
      refine tt_aload_n d_Y_fates_163 rfl ?_
      refine tt_getR d_Y_fates_164 rfl rfl (by decide) rfl rfl ?_
      refine tt_callV (y_promN (d := d) isY_161 ho.1 (ok_h ho (n := i) (by omega)).1 h.e.1.2.2.1 hS) cw_Y_promised rfl rfl (by decide) rfl (by omega) d_Y_fates_167 rfl rfl (Nat.le_of_ble_eq_true rfl) (Nat.le_of_ble_eq_true rfl) rfl rfl rfl (fun v σ2 q => ?_)
      obtain ⟨rfl, e9⟩ := q
      rw [e9]
      clear e9
      refine tt_i2l d_Y_fates_170 ?_
      refine tt_callV (yq_add (d := d) h hd (Nat.le_of_ble_eq_true rfl)) cw_Y_enters rfl rfl (by decide) rfl (by omega) d_Y_fates_171 rfl rfl (Nat.le_of_ble_eq_true rfl) (Nat.le_of_ble_eq_true rfl) rfl rfl rfl (fun v σ2 q => ?_)
      obtain ⟨rfl, h, hd, hf⟩ := q
      replace hS := hf.sy hS
      refine tt_iload_n d_Y_fates_174 rfl ?_
      refine tt_iret rfl d_Y_fates_175 ?_
      exact ⟨rfl, h.done hd, h.2⟩
    · refine tt_aload_n d_Y_fates_43 rfl ?_
      refine tt_aload_n d_Y_fates_44 rfl ?_
      refine tt_getR d_Y_fates_45 rfl rfl (by decide) rfl rfl ?_
      refine tt_callV (y_promN (d := d) isY_161 ho.1 (ok_h ho (n := i) (by omega)).1 h.e.1.2.2.1 hS) cw_Y_promised rfl rfl (by decide) rfl (by omega) d_Y_fates_48 rfl rfl (Nat.le_of_ble_eq_true rfl) (Nat.le_of_ble_eq_true rfl) rfl rfl rfl (fun v σ2 q => ?_)
      obtain ⟨rfl, e9⟩ := q
      rw [e9]
      clear e9
      refine tt_istore (lv2 := [_, _, _, _, _, _, _, _]) d_Y_fates_51 (by decide) rfl ?_
      refine tt_aload_n d_Y_fates_53 rfl ?_
      refine tt_aload_n d_Y_fates_54 rfl ?_
      refine tt_getR d_Y_fates_55 rfl rfl (by decide) rfl rfl ?_
      refine tt_callV (yq_hr0 (d := d) h ho hok.1 hS (by omega)) cw_Y_hourGoes rfl rfl (by decide) rfl (by omega) d_Y_fates_58 rfl rfl (Nat.le_of_ble_eq_true rfl) (Nat.le_of_ble_eq_true rfl) rfl rfl rfl (fun v σ2 q => ?_)
      obtain ⟨rfl, h, hS, hu⟩ := q
      refine tt_iload d_Y_fates_61 rfl ?_
      refine tt_aload_n d_Y_fates_63 rfl ?_
      refine tt_aload_n d_Y_fates_64 rfl ?_
      refine tt_getR d_Y_fates_65 rfl rfl (by decide) rfl rfl ?_
      refine tt_callV (y_promN (d := d) isY_161 ho.1 (ok_h ho (n := i + 1) (by omega)).1 h.e.1.2.2.1 hS) cw_Y_promised rfl rfl (by decide) rfl (by omega) d_Y_fates_68 rfl rfl (Nat.le_of_ble_eq_true rfl) (Nat.le_of_ble_eq_true rfl) rfl rfl rfl (fun v σ2 q => ?_)
      obtain ⟨rfl, e9⟩ := q
      rw [e9]
      clear e9
      refine tt_iconst (v := (-1)) d_Y_fates_71 (by decide) ?_
      refine tt_ixor d_Y_fates_72 ?_
      refine tt_iand d_Y_fates_73 ?_
      refine tt_top (an_N _ _) ?_
      refine tt_istore (lv2 := [_, _, _, _, _, _, _, _]) d_Y_fates_74 (by decide) rfl ?_
      refine tt_iconst (v := nI 0) d_Y_fates_76 (by decide) ?_
      refine tt_istore (lv2 := [_, _, _, _, _, _, _, _]) d_Y_fates_77 (by decide) rfl ?_
      refine y_fates_i ⟨by omega, hn⟩ ho (eN (wE w)) 0 _ _ rfl (by omega) h hS (Nat.or_zero _).symm (fun τ z z2 h hS => ?_)
      exact ih (n - (i + 1)) (by omega) (i + 1) (some z) (some z2) (some _) _ rfl (by omega) h hS

set_option maxHeartbeats 4000000 in
theorem yc_fates {l : xLa} {d c : Nat} {σ : xs} {w : wv} (ho : okQ w) (hw : YW σ c w) {n : Int32} : TC l M_Y_fates (d + 150) [.ref 154, .int n] σ (fun r τ => r = some (.int ((q_fates w n).1)) ∧ YW τ c (stD w ((q_fates w n).2)) ∧ YF σ τ) := by
  show T l M_Y_fates (d + 150) 0 _ [] σ _
  refine T_lv (lv2 := [_, _, _, _, _, _, _, _]) rfl ?_
  have h := YQ.rf hw.v
  have hd0 := hw.2.2.2.1
  have hb0 := ho.fb
  have hb8 := ho.n8
  rcases rgN_c n 1 99 with ⟨m, hm1, hm2, hm3, rfl, hq⟩ | ⟨hq, hb⟩
  · have hqv : q_fates w (nI m) = (nI ((hrsV (wE w) (z5V (wV w)) m) 5 3), some [(nI ((hrsV (wE w) (z5V (wV w)) m) 5 4)).toInt64, (nI (prN (hrsV (wE w) (wV w) m) (eN (wE w)))).toInt64]) := by unfold q_fates; rw [hq]
    rw [hqv]
    refine tt_aload_n d_Y_fates_0 rfl ?_
    refine tt_iconst (v := nI 0) d_Y_fates_1 (by decide) ?_
    refine tt_putI d_Y_fates_2 rfl rfl (by decide) rfl (xpok_int rfl) rfl ?_
    replace h := h.thr (x := nI 0)
    replace hd0 := hd0.thr (x := nI 0)
    refine tt_iload_n d_Y_fates_5 rfl ?_
    refine tt_i2l d_Y_fates_6 ?_
    refine tt_lconst (v := 1) d_Y_fates_7 (by decide) ?_
    refine tt_ldc2_w d_Y_fates_8 rfl ?_
    refine tt_callS (y_in (d := d)) cw_Y_in rfl (by omega) d_Y_fates_11 rfl rfl (Nat.le_of_ble_eq_true rfl) (Nat.le_of_ble_eq_true rfl) rfl rfl rfl (fun v σ2 q => ?_)
    obtain ⟨rfl, e9⟩ := q
    rw [e9, show Yin (nI m).toInt64 1 99 = nI 1 from Yin_t (a := 1) (b := 99) rfl rfl (by omega) (by omega) (by decide)]
    clear e9
    refine tn_if_ne (t := 19) (by omega) d_Y_fates_14 (by decide) (fun c_14 => ?_) (fun c_14 => ?_)
    · refine tt_aload_n d_Y_fates_19 rfl ?_
      refine tt_callV (yq_copies (d := d) h ho.n8) cw_Y_copies rfl rfl (by decide) rfl (by omega) d_Y_fates_20 rfl rfl (Nat.le_of_ble_eq_true rfl) (Nat.le_of_ble_eq_true rfl) rfl rfl rfl (fun v σ2 q => ?_)
      obtain ⟨rfl, h, hS, hu, -⟩ := q
      replace hd0 := hd0.un hu
      refine tt_aload_n d_Y_fates_23 rfl ?_
      refine tt_aload_n d_Y_fates_24 rfl ?_
      refine tt_getR d_Y_fates_25 rfl rfl (by decide) rfl rfl ?_
      refine tt_callV (y_promN (d := d) isY_160 ho.1 ho.2.1 h.e.1.2.2.1 h.1.2.1) cw_Y_promised rfl rfl (by decide) rfl (by omega) d_Y_fates_28 rfl rfl (Nat.le_of_ble_eq_true rfl) (Nat.le_of_ble_eq_true rfl) rfl rfl rfl (fun v σ2 q => ?_)
      obtain ⟨rfl, e9⟩ := q
      rw [e9]
      clear e9
      refine tt_istore_n (lv2 := [_, _, _, _, _, _, _, _]) d_Y_fates_31 (by decide) rfl ?_
      refine tt_iconst (v := nI 0) d_Y_fates_32 (by decide) ?_
      refine tt_istore_n (lv2 := [_, _, _, _, _, _, _, _]) d_Y_fates_33 (by decide) rfl ?_
      refine tt_iconst (v := nI 0) d_Y_fates_34 (by decide) ?_
      refine tt_istore (lv2 := [_, _, _, _, _, _, _, _]) d_Y_fates_35 (by decide) rfl ?_
      exact y_fates_l hm2 ho m 0 none none none _ rfl (by omega) h hS
    · exact absurd c_14 (by decide)
  · have hqv : q_fates w n = (-1, none) := by unfold q_fates; rw [hq]
    rw [hqv]
    refine tt_aload_n d_Y_fates_0 rfl ?_
    refine tt_iconst (v := nI 0) d_Y_fates_1 (by decide) ?_
    refine tt_putI d_Y_fates_2 rfl rfl (by decide) rfl (xpok_int rfl) rfl ?_
    replace h := h.thr (x := nI 0)
    replace hd0 := hd0.thr (x := nI 0)
    refine tt_iload_n d_Y_fates_5 rfl ?_
    refine tt_i2l d_Y_fates_6 ?_
    refine tt_lconst (v := 1) d_Y_fates_7 (by decide) ?_
    refine tt_ldc2_w d_Y_fates_8 rfl ?_
    refine tt_callS (y_in (d := d)) cw_Y_in rfl (by omega) d_Y_fates_11 rfl rfl (Nat.le_of_ble_eq_true rfl) (Nat.le_of_ble_eq_true rfl) rfl rfl rfl (fun v σ2 q => ?_)
    obtain ⟨rfl, e9⟩ := q
    rw [e9, show Yin n.toInt64 1 99 = nI 0 from Yin_f (a := 1) (b := 99) rfl rfl (by decide) (by decide) hb]
    clear e9
    refine tn_if_ne (t := 19) (by omega) d_Y_fates_14 (by decide) (fun c_14 => ?_) (fun c_14 => ?_)
    · exact absurd c_14 (by decide)
    · refine tt_iconst (v := (-1)) d_Y_fates_17 (by decide) ?_
      refine tt_iret rfl d_Y_fates_18 ?_
      exact ⟨rfl, h.none hd0, h.2⟩

