/-! The law's entry: the machine's facts out of what the Statement gives. -/
theorem st_arr {args : Array Value} {s : State} {tm : Term} {N : Nat} {f : Nat → Int32} {A : Nat → Prop} (hN : N < 2 ^ 31) (harr : (Cond.arrayOf tm .int).before args s = true) (hlen : (Cond.eq (.length tm) (.int (Int32.ofNat N))).before args s = true) (hel : ∀ j : Nat, j < N → (Cond.eq (.elem tm (.int (Int32.ofNat j))) (.int (f j))).before args s = true) (hA : ∀ a : Nat, a < s.heap.size → ¬ A a) :
    ∃ t : Nat, tm.eval args s none [] s = some (.ref t) ∧ va_T .int t N (fun j => .int (f j)) A s s.heap ∧ va_X t N f s s.heap ∧ t < s.heap.size := by
  have hl := va_eqt hlen
  obtain ⟨t, ht, cell, g1, g2, g3, g4, g5, g6, g7⟩ := va_Tof (f := fun j => .int (f j)) (A := A) hN harr hl (fun j hj => va_eqt (hel j hj)) hA
  obtain ⟨t', cell', ht', hat, -⟩ := Term.length_spec hl
  cases ht.symm.trans ht'
  obtain ⟨hcell, -, -, -⟩ := State.arrayAt?_spec hat
  cases g1.symm.trans hcell
  have hsz : cell.slots.size < 2 ^ 31 := by
    simp only [Term.eval, ht, hat, Option.bind_eq_bind, Option.bind_some] at hl
    by_cases hlt : cell.slots.size < 2147483648
    · exact hlt
    · simp [hlt] at hl
  have hs : cell.slots.size = N := by
    have e : (nI cell.slots.size).toInt = (nI N).toInt := congrArg Int32.toInt g5
    rw [nI_toInt hsz, nI_toInt hN] at e
    omega
  exact ⟨t, ht, ⟨cell, g1, g2, g3, g4, g5, g6, g7⟩, ⟨cell, g1, g2, g3, hs, g6⟩, (Array.getElem?_eq_some_iff.mp g1).1⟩
theorem va_OF_det {o n d : String} {v v' : Value} {t : Nat} {A : Nat → Prop} {U : State} {H : Heap} (h : va_OF o n d v t A U H) (h' : va_OF o n d v' t A U H) : v = v' := by
  obtain ⟨cf, k, i, f, cell, g1, g2, g3, g4, g5, g6⟩ := h
  obtain ⟨cf', k', i', f', cell', g1', g2', g3', g4', g5', g6'⟩ := h'
  cases g1.symm.trans g1'
  cases g3.symm.trans g3'
  exact Option.some.inj (g5.symm.trans g5')
theorem va_T_det {ty : FieldType} {t N N' : Nat} {f f' : Nat → Value} {A : Nat → Prop} {U : State} {H : Heap} (hN : N < 2 ^ 31) (hN' : N' < 2 ^ 31) (h : va_T ty t N f A U H) (h' : va_T ty t N' f' A U H) : N = N' ∧ ∀ j, j < N → f j = f' j := by
  obtain ⟨cell, g1, g2, g3, g4, g5, g6, g7⟩ := h
  obtain ⟨cell', g1', g2', g3', g4', g5', g6', g7'⟩ := h'
  cases g1.symm.trans g1'
  have e : (nI N).toInt = (nI N').toInt := congrArg Int32.toInt (g5.symm.trans g5')
  rw [nI_toInt hN, nI_toInt hN'] at e
  have e : N = N' := by omega
  exact ⟨e, fun j hj => Option.some.inj ((g6 j hj).symm.trans (g6' j (by omega)))⟩
def xsT (i : Nat) : Term := .string (xss.getD i ("", 0, "", [])).1 (xss.getD i ("", 0, "", [])).2.1
def xsL : List Nat := xss.map (fun q => q.2.2.2.length)
def xsB : List (List Int32) := xss.map (fun q => q.2.2.2)
theorem xs_lt : ∀ i, i < 8 → xsL.getD i 0 < 2 ^ 31 := by decide +kernel
theorem xs_ne : ∀ i, i < 8 → ∀ j, j < 8 → i ≠ j → ¬ (xsL.getD i 0 = xsL.getD j 0 ∧ ∀ k, k < xsL.getD i 0 → (xsB.getD i []).getD k 0 = (xsB.getD j []).getD k 0) := by decide +kernel
abbrev gvn : List Cond := flatC (Jvm.Cond.and given_1 narrow_1)
theorem gv_s : ∀ i, i < 8 → (Cond.exactly (xsT i) "java/lang/String") ∈ gvn ∧ (Cond.eq (.field (xsT i) "java/lang/String" "coder" "B") (.int 0)) ∈ gvn ∧ (Cond.arrayOf (.field (xsT i) "java/lang/String" "value" "[B") .byte) ∈ gvn ∧ (Cond.eq (.length (.field (xsT i) "java/lang/String" "value" "[B")) (.int (Int32.ofNat (xsL.getD i 0)))) ∈ gvn := by decide +kernel
theorem gv_b : ∀ i, i < 8 → ∀ j, j < xsL.getD i 0 → (Cond.eq (.elem (.field (xsT i) "java/lang/String" "value" "[B") (.int (Int32.ofNat j))) (.int ((xsB.getD i []).getD j 0))) ∈ gvn := by decide +kernel
theorem gv_r : ∀ i, i < 8 → Cond.stringRef (xss.getD i ("", 0, "", [])).1 (xss.getD i ("", 0, "", [])).2.1 (xss.getD i ("", 0, "", [])).2.2.1 ∈ lw_tbl := by decide +kernel
theorem st_str {args : Array Value} {s : State} {A : Nat → Prop} (hs : ∀ w ∈ gvn, w.before args s = true) (hA : ∀ a : Nat, a < s.heap.size → ¬ A a) :
    ∃ adK adV : Nat → Nat, vk_S 8 xsL xsB adK adV A s s.heap ∧ ∀ i : Nat, i < 8 → (xsT i).eval args s none [] s = some (.ref (adK i)) := by
  have h0 : ∀ i : Nat, ∃ q : Nat × Nat, i < 8 → (xsT i).eval args s none [] s = some (.ref q.1) ∧ va_O "java/lang/String" q.1 A s s.heap ∧ va_OF "java/lang/String" "coder" "B" (.int 0) q.1 A s s.heap ∧ va_OF "java/lang/String" "value" "[B" (.ref q.2) q.1 A s s.heap ∧ va_T .byte q.2 (xsL.getD i 0) (fun j => .int ((xsB.getD i []).getD j 0)) A s s.heap := by
    intro i
    by_cases hi : i < 8
    · obtain ⟨w1, w2, w3, w4⟩ := gv_s i hi
      obtain ⟨a, c, cA, kA, q1, q2, q3, q4, q5, q6, -⟩ := Cond.exactly_spec (args := args) (first := s) (o := none) (s := s) (idx := []) (t := xsT i) (cls := "java/lang/String") (hs _ w1)
      obtain ⟨t, ht, hT⟩ := va_Tof (f := fun j => .int ((xsB.getD i []).getD j 0)) (A := A) (xs_lt i hi) (hs _ w3) (va_eqt (hs _ w4)) (fun j hj => va_eqt (hs _ (gv_b i hi j hj))) hA
      exact ⟨(a, t), fun _ => ⟨q1, ⟨cA, q3, q5, by rw [q6]; exact q2, hA a (Array.getElem?_eq_some_iff.mp q3).1⟩, vk_OFof q1 (va_eqt (hs _ w2)) hA, vk_OFof q1 ht hA, hT⟩⟩
    · exact ⟨(0, 0), fun h => absurd h hi⟩
  obtain ⟨ad, had⟩ := Classical.axiomOfChoice h0
  refine ⟨fun i => (ad i).1, fun i => (ad i).2, ⟨fun i hi => (had i hi).2, fun i j hi hj e => ?_⟩, fun i hi => (had i hi).1⟩
  apply Classical.byContradiction
  intro hij
  obtain ⟨-, -, -, v1, t1⟩ := had i hi
  obtain ⟨-, -, -, v2, t2⟩ := had j hj
  have e : (ad i).1 = (ad j).1 := e
  rw [e] at v1
  have ev : (ad i).2 = (ad j).2 := Value.ref.inj (va_OF_det v1 v2)
  rw [ev] at t1
  obtain ⟨g1, g2⟩ := va_T_det (xs_lt i hi) (xs_lt j hj) t1 t2
  exact xs_ne i hi j hj hij ⟨g1, fun k hk => Value.int.inj (g2 k hk)⟩
theorem lw_inst : ∀ ci, ci < 13 → Cond.instantiable (xcn.getD ci "") (xN ci) ∈ lw_tbl := by decide +kernel
theorem lw_ao : Cond.arrayOver (.object "FishFerry$State") ∈ lw_tbl ∧ Cond.arrayOver (.array .int) ∈ lw_tbl := by decide +kernel
theorem gv_a : ∀ i, i < 3 → (Cond.arrayOf (.static "FishFerry$Rule" (xsa.getD i ("", [])).1 "[I") .int) ∈ gvn ∧ (Cond.eq (.length (.static "FishFerry$Rule" (xsa.getD i ("", [])).1 "[I")) (.int (Int32.ofNat (xsa.getD i ("", [])).2.length))) ∈ gvn ∧ Cond.laysStatic "FishFerry$Rule" (xsa.getD i ("", [])).1 "[I" ∈ lw_tbl ∧ (xsa.getD i ("", [])).2.length < 2 ^ 31 := by decide +kernel
theorem gv_e : ∀ i, i < 3 → ∀ j, j < (xsa.getD i ("", [])).2.length → (Cond.eq (.elem (.static "FishFerry$Rule" (xsa.getD i ("", [])).1 "[I") (.int (Int32.ofNat j))) (.int ((xsa.getD i ("", [])).2.getD j 0))) ∈ gvn := by decide +kernel
theorem lw_ini : Cond.initialized "FishFerry$Rule" ∈ lw_tbl ∧ Cond.initialized "java/lang/String" ∈ lw_tbl ∧ Cond.initialized "jdk/internal/util/Preconditions" ∈ lw_tbl ∧ Cond.initialized "java/lang/Throwable" ∈ lw_tbl := by decide +kernel
theorem lw_lay : Cond.laysStatic "java/lang/String" "COMPACT_STRINGS" "Z" ∈ lw_tbl ∧ Cond.laysStatic "jdk/internal/util/Preconditions" "SIOOBE_FORMATTER" "Ljava/util/function/BiFunction;" ∈ lw_tbl ∧ Cond.laysStatic "java/lang/Throwable" "UNASSIGNED_STACK" "[Ljava/lang/StackTraceElement;" ∈ lw_tbl ∧ Cond.laysStatic "java/lang/Throwable" "SUPPRESSED_SENTINEL" "Ljava/util/List;" ∈ lw_tbl := by decide +kernel
theorem gv_z : Cond.eq (.static "java/lang/String" "COMPACT_STRINGS" "Z") (.int 1) ∈ gvn ∧ Cond.isRef (.static "jdk/internal/util/Preconditions" "SIOOBE_FORMATTER" "Ljava/util/function/BiFunction;") ∈ gvn ∧ Cond.isRef (.static "java/lang/Throwable" "UNASSIGNED_STACK" "[Ljava/lang/StackTraceElement;") ∈ gvn ∧ Cond.isRef (.static "java/lang/Throwable" "SUPPRESSED_SENTINEL" "Ljava/util/List;") ∈ gvn := by decide +kernel
/-- classes and arrays are known -/
theorem st_K {args : Array Value} {s : State} (hts : ∀ w ∈ lw_tbl, w.before args s = true) : ∃ (D : va_G) (dA : Nat → ClassId), va_K D xcl (xtys dA) s := by
  have h0 : ∀ ci : Nat, ∃ q : ClassId × (Nat → Nat), ci < 13 → u_Kn s (xcn.getD ci "") (xT ci) (xN ci) q.1 q.2 := by
    intro ci
    by_cases hi : ci < 13
    · obtain ⟨cC, iS, h⟩ := u_known (C := xcn.getD ci "") (T := xT ci) (N := xN ci) hts (fun w hw => (xcl_lay ci hi w hw).1) (hts _ (lw_inst ci hi))
      exact ⟨(cC, iS), fun _ => h⟩
    · exact ⟨(0, fun _ => 0), fun h => absurd h hi⟩
  have h1 : ∀ t : Nat, ∃ cA : ClassId, t < 7 → ArrOfT s cA (xTy t) ∧ va_RA s cA (xTy t) := by
    intro t
    by_cases h5 : t < 5
    · have hw := hts _ (List.mem_filter.mp (xAC_at h5)).1
      obtain ⟨c, k, comp, g1, g2, g3⟩ := Cond.arrayClass_spec hw
      refine ⟨c, fun _ => ⟨fun N z => ⟨(fun q hq => by cases hq), k, g2, comp, g3⟩, ?_⟩⟩
      match t, h5, g1 with
      | 0, _, g1 => exact g1
      | 1, _, g1 => exact g1
      | 2, _, g1 => exact g1
      | 3, _, g1 => exact g1
      | 4, _, g1 => exact g1
    · by_cases e5 : t = 5
      · subst e5
        obtain ⟨comp, c, k, g1, g2, g3, g4, g5⟩ := Cond.arrayOver_spec (hts _ lw_ao.1)
        exact ⟨c, fun _ => ⟨fun N z => ⟨(fun q hq => by cases hq), k, g3, comp, g4⟩, ⟨k, comp, g3, g4, g1, g5⟩⟩⟩
      · by_cases e6 : t = 6
        · subst e6
          obtain ⟨comp, c, k, g1, g2, g3, g4, g5⟩ := Jvm.Stand.arrayOver_specB (hts _ lw_ao.2)
          exact ⟨c, fun _ => ⟨fun N z => ⟨(fun q hq => by cases hq), k, g3, comp, g4⟩, g5⟩⟩
        · exact ⟨0, fun h => by omega⟩
  obtain ⟨f, hf⟩ := Classical.axiomOfChoice h0
  obtain ⟨dA, hd⟩ := Classical.axiomOfChoice h1
  refine ⟨(fun ci => (f ci).1, fun ci => (f ci).2), dA, fun ci q hq => ?_, fun t q hq => ?_⟩
  · have hi : ci < 13 := by
      have := (List.getElem?_eq_some_iff.mp hq).1
      simpa [xcl] using this
    rw [xcl_at hi] at hq
    cases hq
    exact hf ci hi
  · have hi : t < 7 := by
      have := (List.getElem?_eq_some_iff.mp hq).1
      simpa [xtys] using this
    rw [xtys_at hi] at hq
    cases hq
    exact hd t hi
/-- statics, strings, the script -/
theorem st_SX {s : State} {b L : Nat} {xs : Nat → Int32} (hts : ∀ w ∈ lw_tbl, w.before #[Value.ref b] s = true) (hX : va_X b L xs s s.heap) (hbl : b < s.heap.size) (hgv : (Jvm.Cond.and given_1 narrow_1).before #[Value.ref b] s = true) : ∃ ad : Nat → Nat, ad (xB + 40) = b ∧ xSX (L, xs) ad (fun q => s.heap.size ≤ q) s s.heap := by
  have hs := flat_of_before _ hgv
  have hA : ∀ a : Nat, a < s.heap.size → ¬ s.heap.size ≤ a := fun a h => Nat.not_le.mpr h
  obtain ⟨adK, adV, hS, hE⟩ := st_str (A := fun q => s.heap.size ≤ q) hs hA
  have h3 : ∀ i : Nat, ∃ t : Nat, i < 3 → va_Z "FishFerry$Rule" (xsa.getD i ("", [])).1 "[I" (.ref t) (fun q => s.heap.size ≤ q) s s.heap ∧ va_T .int t (xsa.getD i ("", [])).2.length (fun j => .int ((xsa.getD i ("", [])).2.getD j 0)) (fun q => s.heap.size ≤ q) s s.heap ∧ va_X t (xsa.getD i ("", [])).2.length (fun j => (xsa.getD i ("", [])).2.getD j 0) s s.heap ∧ t < s.heap.size := by
    intro i
    by_cases hi : i < 3
    · obtain ⟨w1, w2, w3, w4⟩ := gv_a i hi
      obtain ⟨t, g1, g2, g3, g4⟩ := st_arr (f := fun j => (xsa.getD i ("", [])).2.getD j 0) (A := fun q => s.heap.size ≤ q) w4 (hs _ w1) (hs _ w2) (fun j hj => hs _ (gv_e i hi j hj)) hA
      exact ⟨t, fun _ => ⟨va_Zof (hts _ w3) (hts _ lw_ini.1) g1 hA, g2, g3, g4⟩⟩
    · exact ⟨0, fun h => absurd h hi⟩
  obtain ⟨sa, hsa⟩ := Classical.axiomOfChoice h3
  obtain ⟨fm, hfm⟩ : ∃ fm : Nat, va_Z "jdk/internal/util/Preconditions" "SIOOBE_FORMATTER" "Ljava/util/function/BiFunction;" .null (fun q => s.heap.size ≤ q) s s.heap ∨ va_Z "jdk/internal/util/Preconditions" "SIOOBE_FORMATTER" "Ljava/util/function/BiFunction;" (.ref fm) (fun q => s.heap.size ≤ q) s s.heap := by
    rcases va_Zqof (A := fun q => s.heap.size ≤ q) (hts _ lw_lay.2.1) (hts _ lw_ini.2.2.1) (hs _ gv_z.2.1) hA with h | ⟨t, h⟩
    · exact ⟨0, Or.inl h⟩
    · exact ⟨t, Or.inr h⟩
  obtain ⟨ad, had⟩ : ∃ ad : Nat → Nat, ad = fun k => if k < xB + 3 then sa (k - xB) else if k < xB + 20 then adK (k - (xB + 10)) else if k < xB + 30 then adV (k - (xB + 20)) else if k = xB + 30 then fm else b := ⟨_, rfl⟩
  have a3 : ∀ i, i < 3 → ad (xB + i) = sa i := by
    intro i hi
    rw [had]
    dsimp only
    rw [if_pos (by omega), Nat.add_sub_cancel_left]
  have aK : ∀ i, i < 8 → ad (xB + 10 + i) = adK i := by
    intro i hi
    rw [had]
    dsimp only
    rw [if_neg (by omega), if_pos (by omega), Nat.add_sub_cancel_left]
  have aV : ∀ i, i < 8 → ad (xB + 20 + i) = adV i := by
    intro i hi
    rw [had]
    dsimp only
    rw [if_neg (by omega), if_neg (by omega), if_pos (by omega), Nat.add_sub_cancel_left]
  have aF : ad (xB + 30) = fm := by
    rw [had]
    dsimp only
    rw [if_neg (by omega), if_neg (by omega), if_neg (by omega), if_pos rfl]
  have aB : ad (xB + 40) = b := by
    rw [had]
    dsimp only
    rw [if_neg (by omega), if_neg (by omega), if_neg (by omega), if_neg (by omega)]
  clear had
  refine ⟨ad, aB, ?_, va_AO.of (hts _ lw_ao.1), ?_, ?_, ?_, ?_, ?_, ?_, ?_, ?_, ?_⟩
  · intro w hw
    exact va_Nw.of (xNst_ok w hw).1 (hts w (List.mem_filter.mp hw).1)
  · intro i q hq
    have hi : i < 3 := (List.getElem?_eq_some_iff.mp hq).1
    have e : xsa.getD i ("", []) = q := by rw [List.getD_eq_getElem?_getD, hq]; rfl
    have h := hsa i hi
    rw [e] at h
    rw [a3 i hi]
    exact h
  · refine ⟨fun i hi => ?_, fun i j hi hj e => ?_⟩
    · have hi : i < 8 := hi
      dsimp only
      rw [aK i hi, aV i hi]
      exact hS.1 i hi
    · have hi : i < 8 := hi
      have hj : j < 8 := hj
      dsimp only at e
      rw [aK i hi, aK j hj] at e
      exact hS.2 i j hi hj e
  · intro i q hq
    have hi : i < 8 := (List.getElem?_eq_some_iff.mp hq).1
    have e : xss.getD i ("", 0, "", []) = q := by rw [List.getD_eq_getElem?_getD, hq]; rfl
    have h1 := hts _ (gv_r i hi)
    have h2 := hE i hi
    unfold xsT at h2
    rw [e] at h1 h2
    rw [aK i hi]
    exact vk_R.of h1 h2
  · exact va_Zof (hts _ lw_lay.1) (hts _ lw_ini.2.1) (va_eqt (hs _ gv_z.1)) hA
  · rcases hfm with h | h
    · exact ⟨.null, Or.inl rfl, h⟩
    · refine ⟨.ref (xB + 30), Or.inr rfl, ?_⟩
      show va_Z _ _ _ (.ref (ad (xB + 30))) _ _ _
      rw [aF]
      exact h
  · exact vx_Zqof (hts _ lw_lay.2.2.1) (hts _ lw_ini.2.2.2) (hs _ gv_z.2.2.1) hA
  · exact vx_Zqof (hts _ lw_lay.2.2.2) (hts _ lw_ini.2.2.2) (hs _ gv_z.2.2.2) hA
  · exact hts _ lw_ao.2
  · rw [aB]
    exact ⟨hX, hbl, hA b hbl⟩
