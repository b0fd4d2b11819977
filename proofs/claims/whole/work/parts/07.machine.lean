/-! THE ABSTRACT MACHINE: what a frame of a method comes to, over any machine that holds the abstract heap. -/
def xrm (d : Nat) (M : mT) : Room := { frames := d, cells := mBc M, slots := mBs M, locals := 41 * d + 32 }
/-- a launch, and the script that the law reads: its length and its ints; its number is xB + 40 -/
abbrev xLa : Type := Launch × Nat × (Nat → Int32)
/-- static int arrays: 0 PLAIN, 1 SHIFTS, 2 MASKS -/
def xsa : List (String × List Int32) := [("PLAIN", [1000, 1001, 2045, 1002, 1003, 2062, 2043]), ("SHIFTS", [0, 4, 8, 12, 16, 20, 23, 25]), ("MASKS", [15, 15, 15, 15, 15, 7, 3, 15])]
/-- strings: class that has the link, its index, its text, its bytes; their numbers are from xB + 10 on -/
def xss : List (String × Nat × String × List Int32) := [("FishFerry$Rule", 96, "sdcufnkg", [115, 100, 99, 117, 102, 110, 107, 103]), ("FishFerryModel", 198, ".#", [46, 35]), ("FishFerryModel", 216, "tpes", [116, 112, 101, 115]), ("FishFerryModel", 255, "sdcufngk", [115, 100, 99, 117, 102, 110, 103, 107]), ("FishFerryModel", 260, "<>=", [60, 62, 61]), ("FishFerryModel", 262, "+-", [43, 45]), ("FishFerryModel", 264, "*/", [42, 47]), ("FishFerryModel", 401, "ntlbp", [110, 116, 108, 98, 112])]
/-- statics of the JDK: compact strings, a formatter that is never asked, what Throwable takes; arrays of int arrays -/
def xTX (sc : Nat × (Nat → Int32)) (ad : Nat → Nat) (A : Nat → Prop) (U : State) (H : Heap) : Prop :=
  va_Z "java/lang/String" "COMPACT_STRINGS" "Z" (.int 1) A U H ∧
  (∃ v : Value, (v = .null ∨ v = .ref (xB + 30)) ∧ va_Z "jdk/internal/util/Preconditions" "SIOOBE_FORMATTER" "Ljava/util/function/BiFunction;" (trV ad v) A U H) ∧
  vx_Zq "java/lang/Throwable" "UNASSIGNED_STACK" "[Ljava/lang/StackTraceElement;" A U H ∧ vx_Zq "java/lang/Throwable" "SUPPRESSED_SENTINEL" "Ljava/util/List;" A U H ∧ xAO2 U ∧ (va_X (ad (xB + 40)) sc.1 sc.2 U H ∧ ad (xB + 40) < H.size ∧ ¬ A (ad (xB + 40)))
theorem va_Xlt {b L : Nat} {xs : Nat → Int32} {U : State} {H : Heap} (h : va_X b L xs U H) : b < H.size := by
  obtain ⟨scr, g, -⟩ := h
  exact (Array.getElem?_eq_some_iff.mp g).1
theorem xTX.cong {sc : Nat × (Nat → Int32)} {ad ad' : Nat → Nat} {A : Nat → Prop} {U : State} {H : Heap} (h : xTX sc ad A U H) (hs : ∀ k, xB ≤ k → ad' k = ad k) : xTX sc ad' A U H := by
  obtain ⟨h1, ⟨v, hv, h2⟩, h3, h4, h5, h6⟩ := h
  refine ⟨h1, ⟨v, hv, ?_⟩, h3, h4, h5, by rw [hs (xB + 40) (by omega)]; exact h6⟩
  have e : trV ad' v = trV ad v := by
    rcases hv with rfl | rfl
    · rfl
    · show Value.ref (ad' (xB + 30)) = Value.ref (ad (xB + 30))
      rw [hs _ (by omega)]
  rw [e]; exact h2
theorem xTX.kept {sc : Nat × (Nat → Int32)} {ad : Nat → Nat} {A : Nat → Prop} {U : State} {H H1 : Heap} (h : xTX sc ad A U H) (hq : ∀ a : Nat, a < H.size → ¬ A a → H1[a]? = H[a]?) : xTX sc ad A U H1 := by
  obtain ⟨h1, ⟨v, hv, h2⟩, h3, h4, h5, h6⟩ := h
  exact ⟨h1.kept hq, ⟨v, hv, h2.kept hq⟩, h3.kept hq, h4.kept hq, h5, ⟨h6.1.kept (hq _ h6.2.1 h6.2.2), va_Xlt (h6.1.kept (hq _ h6.2.1 h6.2.2)), h6.2.2⟩⟩
theorem xTX.narrow {sc : Nat × (Nat → Int32)} {ad : Nat → Nat} {A B : Nat → Prop} {U : State} {H : Heap} (h : xTX sc ad A U H) (hAB : ∀ q, B q → A q) : xTX sc ad B U H := by
  obtain ⟨h1, ⟨v, hv, h2⟩, h3, h4, h5, h6⟩ := h
  exact ⟨h1.narrow hAB, ⟨v, hv, h2.narrow hAB⟩, h3.narrow hAB, h4.narrow hAB, h5, ⟨h6.1, h6.2.1, fun z => h6.2.2 (hAB _ z)⟩⟩
theorem xTX.moved {sc : Nat × (Nat → Int32)} {ad : Nat → Nat} {A : Nat → Prop} {s U : State} {H : Heap} (h : xTX sc ad A s H) (ha : s.vm.Alike U.vm) : xTX sc ad A U H := by
  obtain ⟨h1, ⟨v, hv, h2⟩, h3, h4, h5, h6⟩ := h
  exact ⟨h1.moved ha, ⟨v, hv, h2.moved ha⟩, h3.moved ha, h4.moved ha, h5.moved ha, ⟨h6.1.moved ha, h6.2⟩⟩
/-- what the statics are, and the words that only warm machines keep; strings have the numbers xB + 10 + i, their bytes xB + 20 + i -/
def xSX (sc : Nat × (Nat → Int32)) (ad : Nat → Nat) (A : Nat → Prop) (U : State) (H : Heap) : Prop :=
  (∀ w ∈ xNst, va_Nw w U) ∧ va_AO "FishFerry$State" U ∧
  (∀ (i : Nat) (q : String × List Int32), xsa[i]? = some q → va_Z "FishFerry$Rule" q.1 "[I" (.ref (ad (xB + i))) A U H ∧ va_T .int (ad (xB + i)) q.2.length (fun j => .int (q.2.getD j 0)) A U H ∧ va_X (ad (xB + i)) q.2.length (fun j => q.2.getD j 0) U H ∧ ad (xB + i) < H.size) ∧
  vk_S xss.length (xss.map (fun q => q.2.2.2.length)) (xss.map (fun q => q.2.2.2)) (fun i => ad (xB + 10 + i)) (fun i => ad (xB + 20 + i)) A U H ∧
  (∀ (i : Nat) (q : String × Nat × String × List Int32), xss[i]? = some q → vk_R q.1 q.2.1 q.2.2.1 (ad (xB + 10 + i)) U) ∧ xTX sc ad A U H
theorem xSX.cong {sc : Nat × (Nat → Int32)} {ad ad' : Nat → Nat} {A : Nat → Prop} {U : State} {H : Heap} (h : xSX sc ad A U H) (hs : ∀ k, xB ≤ k → ad' k = ad k) : xSX sc ad' A U H := by
  obtain ⟨h1, h2, h3, h4, h5, h6⟩ := h
  refine ⟨h1, h2, fun i q hq => ?_, ?_, fun i q hq => ?_, h6.cong hs⟩
  · rw [hs (xB + i) (by omega)]; exact h3 i q hq
  · have e1 : (fun i => ad' (xB + 10 + i)) = fun i => ad (xB + 10 + i) := funext fun i => hs _ (by omega)
    have e2 : (fun i => ad' (xB + 20 + i)) = fun i => ad (xB + 20 + i) := funext fun i => hs _ (by omega)
    rw [e1, e2]; exact h4
  · rw [hs (xB + 10 + i) (by omega)]; exact h5 i q hq
theorem xSX.kept {sc : Nat × (Nat → Int32)} {ad : Nat → Nat} {A : Nat → Prop} {U : State} {H H1 : Heap} (h : xSX sc ad A U H) (hq : ∀ a : Nat, a < H.size → ¬ A a → H1[a]? = H[a]?) : xSX sc ad A U H1 := by
  obtain ⟨h1, h2, h3, h4, h5, h6⟩ := h
  refine ⟨h1, h2, fun i q h => ?_, h4.kept hq, h5, h6.kept hq⟩
  obtain ⟨z1, z2, z3, z4⟩ := h3 i q h
  have hk := hq _ z4 z2.out
  refine ⟨z1.kept hq, z2.kept hq, z3.kept hk, ?_⟩
  obtain ⟨scr, g, -⟩ := z3
  exact (Array.getElem?_eq_some_iff.mp (hk.trans g)).1
theorem xSX.narrow {sc : Nat × (Nat → Int32)} {ad : Nat → Nat} {A B : Nat → Prop} {U : State} {H : Heap} (h : xSX sc ad A U H) (hAB : ∀ q, B q → A q) : xSX sc ad B U H := by
  obtain ⟨h1, h2, h3, h4, h5, h6⟩ := h
  exact ⟨h1, h2, fun i q h => ⟨(h3 i q h).1.narrow hAB, (h3 i q h).2.1.narrow hAB, (h3 i q h).2.2⟩, h4.narrow hAB, h5, h6.narrow hAB⟩
theorem xNst_ok : ∀ w ∈ xNst, w.onTables = true ∧ xIsN w = true := by
  intro w hw
  have h := (List.mem_filter.mp hw).2
  refine ⟨?_, h⟩
  cases w <;> first | rfl | cases h
theorem xNw.warm {w : Cond} {s U : State} (hw : xIsN w = true) (hW : s.WarmedH U.vm) (h : va_Nw w s) : va_Nw w U := by
  cases w <;> first | exact va_Nw.warmF hW h | exact va_Nw.warmM hW h | cases hw
theorem xSX.warm {sc : Nat × (Nat → Int32)} {ad : Nat → Nat} {A : Nat → Prop} {s U : State} {H : Heap} (h : xSX sc ad A s H) (hW : s.WarmedH U.vm) : xSX sc ad A U H := by
  obtain ⟨h1, h2, h3, h4, h5, h6⟩ := h
  exact ⟨fun w hw => xNw.warm (xNst_ok w hw).2 hW (h1 w hw), h2.moved hW.alike, fun i q h => ⟨(h3 i q h).1.moved hW.alike, (h3 i q h).2.1.moved hW.alike, (h3 i q h).2.2.1.moved hW.alike, (h3 i q h).2.2.2⟩, h4.moved hW.alike, fun i q h => (h5 i q h).warm hW, h6.moved hW.alike⟩
theorem xSX.same {sc : Nat × (Nat → Int32)} {ad : Nat → Nat} {A : Nat → Prop} {s U : State} {H : Heap} (h : xSX sc ad A s H) (hv : s.vm = U.vm) : xSX sc ad A U H := by
  obtain ⟨h1, h2, h3, h4, h5, h6⟩ := h
  have ha : s.vm.Alike U.vm := by rw [hv]; exact Vm.Alike.refl U.vm
  exact ⟨fun w hw => va_Nw.same (xNst_ok w hw).1 hv (h1 w hw), h2.moved ha, fun i q h => ⟨(h3 i q h).1.moved ha, (h3 i q h).2.1.moved ha, (h3 i q h).2.2.1.moved ha, (h3 i q h).2.2.2⟩, h4.moved ha, fun i q h => (h5 i q h).same hv.symm, h6.moved ha⟩
/-- the machine, where a frame of M stands -/
def xCx (M : mT) (p : Program) (s : State) (m : MethodId) (args : Array Value) (meth : Method) (c : Code) (D : va_G) (dA : Nat → ClassId) (A : Nat → Prop) : Prop :=
  p.tables.exec = Jvm.exec ∧ c.code = mCd M ∧ meth.sig.returnType = mRt M ∧ meth.locks = false ∧ c.maxLocals = mLo M ∧ s.vm.findClass (mOwn M) = some m.cls ∧ (∀ w ∈ xG, w.before args s = true) ∧ (∀ q, s.heap.size ≤ q → A q) ∧ va_K D xcl (xtys dA) s ∧ ((mY M).name = "<init>" → meth.name = "<init>")
/-- from pc, with these locals, this stack and this heap, uc cells and us slots made so far, the method returns r with the heap h', and Q r h' -/
def E (l : xLa) (M : mT) (d pc : Nat) (lv : List (Option Value)) (st : List Value) (h : xH) (uc us : Nat) (Q : Option Value → xH → Prop) : Prop :=
  ∀ (p : Program) (e : Env) (s : State) (m : MethodId) (args : Array Value) (below : List Frame) (meth : Method) (c : Code) (D : va_G) (dA : Nat → ClassId) (A : Nat → Prop) (ad : Nat → Nat) (H : Heap) (locs : List Loc) (ls : Array Slot) (Qc : Array Value → State → Outcome → State → Prop) (free : Addr → Prop),
    xCx M p s m args meth c D dA A → xSX l.2 ad A s s.heap → va_P D xcl (trW ad dA h) H → va_D A (trW ad dA h) → va_S A s.heap H locs → LH ad ls (mLo M) lv → (∀ q, A q → free q) → (uc ≤ mBc M ∧ us ≤ mBs M) →
    (∀ (r : Option Value) (h' : xH) (ad' : Nat → Nat) (t : State), Q r h' → (∀ k, k < h.1.length ∨ xB ≤ k → ad' k = ad k) → (mBc M = 0 → ad' = ad) → va_P D xcl (trW ad' dA h') t.heap → va_D A (trW ad' dA h') → va_F A s t → s.WarmedH t.vm → Qc args s (.returned (r.map (trV ad'))) t) →
    W p l.1 e (xrm d M) s m args below meth c H locs uc us (MQ below Qc args s (mBc M) (mBs M) free) (F0 m pc ls (st.map (trV ad)))
theorem E.mono {l : xLa} {M : mT} {d pc uc us : Nat} {lv : List (Option Value)} {st : List Value} {h : xH} {Q Q' : Option Value → xH → Prop} (k : E l M d pc lv st h uc us Q) (hq : ∀ r h', Q r h' → Q' r h') : E l M d pc lv st h uc us Q' := by
  intro p e s m args below meth c D dA A ad H locs ls Qc free C SX hP hD hS hL hf hu hQ
  exact k p e s m args below meth c D dA A ad H locs ls Qc free C SX hP hD hS hL hf hu (fun r h' ad' t q => hQ r h' ad' t (hq r h' q))
/-! ONE INSTRUCTION -/
abbrev xS : Type := Nat × List (Option Value) × List Value × xH
def xj (pc : Nat) (off : Int) : Option Nat := if 0 ≤ (pc : Int) + off then some ((pc : Int) + off).toNat else none
theorem xj_ok {pc t : Nat} {off : Int} (h : xj pc off = some t) : (pc : Int) + off = (t : Int) := by
  unfold xj at h
  split at h
  · cases h; omega
  · cases h
def s_ld (len w pc : Nat) (lv : List (Option Value)) (st : List Value) (h : xH) (cls : Nat) (i : Nat) : Option xS :=
  match (lv[i]?).join with
  | some v => match v, cls with
    | .int x, 0 => if len = w then some (pc + w, lv, .int x :: st, h) else none
    | .long x, 1 => if len = w then some (pc + w, lv, .long x :: st, h) else none
    | .ref x, 2 => if len = w then some (pc + w, lv, .ref x :: st, h) else none
    | _, _ => none
  | none => none
def s_st (M : mT) (len w pc : Nat) (lv : List (Option Value)) (st : List Value) (h : xH) (cls : Nat) (i : Nat) : Option xS :=
  match st, cls with
  | .int x :: r, 0 => if len = w ∧ i < mLo M then some (pc + w, xst1 lv i (.int x), r, h) else none
  | .long x :: r, 1 => if len = w ∧ i + 1 < mLo M then some (pc + w, xst2 lv i (.long x), r, h) else none
  | .ref x :: r, 2 => if len = w ∧ i < mLo M then some (pc + w, xst1 lv i (.ref x), r, h) else none
  | _, _ => none
def s_ii (f : Int32 → Int32 → Int32) (len pc : Nat) (lv : List (Option Value)) (st : List Value) (h : xH) : Option xS :=
  match st with
  | .int y :: .int x :: r => if len = 1 then some (pc + 1, lv, .int (f x y) :: r, h) else none
  | _ => none
def s_i (f : Int32 → Value) (len pc : Nat) (lv : List (Option Value)) (st : List Value) (h : xH) : Option xS :=
  match st with
  | .int x :: r => if len = 1 then some (pc + 1, lv, f x :: r, h) else none
  | _ => none
def s_ll (f : Int64 → Int64 → Value) (len pc : Nat) (lv : List (Option Value)) (st : List Value) (h : xH) : Option xS :=
  match st with
  | .long y :: .long x :: r => if len = 1 then some (pc + 1, lv, f x y :: r, h) else none
  | _ => none
def s_li (f : Int64 → Int32 → Int64) (len pc : Nat) (lv : List (Option Value)) (st : List Value) (h : xH) : Option xS :=
  match st with
  | .int y :: .long x :: r => if len = 1 then some (pc + 1, lv, .long (f x y) :: r, h) else none
  | _ => none
def s_if (b : Int32 → Prop) [DecidablePred b] (len pc : Nat) (lv : List (Option Value)) (st : List Value) (h : xH) (off : Int) : Option xS :=
  match st, xj pc off with
  | .int x :: r, some t => if len = 3 then some (if b x then t else pc + 3, lv, r, h) else none
  | _, _ => none
def s_ic (b : Int32 → Int32 → Prop) [∀ x y, Decidable (b x y)] (len pc : Nat) (lv : List (Option Value)) (st : List Value) (h : xH) (off : Int) : Option xS :=
  match st, xj pc off with
  | .int y :: .int x :: r, some t => if len = 3 then some (if b x y then t else pc + 3, lv, r, h) else none
  | _, _ => none
