def s_get (M : mT) (len pc : Nat) (lv : List (Option Value)) (st : List Value) (h : xH) (idx : Nat) : Option xS :=
  match st with
  | .ref a :: r => match h.1[a]?, xlk xFL M.1 idx with
    | some (0, ci, n), some (cj, k, _, _) => if ci = cj ∧ k < n ∧ len = 3 then some (pc + 3, lv, hF h a k :: r, h) else none
    | _, _ => none
  | _ => none
def xpok (ci k : Nat) (v : Value) : Bool := decide (narrow (xty ci k) v = v) && fits (xty ci k) v
def s_put (M : mT) (len pc : Nat) (lv : List (Option Value)) (st : List Value) (h : xH) (idx : Nat) : Option xS :=
  match st with
  | v :: .ref a :: r => match h.1[a]?, xlk xFL M.1 idx with
    | some (0, ci, n), some (cj, k, ns, _) => if ci = cj ∧ k < n ∧ len = 3 ∧ xpok ci k v = true ∧ ((xT ci k).2.2.2 = true → ns ≠ 1 ∧ (mY M).name = "<init>" ∧ (xT ci k).1 = mOwn M) then some (pc + 3, lv, r, uF h a k v) else none
    | _, _ => none
  | _ => none
def s_ial (t u : Nat) (len pc : Nat) (lv : List (Option Value)) (st : List Value) (h : xH) : Option xS :=
  match st with
  | .int i :: .ref a :: r => match h.1[a]? with
    | some (1, w, n) => if (w = t ∨ w = u) ∧ len = 1 ∧ ¬ (i < 0 ∨ n ≤ i.toNatClampNeg) then some (pc + 1, lv, .int (hI h a i.toNatClampNeg) :: r, h) else none
    | _ => none
  | _ => none
def s_lal (len pc : Nat) (lv : List (Option Value)) (st : List Value) (h : xH) : Option xS :=
  match st with
  | .int i :: .ref a :: r => match h.1[a]? with
    | some (2, _, n) => if len = 1 ∧ ¬ (i < 0 ∨ n ≤ i.toNatClampNeg) then some (pc + 1, lv, .long (hJ h a i.toNatClampNeg) :: r, h) else none
    | _ => none
  | _ => none
def s_aal (len pc : Nat) (lv : List (Option Value)) (st : List Value) (h : xH) : Option xS :=
  match st with
  | .int i :: .ref a :: r => match h.1[a]? with
    | some (3, t, n) => if (t = 5 ∨ t = 6) ∧ len = 1 ∧ ¬ (i < 0 ∨ n ≤ i.toNatClampNeg) then some (pc + 1, lv, va_rf (hR h a i.toNatClampNeg) :: r, h) else none
    | _ => none
  | _ => none
/-- what a store keeps, by the array's type -/
def xkp (t : Nat) (x : Int32) : Int32 := match t with
  | 0 => x
  | 1 => vp_nar .boolean x
  | 2 => vp_nar .byte x
  | _ => vp_nar .char x
def s_ias (t u : Nat) (len pc : Nat) (lv : List (Option Value)) (st : List Value) (h : xH) : Option xS :=
  match st with
  | .int x :: .int i :: .ref a :: r => match h.1[a]? with
    | some (1, w, n) => if (w = t ∨ w = u) ∧ len = 1 ∧ ¬ (i < 0 ∨ n ≤ i.toNatClampNeg) then some (pc + 1, lv, r, uI h a i.toNatClampNeg (xkp w x)) else none
    | _ => none
  | _ => none
def s_las (len pc : Nat) (lv : List (Option Value)) (st : List Value) (h : xH) : Option xS :=
  match st with
  | .long x :: .int i :: .ref a :: r => match h.1[a]? with
    | some (2, _, n) => if len = 1 ∧ ¬ (i < 0 ∨ n ≤ i.toNatClampNeg) then some (pc + 1, lv, r, uJ h a i.toNatClampNeg x) else none
    | _ => none
  | _ => none
def s_aas (len pc : Nat) (lv : List (Option Value)) (st : List Value) (h : xH) : Option xS :=
  match st with
  | .ref v :: .int i :: .ref a :: r => match h.1[a]?, h.1[v]? with
    | some (3, 5, n), some (0, 6, _) => if len = 1 ∧ ¬ (i < 0 ∨ n ≤ i.toNatClampNeg) then some (pc + 1, lv, r, uR h a i.toNatClampNeg (some v)) else none
    | _, _ => none
  | _ => none
def s_len (len pc : Nat) (lv : List (Option Value)) (st : List Value) (h : xH) : Option xS :=
  match st with
  | .ref a :: r => match h.1[a]? with
    | some (t, w, n) => if len = 1 ∧ (t = 1 ∨ t = 2 ∨ t = 3) ∧ w < 7 then some (pc + 1, lv, .int (Int32.ofNat n) :: r, h) else none
    | _ => none
  | _ => none
def s_dup (len pc : Nat) (lv : List (Option Value)) (st : List Value) (h : xH) : Option xS :=
  match st with
  | v :: r => if len = 1 ∧ v.category = 1 then some (pc + 1, lv, v :: v :: r, h) else none
  | _ => none
def s_pop (len pc : Nat) (lv : List (Option Value)) (st : List Value) (h : xH) : Option xS :=
  match st with
  | v :: r => if len = 1 ∧ v.category = 1 then some (pc + 1, lv, r, h) else none
  | _ => none
def s_dup2 (len pc : Nat) (lv : List (Option Value)) (st : List Value) (h : xH) : Option xS :=
  match st with
  | v :: w :: r => if len = 1 ∧ v.category = 1 ∧ w.category = 1 then some (pc + 1, lv, v :: w :: v :: w :: r, h) else none
  | _ => none
def s_iinc (M : mT) (len pc : Nat) (lv : List (Option Value)) (st : List Value) (h : xH) (i : Nat) (n : Int) : Option xS :=
  match lv[i]? with
  | some (some (.int x)) => if len = 3 ∧ i < mLo M then some (pc + 3, xst1 lv i (.int (x + Int32.ofInt n)), st, h) else none
  | _ => none
def s_tab (pc : Nat) (lv : List (Option Value)) (st : List Value) (h : xH) (dflt lo hi : Int) (offs : Array Int) : Option xS :=
  match st with
  | .int x :: r => if x.toInt < lo ∨ hi < x.toInt then (match xj pc dflt with | some t => some (t, lv, r, h) | none => none) else (match offs[(x.toInt - lo).toNat]? with | some off => (match xj pc off with | some t => some (t, lv, r, h) | none => none) | none => none)
  | _ => none
def s_lku (pc : Nat) (lv : List (Option Value)) (st : List Value) (h : xH) (dflt : Int) (ps : Array (Int × Int)) : Option xS :=
  match st with
  | .int x :: r => if (ps.toList.zip (ps.toList.drop 1)).all (fun (a, next) => a.1 < next.1) = true then (match xj pc (Op.lookupswitch.offset ps.toList dflt x.toInt) with | some t => some (t, lv, r, h) | none => none) else none
  | _ => none
/-- max, min, abs -/
def s_prm (M : mT) (len pc : Nat) (lv : List (Option Value)) (st : List Value) (h : xH) (idx : Nat) : Option xS :=
  match xlk xPL M.1 idx, st with
  | some (2, _), .int y :: .int x :: r => if len = 3 ∧ (r.map fun v => v.category).sum ≤ 8 then some (pc + 3, lv, .int (if x < y then y else x) :: r, h) else none
  | some (3, _), .int y :: .int x :: r => if len = 3 ∧ (r.map fun v => v.category).sum ≤ 8 then some (pc + 3, lv, .int (if y < x then y else x) :: r, h) else none
  | some (4, _), .int x :: r => if len = 3 ∧ (r.map fun v => v.category).sum ≤ 8 then some (pc + 3, lv, .int (if 0 ≤ x then x else 0 - x) :: r, h) else none
  | _, _ => none
/-- Object() -/
def s_obj (M : mT) (len pc : Nat) (lv : List (Option Value)) (st : List Value) (h : xH) (idx : Nat) : Option xS :=
  match xlk xPL M.1 idx, st with
  | some (0, _), .ref _ :: r => if len = 3 ∧ (r.map fun v => v.category).sum ≤ 8 then some (pc + 3, lv, r, h) else none
  | _, _ => none
def stpI (M : mT) (i : Instr) (len pc : Nat) (lv : List (Option Value)) (st : List Value) (h : xH) : Option xS :=
  match i with
  | .iconst n => if len = 1 then some (pc + 1, lv, .int (Int32.ofInt n) :: st, h) else none
  | .bipush n => if len = 2 then some (pc + 2, lv, .int (Int8.ofInt n).toInt32 :: st, h) else none
  | .sipush n => if len = 3 then some (pc + 3, lv, .int (Int16.ofInt n).toInt32 :: st, h) else none
  | .lconst n => if len = 1 then some (pc + 1, lv, .long (Int64.ofNat (n : Nat)) :: st, h) else none
  | .ldc x => match xlk xKI M.1 x with
    | some (v, _) => if len = 2 then some (pc + 2, lv, .int v :: st, h) else none
    | none => none
  | .ldc_w x => match xlk xKI M.1 x with
    | some (v, _) => if len = 3 then some (pc + 3, lv, .int v :: st, h) else none
    | none => none
  | .ldc2_w x => match xlk xKL M.1 x with
    | some (v, _) => if len = 3 then some (pc + 3, lv, .long v :: st, h) else none
    | none => none
  | .iload x => s_ld len 2 pc lv st h 0 x
  | .iload_n x => s_ld len 1 pc lv st h 0 (x : Nat)
  | .lload x => s_ld len 2 pc lv st h 1 x
  | .lload_n x => s_ld len 1 pc lv st h 1 (x : Nat)
  | .aload x => s_ld len 2 pc lv st h 2 x
  | .aload_n x => s_ld len 1 pc lv st h 2 (x : Nat)
  | .istore x => s_st M len 2 pc lv st h 0 x
  | .istore_n x => s_st M len 1 pc lv st h 0 (x : Nat)
  | .lstore x => s_st M len 2 pc lv st h 1 x
  | .lstore_n x => s_st M len 1 pc lv st h 1 (x : Nat)
  | .astore x => s_st M len 2 pc lv st h 2 x
  | .astore_n x => s_st M len 1 pc lv st h 2 (x : Nat)
  | .iinc x n => s_iinc M len pc lv st h x n
  | .iadd => s_ii (fun x y => x + y) len pc lv st h
  | .isub => s_ii (fun x y => x - y) len pc lv st h
  | .imul => s_ii (fun x y => x * y) len pc lv st h
  | .iand => s_ii (fun x y => x &&& y) len pc lv st h
  | .ior => s_ii (fun x y => x ||| y) len pc lv st h
  | .ixor => s_ii (fun x y => x ^^^ y) len pc lv st h
  | .ishl => s_ii (fun x y => x <<< (y &&& 31)) len pc lv st h
  | .ishr => s_ii (fun x y => x >>> (y &&& 31)) len pc lv st h
  | .iushr => s_ii (fun x y => (x.toUInt32 >>> (y.toUInt32 &&& Int32.toUInt32 31)).toInt32) len pc lv st h
  | .idiv => match st with
    | .int y :: .int x :: r => if len = 1 ∧ ¬ y = 0 then some (pc + 1, lv, .int (x / y) :: r, h) else none
    | _ => none
  | .irem => match st with
    | .int y :: .int x :: r => if len = 1 ∧ ¬ y = 0 then some (pc + 1, lv, .int (x - x / y * y) :: r, h) else none
    | _ => none
  | .ldiv => match st with
    | .long y :: .long x :: r => if len = 1 ∧ ¬ y = 0 then some (pc + 1, lv, .long (x / y) :: r, h) else none
    | _ => none
  | .lrem => match st with
    | .long y :: .long x :: r => if len = 1 ∧ ¬ y = 0 then some (pc + 1, lv, .long (x - x / y * y) :: r, h) else none
    | _ => none
  | .ineg => s_i (fun x => .int (-x)) len pc lv st h
  | .i2l => s_i (fun x => .long x.toInt64) len pc lv st h
  | .i2b => s_i (fun x => .int x.toInt8.toInt32) len pc lv st h
  | .i2s => s_i (fun x => .int x.toInt16.toInt32) len pc lv st h
  | .i2c => s_i (fun x => .int (x.toUInt32 % 65536).toInt32) len pc lv st h
  | .l2i => match st with
    | .long x :: r => if len = 1 then some (pc + 1, lv, .int x.toInt32 :: r, h) else none
    | _ => none
  | .ladd => s_ll (fun x y => .long (x + y)) len pc lv st h
  | .lsub => s_ll (fun x y => .long (x - y)) len pc lv st h
  | .lmul => s_ll (fun x y => .long (x * y)) len pc lv st h
  | .land => s_ll (fun x y => .long (x &&& y)) len pc lv st h
  | .lor => s_ll (fun x y => .long (x ||| y)) len pc lv st h
  | .lcmp => s_ll (fun x y => .int (lg_cmp x y)) len pc lv st h
  | .lshl => s_li (fun x y => x <<< (y.toInt64 &&& 63)) len pc lv st h
  | .lshr => s_li (fun x y => x >>> (y.toInt64 &&& 63)) len pc lv st h
  | .lushr => s_li (fun x y => (x.toUInt64 >>> (y.toInt64.toUInt64 &&& Int64.toUInt64 63)).toInt64) len pc lv st h
  | .dup => s_dup len pc lv st h
  | .dup2 => s_dup2 len pc lv st h
  | .pop => s_pop len pc lv st h
  | .goto off => match xj pc off with
    | some t => if len = 3 then some (t, lv, st, h) else none
    | none => none
  | .ifCond c off => match c with
    | .eq => s_if (fun x => x = 0) len pc lv st h off
    | .ne => s_if (fun x => ¬ x = 0) len pc lv st h off
    | .lt => s_if (fun x => x < 0) len pc lv st h off
    | .ge => s_if (fun x => 0 ≤ x) len pc lv st h off
    | .gt => s_if (fun x => 0 < x) len pc lv st h off
    | .le => s_if (fun x => x ≤ 0) len pc lv st h off
  | .if_icmp c off => match c with
    | .eq => s_ic (fun x y => x = y) len pc lv st h off
    | .ne => s_ic (fun x y => ¬ x = y) len pc lv st h off
    | .lt => s_ic (fun x y => x < y) len pc lv st h off
    | .ge => s_ic (fun x y => y ≤ x) len pc lv st h off
    | .gt => s_ic (fun x y => y < x) len pc lv st h off
    | .le => s_ic (fun x y => x ≤ y) len pc lv st h off
  | .getfield x => s_get M len pc lv st h x
  | .putfield x => s_put M len pc lv st h x
  | .iaload => s_ial 0 0 len pc lv st h
  | .baload => s_ial 1 2 len pc lv st h
  | .caload => s_ial 3 3 len pc lv st h
  | .laload => s_lal len pc lv st h
  | .aaload => s_aal len pc lv st h
  | .iastore => s_ias 0 0 len pc lv st h
  | .bastore => s_ias 1 2 len pc lv st h
  | .castore => s_ias 3 3 len pc lv st h
  | .lastore => s_las len pc lv st h
  | .aastore => s_aas len pc lv st h
  | .arraylength => s_len len pc lv st h
  | .tableswitch dflt lo hi offs => s_tab pc lv st h dflt lo hi offs
  | .lookupswitch dflt ps => s_lku pc lv st h dflt ps
  | .invokestatic x => s_prm M len pc lv st h x
  | .invokespecial x => s_obj M len pc lv st h x
  | _ => none
/-! what a step that goes says of its stack -/
theorem v_ii {f : Int32 → Int32 → Int32} {len pc : Nat} {lv : List (Option Value)} {st : List Value} {h : xH} {x : xS} (q : s_ii f len pc lv st h = some x) : ∃ a b r, st = .int b :: .int a :: r ∧ len = 1 ∧ x = (pc + 1, lv, .int (f a b) :: r, h) := by
  unfold s_ii at q
  split at q
  · split at q
    · rename_i e
      cases q
      exact ⟨_, _, _, rfl, e, rfl⟩
    · cases q
  · cases q
theorem v_i {f : Int32 → Value} {len pc : Nat} {lv : List (Option Value)} {st : List Value} {h : xH} {x : xS} (q : s_i f len pc lv st h = some x) : ∃ a r, st = .int a :: r ∧ len = 1 ∧ x = (pc + 1, lv, f a :: r, h) := by
  unfold s_i at q
  split at q
  · split at q
    · rename_i e
      cases q
      exact ⟨_, _, rfl, e, rfl⟩
    · cases q
  · cases q
theorem v_ll {f : Int64 → Int64 → Value} {len pc : Nat} {lv : List (Option Value)} {st : List Value} {h : xH} {x : xS} (q : s_ll f len pc lv st h = some x) : ∃ a b r, st = .long b :: .long a :: r ∧ len = 1 ∧ x = (pc + 1, lv, f a b :: r, h) := by
  unfold s_ll at q
  split at q
  · split at q
    · rename_i e
      cases q
      exact ⟨_, _, _, rfl, e, rfl⟩
    · cases q
  · cases q
theorem v_li {f : Int64 → Int32 → Int64} {len pc : Nat} {lv : List (Option Value)} {st : List Value} {h : xH} {x : xS} (q : s_li f len pc lv st h = some x) : ∃ a b r, st = .int b :: .long a :: r ∧ len = 1 ∧ x = (pc + 1, lv, .long (f a b) :: r, h) := by
  unfold s_li at q
  split at q
  · split at q
    · rename_i e
      cases q
      exact ⟨_, _, _, rfl, e, rfl⟩
    · cases q
  · cases q
theorem v_if {b : Int32 → Prop} [DecidablePred b] {len pc : Nat} {lv : List (Option Value)} {st : List Value} {h : xH} {off : Int} {x : xS} (q : s_if b len pc lv st h off = some x) : ∃ (a : Int32) (r : List Value) (t : Nat), st = .int a :: r ∧ len = 3 ∧ (pc : Int) + off = (t : Int) ∧ x = (if b a then t else pc + 3, lv, r, h) := by
  unfold s_if at q
  split at q
  · rename_i e1
    split at q
    · rename_i e
      cases q
      exact ⟨_, _, _, rfl, e, xj_ok e1, rfl⟩
    · cases q
  · cases q
theorem v_ic {b : Int32 → Int32 → Prop} [∀ x y, Decidable (b x y)] {len pc : Nat} {lv : List (Option Value)} {st : List Value} {h : xH} {off : Int} {x : xS} (q : s_ic b len pc lv st h off = some x) : ∃ (a c : Int32) (r : List Value) (t : Nat), st = .int c :: .int a :: r ∧ len = 3 ∧ (pc : Int) + off = (t : Int) ∧ x = (if b a c then t else pc + 3, lv, r, h) := by
  unfold s_ic at q
  split at q
  · rename_i e1
    split at q
    · rename_i e
      cases q
      exact ⟨_, _, _, _, rfl, e, xj_ok e1, rfl⟩
    · cases q
  · cases q
theorem v_ld {len w pc : Nat} {lv : List (Option Value)} {st : List Value} {h : xH} {cls i : Nat} {x : xS} (q : s_ld len w pc lv st h cls i = some x) : ∃ v, lv[i]? = some (some v) ∧ len = w ∧ x = (pc + w, lv, v :: st, h) ∧ ((cls = 0 ∧ ∃ a, v = .int a) ∨ (cls = 1 ∧ ∃ a, v = .long a) ∨ (cls = 2 ∧ ∃ a, v = .ref a)) := by
  unfold s_ld at q
  split at q
  · rename_i v e
    have e : lv[i]? = some (some v) := by
      cases ho : lv[i]? with
      | none => rw [ho] at e; cases e
      | some o => rw [ho] at e; simp only [Option.join_some] at e; rw [e]
    split at q
    all_goals first
      | (split at q
         · rename_i e2
           cases q
           exact ⟨_, e, e2, rfl, by simp⟩
         · cases q)
      | cases q
  · cases q
theorem v_st {M : mT} {len w pc : Nat} {lv : List (Option Value)} {st : List Value} {h : xH} {cls i : Nat} {x : xS} (q : s_st M len w pc lv st h cls i = some x) : ∃ v r, st = v :: r ∧ len = w ∧ ((cls = 0 ∧ (∃ a, v = .int a) ∧ i < mLo M ∧ x = (pc + w, xst1 lv i v, r, h)) ∨ (cls = 1 ∧ (∃ a, v = .long a) ∧ i + 1 < mLo M ∧ x = (pc + w, xst2 lv i v, r, h)) ∨ (cls = 2 ∧ (∃ a, v = .ref a) ∧ i < mLo M ∧ x = (pc + w, xst1 lv i v, r, h))) := by
  unfold s_st at q
  split at q
  all_goals first
    | (split at q
       · rename_i e2
         cases q
         exact ⟨_, _, rfl, e2.1, by simp [e2.2]⟩
       · cases q)
    | cases q
