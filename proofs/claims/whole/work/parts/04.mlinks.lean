abbrev xMr : Type := Nat × Nat × mT × Nat × Nat × Nat × Nat
abbrev xMw1 (o : Nat) (r : xMr) : Prop := lw_tbl[r.2.2.2.1]? = some (if 10 ≤ r.2.1 then Cond.methodLinkNest (xown.getD o "") r.1 (mY r.2.2.1) "FishFerry" else Cond.methodLink (xown.getD o "") r.1 (mY r.2.2.1))
abbrev xMw2 (r : xMr) : Prop := lw_tbl[r.2.2.2.2.1]? = some (if r.2.1 % 10 = 0 then Cond.static (mY r.2.2.1) else Cond.instanceMethod (mY r.2.2.1))
abbrev xMw3 (r : xMr) : Prop := lw_tbl[r.2.2.2.2.2.1]? = some (Cond.initialized (mY r.2.2.1).cls)
abbrev xMw5 (r : xMr) : Prop := r.2.1 % 10 = 1 → lw_tbl[r.2.2.2.2.2.2]? = some (Cond.selects (mY r.2.2.1).cls (mY r.2.2.1) (mY r.2.2.1))
abbrev xMw6 (r : xMr) : Prop := r.2.1 % 10 = 2 → (mY r.2.2.1).name = "<init>" ∧ mRt r.2.2.1 = none
abbrev xMw7 (r : xMr) : Prop := mLo r.2.2.1 ≤ 21 ∧ mOwn r.2.2.1 = (mY r.2.2.1).cls ∧ plainFor (mY r.2.2.1) = true
abbrev xMw8 (r : xMr) : Prop := (mY r.2.2.1).cls ≠ "java/lang/invoke/MethodHandle" ∧ (mY r.2.2.1).cls ≠ "java/lang/invoke/VarHandle"
abbrev xMw9 (r : xMr) : Prop := (parseMethodDescriptor (mY r.2.2.1).desc).map (fun d => d.parameters.length) = some (mN r.2.2.1)
theorem xML_1 : ∀ o, o < 28 → ∀ r ∈ xML.getD o [], xMw1 o r := by decide +kernel
theorem xML_2 : ∀ o, o < 28 → ∀ r ∈ xML.getD o [], xMw2 r := by decide +kernel
theorem xML_3 : ∀ o, o < 28 → ∀ r ∈ xML.getD o [], xMw3 r := by decide +kernel
theorem xML_5 : ∀ o, o < 28 → ∀ r ∈ xML.getD o [], xMw5 r := by decide +kernel
theorem xML_6 : ∀ o, o < 28 → ∀ r ∈ xML.getD o [], xMw6 r := by decide +kernel
theorem xML_7 : ∀ o, o < 28 → ∀ r ∈ xML.getD o [], xMw7 r := by decide +kernel
theorem xML_8 : ∀ o, o < 28 → ∀ r ∈ xML.getD o [], xMw8 r := by decide +kernel
theorem xML_9 : ∀ o, o < 28 → ∀ r ∈ xML.getD o [], xMw9 r := by decide +kernel
abbrev xPLn : Nat → MethodName
  | 0 => objectInit
  | 1 => arraycopyName
  | 2 => Lib.Math.max.name
  | 3 => Lib.Math.min.name
  | _ => Lib.Math.abs.name
theorem xPL_ok : ∀ o, o < 28 → ∀ r ∈ xPL.getD o [], lw_tbl[r.2.2]? = some (Cond.methodLink (xown.getD o "") r.1 (xPLn r.2.1)) ∧ r.2.1 < 5 := by decide +kernel
