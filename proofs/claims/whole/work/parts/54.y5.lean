/-! FishFerryModel: net, goesBy, goes. Printed by wip/whole. -/
def ntY (f : Nat → Int32) (w : Nat) : Int32 := f w - f ((w + 2) % 4)
def hdS (e : xe) (v : sv) (m : Nat) (f : Nat → Int32) (i : Nat) : Nat → Int32 := if m.testBit i = true ∧ 0 < plV e v i then (if wyV e v i = 4 then upN (upN f (hUp (dnV e v i)) (f (hUp (dnV e v i)) + plV e v i / nI 2)) (rlV e v i) (upN f (hUp (dnV e v i)) (f (hUp (dnV e v i)) + plV e v i / nI 2) (rlV e v i) + plV e v i / nI 2) else upN (upN f (wyV e v i) (f (wyV e v i) + plV e v i)) (rlV e v i) (upN f (wyV e v i) (f (wyV e v i) + plV e v i) (rlV e v i) + nI 0)) else f
def hdF (e : xe) (v : sv) (m : Nat) (f : Nat → Int32) : Nat → (Nat → Int32)
  | 0 => f
  | i + 1 => hdS e v m (hdF e v m f i) i
/-- the best of the ways 0 .. w -/
def bsY (f : Nat → Int32) : Nat → Nat
  | 0 => 0
  | w + 1 => if ntY f (bsY f w) < ntY f (w + 1) then w + 1 else bsY f w
theorem bsY_le (f : Nat → Int32) : ∀ w, bsY f w ≤ w
  | 0 => Nat.le_refl _
  | w + 1 => by
    have := bsY_le f w
    show (if ntY f (bsY f w) < ntY f (w + 1) then w + 1 else bsY f w) ≤ w + 1
    split <;> omega
theorem wy_lt (e : xe) (v : sv) (i : Nat) : wyV e v i ≤ 4 := by
  unfold wyV wbV
  have := hUp_le (dnV e v i)
  have := rl_le e v i
  split
  · omega
  · split
    · omega
    · split <;> omega
theorem ti_pos {x : Int32} (h : ¬ x ≤ 0) : ¬ x = 0 := fun q => h (by rw [q]; decide)
/-- where the boat goes by what each way has; 4: it sticks -/
def goY (e : xe) (v : sv) (f : Nat → Int32) : Nat := if ntY f (bsY f 3) ≤ 0 ∨ X_bes (eR e) (eC e) (v 0 0) (bsY f 3) < 0 ∨ ¬ eB e (X_bes (eR e) (eC e) (v 0 0) (bsY f 3)).toNatClampNeg = 0 then 4 else bsY f 3
theorem y_net {l : xLa} {d : Nat} {σ : xs} {w : Nat} (hw : w < 4) : TE l M_Y_net (d + 1) [.ref 154, .int (nI w)] σ (some (.int (ntY (si σ 170) w))) (σ) := by
  show T l M_Y_net (d + 1) 0 _ [] σ _
  refine tt_aload_n d_Y_net_0 rfl ?_
  refine tt_getR d_Y_net_1 rfl rfl (by decide) rfl rfl ?_
  refine tt_iload_n d_Y_net_4 rfl ?_
  refine tn_iald d_Y_net_5 rfl (by decide) (by omega) rfl ?_
  refine tt_aload_n d_Y_net_6 rfl ?_
  refine tt_getR d_Y_net_7 rfl rfl (by decide) rfl rfl ?_
  refine tt_iload_n d_Y_net_10 rfl ?_
  refine tt_iconst (v := nI 2) d_Y_net_11 (by decide) ?_
  refine tn_iadd d_Y_net_12 ?_
  refine tt_iconst (v := nI 4) d_Y_net_13 (by decide) ?_
  refine tn_irem (by omega) (by omega) (by omega) d_Y_net_14 ?_
  refine tn_iald d_Y_net_15 rfl (by decide) (by omega) rfl ?_
  refine tt_isub d_Y_net_16 ?_
  refine tt_iret rfl d_Y_net_17 ?_
  exact ⟨rfl, rfl⟩

theorem y_go180 {l : xLa} {d : Nat} {σ : xs} {b : Nat} {f : Nat → Int32} {e : xe} {v : sv} (hb : isY b) (he : okE e) (hv : okV e v) (hE : EYb σ e) (hS : SY σ b (eN e) v) (hf : si σ 170 = f) {x y : Int32} : T l M_Y_goesBy (d + 4) 180 [some (.ref 154), some (.ref b), some (.int x), some (.int (nI (bsY f 3))), some (.int y)] [] σ (fun r τ => r = some (.int (nI (goY e v f))) ∧ τ = σ) := by
  have he0 := he
  have hv00 := hv
  obtain ⟨⟨e1, e2, e3, e4, e5, e6, e7⟩, e8, e9x, e10⟩ := he
  have hRC : eR e * eC e ≤ 36 := Nat.mul_le_mul e2 e4
  have hv0 := hv.1
  have hbl := isY_l hb
  have hbs := bsY_le f 3
  refine tt_aload_n d_Y_goesBy_180 rfl ?_
  refine tt_aload_n d_Y_goesBy_181 rfl ?_
  refine tt_iconst (v := nI 0) d_Y_goesBy_182 (by decide) ?_
  refine tn_iald d_Y_goesBy_183 (xY_sh hb) (by decide) (by omega) hS.1.1 ?_
  refine tt_iload_n d_Y_goesBy_184 rfl ?_
  refine tt_callV (y_beside (d := d) (f := v 0 0) (w := bsY f 3) (R := eR e) (C := eC e) (by omega) (by omega) hE.1.1 hE.1.2.1 e2 e4 (by omega)) cw_Y_beside rfl rfl (by decide) rfl (by omega) d_Y_goesBy_185 rfl rfl (Nat.le_of_ble_eq_true rfl) (Nat.le_of_ble_eq_true rfl) rfl rfl rfl (fun v σ2 q => ?_)
  obtain ⟨rfl, e9⟩ := q
  rw [e9]
  clear e9
  refine tt_istore d_Y_goesBy_188 (by decide) rfl ?_
  refine tt_aload_n d_Y_goesBy_190 rfl ?_
  refine tt_iload_n d_Y_goesBy_191 rfl ?_
  refine tt_callV (y_net (d := d) (w := bsY f 3) (by omega)) cw_Y_net rfl rfl (by decide) rfl (by omega) d_Y_goesBy_192 rfl rfl (Nat.le_of_ble_eq_true rfl) (Nat.le_of_ble_eq_true rfl) rfl rfl rfl (fun v σ2 q => ?_)
  obtain ⟨rfl, e9⟩ := q
  rw [e9, hf]
  clear e9
  refine tt_if_le (t := 213) d_Y_goesBy_195 (by decide) (fun c_195 => ?_) (fun c_195 => ?_)
  · refine tt_iconst (v := nI 4) d_Y_goesBy_213 (by decide) ?_
    refine tt_goto (t := 218) d_Y_goesBy_214 (by decide) ?_
    refine tt_iret rfl d_Y_goesBy_218 ?_
    refine ⟨congrArg (fun w => some (Value.int w)) ?_, rfl⟩
    first
      | exact congrArg nI (if_pos (Or.inl c_195)).symm
      | exact congrArg nI (if_pos (Or.inr (Or.inl c_200))).symm
      | exact congrArg nI (if_pos (Or.inr (Or.inr c_210))).symm
      | exact congrArg nI (if_neg (nnO c_195 (nnO c_200 (nnN c_210)))).symm
  · refine tt_iload d_Y_goesBy_198 rfl ?_
    refine tt_if_lt (t := 213) d_Y_goesBy_200 (by decide) (fun c_200 => ?_) (fun c_200 => ?_)
    · refine tt_iconst (v := nI 4) d_Y_goesBy_213 (by decide) ?_
      refine tt_goto (t := 218) d_Y_goesBy_214 (by decide) ?_
      refine tt_iret rfl d_Y_goesBy_218 ?_
      refine ⟨congrArg (fun w => some (Value.int w)) ?_, rfl⟩
      first
        | exact congrArg nI (if_pos (Or.inl c_195)).symm
        | exact congrArg nI (if_pos (Or.inr (Or.inl c_200))).symm
        | exact congrArg nI (if_pos (Or.inr (Or.inr c_210))).symm
        | exact congrArg nI (if_neg (nnO c_195 (nnO c_200 (nnN c_210)))).symm
    · have hbes := bes_in (eR e) (by omega) (eC e) (by omega) (v 0 0) (by omega) (bsY f 3) (by omega) hv0
      have hB : X_bes (eR e) (eC e) (v 0 0) (bsY f 3) = nI (X_bes (eR e) (eC e) (v 0 0) (bsY f 3)).toNatClampNeg ∧ (X_bes (eR e) (eC e) (v 0 0) (bsY f 3)).toNatClampNeg < eR e * eC e := by
        rcases hbes with g | g
        · rw [g] at c_200; exact absurd (by decide) c_200
        · exact ⟨g.2.1, g.1⟩
      refine tt_aload_n d_Y_goesBy_203 rfl ?_
      refine tt_getR d_Y_goesBy_204 rfl rfl (by decide) rfl rfl ?_
      refine tt_iload (x := nI (X_bes (eR e) (eC e) (v 0 0) (bsY f 3)).toNatClampNeg) d_Y_goesBy_207 (congrArg (fun w => some (some (Value.int w))) hB.1) ?_
      refine tn_zald d_Y_goesBy_209 rfl (by decide) (by omega) (hE.2.2.2 _ hB.2) ?_
      have hb1 := e10 _ (show (X_bes (eR e) (eC e) (v 0 0) (bsY f 3)).toNatClampNeg < 36 by omega)
      refine tn_if_eq (t := 217) (by omega) d_Y_goesBy_210 (by decide) (fun c_210 => ?_) (fun c_210 => ?_)
      · refine tt_iload_n d_Y_goesBy_217 rfl ?_
        refine tt_iret rfl d_Y_goesBy_218 ?_
        refine ⟨congrArg (fun w => some (Value.int w)) ?_, rfl⟩
        first
          | exact congrArg nI (if_pos (Or.inl c_195)).symm
          | exact congrArg nI (if_pos (Or.inr (Or.inl c_200))).symm
          | exact congrArg nI (if_pos (Or.inr (Or.inr c_210))).symm
          | exact congrArg nI (if_neg (nnO c_195 (nnO c_200 (nnN c_210)))).symm
      · refine tt_iconst (v := nI 4) d_Y_goesBy_213 (by decide) ?_
        refine tt_goto (t := 218) d_Y_goesBy_214 (by decide) ?_
        refine tt_iret rfl d_Y_goesBy_218 ?_
        refine ⟨congrArg (fun w => some (Value.int w)) ?_, rfl⟩
        first
          | exact congrArg nI (if_pos (Or.inl c_195)).symm
          | exact congrArg nI (if_pos (Or.inr (Or.inl c_200))).symm
          | exact congrArg nI (if_pos (Or.inr (Or.inr c_210))).symm
          | exact congrArg nI (if_neg (nnO c_195 (nnO c_200 (nnN c_210)))).symm

theorem y_go147 {l : xLa} {d : Nat} {σ : xs} {b : Nat} {f : Nat → Int32} {e : xe} {v : sv} (hb : isY b) (he : okE e) (hv : okV e v) (hE : EYb σ e) (hS : SY σ b (eN e) v) (hf : si σ 170 = f) {x : Int32} : ∀ (m : Nat) (w : Nat), 4 - w = m → 1 ≤ w → w ≤ 4 → T l M_Y_goesBy (d + 4) 147 [some (.ref 154), some (.ref b), some (.int x), some (.int (nI (bsY f (w - 1)))), some (.int (nI w))] [] σ (fun r τ => r = some (.int (nI (goY e v f))) ∧ τ = σ) := by
  intro m
  induction m using Nat.strongRecOn with
  | ind m ih =>
    intro w hm h1 h4
    have hbs := bsY_le f (w - 1)
    refine tt_iload d_Y_goesBy_147 rfl ?_
    refine tt_iconst (v := nI 4) d_Y_goesBy_149 (by decide) ?_
    refine tn_ic_ge (t := 180) (by omega) (by omega) d_Y_goesBy_150 (by decide) (fun c_150 => ?_) (fun c_150 => ?_)
    · obtain rfl : w = 4 := by omega
      exact y_go180 hb he hv hE hS hf
    · refine tt_aload_n d_Y_goesBy_153 rfl ?_
      refine tt_iload d_Y_goesBy_154 rfl ?_
      refine tt_callV (y_net (d := d) (w := w) (by omega)) cw_Y_net rfl rfl (by decide) rfl (by omega) d_Y_goesBy_156 rfl rfl (Nat.le_of_ble_eq_true rfl) (Nat.le_of_ble_eq_true rfl) rfl rfl rfl (fun v σ2 q => ?_)
      obtain ⟨rfl, e9⟩ := q
      rw [e9, hf]
      clear e9
      refine tt_aload_n d_Y_goesBy_159 rfl ?_
      refine tt_iload_n d_Y_goesBy_160 rfl ?_
      refine tt_callV (y_net (d := d) (w := bsY f (w - 1)) (by omega)) cw_Y_net rfl rfl (by decide) rfl (by omega) d_Y_goesBy_161 rfl rfl (Nat.le_of_ble_eq_true rfl) (Nat.le_of_ble_eq_true rfl) rfl rfl rfl (fun v σ2 q => ?_)
      obtain ⟨rfl, e9⟩ := q
      rw [e9, hf]
      clear e9
      refine tt_ic_le (t := 172) d_Y_goesBy_164 (by decide) (fun c_164 => ?_) (fun c_164 => ?_)
      · refine tt_iload_n d_Y_goesBy_172 rfl ?_
        refine tt_istore_n d_Y_goesBy_173 (by decide) rfl ?_
        refine tt_iinc d_Y_goesBy_174 rfl (nI_inc _ 1) (by decide) rfl ?_
        refine tt_goto (t := 147) d_Y_goesBy_177 (by decide) ?_
        have q := ih (4 - (w + 1)) (by omega) (w + 1) rfl (by omega) (by omega)
        obtain ⟨u, rfl⟩ : ∃ u, w = u + 1 := ⟨w - 1, by omega⟩
        have q2 : ∀ b9, bsY f (u + 1) = b9 → T l M_Y_goesBy (d + 4) 147 [some (.ref 154), some (.ref b), some (.int x), some (.int (nI b9)), some (.int (nI (u + 1 + 1)))] [] σ (fun r τ => r = some (.int (nI (goY e v f))) ∧ τ = σ) := fun b9 e9 => by rw [← e9]; exact q
        first
          | exact q2 _ (if_neg (fa_ngt c_164))
          | exact q2 _ (if_pos (fa_nle c_164))
      · refine tt_iload d_Y_goesBy_167 rfl ?_
        refine tt_goto (t := 173) d_Y_goesBy_169 (by decide) ?_
        refine tt_istore_n d_Y_goesBy_173 (by decide) rfl ?_
        refine tt_iinc d_Y_goesBy_174 rfl (nI_inc _ 1) (by decide) rfl ?_
        refine tt_goto (t := 147) d_Y_goesBy_177 (by decide) ?_
        have q := ih (4 - (w + 1)) (by omega) (w + 1) rfl (by omega) (by omega)
        obtain ⟨u, rfl⟩ : ∃ u, w = u + 1 := ⟨w - 1, by omega⟩
        have q2 : ∀ b9, bsY f (u + 1) = b9 → T l M_Y_goesBy (d + 4) 147 [some (.ref 154), some (.ref b), some (.int x), some (.int (nI b9)), some (.int (nI (u + 1 + 1)))] [] σ (fun r τ => r = some (.int (nI (goY e v f))) ∧ τ = σ) := fun b9 e9 => by rw [← e9]; exact q
        first
          | exact q2 _ (if_neg (fa_ngt c_164))
          | exact q2 _ (if_pos (fa_nle c_164))

theorem y_goE {l : xLa} {d : Nat} {σ : xs} {b : Nat} {g : Nat → Int32} {e : xe} {v : sv} (hb : isY b) (he : okE e) (hv : okV e v) (hE : EYb σ e) (hS : SY σ b (eN e) v) {x y : Int32} {z : Option Int32} : T l M_Y_goesBy (d + 5) 142 [some (.ref 154), some (.ref b), some (.int x), some (.int y), z.map Value.int] [] (wA σ 170 g) (fun r τ => r = some (.int (nI (goY e v g))) ∧ τ = wA σ 170 g) := by
  have hbl := isY_l hb
  refine tt_iconst (v := nI 0) d_Y_goesBy_142 (by decide) ?_
  refine tt_istore_n d_Y_goesBy_143 (by decide) rfl ?_
  refine tt_iconst (v := nI 1) d_Y_goesBy_144 (by decide) ?_
  refine tt_istore d_Y_goesBy_145 (by decide) rfl ?_
  exact y_go147 (d := d + 1) (σ := wA σ 170 g) (f := g) hb he hv (hE.sc (P := fun c => c = 170) (Sc.wA rfl) (fun c hc => by omega)) (hS.sc (P := fun c => c = 170) (Sc.wA rfl) (by omega)) (by funext j; rw [si_wA, if_pos rfl]) 3 1 (by omega) (by omega) (by omega)

theorem y_go22 {l : xLa} {d : Nat} {σ : xs} {b ms : Nat} {e : xe} {v : sv} (hb : isY b) (hm8 : ms < 256) (he : okE e) (hv : okV e v) (hE : EYb σ e) (hS : SY σ b (eN e) v) (hM : ∀ j, j < eN e → si σ 169 j = plV e v j) {f0 : Nat → Int32} : ∀ (m : Nat) (i : Nat) (z : Option Int32), eN e - i = m → i ≤ eN e → T l M_Y_goesBy (d + 5) 22 [some (.ref 154), some (.ref b), some (.int (nI ms)), some (.int (nI i)), z.map Value.int] [] (wA σ 170 (hdF e v ms f0 i)) (fun r τ => r = some (.int (nI (goY e v (hdF e v ms f0 (eN e))))) ∧ τ = wA σ 170 (hdF e v ms f0 (eN e))) := by
  intro m
  induction m using Nat.strongRecOn with
  | ind m ih =>
    intro i z hm hi
    have he0 := he
    have hv00 := hv
    obtain ⟨⟨e1, e2, e3, e4, e5, e6, e7⟩, e8, e9x, e10⟩ := he
    have hRC : eR e * eC e ≤ 36 := Nat.mul_le_mul e2 e4
    have hv0 := hv.1
    have hbl := isY_l hb
    refine tt_iload_n d_Y_goesBy_22 rfl ?_
    refine tt_aload_n d_Y_goesBy_23 rfl ?_
    refine tn_get d_Y_goesBy_24 rfl rfl (by decide) rfl (show sf (wA σ 170 (hdF e v ms f0 i)) 154 5 = nI (eN e) from hE.1.2.2.1) ?_
    refine tn_ic_ge (t := 142) (by omega) (by omega) d_Y_goesBy_27 (by decide) (fun c_27 => ?_) (fun c_27 => ?_)
    · obtain rfl : i = eN e := by omega
      refine T.mono (y_goE hb he0 hv00 hE hS) ?_
      intro r τ q
      exact q
    · refine tt_iload_n d_Y_goesBy_30 rfl ?_
      refine tt_i2l d_Y_goesBy_31 ?_
      refine tt_iload_n d_Y_goesBy_32 rfl ?_
      refine tt_callS (y_has (d := d + 3) (m := ms) (k := i) hm8 (by omega)) cw_Y_has rfl (by omega) d_Y_goesBy_33 rfl rfl (Nat.le_of_ble_eq_true rfl) (Nat.le_of_ble_eq_true rfl) rfl rfl rfl (fun v σ2 q => ?_)
      obtain ⟨rfl, e9⟩ := q
      rw [e9]
      clear e9
      refine tt_if_eq (t := 136) d_Y_goesBy_36 (by decide) (fun c_36 => ?_) (fun c_36 => ?_)
      · skip
        refine tt_iinc d_Y_goesBy_136 rfl (nI_inc _ 1) (by decide) rfl ?_
        refine tt_goto (t := 22) d_Y_goesBy_139 (by decide) ?_
        have q := ih (eN e - (i + 1)) (by omega) (i + 1) (z) rfl (by omega)
        have q2 : ∀ w, hdF e v ms f0 (i + 1) = w → T l M_Y_goesBy (d + 5) 22 [some (.ref 154), some (.ref b), some (.int (nI ms)), some (.int (nI (i + 1))), (z : Option Int32).map Value.int] [] (wA σ 170 w) (fun r τ => r = some (.int (nI (goY e v (hdF e v ms f0 (eN e))))) ∧ τ = wA σ 170 (hdF e v ms f0 (eN e))) := fun w e9 => by rw [← e9]; exact q
        exact q2 _ (if_neg (nn1 (tbI_0.mp c_36)))
      · have hbt : ms.testBit i = true := Classical.not_not.mp (fun q => c_36 (tbI_0.mpr q))
        refine tt_aload_n d_Y_goesBy_39 rfl ?_
        refine tt_getR d_Y_goesBy_40 rfl rfl (by decide) rfl rfl ?_
        refine tt_iload_n d_Y_goesBy_43 rfl ?_
        refine tn_iald d_Y_goesBy_44 rfl (by decide) (by omega) (show si (wA σ 170 (hdF e v ms f0 i)) 169 i = plV e v i from hM i c_27) ?_
        refine tt_if_le (t := 136) d_Y_goesBy_45 (by decide) (fun c_45 => ?_) (fun c_45 => ?_)
        · skip
          refine tt_iinc d_Y_goesBy_136 rfl (nI_inc _ 1) (by decide) rfl ?_
          refine tt_goto (t := 22) d_Y_goesBy_139 (by decide) ?_
          have q := ih (eN e - (i + 1)) (by omega) (i + 1) (z) rfl (by omega)
          have q2 : ∀ w, hdF e v ms f0 (i + 1) = w → T l M_Y_goesBy (d + 5) 22 [some (.ref 154), some (.ref b), some (.int (nI ms)), some (.int (nI (i + 1))), (z : Option Int32).map Value.int] [] (wA σ 170 w) (fun r τ => r = some (.int (nI (goY e v (hdF e v ms f0 (eN e))))) ∧ τ = wA σ 170 (hdF e v ms f0 (eN e))) := fun w e9 => by rw [← e9]; exact q
          exact q2 _ (if_neg (nn2 (fa_ngt c_45)))
        · have hc1 : ms.testBit i = true ∧ 0 < plV e v i := ⟨hbt, fa_nle c_45⟩
          have hact := plV_act (ti_pos c_45)
          have hgz : ¬ v 3 i = 0 := fun q => actV_f (Or.inl q) hact
          have hwy := wy_lt e v i
          have hul := hUp_le (dnV e v i)
          have hrl := rl_le e v i
          refine tt_aload_n d_Y_goesBy_48 rfl ?_
          refine tt_aload_n d_Y_goesBy_49 rfl ?_
          refine tt_iload_n d_Y_goesBy_50 rfl ?_
          refine tt_callV (y_wayOf (d := d + 1) (σ := (wA σ 170 (hdF e v ms f0 i))) hb (show i < eN e from c_27) he0 hv00 (hE.sc (P := fun c => c = 170) (Sc.wA rfl) (fun c hc => by omega)) (hS.sc (P := fun c => c = 170) (Sc.wA rfl) (by omega)) hgz) cw_Y_wayOf rfl rfl (by decide) rfl (by omega) d_Y_goesBy_51 rfl rfl (Nat.le_of_ble_eq_true rfl) (Nat.le_of_ble_eq_true rfl) rfl rfl rfl (fun v σ2 q => ?_)
          obtain ⟨rfl, e9⟩ := q
          rw [e9]
          clear e9
          refine tt_istore d_Y_goesBy_54 (by decide) rfl ?_
          refine tt_aload_n d_Y_goesBy_56 rfl ?_
          refine tt_getR d_Y_goesBy_57 rfl rfl (by decide) rfl rfl ?_
          refine tt_iload d_Y_goesBy_60 rfl ?_
          refine tt_iconst (v := nI 4) d_Y_goesBy_62 (by decide) ?_
          refine tn_ic_ne (t := 75) (by omega) (by omega) d_Y_goesBy_63 (by decide) (fun c_63 => ?_) (fun c_63 => ?_)
          · skip
            refine tt_iload d_Y_goesBy_75 rfl ?_
            refine tt_dup2 d_Y_goesBy_77 rfl rfl ?_
            refine tn_iald d_Y_goesBy_78 rfl (by decide) (by omega) rfl ?_
            refine tt_iload d_Y_goesBy_79 rfl ?_
            refine tt_iconst (v := nI 4) d_Y_goesBy_81 (by decide) ?_
            refine tn_ic_ne (t := 96) (by omega) (by omega) d_Y_goesBy_82 (by decide) (fun c_82 => ?_) (fun c_82 => ?_)
            · refine tt_aload_n d_Y_goesBy_96 rfl ?_
              refine tt_getR d_Y_goesBy_97 rfl rfl (by decide) rfl rfl ?_
              refine tt_iload_n d_Y_goesBy_100 rfl ?_
              refine tn_iald d_Y_goesBy_101 rfl (by decide) (by omega) (show si (wA σ 170 (hdF e v ms f0 i)) 169 i = plV e v i from hM i c_27) ?_
              refine tt_iadd d_Y_goesBy_102 ?_
              refine tn_iast d_Y_goesBy_103 rfl (by decide) (by omega) ?_
              refine tt_aload_n d_Y_goesBy_104 rfl ?_
              refine tt_getR d_Y_goesBy_105 rfl rfl (by decide) rfl rfl ?_
              refine tt_aload_n d_Y_goesBy_108 rfl ?_
              refine tt_aload_n d_Y_goesBy_109 rfl ?_
              refine tt_iload_n d_Y_goesBy_110 rfl ?_
              refine tt_callV (y_rightLeft (d := d + 1) (σ := wI (wA σ 170 (hdF e v ms f0 i)) 170 _ _) hb (show i < eN e from c_27) he0 hv00 (hE.sc (P := fun c => c = 170) (Sc.tr (P := fun c => c = 170) (Sc.wA (P := fun c => c = 170) rfl) (Sc.wI (P := fun c => c = 170) rfl)) (fun c hc => by omega)) (hS.sc (P := fun c => c = 170) (Sc.tr (P := fun c => c = 170) (Sc.wA (P := fun c => c = 170) rfl) (Sc.wI (P := fun c => c = 170) rfl)) (by omega)) hgz) cw_Y_rightOrLeft rfl rfl (by decide) rfl (by omega) d_Y_goesBy_111 rfl rfl (Nat.le_of_ble_eq_true rfl) (Nat.le_of_ble_eq_true rfl) rfl rfl rfl (fun v σ2 q => ?_)
              obtain ⟨rfl, e9⟩ := q
              rw [e9]
              clear e9
              refine tt_dup2 d_Y_goesBy_114 rfl rfl ?_
              refine tn_iald d_Y_goesBy_115 rfl (by decide) (by omega) rfl ?_
              refine tt_iload d_Y_goesBy_116 rfl ?_
              refine tt_iconst (v := nI 4) d_Y_goesBy_118 (by decide) ?_
              refine tn_ic_ne (t := 133) (by omega) (by omega) d_Y_goesBy_119 (by decide) (fun c_119 => ?_) (fun c_119 => ?_)
              · refine tt_iconst (v := nI 0) d_Y_goesBy_133 (by decide) ?_
                refine tt_iadd d_Y_goesBy_134 ?_
                refine tn_iast d_Y_goesBy_135 rfl (by decide) (by omega) ?_
                refine tt_iinc d_Y_goesBy_136 rfl (nI_inc _ 1) (by decide) rfl ?_
                refine tt_goto (t := 22) d_Y_goesBy_139 (by decide) ?_
                refine T_cong (show _ = wA σ 170 (hdS e v ms (hdF e v ms f0 i) i) by rw [show hdS e v ms (hdF e v ms f0 i) i = _ from (if_pos hc1).trans (if_neg c_63), wI_wA, wI_wA]; rfl) ?_
                have q := ih (eN e - (i + 1)) (by omega) (i + 1) (some (nI (wyV e v i))) rfl (by omega)
                have q2 : ∀ w, hdF e v ms f0 (i + 1) = w → T l M_Y_goesBy (d + 5) 22 [some (.ref 154), some (.ref b), some (.int (nI ms)), some (.int (nI (i + 1))), (some (nI (wyV e v i)) : Option Int32).map Value.int] [] (wA σ 170 w) (fun r τ => r = some (.int (nI (goY e v (hdF e v ms f0 (eN e))))) ∧ τ = wA σ 170 (hdF e v ms f0 (eN e))) := fun w e9 => by rw [← e9]; exact q
                exact q2 _ rfl
              · first | exact absurd c_63 c_119 | exact absurd c_119 c_63 | omega
            · first | exact absurd c_63 c_82 | exact absurd c_82 c_63 | omega
          · skip
            refine tt_aload_n d_Y_goesBy_66 rfl ?_
            refine tt_aload_n d_Y_goesBy_67 rfl ?_
            refine tt_iload_n d_Y_goesBy_68 rfl ?_
            refine tt_callV (y_upDown (d := d + 1) (σ := (wA σ 170 (hdF e v ms f0 i))) hb (show i < eN e from c_27) he0 hv00 (hE.sc (P := fun c => c = 170) (Sc.wA rfl) (fun c hc => by omega)) (hS.sc (P := fun c => c = 170) (Sc.wA rfl) (by omega)) hgz) cw_Y_upOrDown rfl rfl (by decide) rfl (by omega) d_Y_goesBy_69 rfl rfl (Nat.le_of_ble_eq_true rfl) (Nat.le_of_ble_eq_true rfl) rfl rfl rfl (fun v σ2 q => ?_)
            obtain ⟨rfl, e9⟩ := q
            rw [e9]
            clear e9
            refine tt_goto (t := 77) d_Y_goesBy_72 (by decide) ?_
            refine tt_dup2 d_Y_goesBy_77 rfl rfl ?_
            refine tn_iald d_Y_goesBy_78 rfl (by decide) (by omega) rfl ?_
            refine tt_iload d_Y_goesBy_79 rfl ?_
            refine tt_iconst (v := nI 4) d_Y_goesBy_81 (by decide) ?_
            refine tn_ic_ne (t := 96) (by omega) (by omega) d_Y_goesBy_82 (by decide) (fun c_82 => ?_) (fun c_82 => ?_)
            · first | exact absurd c_63 c_82 | exact absurd c_82 c_63 | omega
            · refine tt_aload_n d_Y_goesBy_85 rfl ?_
              refine tt_getR d_Y_goesBy_86 rfl rfl (by decide) rfl rfl ?_
              refine tt_iload_n d_Y_goesBy_89 rfl ?_
              refine tn_iald d_Y_goesBy_90 rfl (by decide) (by omega) (show si (wA σ 170 (hdF e v ms f0 i)) 169 i = plV e v i from hM i c_27) ?_
              refine tt_iconst (v := nI 2) d_Y_goesBy_91 (by decide) ?_
              refine tt_idiv d_Y_goesBy_92 (by decide) ?_
              refine tt_goto (t := 102) d_Y_goesBy_93 (by decide) ?_
              refine tt_iadd d_Y_goesBy_102 ?_
              refine tn_iast d_Y_goesBy_103 rfl (by decide) (by omega) ?_
              refine tt_aload_n d_Y_goesBy_104 rfl ?_
              refine tt_getR d_Y_goesBy_105 rfl rfl (by decide) rfl rfl ?_
              refine tt_aload_n d_Y_goesBy_108 rfl ?_
              refine tt_aload_n d_Y_goesBy_109 rfl ?_
              refine tt_iload_n d_Y_goesBy_110 rfl ?_
              refine tt_callV (y_rightLeft (d := d + 1) (σ := wI (wA σ 170 (hdF e v ms f0 i)) 170 _ _) hb (show i < eN e from c_27) he0 hv00 (hE.sc (P := fun c => c = 170) (Sc.tr (P := fun c => c = 170) (Sc.wA (P := fun c => c = 170) rfl) (Sc.wI (P := fun c => c = 170) rfl)) (fun c hc => by omega)) (hS.sc (P := fun c => c = 170) (Sc.tr (P := fun c => c = 170) (Sc.wA (P := fun c => c = 170) rfl) (Sc.wI (P := fun c => c = 170) rfl)) (by omega)) hgz) cw_Y_rightOrLeft rfl rfl (by decide) rfl (by omega) d_Y_goesBy_111 rfl rfl (Nat.le_of_ble_eq_true rfl) (Nat.le_of_ble_eq_true rfl) rfl rfl rfl (fun v σ2 q => ?_)
              obtain ⟨rfl, e9⟩ := q
              rw [e9]
              clear e9
              refine tt_dup2 d_Y_goesBy_114 rfl rfl ?_
              refine tn_iald d_Y_goesBy_115 rfl (by decide) (by omega) rfl ?_
              refine tt_iload d_Y_goesBy_116 rfl ?_
              refine tt_iconst (v := nI 4) d_Y_goesBy_118 (by decide) ?_
              refine tn_ic_ne (t := 133) (by omega) (by omega) d_Y_goesBy_119 (by decide) (fun c_119 => ?_) (fun c_119 => ?_)
              · first | exact absurd c_63 c_119 | exact absurd c_119 c_63 | omega
              · refine tt_aload_n d_Y_goesBy_122 rfl ?_
                refine tt_getR d_Y_goesBy_123 rfl rfl (by decide) rfl rfl ?_
                refine tt_iload_n d_Y_goesBy_126 rfl ?_
                refine tn_iald d_Y_goesBy_127 rfl (by decide) (by omega) (show si (wI _ 170 _ _) 169 i = plV e v i from hM i c_27) ?_
                refine tt_iconst (v := nI 2) d_Y_goesBy_128 (by decide) ?_
                refine tt_idiv d_Y_goesBy_129 (by decide) ?_
                refine tt_goto (t := 134) d_Y_goesBy_130 (by decide) ?_
                refine tt_iadd d_Y_goesBy_134 ?_
                refine tn_iast d_Y_goesBy_135 rfl (by decide) (by omega) ?_
                refine tt_iinc d_Y_goesBy_136 rfl (nI_inc _ 1) (by decide) rfl ?_
                refine tt_goto (t := 22) d_Y_goesBy_139 (by decide) ?_
                refine T_cong (show _ = wA σ 170 (hdS e v ms (hdF e v ms f0 i) i) by rw [show hdS e v ms (hdF e v ms f0 i) i = _ from (if_pos hc1).trans (if_pos c_63), wI_wA, wI_wA]; rfl) ?_
                have q := ih (eN e - (i + 1)) (by omega) (i + 1) (some (nI (wyV e v i))) rfl (by omega)
                have q2 : ∀ w, hdF e v ms f0 (i + 1) = w → T l M_Y_goesBy (d + 5) 22 [some (.ref 154), some (.ref b), some (.int (nI ms)), some (.int (nI (i + 1))), (some (nI (wyV e v i)) : Option Int32).map Value.int] [] (wA σ 170 w) (fun r τ => r = some (.int (nI (goY e v (hdF e v ms f0 (eN e))))) ∧ τ = wA σ 170 (hdF e v ms f0 (eN e))) := fun w e9 => by rw [← e9]; exact q
                exact q2 _ rfl

theorem y_go2 {l : xLa} {d : Nat} {σ : xs} {b ms : Nat} {e : xe} {v : sv} (hb : isY b) (hm8 : ms < 256) (he : okE e) (hv : okV e v) (hE : EYb σ e) (hS : SY σ b (eN e) v) (hM : ∀ j, j < eN e → si σ 169 j = plV e v j) : ∀ (m : Nat) (w : Nat), 4 - w = m → w ≤ 4 → T l M_Y_goesBy (d + 5) 2 [some (.ref 154), some (.ref b), some (.int (nI ms)), some (.int (nI w)), none] [] (wA σ 170 (cpN (fun _ => nI 0) (si σ 170) w)) (fun r τ => r = some (.int (nI (goY e v (hdF e v ms (cpN (fun _ => nI 0) (si σ 170) 4) (eN e))))) ∧ τ = wA σ 170 (hdF e v ms (cpN (fun _ => nI 0) (si σ 170) 4) (eN e))) := by
  intro m
  induction m using Nat.strongRecOn with
  | ind m ih =>
    intro w hm hw
    refine tt_iload_n d_Y_goesBy_2 rfl ?_
    refine tt_iconst (v := nI 4) d_Y_goesBy_3 (by decide) ?_
    refine tn_ic_ge (t := 20) (by omega) (by omega) d_Y_goesBy_4 (by decide) (fun c_4 => ?_) (fun c_4 => ?_)
    · obtain rfl : w = 4 := by omega
      refine tt_iconst (v := nI 0) d_Y_goesBy_20 (by decide) ?_
      refine tt_istore_n d_Y_goesBy_21 (by decide) rfl ?_
      exact y_go22 hb hm8 he hv hE hS hM (eN e) 0 none (by omega) (by omega)
    · refine tt_aload_n d_Y_goesBy_7 rfl ?_
      refine tt_getR d_Y_goesBy_8 rfl rfl (by decide) rfl rfl ?_
      refine tt_iload_n d_Y_goesBy_11 rfl ?_
      refine tt_iconst (v := nI 0) d_Y_goesBy_12 (by decide) ?_
      refine tn_iast d_Y_goesBy_13 rfl (by decide) (by omega) ?_
      refine tt_iinc d_Y_goesBy_14 rfl (nI_inc _ 1) (by decide) rfl ?_
      refine tt_goto (t := 2) d_Y_goesBy_17 (by decide) ?_
      have q := ih (4 - (w + 1)) (by omega) (w + 1) rfl (by omega)
      refine T_cong cpN_s ?_
      exact q

theorem y_goesBy0 {l : xLa} {d : Nat} {σ : xs} {b ms : Nat} {e : xe} {v : sv} (hb : isY b) (hm8 : ms < 256) (he : okE e) (hv : okV e v) (hE : EYb σ e) (hS : SY σ b (eN e) v) (hM : ∀ j, j < eN e → si σ 169 j = plV e v j) : TC l M_Y_goesBy (d + 5) [.ref 154, .ref b, .int (nI ms)] σ (fun r τ => r = some (.int (nI (goY e v (hdF e v ms (cpN (fun _ => nI 0) (si σ 170) 4) (eN e))))) ∧ τ = wA σ 170 (hdF e v ms (cpN (fun _ => nI 0) (si σ 170) 4) (eN e))) := by
  show T l M_Y_goesBy (d + 5) 0 _ [] σ _
  refine tt_iconst (v := nI 0) d_Y_goesBy_0 (by decide) ?_
  refine tt_istore_n d_Y_goesBy_1 (by decide) rfl ?_
  refine T_cong (τ := wA σ 170 (cpN (fun _ => nI 0) (si σ 170) 0)) (show σ = wA σ 170 (si σ 170) from wA_id.symm) ?_
  exact y_go2 hb hm8 he hv hE hS hM 4 0 (by omega) (by omega)

