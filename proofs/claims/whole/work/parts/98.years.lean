/-! Questions: years. Printed by wip/whole. -/
/-- a promise, if the fish takes it -/
def prV (e : xe) (v : sv) (k g z : Nat) : sv := if eK e k = 2 ∨ v 2 k = 0 then v else pvV v k g z
def ltV (v : sv) (k : Nat) : sv := upv v 0 5 (v 0 5 ^^^ 2 ^ k)
/-- draws -/
def drw (r : Int32) : Int32 := r * 1103515245 + 12345
def hiN (r : Int32) : Nat := r.toBitVec.toNat / 2 ^ 16
theorem hi_lt (r : Int32) : hiN r < 65536 := by
  have : r.toBitVec.toNat < 2 ^ 32 := r.toBitVec.isLt
  unfold hiN
  omega
theorem hi_N (r : Int32) : (r.toUInt32 >>> ((nI 16).toUInt32 &&& Int32.toUInt32 31)).toInt32 = nI (hiN r) := by
  have e : r = nI r.toBitVec.toNat := by
    apply Int32.toBitVec_inj.mp
    show _ = (Int32.ofNat _).toBitVec
    rw [Int32.toBitVec_ofNat', BitVec.ofNat_toNat, BitVec.setWidth_eq]
  have h := pk_ushrN (n := r.toBitVec.toNat) r.toBitVec.isLt (nI 16) 16 (by decide)
  rw [← e] at h
  exact h
/-- one draw of a year: the number drawn last, and the state -/
def yrS (D : Int32 → Int32) (H : Int32 → Nat) (e : xe) (p : Int32 × sv) : Int32 × sv :=
  if H (D p.1) % 4 < 2 then (D p.1, hrV e p.2) else if eN e = 0 then (D p.1, p.2) else
  if H (D p.1) % 4 = 2 then (D (D (D (D p.1))), prV e p.2 (H (D (D p.1)) % eN e) (H (D (D (D p.1))) % (eR e * eC e)) (H (D (D (D (D p.1)))) % 4)) else (D (D p.1), ltV p.2 (H (D (D p.1)) % eN e))
def yrN (D : Int32 → Int32) (H : Int32 → Nat) (e : xe) (s : Int32) (v : sv) : Nat → Int32 × sv
  | 0 => (s, v)
  | i + 1 => yrS D H e (yrN D H e s v i)
def q_yrs (D : Int32 → Int32) (H : Int32 → Nat) (w : wv) (s n : Int32) : Int32 × Option (List Int64) := match rgN n 1 60 with
  | none => (-1, none)
  | some m => (nI ((yrN D H (wE w) s (wV w) m).2 0 0), some [(nI ((yrN D H (wE w) s (wV w) m).2 0 2) - nI (wV w 0 2)).toInt64, (nI ((yrN D H (wE w) s (wV w) m).2 0 3) - nI (wV w 0 3)).toInt64])
def q_years (w : wv) (s n : Int32) : Int32 × Option (List Int64) := q_yrs drw hiN w s n
section
variable {D : Int32 → Int32} {H : Int32 → Nat} {e : xe} {v u : sv} {k g z : Nat} {p q : Int32 × sv}
theorem ok_pr (hv : okV e v) (hg : g < eR e * eC e) (hz : z ≤ 9) : okV e (prV e v k g z) := by
  unfold prV
  split
  · exact hv
  · exact ok_4 (ok_3 hv (by omega)) hz
theorem ok_lt (hv : okV e v) (hk : k < 8) : okV e (ltV v k) := ok_05 hv (hx_lt hv.2.2.2.2.2.1 hk)
theorem e5_prV (h : e5 v u) : e5 (prV e v k g z) (prV e u k g z) := by
  unfold prV pvV
  rw [h 2 k (by decide)]
  split
  · exact h
  · exact h.up.up
theorem e5_ltV (h : e5 v u) : e5 (ltV v k) (ltV u k) := by
  unfold ltV
  rw [h 0 5 (by decide)]
  exact h.up
theorem yr_pos (he : okE e) (r : Int32) : H r % (eR e * eC e) < eR e * eC e := Nat.mod_lt _ (Nat.mul_pos (by have := he.1.1; omega) (by have := he.1.2.2.1; omega))
theorem ok_yrS (he : okE e) (hv : okV e p.2) (hh : p.2 0 4 + 1 < 2 ^ 30) : okV e (yrS D H e p).2 ∧ (yrS D H e p).2 0 4 ≤ p.2 0 4 + 1 := by
  unfold yrS
  split
  · obtain ⟨h1, h2⟩ := ok_hr he hv hh
    exact ⟨h1, by show (hrV e p.2) 0 4 ≤ _; omega⟩
  · split
    · exact ⟨hv, by show p.2 0 4 ≤ _; omega⟩
    · rename_i c1 c2
      have h8 := he.1.2.2.2.2.1
      split
      · refine ⟨ok_pr hv (yr_pos he _) (by have := Nat.mod_lt (H (D (D (D (D p.1))))) (show 0 < 4 by decide); omega), ?_⟩
        show (prV e p.2 _ _ _) 0 4 ≤ _
        unfold prV
        split
        · omega
        · show p.2 0 4 ≤ _; omega
      · refine ⟨ok_lt hv ?_, by show p.2 0 4 ≤ _; omega⟩
        have := Nat.mod_lt (H (D (D p.1))) (show 0 < eN e by omega)
        omega
theorem ok_yrN {s : Int32} (he : okE e) (hv : okV e v) (hh : v 0 4 + 100 < 2 ^ 30) : ∀ i, i ≤ 60 → okV e (yrN D H e s v i).2 ∧ (yrN D H e s v i).2 0 4 ≤ v 0 4 + i
  | 0, _ => ⟨hv, Nat.le_refl _⟩
  | i + 1, hi => by
    obtain ⟨h1, h2⟩ := ok_yrN (s := s) he hv hh i (by omega)
    obtain ⟨g1, g2⟩ := ok_yrS (p := yrN D H e s v i) he h1 (by omega)
    exact ⟨g1, Nat.le_trans g2 (by omega)⟩
theorem e5_yrS (h1 : p.1 = q.1) (h2 : e5 p.2 q.2) : (yrS D H e p).1 = (yrS D H e q).1 ∧ e5 (yrS D H e p).2 (yrS D H e q).2 := by
  unfold yrS
  rw [h1]
  split
  · exact ⟨rfl, h2.hr e⟩
  · split
    · exact ⟨rfl, h2⟩
    · split
      · exact ⟨rfl, e5_prV h2⟩
      · exact ⟨rfl, e5_ltV h2⟩
theorem e5_yrN {s : Int32} (h : e5 v u) : ∀ i, (yrN D H e s v i).1 = (yrN D H e s u i).1 ∧ e5 (yrN D H e s v i).2 (yrN D H e s u i).2
  | 0 => ⟨rfl, h⟩
  | i + 1 => e5_yrS (e5_yrN h i).1 (e5_yrN h i).2
/-- the counters: promises that came true or broke -/
def ctJ (e : xe) (v0 v : sv) (i : Nat) : Prop := ptN e v ≤ ptN e v0 + i ∧ v 0 2 = v0 0 2 + v 5 0 ∧ v 0 3 = v0 0 3 + v 5 1
theorem ct_pr {v0 : sv} {i : Nat} (h : ctJ e v0 v i) : ctJ e v0 (prV e v k g z) (i + 1) := by
  obtain ⟨h1, h2, h3⟩ := h
  unfold prV
  split
  · exact ⟨by omega, h2, h3⟩
  · refine ⟨?_, h2, h3⟩
    have q1 : ptN e (pvV v k g z) = ptN e (upv v 3 k (g + 1)) := pt_n (by decide) (by omega) (by omega)
    have q2 := (gl_up (v := v) (j := k) (x := g + 1) (eN e)).1
    rw [q1]
    show v 0 2 + v 0 3 + glN (upv v 3 k (g + 1)) (eN e) ≤ _
    unfold ptN at h1 ⊢
    omega
theorem ct_lt {v0 : sv} {i : Nat} (h : ctJ e v0 v i) : ctJ e v0 (ltV v k) (i + 1) := by
  obtain ⟨h1, h2, h3⟩ := h
  have q1 : ptN e (ltV v k) = ptN e v := pt_n (by decide) (by omega) (by omega)
  exact ⟨by omega, h2, h3⟩
theorem ct_yrS {v0 : sv} {i : Nat} (hi : ptN e v0 + i < 999) (h : ctJ e v0 p.2 i) : ctJ e v0 (yrS D H e p).2 (i + 1) := by
  unfold yrS
  split
  · obtain ⟨h1, h2, h3⟩ := h
    obtain ⟨g1, g2⟩ := pt_hr (e := e) (v := p.2)
    obtain ⟨g3, g4⟩ := g2 (by omega)
    exact ⟨by show ptN e (hrV e p.2) ≤ _; omega, by show (hrV e p.2) 0 2 = _ + (hrV e p.2) 5 0; omega, by show (hrV e p.2) 0 3 = _ + (hrV e p.2) 5 1; omega⟩
  · split
    · exact ⟨by have := h.1; show ptN e p.2 ≤ _; omega, h.2⟩
    · split
      · exact ct_pr h
      · exact ct_lt h
theorem ct_yrN {s : Int32} (hi : ptN e v + 100 < 999) : ∀ i, i ≤ 60 → ctJ e v (yrN D H e s (z5V v) i).2 i
  | 0, _ => ⟨by show ptN e (z5V v) ≤ _; rw [pt_e5 (z5_e5 (v := v))]; omega, rfl, rfl⟩
  | i + 1, h => ct_yrS (by omega) (ct_yrN hi i (by omega))
end
theorem x_nextDraw {l : xLa} {d : Nat} {σ : xs} {r : Int32} : TE l M_X_nextDraw (d + 1) [.int r] σ (some (.int (drw r))) (σ) := by
  show T l M_X_nextDraw (d + 1) 0 _ [] σ _
  refine tt_iload_n d_X_nextDraw_0 rfl ?_
  refine tt_ldc_w (v := 1103515245) d_X_nextDraw_1 rfl ?_
  refine tt_imul d_X_nextDraw_4 ?_
  refine tt_sipush (v := nI 12345) d_X_nextDraw_5 (by decide) ?_
  refine tt_iadd d_X_nextDraw_8 ?_
  refine tt_iret rfl d_X_nextDraw_9 ?_
  exact ⟨rfl, rfl⟩

theorem x_drawn {l : xLa} {d : Nat} {σ : xs} {r : Int32} {n : Nat} (hn : 0 < n) (hn2 : n ≤ 100) : TE l M_X_drawn (d + 1) [.int r, .int (nI n)] σ (some (.int (nI (hiN r % n)))) (σ) := by
  show T l M_X_drawn (d + 1) 0 _ [] σ _
  have hh := hi_lt r
  refine tt_iload_n d_X_drawn_0 rfl ?_
  refine tn_if_le (t := 13) (by omega) d_X_drawn_1 (by decide) (fun c_1 => ?_) (fun c_1 => ?_)
  · omega
  · refine tt_iload_n d_X_drawn_4 rfl ?_
    refine tt_bipush (v := nI 16) d_X_drawn_5 (by decide) ?_
    refine tt_iushr d_X_drawn_7 ?_
    refine tt_top (hi_N _) ?_
    refine tt_iload_n d_X_drawn_8 rfl ?_
    refine tn_irem (by omega) (by omega) (by omega) d_X_drawn_9 ?_
    refine tt_goto (t := 14) d_X_drawn_10 (by decide) ?_
    refine tt_iret rfl d_X_drawn_14 ?_
    exact ⟨rfl, rfl⟩

theorem y_draws {l : xLa} {d : Nat} {σ : xs} {r : Int32} {n : Nat} (hr : sf σ 154 51 = r) (hn : 0 < n) (hn2 : n ≤ 100) : TE l M_Y_draws (d + 1) [.ref 154, .int (nI n)] σ (some (.int (nI (hiN (drw r) % n)))) (wF σ 154 51 (drw r)) := by
  show T l M_Y_draws (d + 1) 0 _ [] σ _
  have hh := hi_lt (drw r)
  refine tt_aload_n d_Y_draws_0 rfl ?_
  refine tt_aload_n d_Y_draws_1 rfl ?_
  refine tn_get d_Y_draws_2 rfl rfl (by decide) rfl hr ?_
  refine tt_ldc_w (v := 1103515245) d_Y_draws_5 rfl ?_
  refine tt_imul d_Y_draws_8 ?_
  refine tt_sipush (v := nI 12345) d_Y_draws_9 (by decide) ?_
  refine tt_iadd d_Y_draws_12 ?_
  refine tt_putI d_Y_draws_13 rfl rfl (by decide) rfl (xpok_int rfl) rfl ?_
  refine tt_aload_n d_Y_draws_16 rfl ?_
  refine tn_get d_Y_draws_17 rfl rfl (by decide) rfl (show _ = drw r from rfl) ?_
  refine tt_bipush (v := nI 16) d_Y_draws_20 (by decide) ?_
  refine tt_iushr d_Y_draws_22 ?_
  refine tt_top (hi_N _) ?_
  refine tt_iload_n d_Y_draws_23 rfl ?_
  refine tn_irem (by omega) (by omega) (by omega) d_Y_draws_24 ?_
  refine tt_iret rfl d_Y_draws_25 ?_
  exact ⟨rfl, rfl⟩

section
variable {l : xLa} {d c : Nat} {σ τ : xs} {w : wv}
theorem yq_hours51 {v : sv} {n : Nat} (h : YQ c w σ τ) (he : okE (wE w)) (hv : okV (wE w) v) (hS : SY τ 161 (eN (wE w)) v) (hh : v 0 4 + n < 2 ^ 30) (hn : n < 2 ^ 31) : TC l M_Y_goesOn (d + 11) [.ref 154, .ref 161, .int (nI n)] τ (fun r υ => r = none ∧ YQ c w σ υ ∧ SY υ 161 (eN (wE w)) (hrsV (wE w) (z5V v) n) ∧ TY υ (hrsV (wE w) (z5V v) n) ∧ Un τ υ ∧ sf υ 154 51 = sf τ 154 51) := by
  refine T.mono (y_goesOn (d := d) (σ := τ) isY_161 he hv h.e h.1.1.2 hh hn hS) ?_
  rintro r υ ⟨rfl, h1, h2, h3⟩
  exact ⟨rfl, h.fq (h3.mono (fun _ => HA_q) (fun _ _ => HF_q) (fun _ q => q.elim)), h1, h2, Un.fq h3, h3.2.1 154 51 (by unfold HF; omega)⟩
theorem yq_hour51 {v : sv} (h : YQ c w σ τ) (he : okE (wE w)) (hv : okV (wE w) v) (hS : SY τ 161 (eN (wE w)) v) (hT : TY τ v) (hh : v 0 4 + 1 < 2 ^ 30) : TC l M_Y_hourGoes (d + 10) [.ref 154, .ref 161] τ (fun r υ => r = none ∧ YQ c w σ υ ∧ SY υ 161 (eN (wE w)) (hrV (wE w) v) ∧ TY υ (hrV (wE w) v) ∧ Un τ υ ∧ sf υ 154 51 = sf τ 154 51) := by
  refine T.mono (y_hourGoes (d := d) (σ := τ) isY_161 he hv h.e hS h.1.1.2 hT hh) ?_
  rintro r υ ⟨rfl, h1, h2, h3⟩
  exact ⟨rfl, h.fq (h3.mono (fun _ => HA_q) (fun _ _ => HF_q) (fun _ q => q.elim)), h1, h2, Un.fq h3, h3.2.1 154 51 (by unfold HF; omega)⟩
end
set_option maxHeartbeats 4000000 in
theorem xq_mkT {l : xLa} {d : Nat} {σ τ : xs} {w : wv} {v : sv} (h : XQ w σ τ) (ho : okQ w) (hv : okV (wE w) v) (hS : ST τ 30 v) {k g z : Nat} (hk : k < eN (wE w)) (hg : g < eR (wE w) * eC (wE w)) (hz : z ≤ 9) : TC l M_X_makePromise (d + 10) [.ref 0, .ref 30, .int (nI k), .int (nI g), .int (nI z)] τ (fun r υ => ∃ x : Int32, r = some (.int x) ∧ XQ w σ υ ∧ ST υ 30 (prV (wE w) v k g z) ∧ Tn τ υ) := by
  show T l M_X_makePromise (d + 10) 0 _ [] τ _
  refine T_lv (lv2 := [_, _, _, _, _]) rfl ?_
  have hb0 := ho.fb
  have hb8 := ho.n8
  have hv7 := hv.2.2.2.2.2.2 k hk
  have hk3 := (ho.1.2.1 k (by omega)).1
  have hvn : okV (wE w) (pvV v k g z) := ok_4 (ok_3 hv (by omega)) (by omega)
  have hpl := prN_lt (pvV v k g z) hb8
  unfold prV
  refine tt_aload_n d_X_makePromise_0 rfl ?_
  refine tt_getR d_X_makePromise_1 rfl rfl (by decide) rfl rfl ?_
  refine tt_iload_n d_X_makePromise_4 rfl ?_
  refine tt_callV (x_School_has (d := d) h.n ho.n8) cw_School_has rfl rfl (by decide) rfl (by omega) d_X_makePromise_5 rfl rfl (Nat.le_of_ble_eq_true rfl) (Nat.le_of_ble_eq_true rfl) rfl rfl rfl (fun v σ2 q => ?_)
  obtain ⟨rfl, e9⟩ := q
  rw [e9, X_in_N hk (by omega)]
  clear e9
  refine tn_if_eq (t := 34) (by omega) d_X_makePromise_8 (by decide) (fun c_8 => ?_) (fun c_8 => ?_)
  · exact absurd c_8 (by decide)
  · refine tt_aload_n d_X_makePromise_11 rfl ?_
    refine tt_getR d_X_makePromise_12 rfl rfl (by decide) rfl rfl ?_
    refine tt_iload_n d_X_makePromise_15 rfl ?_
    refine tt_callV (x_Lake_has (d := d) h.r h.cl ho.1.1.2.1 ho.1.1.2.2.2.1 ho.cp) cw_Lake_has rfl rfl (by decide) rfl (by omega) d_X_makePromise_16 rfl rfl (Nat.le_of_ble_eq_true rfl) (Nat.le_of_ble_eq_true rfl) rfl rfl rfl (fun v σ2 q => ?_)
    obtain ⟨rfl, e9⟩ := q
    rw [e9, X_in_N hg (by omega)]
    clear e9
    refine tn_if_eq (t := 34) (by omega) d_X_makePromise_19 (by decide) (fun c_19 => ?_) (fun c_19 => ?_)
    · exact absurd c_19 (by decide)
    · refine tt_iload d_X_makePromise_22 rfl ?_
      refine tn_if_lt (t := 34) (by omega) d_X_makePromise_24 (by decide) ?_
      refine tt_iload d_X_makePromise_27 rfl ?_
      refine tt_bipush (v := nI 9) d_X_makePromise_29 (by decide) ?_
      refine tn_ic_le (t := 36) (by omega) (by omega) d_X_makePromise_31 (by decide) (fun c_31 => ?_) (fun c_31 => ?_)
      · refine tt_aload_n d_X_makePromise_36 rfl ?_
        refine tt_getR d_X_makePromise_37 rfl rfl (by decide) rfl rfl ?_
        refine tt_getR d_X_makePromise_40 rfl rfl (by decide) rfl rfl ?_
        refine tt_iload_n d_X_makePromise_43 rfl ?_
        refine tn_iald d_X_makePromise_44 rfl (by decide) (by omega) (h.kd (by omega)) ?_
        refine tt_iconst (v := nI 2) d_X_makePromise_45 (by decide) ?_
        refine tn_ic_ne (t := 52) (by omega) (by omega) d_X_makePromise_46 (by decide) (fun c_46 => ?_) (fun c_46 => ?_)
        · refine tt_aload_n d_X_makePromise_52 rfl ?_
          refine tt_getR d_X_makePromise_53 rfl rfl (by decide) rfl rfl ?_
          refine tt_iload_n d_X_makePromise_56 rfl ?_
          refine tn_iald d_X_makePromise_57 rfl (by decide) (by omega) (hS.t2 (by omega)) ?_
          refine tn_if_ne (t := 64) (by omega) d_X_makePromise_58 (by decide) (fun c_58 => ?_) (fun c_58 => ?_)
          · rw [if_neg (by omega)]
            refine tt_aload_n d_X_makePromise_64 rfl ?_
            refine tt_getR d_X_makePromise_65 rfl rfl (by decide) rfl rfl ?_
            refine tt_iload_n d_X_makePromise_68 rfl ?_
            refine tt_iload_n d_X_makePromise_69 rfl ?_
            refine tn_iast d_X_makePromise_70 rfl (by decide) (by omega) ?_
            refine tt_aload_n d_X_makePromise_71 rfl ?_
            refine tt_getR d_X_makePromise_72 rfl rfl (by decide) rfl rfl ?_
            refine tt_iload_n d_X_makePromise_75 rfl ?_
            refine tt_iload d_X_makePromise_76 rfl ?_
            refine tn_iast d_X_makePromise_78 rfl (by decide) (by omega) ?_
            refine tt_aload_n d_X_makePromise_79 rfl ?_
            refine tt_aload_n d_X_makePromise_80 rfl ?_
            refine tt_getR d_X_makePromise_81 rfl rfl (by decide) rfl rfl ?_
            refine tn_get d_X_makePromise_84 rfl rfl (by decide) rfl h.n ?_
            refine tt_callV (x_promN (d := d) isS_30 ho.1 hvn (ST_w4 (ST_w3 (x := g + 1) hS))) cw_State_promised rfl rfl (by decide) rfl (by omega) d_X_makePromise_87 rfl rfl (Nat.le_of_ble_eq_true rfl) (Nat.le_of_ble_eq_true rfl) rfl rfl rfl (fun v σ2 q => ?_)
            obtain ⟨rfl, e9⟩ := q
            rw [e9]
            clear e9
            refine tt_callS (x_bitN (d := d) hpl) cw_Integer_bitCount rfl (by omega) d_X_makePromise_90 rfl rfl (Nat.le_of_ble_eq_true rfl) (Nat.le_of_ble_eq_true rfl) rfl rfl rfl (fun v σ2 q => ?_)
            obtain ⟨rfl, e9⟩ := q
            rw [e9]
            clear e9
            refine tt_iret rfl d_X_makePromise_93 ?_
            exact ⟨_, rfl, xq_w3 (xq_w3 h (by decide)) (by decide), ST_w4 (ST_w3 (x := g + 1) hS), ⟨rfl, rfl⟩⟩
          · rw [if_pos (Or.inr (by omega))]
            refine tt_bipush (v := (-4)) d_X_makePromise_61 (by decide) ?_
            refine tt_iret rfl d_X_makePromise_63 ?_
            exact ⟨_, rfl, h, hS, Tn.rf⟩
        · rw [if_pos (Or.inl (by omega))]
          refine tt_bipush (v := (-3)) d_X_makePromise_49 (by decide) ?_
          refine tt_iret rfl d_X_makePromise_51 ?_
          exact ⟨_, rfl, h, hS, Tn.rf⟩
      · omega

set_option maxHeartbeats 4000000 in
theorem xq_thT {l : xLa} {d : Nat} {σ τ : xs} {w : wv} {v : sv} (h : XQ w σ τ) (ho : okQ w) (hv : okV (wE w) v) (hS : ST τ 30 v) {k : Nat} (hk : k < eN (wE w)) : TC l M_X_turnHold (d + 10) [.ref 0, .ref 30, .int (nI k)] τ (fun r υ => ∃ x : Int32, r = some (.int x) ∧ XQ w σ υ ∧ ST υ 30 (ltV v k) ∧ Tn τ υ) := by
  show T l M_X_turnHold (d + 10) 0 _ [] τ _
  refine T_lv (lv2 := [_, _, _]) rfl ?_
  have hb0 := ho.fb
  have hb8 := ho.n8
  have hv7 := hv.2.2.2.2.2.2 k hk
  have hk3 := (ho.1.2.1 k (by omega)).1
  have hx := hx_lt hv.2.2.2.2.2.1 (show k < 8 by omega)
  refine tt_aload_n d_X_turnHold_0 rfl ?_
  refine tt_getR d_X_turnHold_1 rfl rfl (by decide) rfl rfl ?_
  refine tt_iload_n d_X_turnHold_4 rfl ?_
  refine tt_callV (x_School_has (d := d) h.n ho.n8) cw_School_has rfl rfl (by decide) rfl (by omega) d_X_turnHold_5 rfl rfl (Nat.le_of_ble_eq_true rfl) (Nat.le_of_ble_eq_true rfl) rfl rfl rfl (fun v σ2 q => ?_)
  obtain ⟨rfl, e9⟩ := q
  rw [e9, X_in_N hk (by omega)]
  clear e9
  refine tn_if_ne (t := 13) (by omega) d_X_turnHold_8 (by decide) (fun c_8 => ?_) (fun c_8 => ?_)
  · refine tt_aload_n d_X_turnHold_13 rfl ?_
    refine tt_dup d_X_turnHold_14 rfl ?_
    refine tn_get d_X_turnHold_15 rfl rfl (by decide) rfl (hS.1 5 (by decide)) ?_
    refine tt_iconst (v := nI 1) d_X_turnHold_18 (by decide) ?_
    refine tt_iload_n d_X_turnHold_19 rfl ?_
    refine tt_ishl d_X_turnHold_20 ?_
    refine tt_top (shl_9 _ (by omega)) ?_
    refine tt_ixor d_X_turnHold_21 ?_
    refine tt_top (xor_N _ _) ?_
    refine tt_putI d_X_turnHold_22 rfl rfl (by decide) rfl (xpok_int rfl) rfl ?_
    refine tt_aload_n d_X_turnHold_25 rfl ?_
    refine tn_get d_X_turnHold_26 rfl rfl (by decide) rfl (show _ = nI (v 0 5 ^^^ 2 ^ k) from rfl) ?_
    refine tt_callS (x_bitN (d := d) hx) cw_Integer_bitCount rfl (by omega) d_X_turnHold_29 rfl rfl (Nat.le_of_ble_eq_true rfl) (Nat.le_of_ble_eq_true rfl) rfl rfl rfl (fun v σ2 q => ?_)
    obtain ⟨rfl, e9⟩ := q
    rw [e9]
    clear e9
    refine tt_iret rfl d_X_turnHold_32 ?_
    exact ⟨_, rfl, h.f0 (Fq.wF (by unfold sF; omega)), ST_wF hS, ⟨rfl, rfl⟩⟩
  · exact absurd c_8 (by decide)

def daS (D : Int32 → Int32) (H : Int32 → Nat) (e : xe) (r : Int32) (v : sv) (wh : Nat) : Int32 × sv := if wh = 3 then (D r, ltV v (H (D r) % eN e)) else (D (D (D r)), prV e v (H (D r) % eN e) (H (D (D r)) % (eR e * eC e)) (H (D (D (D r))) % 4))
set_option maxHeartbeats 4000000 in
theorem xq_drawAct {l : xLa} {d : Nat} {σ τ : xs} {D : Int32 → Int32} {H : Int32 → Nat} (hHl : ∀ r, H r < 65536) (hND : ∀ {l : xLa} {d : Nat} {σ : xs} {r : Int32}, TE l M_X_nextDraw (d + 1) [.int r] σ (some (.int (D r))) σ) (hDN : ∀ {l : xLa} {d : Nat} {σ : xs} {r : Int32} {n : Nat}, 0 < n → n ≤ 100 → TE l M_X_drawn (d + 1) [.int r, .int (nI n)] σ (some (.int (nI (H r % n)))) σ) {w : wv} {v : sv} (h : XQ w σ τ) (ho : okQ w) (hv : okV (wE w) v) (hS : ST τ 30 v) {r : Int32} {wh : Nat} (hn : 0 < eN (wE w)) (hwh : wh = 2 ∨ wh = 3) : TC l M_X_drawAct (d + 14) [.ref 0, .int r, .int (nI wh)] τ (fun r1 υ => r1 = some (.int (daS D H (wE w) r v wh).1) ∧ XQ w σ υ ∧ ST υ 30 (daS D H (wE w) r v wh).2 ∧ Tn τ υ) := by
  show T l M_X_drawAct (d + 14) 0 _ [] τ _
  refine T_lv (lv2 := [_, _, _, _, _, _]) rfl ?_
  have hb0 := ho.fb
  have hb8 := ho.n8
  have m1 := Nat.mod_lt (H (D r)) hn
  have m0 := yr_pos (H := H) ho.1 (D (D r))
  have m2 := Nat.mod_lt (H (D (D (D r)))) (show 0 < 4 by decide)
  unfold daS
  refine tt_iload_n d_X_drawAct_0 rfl ?_
  refine tt_callS (hND (d := d)) cw_X_nextDraw rfl (by omega) d_X_drawAct_1 rfl rfl (Nat.le_of_ble_eq_true rfl) (Nat.le_of_ble_eq_true rfl) rfl rfl rfl (fun v σ2 q => ?_)
  obtain ⟨rfl, e9⟩ := q
  rw [e9]
  clear e9
  refine tt_istore_n (lv2 := [_, _, _, _, _, _]) d_X_drawAct_4 (by decide) rfl ?_
  refine tt_iload_n d_X_drawAct_5 rfl ?_
  refine tt_aload_n d_X_drawAct_6 rfl ?_
  refine tt_getR d_X_drawAct_7 rfl rfl (by decide) rfl rfl ?_
  refine tn_get d_X_drawAct_10 rfl rfl (by decide) rfl h.n ?_
  refine tt_callS (hDN (d := d) (by omega) (by omega)) cw_X_drawn rfl (by omega) d_X_drawAct_13 rfl rfl (Nat.le_of_ble_eq_true rfl) (Nat.le_of_ble_eq_true rfl) rfl rfl rfl (fun v σ2 q => ?_)
  obtain ⟨rfl, e9⟩ := q
  rw [e9]
  clear e9
  refine tt_istore (lv2 := [_, _, _, _, _, _]) d_X_drawAct_16 (by decide) rfl ?_
  refine tt_iload_n d_X_drawAct_18 rfl ?_
  refine tt_iconst (v := nI 3) d_X_drawAct_19 (by decide) ?_
  refine tn_ic_ne (t := 36) (by omega) (by omega) d_X_drawAct_20 (by decide) (fun c_20 => ?_) (fun c_20 => ?_)
  · rw [if_neg c_20]
    refine tt_iload_n d_X_drawAct_36 rfl ?_
    refine tt_callS (hND (d := d)) cw_X_nextDraw rfl (by omega) d_X_drawAct_37 rfl rfl (Nat.le_of_ble_eq_true rfl) (Nat.le_of_ble_eq_true rfl) rfl rfl rfl (fun v σ2 q => ?_)
    obtain ⟨rfl, e9⟩ := q
    rw [e9]
    clear e9
    refine tt_istore_n (lv2 := [_, _, _, _, _, _]) d_X_drawAct_40 (by decide) rfl ?_
    refine tt_iload_n d_X_drawAct_41 rfl ?_
    refine tt_aload_n d_X_drawAct_42 rfl ?_
    refine tt_getR d_X_drawAct_43 rfl rfl (by decide) rfl rfl ?_
    refine tt_callV (x_Lake_fields (d := d) h.r h.cl ho.1.1.2.1 ho.1.1.2.2.2.1 ho.cp) cw_Lake_fields rfl rfl (by decide) rfl (by omega) d_X_drawAct_46 rfl rfl (Nat.le_of_ble_eq_true rfl) (Nat.le_of_ble_eq_true rfl) rfl rfl rfl (fun v σ2 q => ?_)
    obtain ⟨rfl, e9⟩ := q
    rw [e9]
    clear e9
    refine tt_callS (hDN (d := d) (by omega) (by omega)) cw_X_drawn rfl (by omega) d_X_drawAct_49 rfl rfl (Nat.le_of_ble_eq_true rfl) (Nat.le_of_ble_eq_true rfl) rfl rfl rfl (fun v σ2 q => ?_)
    obtain ⟨rfl, e9⟩ := q
    rw [e9]
    clear e9
    refine tt_istore (lv2 := [_, _, _, _, _, _]) d_X_drawAct_52 (by decide) rfl ?_
    refine tt_iload_n d_X_drawAct_54 rfl ?_
    refine tt_callS (hND (d := d)) cw_X_nextDraw rfl (by omega) d_X_drawAct_55 rfl rfl (Nat.le_of_ble_eq_true rfl) (Nat.le_of_ble_eq_true rfl) rfl rfl rfl (fun v σ2 q => ?_)
    obtain ⟨rfl, e9⟩ := q
    rw [e9]
    clear e9
    refine tt_istore_n (lv2 := [_, _, _, _, _, _]) d_X_drawAct_58 (by decide) rfl ?_
    refine tt_aload_n d_X_drawAct_59 rfl ?_
    refine tt_aload_n d_X_drawAct_60 rfl ?_
    refine tt_getR d_X_drawAct_61 rfl rfl (by decide) rfl rfl ?_
    refine tt_iload d_X_drawAct_64 rfl ?_
    refine tt_iload d_X_drawAct_66 rfl ?_
    refine tt_iload_n d_X_drawAct_68 rfl ?_
    refine tt_iconst (v := nI 4) d_X_drawAct_69 (by decide) ?_
    refine tt_callS (hDN (d := d) (by omega) (by omega)) cw_X_drawn rfl (by omega) d_X_drawAct_70 rfl rfl (Nat.le_of_ble_eq_true rfl) (Nat.le_of_ble_eq_true rfl) rfl rfl rfl (fun v σ2 q => ?_)
    obtain ⟨rfl, e9⟩ := q
    rw [e9]
    clear e9
    refine tt_callV (xq_mkT (d := d) h ho hv hS m1 m0 (by omega)) cw_X_makePromise rfl rfl (by decide) rfl (by omega) d_X_drawAct_73 rfl rfl (Nat.le_of_ble_eq_true rfl) (Nat.le_of_ble_eq_true rfl) rfl rfl rfl (fun v σ2 q => ?_)
    obtain ⟨x0, rfl, h, hS, hu⟩ := q
    refine tt_pop d_X_drawAct_76 rfl ?_
    refine tt_iload_n d_X_drawAct_77 rfl ?_
    refine tt_iret rfl d_X_drawAct_78 ?_
    exact ⟨rfl, h, hS, hu⟩
  · rw [if_pos c_20]
    refine tt_aload_n d_X_drawAct_23 rfl ?_
    refine tt_aload_n d_X_drawAct_24 rfl ?_
    refine tt_getR d_X_drawAct_25 rfl rfl (by decide) rfl rfl ?_
    refine tt_iload d_X_drawAct_28 rfl ?_
    refine tt_callV (xq_thT (d := d) h ho hv hS m1) cw_X_turnHold rfl rfl (by decide) rfl (by omega) d_X_drawAct_30 rfl rfl (Nat.le_of_ble_eq_true rfl) (Nat.le_of_ble_eq_true rfl) rfl rfl rfl (fun v σ2 q => ?_)
    obtain ⟨x0, rfl, h, hS, hu⟩ := q
    refine tt_pop d_X_drawAct_33 rfl ?_
    refine tt_iload_n d_X_drawAct_34 rfl ?_
    refine tt_iret rfl d_X_drawAct_35 ?_
    exact ⟨rfl, h, hS, hu⟩

theorem yr_1 {D : Int32 → Int32} {H : Int32 → Nat} {e : xe} {p : Int32 × sv} (c : H (D p.1) % 4 < 2) : yrS D H e p = (D p.1, hrV e p.2) := if_pos c
theorem yr_2 {D : Int32 → Int32} {H : Int32 → Nat} {e : xe} {p : Int32 × sv} (c : ¬ H (D p.1) % 4 < 2) (c2 : eN e = 0) : yrS D H e p = (D p.1, p.2) := (if_neg c).trans (if_pos c2)
theorem yr_3 {D : Int32 → Int32} {H : Int32 → Nat} {e : xe} {p : Int32 × sv} (c : ¬ H (D p.1) % 4 < 2) (c2 : ¬ eN e = 0) : yrS D H e p = daS D H e (D p.1) p.2 (H (D p.1) % 4) := by
  refine (if_neg c).trans ((if_neg c2).trans ?_)
  have := Nat.mod_lt (H (D p.1)) (show 0 < 4 by decide)
  unfold daS
  by_cases q : H (D p.1) % 4 = 2
  · rw [if_pos q, if_neg (by omega)]
  · rw [if_neg q, if_pos (by omega)]
set_option maxHeartbeats 4000000 in
theorem x_years_l {l : xLa} {d : Nat} {σ : xs} {w : wv} {D : Int32 → Int32} {H : Int32 → Nat} (hHl : ∀ r, H r < 65536) (hND : ∀ {l : xLa} {d : Nat} {σ : xs} {r : Int32}, TE l M_X_nextDraw (d + 1) [.int r] σ (some (.int (D r))) σ) (hDN : ∀ {l : xLa} {d : Nat} {σ : xs} {r : Int32} {n : Nat}, 0 < n → n ≤ 100 → TE l M_X_drawn (d + 1) [.int r, .int (nI n)] σ (some (.int (nI (H r % n)))) σ) {s : Int32} {n : Nat} (hn : n ≤ 60) (ho : okQ w) : ∀ (m : Nat) (i : Nat) (z : Option Int32) (τ : xs), n - i = m → i ≤ n → XQ w σ τ → ST τ 30 (yrN D H (wE w) s (wV w) i).2 → T l M_X_years (d + 30) 29 [some (.ref 0), some (.int s), some (.int (nI n)), some (.int (yrN D H (wE w) s (wV w) i).1), some (.int (nI i)), z.map Value.int] [] τ (fun r τ => r = some (.int (nI ((yrN D H (wE w) s (wV w) n).2 0 0))) ∧ XW τ (stD w (some [(nI ((yrN D H (wE w) s (wV w) n).2 0 2) - nI (wV w 0 2)).toInt64, (nI ((yrN D H (wE w) s (wV w) n).2 0 3) - nI (wV w 0 3)).toInt64])) ∧ XF σ τ) := by
  have hb0 := ho.fb
  have hb8 := ho.n8
  intro m
  induction m using Nat.strongRecOn with
  | ind m ih =>
    intro i z τ hm hi h hS
    obtain ⟨y1, y2⟩ := ok_yrN (s := s) ho.1 ho.2.1 (by have := ho.2.2; omega) i (by omega)
    have y3 := ho.2.2
    have m4 := Nat.mod_lt (H (D (yrN D H (wE w) s (wV w) i).1)) (show 0 < 4 by decide)
    refine tt_iload d_X_years_29 rfl ?_
    refine tt_iload_n d_X_years_31 rfl ?_
    refine tn_ic_ge (t := 96) (by omega) (by omega) d_X_years_32 (by decide) (fun c_32 => ?_) (fun c_32 => ?_)
    · obtain rfl : i = n := by omega
      refine tt_aload_n d_X_years_96 rfl ?_
      refine tt_getR d_X_years_97 rfl rfl (by decide) rfl rfl ?_
      refine tt_callV (xq_start (d := d) h) cw_Told_start rfl rfl (by decide) rfl (by omega) d_X_years_100 rfl rfl (Nat.le_of_ble_eq_true rfl) (Nat.le_of_ble_eq_true rfl) rfl rfl rfl (fun v σ2 q => ?_)
      obtain ⟨rfl, h, hd, hf⟩ := q
      replace hS := hf.st hS (by decide)
      refine tt_aload_n d_X_years_103 rfl ?_
      refine tt_getR d_X_years_104 rfl rfl (by decide) rfl rfl ?_
      refine tt_aload_n d_X_years_107 rfl ?_
      refine tt_getR d_X_years_108 rfl rfl (by decide) rfl rfl ?_
      refine tn_get d_X_years_111 rfl rfl (by decide) rfl (hS.1 2 (by decide)) ?_
      refine tt_aload_n d_X_years_114 rfl ?_
      refine tt_getR d_X_years_115 rfl rfl (by decide) rfl rfl ?_
      refine tn_get d_X_years_118 rfl rfl (by decide) rfl (h.v 2 (by decide)) ?_
      refine tt_isub d_X_years_121 ?_
      refine tt_i2l d_X_years_122 ?_
      refine tt_callV (xq_add (d := d) h hd (Nat.le_of_ble_eq_true rfl)) cw_Told_add rfl rfl (by decide) rfl (by omega) d_X_years_123 rfl rfl (Nat.le_of_ble_eq_true rfl) (Nat.le_of_ble_eq_true rfl) rfl rfl rfl (fun v σ2 q => ?_)
      obtain ⟨rfl, h, hd, hf⟩ := q
      replace hS := hf.st hS (by decide)
      refine tt_aload_n d_X_years_126 rfl ?_
      refine tt_getR d_X_years_127 rfl rfl (by decide) rfl rfl ?_
      refine tt_aload_n d_X_years_130 rfl ?_
      refine tt_getR d_X_years_131 rfl rfl (by decide) rfl rfl ?_
      refine tn_get d_X_years_134 rfl rfl (by decide) rfl (hS.1 3 (by decide)) ?_
      refine tt_aload_n d_X_years_137 rfl ?_
      refine tt_getR d_X_years_138 rfl rfl (by decide) rfl rfl ?_
      refine tn_get d_X_years_141 rfl rfl (by decide) rfl (h.v 3 (by decide)) ?_
      refine tt_isub d_X_years_144 ?_
      refine tt_i2l d_X_years_145 ?_
      refine tt_callV (xq_add (d := d) h hd (Nat.le_of_ble_eq_true rfl)) cw_Told_add rfl rfl (by decide) rfl (by omega) d_X_years_146 rfl rfl (Nat.le_of_ble_eq_true rfl) (Nat.le_of_ble_eq_true rfl) rfl rfl rfl (fun v σ2 q => ?_)
      obtain ⟨rfl, h, hd, hf⟩ := q
      replace hS := hf.st hS (by decide)
      refine tt_aload_n d_X_years_149 rfl ?_
      refine tt_getR d_X_years_150 rfl rfl (by decide) rfl rfl ?_
      refine tn_get d_X_years_153 rfl rfl (by decide) rfl (hS.1 0 (by decide)) ?_
      refine tt_iret rfl d_X_years_156 ?_
      exact ⟨rfl, h.done hd, h.2.1⟩
    · refine tt_iload_n d_X_years_35 rfl ?_
      refine tt_callS (hND (d := d)) cw_X_nextDraw rfl (by omega) d_X_years_36 rfl rfl (Nat.le_of_ble_eq_true rfl) (Nat.le_of_ble_eq_true rfl) rfl rfl rfl (fun v σ2 q => ?_)
      obtain ⟨rfl, e9⟩ := q
      rw [e9]
      clear e9
      refine tt_istore_n (lv2 := [_, _, _, _, _, _]) d_X_years_39 (by decide) rfl ?_
      refine tt_iload_n d_X_years_40 rfl ?_
      refine tt_iconst (v := nI 4) d_X_years_41 (by decide) ?_
      refine tt_callS (hDN (d := d) (by omega) (by omega)) cw_X_drawn rfl (by omega) d_X_years_42 rfl rfl (Nat.le_of_ble_eq_true rfl) (Nat.le_of_ble_eq_true rfl) rfl rfl rfl (fun v σ2 q => ?_)
      obtain ⟨rfl, e9⟩ := q
      rw [e9]
      clear e9
      refine tt_istore (lv2 := [_, _, _, _, _, _]) d_X_years_45 (by decide) rfl ?_
      refine tt_iload d_X_years_47 rfl ?_
      refine tt_iconst (v := nI 2) d_X_years_49 (by decide) ?_
      refine tn_ic_ge (t := 72) (by omega) (by omega) d_X_years_50 (by decide) (fun c_50 => ?_) (fun c_50 => ?_)
      · refine tt_aload_n d_X_years_72 rfl ?_
        refine tt_getR d_X_years_73 rfl rfl (by decide) rfl rfl ?_
        refine tn_get d_X_years_76 rfl rfl (by decide) rfl h.n ?_
        refine tn_if_le (t := 90) (by omega) d_X_years_79 (by decide) (fun c_79 => ?_) (fun c_79 => ?_)
        · refine tt_iinc (lv2 := [_, _, _, _, _, _]) d_X_years_90 rfl (nI_inc _ 1) (by decide) rfl ?_
          refine tt_goto (t := 29) d_X_years_93 (by decide) ?_
          have hz : yrN D H (wE w) s (wV w) (i + 1) = _ := yr_2 (by omega) (by omega)
          have h1 := congrArg Prod.fst hz
          have h2 := congrArg Prod.snd hz
          try dsimp only at h1
          try dsimp only at h2
          rw [← h1]
          rw [← h2] at hS
          exact ih (n - (i + 1)) (by omega) (i + 1) (some _) _ rfl (by omega) h hS
        · refine tt_aload_n d_X_years_82 rfl ?_
          refine tt_iload_n d_X_years_83 rfl ?_
          refine tt_iload d_X_years_84 rfl ?_
          refine tt_callV (xq_drawAct (d := d) hHl hND hDN h ho y1 hS (by omega) (by omega)) cw_X_drawAct rfl rfl (by decide) rfl (by omega) d_X_years_86 rfl rfl (Nat.le_of_ble_eq_true rfl) (Nat.le_of_ble_eq_true rfl) rfl rfl rfl (fun v σ2 q => ?_)
          obtain ⟨rfl, h, hS, hu⟩ := q
          refine tt_istore_n (lv2 := [_, _, _, _, _, _]) d_X_years_89 (by decide) rfl ?_
          refine tt_iinc (lv2 := [_, _, _, _, _, _]) d_X_years_90 rfl (nI_inc _ 1) (by decide) rfl ?_
          refine tt_goto (t := 29) d_X_years_93 (by decide) ?_
          have hz : yrN D H (wE w) s (wV w) (i + 1) = _ := yr_3 (by omega) (by omega)
          have h1 := congrArg Prod.fst hz
          have h2 := congrArg Prod.snd hz
          try dsimp only at h1
          try dsimp only at h2
          rw [← h1]
          rw [← h2] at hS
          exact ih (n - (i + 1)) (by omega) (i + 1) (some _) _ rfl (by omega) h hS
      · refine tt_aload_n d_X_years_53 rfl ?_
        refine tt_getR d_X_years_54 rfl rfl (by decide) rfl rfl ?_
        refine tt_aload_n d_X_years_57 rfl ?_
        refine tt_getR d_X_years_58 rfl rfl (by decide) rfl rfl ?_
        refine tt_aload_n d_X_years_61 rfl ?_
        refine tt_getP d_X_years_62 rfl ?_
        refine tt_iconst (v := nI 1) d_X_years_65 (by decide) ?_
        refine tt_callV (xq_hrs (d := d) (n := 1) h ho y1 hS (by omega)) cw_Trip_pass rfl rfl (by decide) rfl (by omega) d_X_years_66 rfl rfl (Nat.le_of_ble_eq_true rfl) (Nat.le_of_ble_eq_true rfl) rfl rfl rfl (fun v σ2 q => ?_)
        obtain ⟨rfl, h, hS, hT, hu⟩ := q
        replace hS : ST _ 30 (hrV (wE w) (yrN D H (wE w) s (wV w) i).2) := hS
        refine tt_goto (t := 90) d_X_years_69 (by decide) ?_
        refine tt_iinc (lv2 := [_, _, _, _, _, _]) d_X_years_90 rfl (nI_inc _ 1) (by decide) rfl ?_
        refine tt_goto (t := 29) d_X_years_93 (by decide) ?_
        have hz : yrN D H (wE w) s (wV w) (i + 1) = _ := yr_1 c_50
        have h1 := congrArg Prod.fst hz
        have h2 := congrArg Prod.snd hz
        try dsimp only at h1
        try dsimp only at h2
        rw [← h1]
        rw [← h2] at hS
        exact ih (n - (i + 1)) (by omega) (i + 1) (some _) _ rfl (by omega) h hS

set_option maxHeartbeats 4000000 in
theorem xc_years0 {l : xLa} {d : Nat} {σ : xs} {w : wv} (ho : okQ w) (hw : XW σ w) {D : Int32 → Int32} {H : Int32 → Nat} (hHl : ∀ r, H r < 65536) (hND : ∀ {l : xLa} {d : Nat} {σ : xs} {r : Int32}, TE l M_X_nextDraw (d + 1) [.int r] σ (some (.int (D r))) σ) (hDN : ∀ {l : xLa} {d : Nat} {σ : xs} {r : Int32} {n : Nat}, 0 < n → n ≤ 100 → TE l M_X_drawn (d + 1) [.int r, .int (nI n)] σ (some (.int (nI (H r % n)))) σ) {s n : Int32} : TC l M_X_years (d + 30) [.ref 0, .int s, .int n] σ (fun r τ => r = some (.int ((q_yrs D H w s n).1)) ∧ XW τ (stD w ((q_yrs D H w s n).2)) ∧ XF σ τ) := by
  show T l M_X_years (d + 30) 0 _ [] σ _
  refine T_lv (lv2 := [_, _, _, _, _, _]) rfl ?_
  have h := XQ.rf hw.v
  have hd0 := hw.2.2.2.1
  have hb0 := ho.fb
  have hb8 := ho.n8
  rcases rgN_c n 1 60 with ⟨m, hm1, hm2, hm3, rfl, hq⟩ | ⟨hq, hb⟩
  · have hqv : q_yrs D H w s (nI m) = (nI ((yrN D H (wE w) s (wV w) m).2 0 0), some [(nI ((yrN D H (wE w) s (wV w) m).2 0 2) - nI (wV w 0 2)).toInt64, (nI ((yrN D H (wE w) s (wV w) m).2 0 3) - nI (wV w 0 3)).toInt64]) := by unfold q_yrs; rw [hq]
    rw [hqv]
    refine tt_iload_n d_X_years_0 rfl ?_
    refine tt_iconst (v := nI 1) d_X_years_1 (by decide) ?_
    refine tn_ic_lt (t := 11) (by omega) (by omega) d_X_years_2 (by decide) (fun c_2 => ?_) (fun c_2 => ?_)
    · omega
    · refine tt_iload_n d_X_years_5 rfl ?_
      refine tt_bipush (v := nI 60) d_X_years_6 (by decide) ?_
      refine tn_ic_le (t := 13) (by omega) (by omega) d_X_years_8 (by decide) (fun c_8 => ?_) (fun c_8 => ?_)
      · refine tt_aload_n d_X_years_13 rfl ?_
        refine tt_getR d_X_years_14 rfl rfl (by decide) rfl rfl ?_
        refine tt_aload_n d_X_years_17 rfl ?_
        refine tt_getR d_X_years_18 rfl rfl (by decide) rfl rfl ?_
        refine tt_callV (xq_copy (d := d) h) cw_State_copy rfl rfl (by decide) rfl (by omega) d_X_years_21 rfl rfl (Nat.le_of_ble_eq_true rfl) (Nat.le_of_ble_eq_true rfl) rfl rfl rfl (fun v σ2 q => ?_)
        obtain ⟨rfl, h, hS, hu⟩ := q
        replace hd0 := hd0.tn hu
        refine tt_iload_n d_X_years_24 rfl ?_
        refine tt_istore_n (lv2 := [_, _, _, _, _, _]) d_X_years_25 (by decide) rfl ?_
        refine tt_iconst (v := nI 0) d_X_years_26 (by decide) ?_
        refine tt_istore (lv2 := [_, _, _, _, _, _]) d_X_years_27 (by decide) rfl ?_
        exact x_years_l hHl hND hDN hm2 ho m 0 none _ rfl (by omega) h hS
      · omega
  · have hqv : q_yrs D H w s n = (-1, none) := by unfold q_yrs; rw [hq]
    rw [hqv]
    refine tt_iload_n d_X_years_0 rfl ?_
    refine tt_iconst (v := nI 1) d_X_years_1 (by decide) ?_
    refine tt_ic_lt (t := 11) d_X_years_2 (by decide) (fun c_2 => ?_) (fun c_2 => ?_)
    · refine tt_iconst (v := (-1)) d_X_years_11 (by decide) ?_
      refine tt_iret rfl d_X_years_12 ?_
      exact ⟨rfl, h.none hd0, h.2.1⟩
    · refine tt_iload_n d_X_years_5 rfl ?_
      refine tt_bipush (v := nI 60) d_X_years_6 (by decide) ?_
      refine tt_ic_le (t := 13) d_X_years_8 (by decide) (fun c_8 => ?_) (fun c_8 => ?_)
      · exact (rg_f (a := 1) (b := 60) (by decide) (by decide) hb c_2 c_8).elim
      · refine tt_iconst (v := (-1)) d_X_years_11 (by decide) ?_
        refine tt_iret rfl d_X_years_12 ?_
        exact ⟨rfl, h.none hd0, h.2.1⟩

theorem TY_si {σ τ : xs} {u : sv} (h : TY σ u) (hs : sf τ = sf σ) : TY τ u := by unfold TY; rw [hs]; exact h
theorem TY_51 {σ : xs} {u : sv} {x : Int32} (h : TY σ u) : TY (wF σ 154 51 x) u := h
theorem yq_51 {c : Nat} {σ τ : xs} {w : wv} {x : Int32} (h : YQ c w σ τ) : YQ c w σ (wF τ 154 51 x) := h.fq (Fq.wF (by unfold YqF; omega))
theorem yq_161 {c : Nat} {σ τ : xs} {w : wv} {i : Nat} {x : Int32} (h : YQ c w σ τ) : YQ c w σ (wI τ 161 i x) := h.fq (Fq.wI (by unfold YqA; omega))
theorem hr51 {c : Nat} {σ τ : xs} {w : wv} {x : Int32} (_ : YQ c w σ (wF τ 154 51 x)) : sf (wF τ 154 51 x) 154 51 = x := rfl
theorem hr161 {c i : Nat} {σ τ : xs} {w : wv} {x r : Int32} (_ : YQ c w σ (wI τ 161 i x)) (h : sf τ 154 51 = r) : sf (wI τ 161 i x) 154 51 = r := h
theorem TY161 {c i k : Nat} {σ τ : xs} {w : wv} {x : Int32} {u : sv} (_ : YQ c w σ (wI τ 161 i x)) (h : TY τ u) : TY (wI τ 161 i x) (ltV u k) := h
theorem SYlt {σ : xs} {b n k : Nat} {u : sv} (h : SY σ b n (upv u 0 5 (u 0 5 ^^^ 2 ^ k))) : SY σ b n (ltV u k) := h
theorem SY_51 {σ : xs} {b n : Nat} {u : sv} {x : Int32} (h : SY σ b n u) : SY (wF σ 154 51 x) b n u := h
set_option maxHeartbeats 4000000 in
theorem yq_prT {l : xLa} {d c : Nat} {σ τ : xs} {w : wv} {v : sv} (h : YQ c w σ τ) (ho : okQ w) (hv : okV (wE w) v) (hS : SY τ 161 (eN (wE w)) v) {k g z : Nat} (hk : k < eN (wE w)) (hg : g < eR (wE w) * eC (wE w)) (hz : z ≤ 9) : TC l M_Y_promises (d + 10) [.ref 154, .ref 161, .int (nI k), .int (nI g), .int (nI z)] τ (fun r υ => ∃ x : Int32, r = some (.int x) ∧ YQ c w σ υ ∧ SY υ 161 (eN (wE w)) (prV (wE w) v k g z) ∧ sf υ = sf τ ∧ sj υ = sj τ) := by
  show T l M_Y_promises (d + 10) 0 _ [] τ _
  refine T_lv (lv2 := [_, _, _, _, _]) rfl ?_
  have hb0 := ho.fb
  have hb8 := ho.n8
  have hv7 := hv.2.2.2.2.2.2 k hk
  have hk3 := (ho.1.2.1 k (by omega)).1
  have hvn : okV (wE w) (pvV v k g z) := ok_4 (ok_3 hv (by omega)) (by omega)
  have hpl := prN_lt (pvV v k g z) hb8
  unfold prV
  refine tt_aload_n d_Y_promises_0 rfl ?_
  refine tt_iload_n d_Y_promises_1 rfl ?_
  refine tt_callV (y_isFish (d := d) h.e.1.2.2.1 ho.n8) cw_Y_isFish rfl rfl (by decide) rfl (by omega) d_Y_promises_2 rfl rfl (Nat.le_of_ble_eq_true rfl) (Nat.le_of_ble_eq_true rfl) rfl rfl rfl (fun v σ2 q => ?_)
  obtain ⟨rfl, e9⟩ := q
  rw [e9, X_in_N hk (by omega)]
  clear e9
  refine tn_if_eq (t := 29) (by omega) d_Y_promises_5 (by decide) (fun c_5 => ?_) (fun c_5 => ?_)
  · exact absurd c_5 (by decide)
  · refine tt_aload_n d_Y_promises_8 rfl ?_
    refine tt_iload_n d_Y_promises_9 rfl ?_
    refine tt_callV (y_isField (d := d) h.e.1.1 h.e.1.2.1 ho.1.1.2.1 ho.1.1.2.2.2.1 ho.cp) cw_Y_isField rfl rfl (by decide) rfl (by omega) d_Y_promises_10 rfl rfl (Nat.le_of_ble_eq_true rfl) (Nat.le_of_ble_eq_true rfl) rfl rfl rfl (fun v σ2 q => ?_)
    obtain ⟨rfl, e9⟩ := q
    rw [e9, X_in_N hg (by omega)]
    clear e9
    refine tn_if_eq (t := 29) (by omega) d_Y_promises_13 (by decide) (fun c_13 => ?_) (fun c_13 => ?_)
    · exact absurd c_13 (by decide)
    · refine tt_iload d_Y_promises_16 rfl ?_
      refine tt_i2l d_Y_promises_18 ?_
      refine tt_lconst (v := 0) d_Y_promises_19 (by decide) ?_
      refine tt_ldc2_w d_Y_promises_20 rfl ?_
      refine tt_callS (y_in (d := d)) cw_Y_in rfl (by omega) d_Y_promises_23 rfl rfl (Nat.le_of_ble_eq_true rfl) (Nat.le_of_ble_eq_true rfl) rfl rfl rfl (fun v σ2 q => ?_)
      obtain ⟨rfl, e9⟩ := q
      rw [e9, show Yin (nI z).toInt64 0 9 = nI 1 from Yin_t (a := 0) (b := 9) rfl rfl (by omega) (by omega) (by decide)]
      clear e9
      refine tn_if_ne (t := 31) (by omega) d_Y_promises_26 (by decide) (fun c_26 => ?_) (fun c_26 => ?_)
      · refine tt_aload_n d_Y_promises_31 rfl ?_
        refine tt_getR d_Y_promises_32 rfl rfl (by decide) rfl rfl ?_
        refine tt_iload_n d_Y_promises_35 rfl ?_
        refine tn_iald d_Y_promises_36 rfl (by decide) (by omega) ((h.e.2.1 _ (by omega)).1) ?_
        refine tt_iconst (v := nI 2) d_Y_promises_37 (by decide) ?_
        refine tn_ic_ne (t := 44) (by omega) (by omega) d_Y_promises_38 (by decide) (fun c_38 => ?_) (fun c_38 => ?_)
        · refine tt_aload_n d_Y_promises_44 rfl ?_
          refine tt_bipush (v := nI 9) d_Y_promises_45 (by decide) ?_
          refine tt_iload_n d_Y_promises_47 rfl ?_
          refine tn_iadd d_Y_promises_48 ?_
          refine tn_iald d_Y_promises_49 rfl (by decide) (by omega) ((hS.2 _ (by omega)).2.1) ?_
          refine tn_if_ne (t := 56) (by omega) d_Y_promises_50 (by decide) (fun c_50 => ?_) (fun c_50 => ?_)
          · rw [if_neg (by omega)]
            refine tt_aload_n d_Y_promises_56 rfl ?_
            refine tt_bipush (v := nI 17) d_Y_promises_57 (by decide) ?_
            refine tt_iload_n d_Y_promises_59 rfl ?_
            refine tn_iadd d_Y_promises_60 ?_
            refine tt_iload_n d_Y_promises_61 rfl ?_
            refine tn_iast d_Y_promises_62 rfl (by decide) (by omega) ?_
            refine tt_aload_n d_Y_promises_63 rfl ?_
            refine tt_bipush (v := nI 25) d_Y_promises_64 (by decide) ?_
            refine tt_iload_n d_Y_promises_66 rfl ?_
            refine tn_iadd d_Y_promises_67 ?_
            refine tt_iload d_Y_promises_68 rfl ?_
            refine tn_iast d_Y_promises_70 rfl (by decide) (by omega) ?_
            refine tt_aload_n d_Y_promises_71 rfl ?_
            refine tt_aload_n d_Y_promises_72 rfl ?_
            refine tt_callV (y_promN (d := d) isY_161 ho.1 hvn h.e.1.2.2.1 (SY_34 hS (by omega) hb8)) cw_Y_promised rfl rfl (by decide) rfl (by omega) d_Y_promises_73 rfl rfl (Nat.le_of_ble_eq_true rfl) (Nat.le_of_ble_eq_true rfl) rfl rfl rfl (fun v σ2 q => ?_)
            obtain ⟨rfl, e9⟩ := q
            rw [e9]
            clear e9
            refine tt_callS (x_bitN (d := d) hpl) cw_Integer_bitCount rfl (by omega) d_Y_promises_76 rfl rfl (Nat.le_of_ble_eq_true rfl) (Nat.le_of_ble_eq_true rfl) rfl rfl rfl (fun v σ2 q => ?_)
            obtain ⟨rfl, e9⟩ := q
            rw [e9]
            clear e9
            refine tt_iret rfl d_Y_promises_79 ?_
            exact ⟨_, rfl, yq_161 (yq_161 h), SY_34 hS (by omega) hb8, rfl, rfl⟩
          · rw [if_pos (Or.inr (by omega))]
            refine tt_bipush (v := (-4)) d_Y_promises_53 (by decide) ?_
            refine tt_iret rfl d_Y_promises_55 ?_
            exact ⟨_, rfl, h, hS, rfl, rfl⟩
        · rw [if_pos (Or.inl (by omega))]
          refine tt_bipush (v := (-3)) d_Y_promises_41 (by decide) ?_
          refine tt_iret rfl d_Y_promises_43 ?_
          exact ⟨_, rfl, h, hS, rfl, rfl⟩
      · exact absurd c_26 (by decide)

theorem TY_prV {σ : xs} {e : xe} {u : sv} {b n k g z : Nat} (_ : SY σ b n (prV e u k g z)) (h : TY σ u) : TY σ (prV e u k g z) := by
  unfold prV
  split
  · exact h
  · exact h
set_option maxHeartbeats 4000000 in
theorem y_years_l {l : xLa} {d : Nat} {σ : xs} {c : Nat} {w : wv} {D : Int32 → Int32} {H : Int32 → Nat} (hHl : ∀ r, H r < 65536) (hYD : ∀ {l : xLa} {d : Nat} {σ : xs} {r : Int32} {n : Nat}, sf σ 154 51 = r → 0 < n → n ≤ 100 → TE l M_Y_draws (d + 1) [.ref 154, .int (nI n)] σ (some (.int (nI (H (D r) % n)))) (wF σ 154 51 (D r))) {s : Int32} {n : Nat} (hn : n ≤ 60) (hp : ptN (wE w) (wV w) + 100 < 999) (ho : okQ w) : ∀ (m : Nat) (i : Nat) (zw zk zf : Option Int32) (τ : xs), n - i = m → i ≤ n → YQ c w σ τ → sf τ 154 51 = (yrN D H (wE w) s (z5V (wV w)) i).1 → SY τ 161 (eN (wE w)) (yrN D H (wE w) s (z5V (wV w)) i).2 → TY τ (yrN D H (wE w) s (z5V (wV w)) i).2 → T l M_Y_years (d + 150) 39 [some (.ref 154), some (.int s), some (.int (nI n)), some (.int (nI i)), zw.map Value.int, zk.map Value.int, zf.map Value.int] [] τ (fun r τ => r = some (.int (nI ((yrN D H (wE w) s (wV w) n).2 0 0))) ∧ YW τ c (stD w (some [(nI ((yrN D H (wE w) s (wV w) n).2 0 2) - nI (wV w 0 2)).toInt64, (nI ((yrN D H (wE w) s (wV w) n).2 0 3) - nI (wV w 0 3)).toInt64])) ∧ YF σ τ) := by
  have hb0 := ho.fb
  have hb8 := ho.n8
  intro m
  induction m using Nat.strongRecOn with
  | ind m ih =>
    intro i zw zk zf τ hm hi h hr hS hT
    obtain ⟨y1, y2⟩ := ok_yrN (v := z5V (wV w)) (s := s) ho.1 (z5_e5.sy.ok ho.2.1) (by have := ho.2.2; show wV w 0 4 + 100 < _; omega) i (by omega)
    have y3 : (yrN D H (wE w) s (z5V (wV w)) i).2 0 4 ≤ wV w 0 4 + i := y2
    have y4 := ho.2.2
    have m4 := Nat.mod_lt (H (D (yrN D H (wE w) s (z5V (wV w)) i).1)) (show 0 < 4 by decide)
    have m0 := yr_pos (H := H) ho.1 (D (D (D (yrN D H (wE w) s (z5V (wV w)) i).1)))
    have m2 := Nat.mod_lt (H (D (D (D (D (yrN D H (wE w) s (z5V (wV w)) i).1))))) (show 0 < 4 by decide)
    have m1 := fun (q : 0 < eN (wE w)) => Nat.mod_lt (H (D (D (yrN D H (wE w) s (z5V (wV w)) i).1))) q
    have hfp : 0 < eR (wE w) * eC (wE w) := by omega
    refine tt_iload_n d_Y_years_39 rfl ?_
    refine tt_iload_n d_Y_years_40 rfl ?_
    refine tn_ic_ge (t := 139) (by omega) (by omega) d_Y_years_41 (by decide) (fun c_41 => ?_) (fun c_41 => ?_)
    · obtain rfl : i = n := by omega
      obtain ⟨k0, k1, k2⟩ := ct_yrN (D := D) (H := H) (e := wE w) (v := wV w) (s := s) hp i (by omega)
      have k5 := (e5_yrN (D := D) (H := H) (e := wE w) (s := s) (z5_e5 (v := wV w)) i).2
      have f0 : (yrN D H (wE w) s (wV w) i).2 0 0 = (yrN D H (wE w) s (z5V (wV w)) i).2 0 0 := (k5 0 0 (by decide)).symm
      have f2 : nI ((yrN D H (wE w) s (wV w) i).2 0 2) - nI (wV w 0 2) = nI ((yrN D H (wE w) s (z5V (wV w)) i).2 5 0) := by rw [← k5 0 2 (by decide), k1, pk_sub (by omega), Nat.add_sub_cancel_left]
      have f3 : nI ((yrN D H (wE w) s (wV w) i).2 0 3) - nI (wV w 0 3) = nI ((yrN D H (wE w) s (z5V (wV w)) i).2 5 1) := by rw [← k5 0 3 (by decide), k2, pk_sub (by omega), Nat.add_sub_cancel_left]
      rw [f0, f2, f3]
      refine tt_aload_n d_Y_years_139 rfl ?_
      refine tt_iconst (v := nI 0) d_Y_years_140 (by decide) ?_
      refine tt_putI d_Y_years_141 rfl rfl (by decide) rfl (xpok_int rfl) rfl ?_
      replace h := h.td0
      have hd := YD_0t h
      replace hS := SY_0t h hS
      replace hT := TY_0t h hT
      refine tt_aload_n d_Y_years_144 rfl ?_
      refine tt_aload_n d_Y_years_145 rfl ?_
      refine tn_get d_Y_years_146 rfl rfl (by decide) rfl hT.1 ?_
      refine tt_i2l d_Y_years_149 ?_
      refine tt_callV (yq_add (d := d) h hd (Nat.le_of_ble_eq_true rfl)) cw_Y_enters rfl rfl (by decide) rfl (by omega) d_Y_years_150 rfl rfl (Nat.le_of_ble_eq_true rfl) (Nat.le_of_ble_eq_true rfl) rfl rfl rfl (fun v σ2 q => ?_)
      obtain ⟨rfl, h, hd, hf⟩ := q
      replace hS := hf.sy hS
      replace hT := hf.ty hT
      refine tt_aload_n d_Y_years_153 rfl ?_
      refine tt_aload_n d_Y_years_154 rfl ?_
      refine tn_get d_Y_years_155 rfl rfl (by decide) rfl hT.2.1 ?_
      refine tt_i2l d_Y_years_158 ?_
      refine tt_callV (yq_add (d := d) h hd (Nat.le_of_ble_eq_true rfl)) cw_Y_enters rfl rfl (by decide) rfl (by omega) d_Y_years_159 rfl rfl (Nat.le_of_ble_eq_true rfl) (Nat.le_of_ble_eq_true rfl) rfl rfl rfl (fun v σ2 q => ?_)
      obtain ⟨rfl, h, hd, hf⟩ := q
      replace hS := hf.sy hS
      refine tt_aload_n d_Y_years_162 rfl ?_
      refine tt_getR d_Y_years_163 rfl rfl (by decide) rfl rfl ?_
      refine tt_iconst (v := nI 0) d_Y_years_166 (by decide) ?_
      refine tn_iald d_Y_years_167 rfl (by decide) (by omega) (hS.1.1) ?_
      refine tt_iret rfl d_Y_years_168 ?_
      exact ⟨rfl, h.done hd, h.2⟩
    · refine tt_aload_n d_Y_years_44 rfl ?_
      refine tt_iconst (v := nI 4) d_Y_years_45 (by decide) ?_
      refine tt_callV (hYD (d := d) hr (by omega) (by omega)) cw_Y_draws rfl rfl (by decide) rfl (by omega) d_Y_years_46 rfl rfl (Nat.le_of_ble_eq_true rfl) (Nat.le_of_ble_eq_true rfl) rfl rfl rfl (fun v σ2 q => ?_)
      obtain ⟨rfl, e9⟩ := q
      rw [e9]
      clear e9
      replace h := yq_51 (x := D ((yrN D H (wE w) s (z5V (wV w)) i).1)) h
      replace hS := SY_51 (x := D ((yrN D H (wE w) s (z5V (wV w)) i).1)) hS
      replace hT := TY_51 (x := D ((yrN D H (wE w) s (z5V (wV w)) i).1)) hT
      replace hr := hr51 h
      refine tt_istore (lv2 := [_, _, _, _, _, _, _]) d_Y_years_49 (by decide) rfl ?_
      refine tt_iload d_Y_years_51 rfl ?_
      refine tt_iconst (v := nI 2) d_Y_years_53 (by decide) ?_
      refine tn_ic_ge (t := 68) (by omega) (by omega) d_Y_years_54 (by decide) (fun c_54 => ?_) (fun c_54 => ?_)
      · refine tt_aload_n d_Y_years_68 rfl ?_
        refine tn_get d_Y_years_69 rfl rfl (by decide) rfl h.e.1.2.2.1 ?_
        refine tn_if_le (t := 133) (by omega) d_Y_years_72 (by decide) (fun c_72 => ?_) (fun c_72 => ?_)
        · refine tt_iinc (lv2 := [_, _, _, _, _, _, _]) d_Y_years_133 rfl (nI_inc _ 1) (by decide) rfl ?_
          refine tt_goto (t := 39) d_Y_years_136 (by decide) ?_
          have hz : yrN D H (wE w) s (z5V (wV w)) (i + 1) = _ := yr_2 (by omega) (by omega)
          have h1 := congrArg Prod.fst hz
          have h2 := congrArg Prod.snd hz
          try dsimp only at h1
          try dsimp only at h2
          replace hr := hr.trans h1.symm
          rw [← h2] at hS hT
          exact ih (n - (i + 1)) (by omega) (i + 1) (some _) zk zf _ rfl (by omega) h hr hS hT
        · refine tt_aload_n d_Y_years_75 rfl ?_
          refine tt_aload_n d_Y_years_76 rfl ?_
          refine tn_get d_Y_years_77 rfl rfl (by decide) rfl h.e.1.2.2.1 ?_
          refine tt_callV (hYD (d := d) hr (by omega) (by omega)) cw_Y_draws rfl rfl (by decide) rfl (by omega) d_Y_years_80 rfl rfl (Nat.le_of_ble_eq_true rfl) (Nat.le_of_ble_eq_true rfl) rfl rfl rfl (fun v σ2 q => ?_)
          obtain ⟨rfl, e9⟩ := q
          rw [e9]
          clear e9
          replace h := yq_51 (x := D (D ((yrN D H (wE w) s (z5V (wV w)) i).1))) h
          replace hS := SY_51 (x := D (D ((yrN D H (wE w) s (z5V (wV w)) i).1))) hS
          replace hT := TY_51 (x := D (D ((yrN D H (wE w) s (z5V (wV w)) i).1))) hT
          replace hr := hr51 h
          refine tt_istore (lv2 := [_, _, _, _, _, _, _]) d_Y_years_83 (by decide) rfl ?_
          refine tt_iload d_Y_years_85 rfl ?_
          refine tt_iconst (v := nI 2) d_Y_years_87 (by decide) ?_
          refine tn_ic_ne (t := 122) (by omega) (by omega) d_Y_years_88 (by decide) (fun c_88 => ?_) (fun c_88 => ?_)
          · refine tt_aload_n d_Y_years_122 rfl ?_
            refine tt_aload_n d_Y_years_123 rfl ?_
            refine tt_getR d_Y_years_124 rfl rfl (by decide) rfl rfl ?_
            refine tt_iload d_Y_years_127 rfl ?_
            refine tt_callV (y_letsOne (d := d) isY_161 ho.1 y1 h.e.1.2.2.1 hS (m1 (by omega))) cw_Y_letsOne rfl rfl (by decide) rfl (by omega) d_Y_years_129 rfl rfl (Nat.le_of_ble_eq_true rfl) (Nat.le_of_ble_eq_true rfl) rfl rfl rfl (fun v σ2 q => ?_)
            obtain ⟨rfl, e9⟩ := q
            rw [e9]
            clear e9
            replace h := yq_161 (i := 33) (x := nI ((yrN D H (wE w) s (z5V (wV w)) i).2 0 5 ^^^ 2 ^ (H (D (D (yrN D H (wE w) s (z5V (wV w)) i).1)) % eN (wE w)))) h
            replace hS := SY_05 (x := (yrN D H (wE w) s (z5V (wV w)) i).2 0 5 ^^^ 2 ^ (H (D (D (yrN D H (wE w) s (z5V (wV w)) i).1)) % eN (wE w))) hS hb8
            replace hr := hr161 h hr
            replace hT := TY161 (k := H (D (D (yrN D H (wE w) s (z5V (wV w)) i).1)) % eN (wE w)) h hT
            replace hS := SYlt hS
            refine tt_pop d_Y_years_132 rfl ?_
            refine tt_iinc (lv2 := [_, _, _, _, _, _, _]) d_Y_years_133 rfl (nI_inc _ 1) (by decide) rfl ?_
            refine tt_goto (t := 39) d_Y_years_136 (by decide) ?_
            have hz : yrN D H (wE w) s (z5V (wV w)) (i + 1) = _ := (yr_3 (by omega) (by omega)).trans (if_pos (by omega))
            have h1 := congrArg Prod.fst hz
            have h2 := congrArg Prod.snd hz
            try dsimp only at h1
            try dsimp only at h2
            replace hr := hr.trans h1.symm
            rw [← h2] at hS hT
            exact ih (n - (i + 1)) (by omega) (i + 1) (some _) (some _) zf _ rfl (by omega) h hr hS hT
          · refine tt_aload_n d_Y_years_91 rfl ?_
            refine tt_aload_n d_Y_years_92 rfl ?_
            refine tt_callV (y_fields (d := d) h.e.1.1 h.e.1.2.1 ho.1.1.2.1 ho.1.1.2.2.2.1 ho.cp) cw_Y_fields rfl rfl (by decide) rfl (by omega) d_Y_years_93 rfl rfl (Nat.le_of_ble_eq_true rfl) (Nat.le_of_ble_eq_true rfl) rfl rfl rfl (fun v σ2 q => ?_)
            obtain ⟨rfl, e9⟩ := q
            rw [e9]
            clear e9
            refine tt_callV (hYD (d := d) hr (by omega) (by omega)) cw_Y_draws rfl rfl (by decide) rfl (by omega) d_Y_years_96 rfl rfl (Nat.le_of_ble_eq_true rfl) (Nat.le_of_ble_eq_true rfl) rfl rfl rfl (fun v σ2 q => ?_)
            obtain ⟨rfl, e9⟩ := q
            rw [e9]
            clear e9
            replace h := yq_51 (x := D (D (D ((yrN D H (wE w) s (z5V (wV w)) i).1)))) h
            replace hS := SY_51 (x := D (D (D ((yrN D H (wE w) s (z5V (wV w)) i).1)))) hS
            replace hT := TY_51 (x := D (D (D ((yrN D H (wE w) s (z5V (wV w)) i).1)))) hT
            replace hr := hr51 h
            refine tt_istore (lv2 := [_, _, _, _, _, _, _]) d_Y_years_99 (by decide) rfl ?_
            refine tt_aload_n d_Y_years_101 rfl ?_
            refine tt_aload_n d_Y_years_102 rfl ?_
            refine tt_getR d_Y_years_103 rfl rfl (by decide) rfl rfl ?_
            refine tt_iload d_Y_years_106 rfl ?_
            refine tt_iload d_Y_years_108 rfl ?_
            refine tt_aload_n d_Y_years_110 rfl ?_
            refine tt_iconst (v := nI 4) d_Y_years_111 (by decide) ?_
            refine tt_callV (hYD (d := d) hr (by omega) (by omega)) cw_Y_draws rfl rfl (by decide) rfl (by omega) d_Y_years_112 rfl rfl (Nat.le_of_ble_eq_true rfl) (Nat.le_of_ble_eq_true rfl) rfl rfl rfl (fun v σ2 q => ?_)
            obtain ⟨rfl, e9⟩ := q
            rw [e9]
            clear e9
            replace h := yq_51 (x := D (D (D (D ((yrN D H (wE w) s (z5V (wV w)) i).1))))) h
            replace hS := SY_51 (x := D (D (D (D ((yrN D H (wE w) s (z5V (wV w)) i).1))))) hS
            replace hT := TY_51 (x := D (D (D (D ((yrN D H (wE w) s (z5V (wV w)) i).1))))) hT
            replace hr := hr51 h
            refine tt_callV (yq_prT (d := d) h ho y1 hS (m1 (by omega)) m0 (by omega)) cw_Y_promises rfl rfl (by decide) rfl (by omega) d_Y_years_115 rfl rfl (Nat.le_of_ble_eq_true rfl) (Nat.le_of_ble_eq_true rfl) rfl rfl rfl (fun v σ2 q => ?_)
            obtain ⟨x0, rfl, h, hS, hu1, hu2⟩ := q
            replace hr := (congrFun (congrFun hu1 154) 51).trans hr
            replace hT := TY_prV hS (TY_si hT hu1)
            refine tt_pop d_Y_years_118 rfl ?_
            refine tt_goto (t := 133) d_Y_years_119 (by decide) ?_
            refine tt_iinc (lv2 := [_, _, _, _, _, _, _]) d_Y_years_133 rfl (nI_inc _ 1) (by decide) rfl ?_
            refine tt_goto (t := 39) d_Y_years_136 (by decide) ?_
            have hz : yrN D H (wE w) s (z5V (wV w)) (i + 1) = _ := (yr_3 (by omega) (by omega)).trans (if_neg (by omega))
            have h1 := congrArg Prod.fst hz
            have h2 := congrArg Prod.snd hz
            try dsimp only at h1
            try dsimp only at h2
            replace hr := hr.trans h1.symm
            rw [← h2] at hS hT
            exact ih (n - (i + 1)) (by omega) (i + 1) (some _) (some _) (some _) _ rfl (by omega) h hr hS hT
      · refine tt_aload_n d_Y_years_57 rfl ?_
        refine tt_aload_n d_Y_years_58 rfl ?_
        refine tt_getR d_Y_years_59 rfl rfl (by decide) rfl rfl ?_
        refine tt_callV (yq_hour51 (d := d) h ho.1 y1 hS hT (by omega)) cw_Y_hourGoes rfl rfl (by decide) rfl (by omega) d_Y_years_62 rfl rfl (Nat.le_of_ble_eq_true rfl) (Nat.le_of_ble_eq_true rfl) rfl rfl rfl (fun v σ2 q => ?_)
        obtain ⟨rfl, h, hS, hT, hu, hu5⟩ := q
        replace hr := hu5.trans hr
        refine tt_goto (t := 133) d_Y_years_65 (by decide) ?_
        refine tt_iinc (lv2 := [_, _, _, _, _, _, _]) d_Y_years_133 rfl (nI_inc _ 1) (by decide) rfl ?_
        refine tt_goto (t := 39) d_Y_years_136 (by decide) ?_
        have hz : yrN D H (wE w) s (z5V (wV w)) (i + 1) = _ := yr_1 c_54
        have h1 := congrArg Prod.fst hz
        have h2 := congrArg Prod.snd hz
        try dsimp only at h1
        try dsimp only at h2
        replace hr := hr.trans h1.symm
        rw [← h2] at hS hT
        exact ih (n - (i + 1)) (by omega) (i + 1) (some _) zk zf _ rfl (by omega) h hr hS hT

set_option maxHeartbeats 4000000 in
theorem yc_years0 {l : xLa} {d c : Nat} {σ : xs} {w : wv} (ho : okQ w) (hw : YW σ c w) {D : Int32 → Int32} {H : Int32 → Nat} (hHl : ∀ r, H r < 65536) (hYD : ∀ {l : xLa} {d : Nat} {σ : xs} {r : Int32} {n : Nat}, sf σ 154 51 = r → 0 < n → n ≤ 100 → TE l M_Y_draws (d + 1) [.ref 154, .int (nI n)] σ (some (.int (nI (H (D r) % n)))) (wF σ 154 51 (D r))) {s n : Int32} (hp : ptN (wE w) (wV w) + 100 < 999) : TC l M_Y_years (d + 150) [.ref 154, .int s, .int n] σ (fun r τ => r = some (.int ((q_yrs D H w s n).1)) ∧ YW τ c (stD w ((q_yrs D H w s n).2)) ∧ YF σ τ) := by
  show T l M_Y_years (d + 150) 0 _ [] σ _
  refine T_lv (lv2 := [_, _, _, _, _, _, _]) rfl ?_
  have h := YQ.rf hw.v
  have hd0 := hw.2.2.2.1
  have hb0 := ho.fb
  have hb8 := ho.n8
  rcases rgN_c n 1 60 with ⟨m, hm1, hm2, hm3, rfl, hq⟩ | ⟨hq, hb⟩
  · have hqv : q_yrs D H w s (nI m) = (nI ((yrN D H (wE w) s (wV w) m).2 0 0), some [(nI ((yrN D H (wE w) s (wV w) m).2 0 2) - nI (wV w 0 2)).toInt64, (nI ((yrN D H (wE w) s (wV w) m).2 0 3) - nI (wV w 0 3)).toInt64]) := by unfold q_yrs; rw [hq]
    rw [hqv]
    refine tt_aload_n d_Y_years_0 rfl ?_
    refine tt_iconst (v := nI 0) d_Y_years_1 (by decide) ?_
    refine tt_putI d_Y_years_2 rfl rfl (by decide) rfl (xpok_int rfl) rfl ?_
    replace h := h.thr (x := nI 0)
    replace hd0 := hd0.thr (x := nI 0)
    refine tt_iload_n d_Y_years_5 rfl ?_
    refine tt_i2l d_Y_years_6 ?_
    refine tt_lconst (v := 1) d_Y_years_7 (by decide) ?_
    refine tt_ldc2_w d_Y_years_8 rfl ?_
    refine tt_callS (y_in (d := d)) cw_Y_in rfl (by omega) d_Y_years_11 rfl rfl (Nat.le_of_ble_eq_true rfl) (Nat.le_of_ble_eq_true rfl) rfl rfl rfl (fun v σ2 q => ?_)
    obtain ⟨rfl, e9⟩ := q
    rw [e9, show Yin (nI m).toInt64 1 60 = nI 1 from Yin_t (a := 1) (b := 60) rfl rfl (by omega) (by omega) (by decide)]
    clear e9
    refine tn_if_ne (t := 19) (by omega) d_Y_years_14 (by decide) (fun c_14 => ?_) (fun c_14 => ?_)
    · refine tt_aload_n d_Y_years_19 rfl ?_
      refine tt_iload_n d_Y_years_20 rfl ?_
      refine tt_putI d_Y_years_21 rfl rfl (by decide) rfl (xpok_int rfl) rfl ?_
      replace h := yq_51 (x := s) h
      have hr := hr51 h
      replace hd0 := hd0.un (τ := wF _ 154 51 s) ⟨rfl, rfl⟩
      refine tt_aload_n d_Y_years_24 rfl ?_
      refine tt_callV (yq_copies (d := d) h ho.n8) cw_Y_copies rfl rfl (by decide) rfl (by omega) d_Y_years_25 rfl rfl (Nat.le_of_ble_eq_true rfl) (Nat.le_of_ble_eq_true rfl) rfl rfl rfl (fun v σ2 q => ?_)
      obtain ⟨rfl, h, hS, hu, hu2⟩ := q
      replace hr := (congrFun (congrFun hu2 154) 51).trans hr
      refine tt_aload_n d_Y_years_28 rfl ?_
      refine tt_aload_n d_Y_years_29 rfl ?_
      refine tt_getR d_Y_years_30 rfl rfl (by decide) rfl rfl ?_
      refine tt_iconst (v := nI 0) d_Y_years_33 (by decide) ?_
      refine tt_callV (yq_hours51 (d := d) (n := 0) h ho.1 ho.2.1 hS (by have := ho.2.2; omega) (by decide)) cw_Y_goesOn rfl rfl (by decide) rfl (by omega) d_Y_years_34 rfl rfl (Nat.le_of_ble_eq_true rfl) (Nat.le_of_ble_eq_true rfl) rfl rfl rfl (fun v σ2 q => ?_)
      obtain ⟨rfl, h, hS, hT, hu, hu5⟩ := q
      replace hr := hu5.trans hr
      refine tt_iconst (v := nI 0) d_Y_years_37 (by decide) ?_
      refine tt_istore_n (lv2 := [_, _, _, _, _, _, _]) d_Y_years_38 (by decide) rfl ?_
      exact y_years_l hHl hYD hm2 hp ho m 0 none none none _ rfl (by omega) h hr hS hT
    · exact absurd c_14 (by decide)
  · have hqv : q_yrs D H w s n = (-1, none) := by unfold q_yrs; rw [hq]
    rw [hqv]
    refine tt_aload_n d_Y_years_0 rfl ?_
    refine tt_iconst (v := nI 0) d_Y_years_1 (by decide) ?_
    refine tt_putI d_Y_years_2 rfl rfl (by decide) rfl (xpok_int rfl) rfl ?_
    replace h := h.thr (x := nI 0)
    replace hd0 := hd0.thr (x := nI 0)
    refine tt_iload_n d_Y_years_5 rfl ?_
    refine tt_i2l d_Y_years_6 ?_
    refine tt_lconst (v := 1) d_Y_years_7 (by decide) ?_
    refine tt_ldc2_w d_Y_years_8 rfl ?_
    refine tt_callS (y_in (d := d)) cw_Y_in rfl (by omega) d_Y_years_11 rfl rfl (Nat.le_of_ble_eq_true rfl) (Nat.le_of_ble_eq_true rfl) rfl rfl rfl (fun v σ2 q => ?_)
    obtain ⟨rfl, e9⟩ := q
    rw [e9, show Yin n.toInt64 1 60 = nI 0 from Yin_f (a := 1) (b := 60) rfl rfl (by decide) (by decide) hb]
    clear e9
    refine tn_if_ne (t := 19) (by omega) d_Y_years_14 (by decide) (fun c_14 => ?_) (fun c_14 => ?_)
    · exact absurd c_14 (by decide)
    · refine tt_iconst (v := (-1)) d_Y_years_17 (by decide) ?_
      refine tt_iret rfl d_Y_years_18 ?_
      exact ⟨rfl, h.none hd0, h.2⟩

theorem xc_years {l : xLa} {d : Nat} {σ : xs} {w : wv} (ho : okQ w) (hw : XW σ w) {s n : Int32} : TC l M_X_years (d + 30) [.ref 0, .int s, .int n] σ (fun r τ => r = some (.int (q_years w s n).1) ∧ XW τ (stD w (q_years w s n).2) ∧ XF σ τ) := xc_years0 ho hw hi_lt x_nextDraw x_drawn
theorem yc_years {l : xLa} {d c : Nat} {σ : xs} {w : wv} (ho : okQ w) (hw : YW σ c w) {s n : Int32} (hp : ptN (wE w) (wV w) + 100 < 999) : TC l M_Y_years (d + 150) [.ref 154, .int s, .int n] σ (fun r τ => r = some (.int (q_years w s n).1) ∧ YW τ c (stD w (q_years w s n).2) ∧ YF σ τ) := yc_years0 ho hw hi_lt y_draws hp
