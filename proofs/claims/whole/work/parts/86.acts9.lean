/-! Small calls: sheet. Printed by wip/whole. -/
theorem X_sv_b (n : Nat) (kind f step : Int32) (i : Nat) : 1 ≤ (X_sv n kind f step i).toInt ∧ (X_sv n kind f step i).toInt ≤ 9 := by
  have h1 : (nI 1).toInt = 1 := nI_toInt (by decide)
  have h9 : (nI 9).toInt = 9 := nI_toInt (by decide)
  unfold X_sv
  by_cases c : i < n
  · rw [if_pos c]
    dsimp only
    by_cases c9 : X_cv kind (X_se f step i) < nI 9
    · rw [if_pos c9]
      rw [fa_lt', h9] at c9
      by_cases c1 : nI 1 < X_cv kind (X_se f step i)
      · rw [if_pos c1]
        rw [fa_lt', h1] at c1
        omega
      · rw [if_neg c1, h1]; omega
    · rw [if_neg c9, if_pos (by decide), h9]; omega
  · rw [if_neg c, h1]; omega
def svN (n : Nat) (kind f step : Int32) (i : Nat) : Nat := (X_sv n kind f step i).toNatClampNeg
theorem svN_c (n : Nat) (kind f step : Int32) (i : Nat) : X_sv n kind f step i = nI (svN n kind f step i) := (nI_cl (by have := X_sv_b n kind f step i; omega)).symm
def stS (w : wv) (S : Nat → Nat) : wv := (((wE w).1, eK (wE w), S, eF (wE w), eB (wE w), eW (wE w)), wV w, wX w, wD w, wU w, wK w, wS w)
def shN (w : wv) (n : Nat) (kind f step : Int32) : Nat → Nat := fun i => if i < eN (wE w) then svN n kind f step i else eS (wE w) i
def a_sheet (w : wv) (k n f s : Int32) : Int32 × wv := match rgN k 0 3 with
  | none => (-1, w)
  | some kk => match rgN n 0 8 with
    | some N => if kk = 3 then (-3, stS w (shN w 0 k f s)) else (X_ss N k f s (eN (wE w)), stS w (shN w N k f s))
    | none => if 8 < n.toInt then (-1, w) else if kk = 3 then (-3, stS w (shN w 0 k f s)) else (-2, w)
theorem X_str_w {σ : xs} {w : wv} {n : Nat} {kind f step : Int32} (h : XW σ w) : XW (X_str σ n kind f step (eN (wE w))) (stS w (shN w n kind f step)) ∧ XF σ (X_str σ n kind f step (eN (wE w))) := by
  have hR := h.v.R
  have f1 : Fq (fun c => c = 11) (fun _ _ => False) (fun _ => False) σ (X_str σ n kind f step (eN (wE w))) := Fq.wA rfl
  obtain ⟨⟨a1, a2, a3, a4, a5⟩, b, x, d, u, k, s⟩ := h
  refine ⟨⟨⟨?_, a2, a3, a4, a5.fq f1 (by show ¬ sp σ + 4 = 11; omega) (by show ¬ sp σ + 5 = 11; omega)⟩, b.fq f1 (fun k hk => by omega) (fun k hk => id), x.fq f1 (by omega) id, d.fq f1 id id, u.fq f1 (fun c h1 h2 => by omega) (fun c k h1 h2 => id), k.fq f1 (fun c h1 h2 => by omega) (fun c k h1 h2 => id) id, s.fq f1 (fun c h1 h2 => by omega) id⟩, f1.XF (fun c hc => by omega) (fun c k hc => id) (fun c hc => id)⟩
  obtain ⟨q1, q2, q3, q4, q5, q6, q7, q8⟩ := a1
  refine ⟨q1, fun i hi => ⟨?_, ?_⟩, fun i hi => ?_, fun i hi => ?_, q5, q6, fun i hi => ?_, q8⟩
  · rw [f1.1 10 (by omega)]; exact (q2 i hi).1
  · show (if 11 = 11 then cpN (X_sv n kind f step) (si σ 11) (eN (wE w)) else si σ 11) i = nI (shN w n kind f step i)
    rw [if_pos rfl]
    unfold cpN shN
    by_cases c : i < eN (wE w)
    · rw [if_pos c, if_pos c, svN_c]
    · rw [if_neg c, if_neg c]; exact (q2 i hi).2
  · rw [f1.1 13 (by omega)]; exact q3 i hi
  · rw [f1.1 6 (by omega)]; exact q4 i hi
  · have := q7 i hi
    exact ⟨(congrFun (f1.1 (sp σ + 1) (by omega)) i).trans this.1, this.2⟩
theorem Y_str_w {σ τ : xs} {c : Nat} {w : wv} {n : Nat} {kind f step : Int32} (h : YW σ c w) (f1 : Fq (fun c => c = 159) (fun _ _ => False) (fun _ => False) σ τ) (hX : ∀ j, j < eN (wE w) → si τ 159 j = X_sv n kind f step j) : YW τ c (stS w (shN w n kind f step)) ∧ YF σ τ := by
  obtain ⟨⟨a1, a2⟩, b, x, d, u, k, s⟩ := h
  refine ⟨⟨⟨?_, a2.fq f1 (by omega) id⟩, SY_o b (f1.1 160 (by omega)), x.fq f1 (by omega) id, d.fq f1 id id, u.fq f1 (by omega) id, k.fq f1 (fun c h1 h2 => by omega) id, s.fq f1 (fun c h1 h2 => by omega) id⟩, f1.YF (fun c hc => by omega) (fun c k hc => id) (fun c hc => id)⟩
  obtain ⟨⟨p1, p2, p3, p4⟩, q2, q3, q4⟩ := a1
  refine ⟨⟨(f1.2.1 154 3 id).trans p1, (f1.2.1 154 4 id).trans p2, (f1.2.1 154 5 id).trans p3, (f1.2.1 154 7 id).trans p4⟩, fun i hi => ⟨?_, ?_⟩, fun i hi => ?_, fun i hi => ?_⟩
  · rw [f1.1 158 (by omega)]; exact (q2 i hi).1
  · have hi' : i < eN (wE w) := hi
    show si τ 159 i = nI (shN w n kind f step i)
    unfold shN
    rw [hX i hi', if_pos hi', svN_c]
  · rw [f1.1 157 (by omega)]; exact q3 i hi
  · rw [f1.1 156 (by omega)]; exact q4 i hi
set_option maxHeartbeats 4000000 in
theorem xc_sheet {l : xLa} {d : Nat} {σ : xs} {w : wv} (ho : okQ w) (hw : XW σ w) {k n f s : Int32} : TC l M_X_sheet (d + 30) [.ref 0, .int k, .int n, .int f, .int s] σ (fun r τ => r = some (.int (a_sheet w k n f s).1) ∧ XW τ (a_sheet w k n f s).2 ∧ XF σ τ) := by
  show T l M_X_sheet (d + 30) 0 _ [] σ _
  refine T_lv (lv2 := [_, _, _, _, _]) rfl ?_
  have h := XQ.rf hw.v
  have hd0 := hw.2.2.2.1
  have hb0 := ho.fb
  have hb8 := ho.n8
  rcases rgN_c k 0 3 with ⟨m, hm1, hm2, hm3, rfl, hq⟩ | ⟨hq, hb⟩
  · rcases rgN_c n 0 8 with ⟨N, hN1, hN2, hN3, rfl, hq2⟩ | ⟨hq2, hb2⟩
    · have hqv : a_sheet w (nI m) (nI N) f s = if m = 3 then (-3, stS w (shN w 0 (nI m) f s)) else (X_ss N (nI m) f s (eN (wE w)), stS w (shN w N (nI m) f s)) := by unfold a_sheet; rw [hq]; dsimp only; rw [hq2]
      rw [hqv]
      clear hqv
      refine tt_iload_n d_X_sheet_0 rfl ?_
      refine tn_if_lt (t := 15) (by omega) d_X_sheet_1 (by decide) ?_
      refine tt_iload_n d_X_sheet_4 rfl ?_
      refine tt_iconst (v := nI 3) d_X_sheet_5 (by decide) ?_
      refine tn_ic_gt (t := 15) (by omega) (by omega) d_X_sheet_6 (by decide) (fun c_6 => ?_) (fun c_6 => ?_)
      · omega
      · refine tt_iload_n d_X_sheet_9 rfl ?_
        refine tt_bipush (v := nI 8) d_X_sheet_10 (by decide) ?_
        refine tn_ic_le (t := 17) (by omega) (by omega) d_X_sheet_12 (by decide) (fun c_12 => ?_) (fun c_12 => ?_)
        · refine tt_iload_n d_X_sheet_17 rfl ?_
          refine tt_iconst (v := nI 3) d_X_sheet_18 (by decide) ?_
          refine tn_ic_ne (t := 38) (by omega) (by omega) d_X_sheet_19 (by decide) (fun c_19 => ?_) (fun c_19 => ?_)
          · rw [if_neg (by omega)]
            refine tt_iload_n d_X_sheet_38 rfl ?_
            refine tn_if_ge (t := 45) (by omega) d_X_sheet_39 (by decide) ?_
            refine tt_aload_n d_X_sheet_45 rfl ?_
            refine tt_getR d_X_sheet_46 rfl rfl (by decide) rfl rfl ?_
            refine tt_iload_n d_X_sheet_49 rfl ?_
            refine tt_iload_n d_X_sheet_50 rfl ?_
            refine tt_iload_n d_X_sheet_51 rfl ?_
            refine tt_iload d_X_sheet_52 rfl ?_
            refine tt_callV (x_School_str (d := d) (n := N) h.n hb8 (by omega)) cw_School_strengthen rfl rfl (by decide) rfl (by omega) d_X_sheet_54 rfl rfl (Nat.le_of_ble_eq_true rfl) (Nat.le_of_ble_eq_true rfl) rfl rfl rfl (fun v σ2 q => ?_)
            obtain ⟨rfl, rfl⟩ := q
            refine tt_iret rfl d_X_sheet_57 ?_
            exact ⟨rfl, X_str_w hw⟩
          · rw [if_pos (by omega)]
            refine tt_aload_n d_X_sheet_22 rfl ?_
            refine tt_getR d_X_sheet_23 rfl rfl (by decide) rfl rfl ?_
            refine tt_iconst (v := nI 0) d_X_sheet_26 (by decide) ?_
            refine tt_iload_n d_X_sheet_27 rfl ?_
            refine tt_iload_n d_X_sheet_28 rfl ?_
            refine tt_iload d_X_sheet_29 rfl ?_
            refine tt_callV (x_School_str (d := d) (n := 0) h.n hb8 (by omega)) cw_School_strengthen rfl rfl (by decide) rfl (by omega) d_X_sheet_31 rfl rfl (Nat.le_of_ble_eq_true rfl) (Nat.le_of_ble_eq_true rfl) rfl rfl rfl (fun v σ2 q => ?_)
            obtain ⟨rfl, rfl⟩ := q
            refine tt_pop d_X_sheet_34 rfl ?_
            refine tt_bipush (v := (-3)) d_X_sheet_35 (by decide) ?_
            refine tt_iret rfl d_X_sheet_37 ?_
            exact ⟨rfl, X_str_w hw⟩
        · omega
    · have hqv : a_sheet w (nI m) n f s = if 8 < n.toInt then (-1, w) else if m = 3 then (-3, stS w (shN w 0 (nI m) f s)) else (-2, w) := by unfold a_sheet; rw [hq]; dsimp only; rw [hq2]
      rw [hqv]
      clear hqv
      have r8 : n ≤ nI 8 ↔ n.toInt ≤ 8 := rg_le (by decide)
      have r0 : n < 0 ↔ n.toInt < 0 := rg_lt (i := n) (a := 0) (by decide)
      have r1 : 0 ≤ n ↔ 0 ≤ n.toInt := fa_le' 0 n
      by_cases c8 : 8 < n.toInt
      · rw [if_pos c8]
        refine tt_iload_n d_X_sheet_0 rfl ?_
        refine tn_if_lt (t := 15) (by omega) d_X_sheet_1 (by decide) ?_
        refine tt_iload_n d_X_sheet_4 rfl ?_
        refine tt_iconst (v := nI 3) d_X_sheet_5 (by decide) ?_
        refine tn_ic_gt (t := 15) (by omega) (by omega) d_X_sheet_6 (by decide) (fun c_6 => ?_) (fun c_6 => ?_)
        · omega
        · refine tt_iload_n d_X_sheet_9 rfl ?_
          refine tt_bipush (v := nI 8) d_X_sheet_10 (by decide) ?_
          refine tt_ic_le (t := 17) d_X_sheet_12 (by decide) (fun c_12 => ?_) (fun c_12 => ?_)
          · exact absurd (r8.mp c_12) (by omega)
          · refine tt_iconst (v := (-1)) d_X_sheet_15 (by decide) ?_
            refine tt_iret rfl d_X_sheet_16 ?_
            exact ⟨rfl, h.ww hd0, h.2.1⟩
      · rw [if_neg c8]
        refine tt_iload_n d_X_sheet_0 rfl ?_
        refine tn_if_lt (t := 15) (by omega) d_X_sheet_1 (by decide) ?_
        refine tt_iload_n d_X_sheet_4 rfl ?_
        refine tt_iconst (v := nI 3) d_X_sheet_5 (by decide) ?_
        refine tn_ic_gt (t := 15) (by omega) (by omega) d_X_sheet_6 (by decide) (fun c_6 => ?_) (fun c_6 => ?_)
        · omega
        · refine tt_iload_n d_X_sheet_9 rfl ?_
          refine tt_bipush (v := nI 8) d_X_sheet_10 (by decide) ?_
          refine tt_ic_le (t := 17) d_X_sheet_12 (by decide) (fun c_12 => ?_) (fun c_12 => ?_)
          · refine tt_iload_n d_X_sheet_17 rfl ?_
            refine tt_iconst (v := nI 3) d_X_sheet_18 (by decide) ?_
            refine tn_ic_ne (t := 38) (by omega) (by omega) d_X_sheet_19 (by decide) (fun c_19 => ?_) (fun c_19 => ?_)
            · rw [if_neg (by omega)]
              refine tt_iload_n d_X_sheet_38 rfl ?_
              refine tt_if_ge (t := 45) d_X_sheet_39 (by decide) (fun c_39 => ?_) (fun c_39 => ?_)
              · exact absurd (r1.mp c_39) (by omega)
              · refine tt_bipush (v := (-2)) d_X_sheet_42 (by decide) ?_
                refine tt_iret rfl d_X_sheet_44 ?_
                exact ⟨rfl, h.ww hd0, h.2.1⟩
            · rw [if_pos (by omega)]
              refine tt_aload_n d_X_sheet_22 rfl ?_
              refine tt_getR d_X_sheet_23 rfl rfl (by decide) rfl rfl ?_
              refine tt_iconst (v := nI 0) d_X_sheet_26 (by decide) ?_
              refine tt_iload_n d_X_sheet_27 rfl ?_
              refine tt_iload_n d_X_sheet_28 rfl ?_
              refine tt_iload d_X_sheet_29 rfl ?_
              refine tt_callV (x_School_str (d := d) (n := 0) h.n hb8 (by omega)) cw_School_strengthen rfl rfl (by decide) rfl (by omega) d_X_sheet_31 rfl rfl (Nat.le_of_ble_eq_true rfl) (Nat.le_of_ble_eq_true rfl) rfl rfl rfl (fun v σ2 q => ?_)
              obtain ⟨rfl, rfl⟩ := q
              refine tt_pop d_X_sheet_34 rfl ?_
              refine tt_bipush (v := (-3)) d_X_sheet_35 (by decide) ?_
              refine tt_iret rfl d_X_sheet_37 ?_
              exact ⟨rfl, X_str_w hw⟩
          · exact absurd (r8.mpr (by omega)) c_12
  · have hqv : a_sheet w k n f s = (-1, w) := by unfold a_sheet; rw [hq]
    rw [hqv]
    refine tt_iload_n d_X_sheet_0 rfl ?_
    refine tt_if_lt (t := 15) d_X_sheet_1 (by decide) (fun c_1 => ?_) (fun c_1 => ?_)
    · refine tt_iconst (v := (-1)) d_X_sheet_15 (by decide) ?_
      refine tt_iret rfl d_X_sheet_16 ?_
      exact ⟨rfl, h.ww hd0, h.2.1⟩
    · refine tt_iload_n d_X_sheet_4 rfl ?_
      refine tt_iconst (v := nI 3) d_X_sheet_5 (by decide) ?_
      refine tt_ic_gt (t := 15) d_X_sheet_6 (by decide) (fun c_6 => ?_) (fun c_6 => ?_)
      · refine tt_iconst (v := (-1)) d_X_sheet_15 (by decide) ?_
        refine tt_iret rfl d_X_sheet_16 ?_
        exact ⟨rfl, h.ww hd0, h.2.1⟩
      · exact (rg_f (a := 0) (b := 3) (by decide) (by decide) hb (by rw [nI_0]; exact c_1) (Int32.not_lt.mp c_6)).elim

theorem X_sv_ge {n i : Nat} {kind f step : Int32} (h : ¬ i < n) : nI 1 = X_sv n kind f step i := by
  unfold X_sv
  rw [if_neg h]
theorem sv_st {τ : xs} {i n : Nat} {kind f step x : Int32} (hx : x = X_sv n kind f step i) (h : ∀ j, j < i → si τ 159 j = X_sv n kind f step j) : ∀ j, j < i + 1 → si (wI τ 159 i x) 159 j = X_sv n kind f step j := fun j hj => by
  subst hx
  exact cs_st h j hj
theorem cv0 {e : Int32} : X_cv (nI 0) e = e.toInt8.toInt32 := if_pos rfl
theorem cv1 {e : Int32} : X_cv (nI 1) e = e.toInt16.toInt32 := (if_neg (by decide)).trans (if_pos rfl)
theorem cvn {m : Nat} {e : Int32} (hm : m < 4) (h0 : ¬ m = 0) (h1 : ¬ m = 1) : X_cv (nI m) e = e := (if_neg (fun q => h0 ((nI_eq (by omega) (by decide)).mp q))).trans (if_neg (fun q => h1 ((nI_eq (by omega) (by decide)).mp q)))
set_option maxHeartbeats 4000000 in
theorem y_sheet_l {l : xLa} {d : Nat} {σ : xs} {c : Nat} {w : wv} {q M : Nat} {n f s : Int32} (ho : okQ w) (hq3 : q ≤ 3) (hn : sf σ 154 5 = nI (eN (wE w))) (hM1 : ∀ {i : Nat}, i < 8 → q = 3 ∨ ¬ nI i < n → ¬ i < M) (hM2 : ∀ {i : Nat}, i < 8 → ¬ q = 3 → nI i < n → i < M) : ∀ (m : Nat) (i : Nat) (z : Option Int32) (τ : xs), eN (wE w) - i = m → i ≤ eN (wE w) → Fq (fun c => c = 159) (fun _ _ => False) (fun _ => False) σ τ → (∀ j, j < i → si τ 159 j = X_sv M (nI q) f s j) → T l M_Y_sheet (d + 150) 46 [some (.ref 154), some (.int (nI q)), some (.int n), some (.int f), some (.int s), some (.int (X_ss M (nI q) f s i)), some (.int (X_se f s i)), some (.int (nI i)), z.map Value.int] [] τ (fun r υ => r = some (.int (if q = 3 then -3 else X_ss M (nI q) f s (eN (wE w)))) ∧ Fq (fun c => c = 159) (fun _ _ => False) (fun _ => False) σ υ ∧ ∀ j, j < eN (wE w) → si υ 159 j = X_sv M (nI q) f s j) := by
  have hb0 := ho.fb
  have hb8 := ho.n8
  intro m
  induction m using Nat.strongRecOn with
  | ind m ih =>
    intro i z τ hm hi hF hX
    refine tt_iload d_Y_sheet_46 rfl ?_
    refine tt_aload_n d_Y_sheet_48 rfl ?_
    refine tn_get d_Y_sheet_49 rfl rfl (by decide) rfl ((hF.2.1 154 5 id).trans hn) ?_
    refine tn_ic_ge (t := 138) (by omega) (by omega) d_Y_sheet_52 (by decide) (fun c_52 => ?_) (fun c_52 => ?_)
    · obtain rfl : i = eN (wE w) := by omega
      refine tt_iload_n d_Y_sheet_138 rfl ?_
      refine tt_iconst (v := nI 3) d_Y_sheet_139 (by decide) ?_
      refine tn_ic_ne (t := 148) (by omega) (by omega) d_Y_sheet_140 (by decide) (fun c_140 => ?_) (fun c_140 => ?_)
      · rw [if_neg (by omega)]
        refine tt_iload d_Y_sheet_148 rfl ?_
        refine tt_iret rfl d_Y_sheet_150 ?_
        exact ⟨rfl, hF, hX⟩
      · rw [if_pos (by omega)]
        refine tt_bipush (v := (-3)) d_Y_sheet_143 (by decide) ?_
        refine tt_goto (t := 150) d_Y_sheet_145 (by decide) ?_
        refine tt_iret rfl d_Y_sheet_150 ?_
        exact ⟨rfl, hF, hX⟩
    · refine tt_iload_n d_Y_sheet_55 rfl ?_
      refine tn_if_ne (t := 65) (by omega) d_Y_sheet_56 (by decide) (fun c_56 => ?_) (fun c_56 => ?_)
      · refine tt_iload_n d_Y_sheet_65 rfl ?_
        refine tt_iconst (v := nI 1) d_Y_sheet_66 (by decide) ?_
        refine tn_ic_ne (t := 76) (by omega) (by omega) d_Y_sheet_67 (by decide) (fun c_67 => ?_) (fun c_67 => ?_)
        · refine tt_iload d_Y_sheet_76 rfl ?_
          refine tt_istore (lv2 := [_, _, _, _, _, _, _, _, _]) d_Y_sheet_78 (by decide) rfl ?_
          refine tt_aload_n d_Y_sheet_80 rfl ?_
          refine tt_getR d_Y_sheet_81 rfl rfl (by decide) rfl rfl ?_
          refine tt_iload d_Y_sheet_84 rfl ?_
          refine tt_iload_n d_Y_sheet_86 rfl ?_
          refine tt_iconst (v := nI 3) d_Y_sheet_87 (by decide) ?_
          refine tn_ic_eq (t := 97) (by omega) (by omega) d_Y_sheet_88 (by decide) (fun c_88 => ?_) (fun c_88 => ?_)
          · refine tt_iconst (v := nI 1) d_Y_sheet_97 (by decide) ?_
            refine tt_goto (t := 112) d_Y_sheet_98 (by decide) ?_
            refine tt_top (X_sv_ge (n := M) (kind := nI q) (f := f) (step := s) (i := i) (hM1 (by omega) (by exact Or.inl (by omega)))) ?_
            refine tn_iast d_Y_sheet_112 rfl (by decide) (by omega) ?_
            refine tt_iload d_Y_sheet_113 rfl ?_
            refine tt_aload_n d_Y_sheet_115 rfl ?_
            refine tt_getR d_Y_sheet_116 rfl rfl (by decide) rfl rfl ?_
            refine tt_iload d_Y_sheet_119 rfl ?_
            refine tn_iald d_Y_sheet_121 rfl (by decide) (by omega) (show _ = X_sv M (nI q) f s i from by rw [si_wI, if_pos ⟨rfl, rfl⟩]) ?_
            refine tt_iadd d_Y_sheet_122 ?_
            refine tt_istore (lv2 := [_, _, _, _, _, _, _, _, _]) d_Y_sheet_123 (by decide) rfl ?_
            refine tt_iload d_Y_sheet_125 rfl ?_
            refine tt_iload d_Y_sheet_127 rfl ?_
            refine tt_iadd d_Y_sheet_129 ?_
            refine tt_istore (lv2 := [_, _, _, _, _, _, _, _, _]) d_Y_sheet_130 (by decide) rfl ?_
            refine tt_iinc (lv2 := [_, _, _, _, _, _, _, _, _]) d_Y_sheet_132 rfl (nI_inc _ 1) (by decide) rfl ?_
            refine tt_goto (t := 46) d_Y_sheet_135 (by decide) ?_
            exact ih (eN (wE w) - (i + 1)) (by omega) (i + 1) (some _) _ rfl (by omega) (hF.tr (Fq.wI rfl)) (sv_st rfl hX)
          · refine tt_iload d_Y_sheet_91 rfl ?_
            refine tt_iload_n d_Y_sheet_93 rfl ?_
            refine tt_ic_lt (t := 101) d_Y_sheet_94 (by decide) (fun c_94 => ?_) (fun c_94 => ?_)
            · refine tt_iconst (v := nI 1) d_Y_sheet_101 (by decide) ?_
              refine tt_bipush (v := nI 9) d_Y_sheet_102 (by decide) ?_
              refine tt_iload d_Y_sheet_104 rfl ?_
              refine tt_min d_Y_sheet_106 rfl (Nat.le_of_ble_eq_true rfl) ?_
              refine tt_max d_Y_sheet_109 rfl (Nat.le_of_ble_eq_true rfl) ?_
              refine tt_top (X_sv_lt (n := M) (kind := nI q) (f := f) (step := s) (i := i) (hM2 (by omega) (by omega) c_94) (cvn (by omega) (by omega) (by omega))) ?_
              refine tn_iast d_Y_sheet_112 rfl (by decide) (by omega) ?_
              refine tt_iload d_Y_sheet_113 rfl ?_
              refine tt_aload_n d_Y_sheet_115 rfl ?_
              refine tt_getR d_Y_sheet_116 rfl rfl (by decide) rfl rfl ?_
              refine tt_iload d_Y_sheet_119 rfl ?_
              refine tn_iald d_Y_sheet_121 rfl (by decide) (by omega) (show _ = X_sv M (nI q) f s i from by rw [si_wI, if_pos ⟨rfl, rfl⟩]) ?_
              refine tt_iadd d_Y_sheet_122 ?_
              refine tt_istore (lv2 := [_, _, _, _, _, _, _, _, _]) d_Y_sheet_123 (by decide) rfl ?_
              refine tt_iload d_Y_sheet_125 rfl ?_
              refine tt_iload d_Y_sheet_127 rfl ?_
              refine tt_iadd d_Y_sheet_129 ?_
              refine tt_istore (lv2 := [_, _, _, _, _, _, _, _, _]) d_Y_sheet_130 (by decide) rfl ?_
              refine tt_iinc (lv2 := [_, _, _, _, _, _, _, _, _]) d_Y_sheet_132 rfl (nI_inc _ 1) (by decide) rfl ?_
              refine tt_goto (t := 46) d_Y_sheet_135 (by decide) ?_
              exact ih (eN (wE w) - (i + 1)) (by omega) (i + 1) (some _) _ rfl (by omega) (hF.tr (Fq.wI rfl)) (sv_st rfl hX)
            · refine tt_iconst (v := nI 1) d_Y_sheet_97 (by decide) ?_
              refine tt_goto (t := 112) d_Y_sheet_98 (by decide) ?_
              refine tt_top (X_sv_ge (n := M) (kind := nI q) (f := f) (step := s) (i := i) (hM1 (by omega) (by exact Or.inr c_94))) ?_
              refine tn_iast d_Y_sheet_112 rfl (by decide) (by omega) ?_
              refine tt_iload d_Y_sheet_113 rfl ?_
              refine tt_aload_n d_Y_sheet_115 rfl ?_
              refine tt_getR d_Y_sheet_116 rfl rfl (by decide) rfl rfl ?_
              refine tt_iload d_Y_sheet_119 rfl ?_
              refine tn_iald d_Y_sheet_121 rfl (by decide) (by omega) (show _ = X_sv M (nI q) f s i from by rw [si_wI, if_pos ⟨rfl, rfl⟩]) ?_
              refine tt_iadd d_Y_sheet_122 ?_
              refine tt_istore (lv2 := [_, _, _, _, _, _, _, _, _]) d_Y_sheet_123 (by decide) rfl ?_
              refine tt_iload d_Y_sheet_125 rfl ?_
              refine tt_iload d_Y_sheet_127 rfl ?_
              refine tt_iadd d_Y_sheet_129 ?_
              refine tt_istore (lv2 := [_, _, _, _, _, _, _, _, _]) d_Y_sheet_130 (by decide) rfl ?_
              refine tt_iinc (lv2 := [_, _, _, _, _, _, _, _, _]) d_Y_sheet_132 rfl (nI_inc _ 1) (by decide) rfl ?_
              refine tt_goto (t := 46) d_Y_sheet_135 (by decide) ?_
              exact ih (eN (wE w) - (i + 1)) (by omega) (i + 1) (some _) _ rfl (by omega) (hF.tr (Fq.wI rfl)) (sv_st rfl hX)
        · refine tt_iload d_Y_sheet_70 rfl ?_
          refine tt_i2s d_Y_sheet_72 ?_
          refine tt_goto (t := 78) d_Y_sheet_73 (by decide) ?_
          refine tt_istore (lv2 := [_, _, _, _, _, _, _, _, _]) d_Y_sheet_78 (by decide) rfl ?_
          refine tt_aload_n d_Y_sheet_80 rfl ?_
          refine tt_getR d_Y_sheet_81 rfl rfl (by decide) rfl rfl ?_
          refine tt_iload d_Y_sheet_84 rfl ?_
          refine tt_iload_n d_Y_sheet_86 rfl ?_
          refine tt_iconst (v := nI 3) d_Y_sheet_87 (by decide) ?_
          refine tn_ic_eq (t := 97) (by omega) (by omega) d_Y_sheet_88 (by decide) (fun c_88 => ?_) (fun c_88 => ?_)
          · refine tt_iconst (v := nI 1) d_Y_sheet_97 (by decide) ?_
            refine tt_goto (t := 112) d_Y_sheet_98 (by decide) ?_
            refine tt_top (X_sv_ge (n := M) (kind := nI q) (f := f) (step := s) (i := i) (hM1 (by omega) (by exact Or.inl (by omega)))) ?_
            refine tn_iast d_Y_sheet_112 rfl (by decide) (by omega) ?_
            refine tt_iload d_Y_sheet_113 rfl ?_
            refine tt_aload_n d_Y_sheet_115 rfl ?_
            refine tt_getR d_Y_sheet_116 rfl rfl (by decide) rfl rfl ?_
            refine tt_iload d_Y_sheet_119 rfl ?_
            refine tn_iald d_Y_sheet_121 rfl (by decide) (by omega) (show _ = X_sv M (nI q) f s i from by rw [si_wI, if_pos ⟨rfl, rfl⟩]) ?_
            refine tt_iadd d_Y_sheet_122 ?_
            refine tt_istore (lv2 := [_, _, _, _, _, _, _, _, _]) d_Y_sheet_123 (by decide) rfl ?_
            refine tt_iload d_Y_sheet_125 rfl ?_
            refine tt_iload d_Y_sheet_127 rfl ?_
            refine tt_iadd d_Y_sheet_129 ?_
            refine tt_istore (lv2 := [_, _, _, _, _, _, _, _, _]) d_Y_sheet_130 (by decide) rfl ?_
            refine tt_iinc (lv2 := [_, _, _, _, _, _, _, _, _]) d_Y_sheet_132 rfl (nI_inc _ 1) (by decide) rfl ?_
            refine tt_goto (t := 46) d_Y_sheet_135 (by decide) ?_
            exact ih (eN (wE w) - (i + 1)) (by omega) (i + 1) (some _) _ rfl (by omega) (hF.tr (Fq.wI rfl)) (sv_st rfl hX)
          · refine tt_iload d_Y_sheet_91 rfl ?_
            refine tt_iload_n d_Y_sheet_93 rfl ?_
            refine tt_ic_lt (t := 101) d_Y_sheet_94 (by decide) (fun c_94 => ?_) (fun c_94 => ?_)
            · refine tt_iconst (v := nI 1) d_Y_sheet_101 (by decide) ?_
              refine tt_bipush (v := nI 9) d_Y_sheet_102 (by decide) ?_
              refine tt_iload d_Y_sheet_104 rfl ?_
              refine tt_min d_Y_sheet_106 rfl (Nat.le_of_ble_eq_true rfl) ?_
              refine tt_max d_Y_sheet_109 rfl (Nat.le_of_ble_eq_true rfl) ?_
              refine tt_top (X_sv_lt (n := M) (kind := nI q) (f := f) (step := s) (i := i) (hM2 (by omega) (by omega) c_94) (show X_cv (nI q) _ = _ from by rw [show q = 1 by omega]; exact cv1)) ?_
              refine tn_iast d_Y_sheet_112 rfl (by decide) (by omega) ?_
              refine tt_iload d_Y_sheet_113 rfl ?_
              refine tt_aload_n d_Y_sheet_115 rfl ?_
              refine tt_getR d_Y_sheet_116 rfl rfl (by decide) rfl rfl ?_
              refine tt_iload d_Y_sheet_119 rfl ?_
              refine tn_iald d_Y_sheet_121 rfl (by decide) (by omega) (show _ = X_sv M (nI q) f s i from by rw [si_wI, if_pos ⟨rfl, rfl⟩]) ?_
              refine tt_iadd d_Y_sheet_122 ?_
              refine tt_istore (lv2 := [_, _, _, _, _, _, _, _, _]) d_Y_sheet_123 (by decide) rfl ?_
              refine tt_iload d_Y_sheet_125 rfl ?_
              refine tt_iload d_Y_sheet_127 rfl ?_
              refine tt_iadd d_Y_sheet_129 ?_
              refine tt_istore (lv2 := [_, _, _, _, _, _, _, _, _]) d_Y_sheet_130 (by decide) rfl ?_
              refine tt_iinc (lv2 := [_, _, _, _, _, _, _, _, _]) d_Y_sheet_132 rfl (nI_inc _ 1) (by decide) rfl ?_
              refine tt_goto (t := 46) d_Y_sheet_135 (by decide) ?_
              exact ih (eN (wE w) - (i + 1)) (by omega) (i + 1) (some _) _ rfl (by omega) (hF.tr (Fq.wI rfl)) (sv_st rfl hX)
            · refine tt_iconst (v := nI 1) d_Y_sheet_97 (by decide) ?_
              refine tt_goto (t := 112) d_Y_sheet_98 (by decide) ?_
              refine tt_top (X_sv_ge (n := M) (kind := nI q) (f := f) (step := s) (i := i) (hM1 (by omega) (by exact Or.inr c_94))) ?_
              refine tn_iast d_Y_sheet_112 rfl (by decide) (by omega) ?_
              refine tt_iload d_Y_sheet_113 rfl ?_
              refine tt_aload_n d_Y_sheet_115 rfl ?_
              refine tt_getR d_Y_sheet_116 rfl rfl (by decide) rfl rfl ?_
              refine tt_iload d_Y_sheet_119 rfl ?_
              refine tn_iald d_Y_sheet_121 rfl (by decide) (by omega) (show _ = X_sv M (nI q) f s i from by rw [si_wI, if_pos ⟨rfl, rfl⟩]) ?_
              refine tt_iadd d_Y_sheet_122 ?_
              refine tt_istore (lv2 := [_, _, _, _, _, _, _, _, _]) d_Y_sheet_123 (by decide) rfl ?_
              refine tt_iload d_Y_sheet_125 rfl ?_
              refine tt_iload d_Y_sheet_127 rfl ?_
              refine tt_iadd d_Y_sheet_129 ?_
              refine tt_istore (lv2 := [_, _, _, _, _, _, _, _, _]) d_Y_sheet_130 (by decide) rfl ?_
              refine tt_iinc (lv2 := [_, _, _, _, _, _, _, _, _]) d_Y_sheet_132 rfl (nI_inc _ 1) (by decide) rfl ?_
              refine tt_goto (t := 46) d_Y_sheet_135 (by decide) ?_
              exact ih (eN (wE w) - (i + 1)) (by omega) (i + 1) (some _) _ rfl (by omega) (hF.tr (Fq.wI rfl)) (sv_st rfl hX)
      · refine tt_iload d_Y_sheet_59 rfl ?_
        refine tt_i2b d_Y_sheet_61 ?_
        refine tt_goto (t := 78) d_Y_sheet_62 (by decide) ?_
        refine tt_istore (lv2 := [_, _, _, _, _, _, _, _, _]) d_Y_sheet_78 (by decide) rfl ?_
        refine tt_aload_n d_Y_sheet_80 rfl ?_
        refine tt_getR d_Y_sheet_81 rfl rfl (by decide) rfl rfl ?_
        refine tt_iload d_Y_sheet_84 rfl ?_
        refine tt_iload_n d_Y_sheet_86 rfl ?_
        refine tt_iconst (v := nI 3) d_Y_sheet_87 (by decide) ?_
        refine tn_ic_eq (t := 97) (by omega) (by omega) d_Y_sheet_88 (by decide) (fun c_88 => ?_) (fun c_88 => ?_)
        · refine tt_iconst (v := nI 1) d_Y_sheet_97 (by decide) ?_
          refine tt_goto (t := 112) d_Y_sheet_98 (by decide) ?_
          refine tt_top (X_sv_ge (n := M) (kind := nI q) (f := f) (step := s) (i := i) (hM1 (by omega) (by exact Or.inl (by omega)))) ?_
          refine tn_iast d_Y_sheet_112 rfl (by decide) (by omega) ?_
          refine tt_iload d_Y_sheet_113 rfl ?_
          refine tt_aload_n d_Y_sheet_115 rfl ?_
          refine tt_getR d_Y_sheet_116 rfl rfl (by decide) rfl rfl ?_
          refine tt_iload d_Y_sheet_119 rfl ?_
          refine tn_iald d_Y_sheet_121 rfl (by decide) (by omega) (show _ = X_sv M (nI q) f s i from by rw [si_wI, if_pos ⟨rfl, rfl⟩]) ?_
          refine tt_iadd d_Y_sheet_122 ?_
          refine tt_istore (lv2 := [_, _, _, _, _, _, _, _, _]) d_Y_sheet_123 (by decide) rfl ?_
          refine tt_iload d_Y_sheet_125 rfl ?_
          refine tt_iload d_Y_sheet_127 rfl ?_
          refine tt_iadd d_Y_sheet_129 ?_
          refine tt_istore (lv2 := [_, _, _, _, _, _, _, _, _]) d_Y_sheet_130 (by decide) rfl ?_
          refine tt_iinc (lv2 := [_, _, _, _, _, _, _, _, _]) d_Y_sheet_132 rfl (nI_inc _ 1) (by decide) rfl ?_
          refine tt_goto (t := 46) d_Y_sheet_135 (by decide) ?_
          exact ih (eN (wE w) - (i + 1)) (by omega) (i + 1) (some _) _ rfl (by omega) (hF.tr (Fq.wI rfl)) (sv_st rfl hX)
        · refine tt_iload d_Y_sheet_91 rfl ?_
          refine tt_iload_n d_Y_sheet_93 rfl ?_
          refine tt_ic_lt (t := 101) d_Y_sheet_94 (by decide) (fun c_94 => ?_) (fun c_94 => ?_)
          · refine tt_iconst (v := nI 1) d_Y_sheet_101 (by decide) ?_
            refine tt_bipush (v := nI 9) d_Y_sheet_102 (by decide) ?_
            refine tt_iload d_Y_sheet_104 rfl ?_
            refine tt_min d_Y_sheet_106 rfl (Nat.le_of_ble_eq_true rfl) ?_
            refine tt_max d_Y_sheet_109 rfl (Nat.le_of_ble_eq_true rfl) ?_
            refine tt_top (X_sv_lt (n := M) (kind := nI q) (f := f) (step := s) (i := i) (hM2 (by omega) (by omega) c_94) (show X_cv (nI q) _ = _ from by rw [show q = 0 by omega]; exact cv0)) ?_
            refine tn_iast d_Y_sheet_112 rfl (by decide) (by omega) ?_
            refine tt_iload d_Y_sheet_113 rfl ?_
            refine tt_aload_n d_Y_sheet_115 rfl ?_
            refine tt_getR d_Y_sheet_116 rfl rfl (by decide) rfl rfl ?_
            refine tt_iload d_Y_sheet_119 rfl ?_
            refine tn_iald d_Y_sheet_121 rfl (by decide) (by omega) (show _ = X_sv M (nI q) f s i from by rw [si_wI, if_pos ⟨rfl, rfl⟩]) ?_
            refine tt_iadd d_Y_sheet_122 ?_
            refine tt_istore (lv2 := [_, _, _, _, _, _, _, _, _]) d_Y_sheet_123 (by decide) rfl ?_
            refine tt_iload d_Y_sheet_125 rfl ?_
            refine tt_iload d_Y_sheet_127 rfl ?_
            refine tt_iadd d_Y_sheet_129 ?_
            refine tt_istore (lv2 := [_, _, _, _, _, _, _, _, _]) d_Y_sheet_130 (by decide) rfl ?_
            refine tt_iinc (lv2 := [_, _, _, _, _, _, _, _, _]) d_Y_sheet_132 rfl (nI_inc _ 1) (by decide) rfl ?_
            refine tt_goto (t := 46) d_Y_sheet_135 (by decide) ?_
            exact ih (eN (wE w) - (i + 1)) (by omega) (i + 1) (some _) _ rfl (by omega) (hF.tr (Fq.wI rfl)) (sv_st rfl hX)
          · refine tt_iconst (v := nI 1) d_Y_sheet_97 (by decide) ?_
            refine tt_goto (t := 112) d_Y_sheet_98 (by decide) ?_
            refine tt_top (X_sv_ge (n := M) (kind := nI q) (f := f) (step := s) (i := i) (hM1 (by omega) (by exact Or.inr c_94))) ?_
            refine tn_iast d_Y_sheet_112 rfl (by decide) (by omega) ?_
            refine tt_iload d_Y_sheet_113 rfl ?_
            refine tt_aload_n d_Y_sheet_115 rfl ?_
            refine tt_getR d_Y_sheet_116 rfl rfl (by decide) rfl rfl ?_
            refine tt_iload d_Y_sheet_119 rfl ?_
            refine tn_iald d_Y_sheet_121 rfl (by decide) (by omega) (show _ = X_sv M (nI q) f s i from by rw [si_wI, if_pos ⟨rfl, rfl⟩]) ?_
            refine tt_iadd d_Y_sheet_122 ?_
            refine tt_istore (lv2 := [_, _, _, _, _, _, _, _, _]) d_Y_sheet_123 (by decide) rfl ?_
            refine tt_iload d_Y_sheet_125 rfl ?_
            refine tt_iload d_Y_sheet_127 rfl ?_
            refine tt_iadd d_Y_sheet_129 ?_
            refine tt_istore (lv2 := [_, _, _, _, _, _, _, _, _]) d_Y_sheet_130 (by decide) rfl ?_
            refine tt_iinc (lv2 := [_, _, _, _, _, _, _, _, _]) d_Y_sheet_132 rfl (nI_inc _ 1) (by decide) rfl ?_
            refine tt_goto (t := 46) d_Y_sheet_135 (by decide) ?_
            exact ih (eN (wE w) - (i + 1)) (by omega) (i + 1) (some _) _ rfl (by omega) (hF.tr (Fq.wI rfl)) (sv_st rfl hX)

set_option maxHeartbeats 4000000 in
theorem yc_sheet {l : xLa} {d c : Nat} {σ : xs} {w : wv} (ho : okQ w) (hw : YW σ c w) {k n f s : Int32} : TC l M_Y_sheet (d + 150) [.ref 154, .int k, .int n, .int f, .int s] σ (fun r τ => r = some (.int (a_sheet w k n f s).1) ∧ YW τ c (a_sheet w k n f s).2 ∧ YF σ τ) := by
  show T l M_Y_sheet (d + 150) 0 _ [] σ _
  refine T_lv (lv2 := [_, _, _, _, _, _, _, _, _]) rfl ?_
  have h := YQ.rf hw.v
  have hd0 := hw.2.2.2.1
  have hb0 := ho.fb
  have hb8 := ho.n8
  rcases rgN_c k 0 3 with ⟨m, hm1, hm2, hm3, rfl, hq⟩ | ⟨hq, hb⟩
  · rcases rgN_c n 0 8 with ⟨N, hN1, hN2, hN3, rfl, hq2⟩ | ⟨hq2, hb2⟩
    · have hqv : a_sheet w (nI m) (nI N) f s = if m = 3 then (-3, stS w (shN w 0 (nI m) f s)) else (X_ss N (nI m) f s (eN (wE w)), stS w (shN w N (nI m) f s)) := by unfold a_sheet; rw [hq]; dsimp only; rw [hq2]
      rw [hqv]
      clear hqv
      refine tt_aload_n d_Y_sheet_0 rfl ?_
      refine tt_iconst (v := nI 0) d_Y_sheet_1 (by decide) ?_
      refine tt_putI d_Y_sheet_2 rfl rfl (by decide) rfl (xpok_int rfl) rfl ?_
      replace h := h.thr (x := nI 0)
      replace hd0 := hd0.thr (x := nI 0)
      refine tt_iload_n d_Y_sheet_5 rfl ?_
      refine tt_i2l d_Y_sheet_6 ?_
      refine tt_lconst (v := 0) d_Y_sheet_7 (by decide) ?_
      refine tt_ldc2_w d_Y_sheet_8 rfl ?_
      refine tt_callS (y_in (d := d)) cw_Y_in rfl (by omega) d_Y_sheet_11 rfl rfl (Nat.le_of_ble_eq_true rfl) (Nat.le_of_ble_eq_true rfl) rfl rfl rfl (fun v σ2 q => ?_)
      obtain ⟨rfl, e9⟩ := q
      rw [e9, show Yin (nI m).toInt64 0 3 = nI 1 from Yin_t (a := 0) (b := 3) rfl rfl (by omega) (by omega) (by decide)]
      clear e9
      refine tn_if_eq (t := 23) (by omega) d_Y_sheet_14 (by decide) (fun c_14 => ?_) (fun c_14 => ?_)
      · exact absurd c_14 (by decide)
      · refine tt_iload_n d_Y_sheet_17 rfl ?_
        refine tt_bipush (v := nI 8) d_Y_sheet_18 (by decide) ?_
        refine tn_ic_le (t := 25) (by omega) (by omega) d_Y_sheet_20 (by decide) (fun c_20 => ?_) (fun c_20 => ?_)
        · refine tt_iload_n d_Y_sheet_25 rfl ?_
          refine tt_iconst (v := nI 3) d_Y_sheet_26 (by decide) ?_
          refine tn_ic_eq (t := 37) (by omega) (by omega) d_Y_sheet_27 (by decide) (fun c_27 => ?_) (fun c_27 => ?_)
          · rw [if_pos (by omega)]
            refine tt_iconst (v := nI 0) d_Y_sheet_37 (by decide) ?_
            refine tt_istore (lv2 := [_, _, _, _, _, _, _, _, _]) d_Y_sheet_38 (by decide) rfl ?_
            refine tt_iload_n d_Y_sheet_40 rfl ?_
            refine tt_istore (lv2 := [_, _, _, _, _, _, _, _, _]) d_Y_sheet_41 (by decide) rfl ?_
            refine tt_iconst (v := nI 0) d_Y_sheet_43 (by decide) ?_
            refine tt_istore (lv2 := [_, _, _, _, _, _, _, _, _]) d_Y_sheet_44 (by decide) rfl ?_
            refine T.mono (y_sheet_l (c := c) (w := w) (q := m) (M := 0) ho (by omega) h.e.1.2.2.1 (fun _ _ => Nat.not_lt_zero _) (fun _ y _ => absurd (by omega) y) (eN (wE w)) 0 none _ rfl (by omega) Fq.rf (fun j hj => absurd hj (Nat.not_lt_zero j))) ?_
            rintro r υ ⟨rfl, z1, z2⟩
            have z := Y_str_w (h.ww hd0) z1 z2
            exact ⟨by rw [if_pos (by omega)], z.1, h.2.tr z.2⟩
          · rw [if_neg (by omega)]
            refine tt_iload_n d_Y_sheet_30 rfl ?_
            refine tn_if_ge (t := 37) (by omega) d_Y_sheet_31 (by decide) ?_
            refine tt_iconst (v := nI 0) d_Y_sheet_37 (by decide) ?_
            refine tt_istore (lv2 := [_, _, _, _, _, _, _, _, _]) d_Y_sheet_38 (by decide) rfl ?_
            refine tt_iload_n d_Y_sheet_40 rfl ?_
            refine tt_istore (lv2 := [_, _, _, _, _, _, _, _, _]) d_Y_sheet_41 (by decide) rfl ?_
            refine tt_iconst (v := nI 0) d_Y_sheet_43 (by decide) ?_
            refine tt_istore (lv2 := [_, _, _, _, _, _, _, _, _]) d_Y_sheet_44 (by decide) rfl ?_
            have hlt : ∀ {i : Nat}, i < 8 → (nI i < nI N ↔ i < N) := fun hi => by rw [rg_lt hN3, nI_toInt (by omega)]; omega
            refine T.mono (y_sheet_l (c := c) (w := w) (q := m) (M := N) ho (by omega) h.e.1.2.2.1 (fun hi y u => y.elim (fun e => absurd e (by omega)) (fun e => e ((hlt hi).mpr u))) (fun hi _ u => (hlt hi).mp u) (eN (wE w)) 0 none _ rfl (by omega) Fq.rf (fun j hj => absurd hj (Nat.not_lt_zero j))) ?_
            rintro r υ ⟨rfl, z1, z2⟩
            have z := Y_str_w (h.ww hd0) z1 z2
            exact ⟨by rw [if_neg (by omega)], z.1, h.2.tr z.2⟩
        · omega
    · have hqv : a_sheet w (nI m) n f s = if 8 < n.toInt then (-1, w) else if m = 3 then (-3, stS w (shN w 0 (nI m) f s)) else (-2, w) := by unfold a_sheet; rw [hq]; dsimp only; rw [hq2]
      rw [hqv]
      clear hqv
      have r8 : n ≤ nI 8 ↔ n.toInt ≤ 8 := rg_le (by decide)
      have r0 : n < 0 ↔ n.toInt < 0 := rg_lt (i := n) (a := 0) (by decide)
      have r1 : 0 ≤ n ↔ 0 ≤ n.toInt := fa_le' 0 n
      by_cases c8 : 8 < n.toInt
      · rw [if_pos c8]
        refine tt_aload_n d_Y_sheet_0 rfl ?_
        refine tt_iconst (v := nI 0) d_Y_sheet_1 (by decide) ?_
        refine tt_putI d_Y_sheet_2 rfl rfl (by decide) rfl (xpok_int rfl) rfl ?_
        replace h := h.thr (x := nI 0)
        replace hd0 := hd0.thr (x := nI 0)
        refine tt_iload_n d_Y_sheet_5 rfl ?_
        refine tt_i2l d_Y_sheet_6 ?_
        refine tt_lconst (v := 0) d_Y_sheet_7 (by decide) ?_
        refine tt_ldc2_w d_Y_sheet_8 rfl ?_
        refine tt_callS (y_in (d := d)) cw_Y_in rfl (by omega) d_Y_sheet_11 rfl rfl (Nat.le_of_ble_eq_true rfl) (Nat.le_of_ble_eq_true rfl) rfl rfl rfl (fun v σ2 q => ?_)
        obtain ⟨rfl, e9⟩ := q
        rw [e9, show Yin (nI m).toInt64 0 3 = nI 1 from Yin_t (a := 0) (b := 3) rfl rfl (by omega) (by omega) (by decide)]
        clear e9
        refine tn_if_eq (t := 23) (by omega) d_Y_sheet_14 (by decide) (fun c_14 => ?_) (fun c_14 => ?_)
        · exact absurd c_14 (by decide)
        · refine tt_iload_n d_Y_sheet_17 rfl ?_
          refine tt_bipush (v := nI 8) d_Y_sheet_18 (by decide) ?_
          refine tt_ic_le (t := 25) d_Y_sheet_20 (by decide) (fun c_20 => ?_) (fun c_20 => ?_)
          · exact absurd (r8.mp c_20) (by omega)
          · refine tt_iconst (v := (-1)) d_Y_sheet_23 (by decide) ?_
            refine tt_iret rfl d_Y_sheet_24 ?_
            exact ⟨rfl, h.ww hd0, h.2⟩
      · rw [if_neg c8]
        refine tt_aload_n d_Y_sheet_0 rfl ?_
        refine tt_iconst (v := nI 0) d_Y_sheet_1 (by decide) ?_
        refine tt_putI d_Y_sheet_2 rfl rfl (by decide) rfl (xpok_int rfl) rfl ?_
        replace h := h.thr (x := nI 0)
        replace hd0 := hd0.thr (x := nI 0)
        refine tt_iload_n d_Y_sheet_5 rfl ?_
        refine tt_i2l d_Y_sheet_6 ?_
        refine tt_lconst (v := 0) d_Y_sheet_7 (by decide) ?_
        refine tt_ldc2_w d_Y_sheet_8 rfl ?_
        refine tt_callS (y_in (d := d)) cw_Y_in rfl (by omega) d_Y_sheet_11 rfl rfl (Nat.le_of_ble_eq_true rfl) (Nat.le_of_ble_eq_true rfl) rfl rfl rfl (fun v σ2 q => ?_)
        obtain ⟨rfl, e9⟩ := q
        rw [e9, show Yin (nI m).toInt64 0 3 = nI 1 from Yin_t (a := 0) (b := 3) rfl rfl (by omega) (by omega) (by decide)]
        clear e9
        refine tn_if_eq (t := 23) (by omega) d_Y_sheet_14 (by decide) (fun c_14 => ?_) (fun c_14 => ?_)
        · exact absurd c_14 (by decide)
        · refine tt_iload_n d_Y_sheet_17 rfl ?_
          refine tt_bipush (v := nI 8) d_Y_sheet_18 (by decide) ?_
          refine tt_ic_le (t := 25) d_Y_sheet_20 (by decide) (fun c_20 => ?_) (fun c_20 => ?_)
          · refine tt_iload_n d_Y_sheet_25 rfl ?_
            refine tt_iconst (v := nI 3) d_Y_sheet_26 (by decide) ?_
            refine tn_ic_eq (t := 37) (by omega) (by omega) d_Y_sheet_27 (by decide) (fun c_27 => ?_) (fun c_27 => ?_)
            · rw [if_pos (by omega)]
              refine tt_iconst (v := nI 0) d_Y_sheet_37 (by decide) ?_
              refine tt_istore (lv2 := [_, _, _, _, _, _, _, _, _]) d_Y_sheet_38 (by decide) rfl ?_
              refine tt_iload_n d_Y_sheet_40 rfl ?_
              refine tt_istore (lv2 := [_, _, _, _, _, _, _, _, _]) d_Y_sheet_41 (by decide) rfl ?_
              refine tt_iconst (v := nI 0) d_Y_sheet_43 (by decide) ?_
              refine tt_istore (lv2 := [_, _, _, _, _, _, _, _, _]) d_Y_sheet_44 (by decide) rfl ?_
              refine T.mono (y_sheet_l (c := c) (w := w) (q := m) (M := 0) ho (by omega) h.e.1.2.2.1 (fun _ _ => Nat.not_lt_zero _) (fun _ y _ => absurd (by omega) y) (eN (wE w)) 0 none _ rfl (by omega) Fq.rf (fun j hj => absurd hj (Nat.not_lt_zero j))) ?_
              rintro r υ ⟨rfl, z1, z2⟩
              have z := Y_str_w (h.ww hd0) z1 z2
              exact ⟨by rw [if_pos (by omega)], z.1, h.2.tr z.2⟩
            · rw [if_neg (by omega)]
              refine tt_iload_n d_Y_sheet_30 rfl ?_
              refine tt_if_ge (t := 37) d_Y_sheet_31 (by decide) (fun c_31 => ?_) (fun c_31 => ?_)
              · exact absurd (r1.mp c_31) (by omega)
              · refine tt_bipush (v := (-2)) d_Y_sheet_34 (by decide) ?_
                refine tt_iret rfl d_Y_sheet_36 ?_
                exact ⟨rfl, h.ww hd0, h.2⟩
          · exact absurd (r8.mpr (by omega)) c_20
  · have hqv : a_sheet w k n f s = (-1, w) := by unfold a_sheet; rw [hq]
    rw [hqv]
    refine tt_aload_n d_Y_sheet_0 rfl ?_
    refine tt_iconst (v := nI 0) d_Y_sheet_1 (by decide) ?_
    refine tt_putI d_Y_sheet_2 rfl rfl (by decide) rfl (xpok_int rfl) rfl ?_
    replace h := h.thr (x := nI 0)
    replace hd0 := hd0.thr (x := nI 0)
    refine tt_iload_n d_Y_sheet_5 rfl ?_
    refine tt_i2l d_Y_sheet_6 ?_
    refine tt_lconst (v := 0) d_Y_sheet_7 (by decide) ?_
    refine tt_ldc2_w d_Y_sheet_8 rfl ?_
    refine tt_callS (y_in (d := d)) cw_Y_in rfl (by omega) d_Y_sheet_11 rfl rfl (Nat.le_of_ble_eq_true rfl) (Nat.le_of_ble_eq_true rfl) rfl rfl rfl (fun v σ2 q => ?_)
    obtain ⟨rfl, e9⟩ := q
    rw [e9, show Yin k.toInt64 0 3 = nI 0 from Yin_f (a := 0) (b := 3) rfl rfl (by decide) (by decide) hb]
    clear e9
    refine tn_if_eq (t := 23) (by omega) d_Y_sheet_14 (by decide) (fun c_14 => ?_) (fun c_14 => ?_)
    · refine tt_iconst (v := (-1)) d_Y_sheet_23 (by decide) ?_
      refine tt_iret rfl d_Y_sheet_24 ?_
      exact ⟨rfl, h.ww hd0, h.2⟩
    · exact absurd rfl c_14

