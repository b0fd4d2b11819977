/-! Questions: who let go (fits). Printed by wip/whole. -/
/-- what was seen -/
def okG (g : Nat × (Nat → Nat) × (Nat → Nat) × (Nat → Nat)) : Prop := g.1 ≤ 10 ∧ ∀ i, i < g.1 → g.2.1 i ≤ 20 ∧ g.2.2.1 i < 36 ∧ g.2.2.2 i ≤ 1
def agT (P : Nat → Nat) (g : Nat × (Nat → Nat) × (Nat → Nat) × (Nat → Nat)) (i : Nat) : Bool := decide (P (g.2.1 i) = g.2.2.1 i) == decide (g.2.2.2 i = 1)
def agB (P : Nat → Nat) (g : Nat × (Nat → Nat) × (Nat → Nat) × (Nat → Nat)) : Bool := (List.range g.1).all (agT P g)
theorem agB_t {P : Nat → Nat} {g : Nat × (Nat → Nat) × (Nat → Nat) × (Nat → Nat)} : agB P g = true ↔ ∀ i, i < g.1 → agT P g i = true := by
  unfold agB
  rw [List.all_eq_true]
  exact ⟨fun h i hi => h i (List.mem_range.mpr hi), fun h i hi => h i (List.mem_range.mp hi)⟩
def bN (b : Bool) : Nat := if b = true then 1 else 0
theorem bN_c (b : Bool) : bN b ≤ 1 ∧ (bN b = 0 ↔ b = false) ∧ (bN b = 1 ↔ b = true) := by cases b <;> decide
theorem agT_1 {P : Nat → Nat} {g : Nat × (Nat → Nat) × (Nat → Nat) × (Nat → Nat)} {i : Nat} (h : P (g.2.1 i) = g.2.2.1 i) (hs : g.2.2.2 i ≤ 1) : (agT P g i = true ↔ 1 = g.2.2.2 i) := by
  unfold agT
  rw [decide_eq_true h]
  by_cases c : g.2.2.2 i = 1
  · rw [decide_eq_true c]; exact ⟨fun _ => c.symm, fun _ => rfl⟩
  · rw [decide_eq_false c]; exact ⟨fun q => (by cases q), fun q => absurd q.symm c⟩
theorem agT_0 {P : Nat → Nat} {g : Nat × (Nat → Nat) × (Nat → Nat) × (Nat → Nat)} {i : Nat} (h : ¬ P (g.2.1 i) = g.2.2.1 i) (hs : g.2.2.2 i ≤ 1) : (agT P g i = true ↔ 0 = g.2.2.2 i) := by
  unfold agT
  rw [decide_eq_false h]
  by_cases c : g.2.2.2 i = 1
  · rw [decide_eq_true c]; exact ⟨fun q => (by cases q), fun q => (by omega)⟩
  · rw [decide_eq_false c]; exact ⟨fun _ => by omega, fun _ => rfl⟩
theorem agX {P : Nat → Nat} {g : Nat × (Nat → Nat) × (Nat → Nat) × (Nat → Nat)} {i : Nat} (hi : i < g.1) (h : ¬ agT P g i = true) : bN (agB P g) = 0 := (bN_c _).2.1.mpr (Bool.eq_false_iff.mpr (fun q => h (agB_t.mp q i hi)))
theorem agE {P : Nat → Nat} {g : Nat × (Nat → Nat) × (Nat → Nat) × (Nat → Nat)} (h : ∀ j, j < g.1 → agT P g j = true) : bN (agB P g) = 1 := (bN_c _).2.2.mpr (agB_t.mpr h)
theorem ag_s {P : Nat → Nat} {g : Nat × (Nat → Nat) × (Nat → Nat) × (Nat → Nat)} {i : Nat} (h : ∀ j, j < i → agT P g j = true) (h1 : agT P g i = true) : ∀ j, j < i + 1 → agT P g j = true := fun j hj => by
  by_cases c : j = i
  · rw [c]; exact h1
  · exact h j (by omega)
theorem x_agree_l {l : xLa} {d : Nat} {σ : xs} {b : Nat} {P : Nat → Nat} {g : Nat × (Nat → Nat) × (Nat → Nat) × (Nat → Nat)} (hb : xSh[b]? = some (1, 0, 21)) (hp : ∀ h, h ≤ 20 → si σ b h = nI (P h)) (hP : ∀ h, P h < 36) (hS : XS σ g) (hg : okG g) : ∀ (m : Nat) (i : Nat) (z : Option Int32), g.1 - i = m → i ≤ g.1 → (∀ j, j < i → agT P g j = true) → T l M_Sights_agreeWith (d + 1) 2 [some (.ref 112), some (.ref b), some (.int (nI i)), z.map Value.int] [] σ (fun r τ => r = some (.int (nI (bN (agB P g)))) ∧ τ = σ) := by
  intro m
  induction m using Nat.strongRecOn with
  | ind m ih =>
    intro i z hm hi hj
    have hg1 := hg.1
    refine tt_iload_n d_Sights_agreeWith_2 rfl ?_
    refine tt_aload_n d_Sights_agreeWith_3 rfl ?_
    refine tn_get d_Sights_agreeWith_4 rfl rfl (by decide) rfl hS.1 ?_
    refine tn_ic_ge (t := 61) (by omega) (by omega) d_Sights_agreeWith_7 (by decide) (fun c_7 => ?_) (fun c_7 => ?_)
    · obtain rfl : i = g.1 := by omega
      rw [agE hj]
      refine tt_iconst (v := nI 1) d_Sights_agreeWith_61 (by decide) ?_
      refine tt_zret rfl rfl d_Sights_agreeWith_62 ?_
      exact ⟨rfl, rfl⟩
    · obtain ⟨g1, g2, g3⟩ := hg.2 i (by omega)
      have hpi := hP (g.2.1 i)
      obtain ⟨s1, s2, s3⟩ := hS.2 i (by omega)
      refine tt_aload_n d_Sights_agreeWith_10 rfl ?_
      refine tt_getR d_Sights_agreeWith_11 rfl rfl (by decide) rfl rfl ?_
      refine tt_iload_n d_Sights_agreeWith_14 rfl ?_
      refine tn_iald d_Sights_agreeWith_15 rfl (by decide) (by omega) s1 ?_
      refine tt_istore_n (lv2 := [_, _, _, _]) d_Sights_agreeWith_16 (by decide) rfl ?_
      refine tt_iload_n d_Sights_agreeWith_17 rfl ?_
      refine tn_if_lt (t := 53) (by omega) d_Sights_agreeWith_18 (by decide) ?_
      refine tt_iload_n d_Sights_agreeWith_21 rfl ?_
      refine tt_aload_n d_Sights_agreeWith_22 rfl ?_
      refine tt_len d_Sights_agreeWith_23 hb (by decide) (by decide) (show Int32.ofNat 21 = nI 21 from rfl) ?_
      refine tn_ic_ge (t := 53) (by omega) (by omega) d_Sights_agreeWith_24 (by decide) (fun c_24 => ?_) (fun c_24 => ?_)
      · omega
      · refine tt_aload_n d_Sights_agreeWith_27 rfl ?_
        refine tt_iload_n d_Sights_agreeWith_28 rfl ?_
        refine tn_iald d_Sights_agreeWith_29 hb (by decide) (by omega) (hp _ (by omega)) ?_
        refine tt_aload_n d_Sights_agreeWith_30 rfl ?_
        refine tt_getR d_Sights_agreeWith_31 rfl rfl (by decide) rfl rfl ?_
        refine tt_iload_n d_Sights_agreeWith_34 rfl ?_
        refine tn_iald d_Sights_agreeWith_35 rfl (by decide) (by omega) s2 ?_
        refine tn_ic_ne (t := 43) (by omega) (by omega) d_Sights_agreeWith_36 (by decide) (fun c_36 => ?_) (fun c_36 => ?_)
        · have ha := agT_0 (P := P) (g := g) (i := i) c_36 g3
          refine tt_iconst (v := nI 0) d_Sights_agreeWith_43 (by decide) ?_
          refine tt_aload_n d_Sights_agreeWith_44 rfl ?_
          refine tt_getR d_Sights_agreeWith_45 rfl rfl (by decide) rfl rfl ?_
          refine tt_iload_n d_Sights_agreeWith_48 rfl ?_
          refine tn_zald d_Sights_agreeWith_49 rfl (by decide) (by omega) s3 ?_
          refine tn_ic_eq (t := 55) (by omega) (by omega) d_Sights_agreeWith_50 (by decide) (fun c_50 => ?_) (fun c_50 => ?_)
          · refine tt_iinc (lv2 := [_, _, _, _]) d_Sights_agreeWith_55 rfl (nI_inc _ 1) (by decide) rfl ?_
            refine tt_goto (t := 2) d_Sights_agreeWith_58 (by decide) ?_
            exact ih (g.1 - (i + 1)) (by omega) (i + 1) (some _) rfl (by omega) (ag_s hj (ha.mpr c_50))
          · rw [agX (by omega) (fun q => c_50 (ha.mp q))]
            refine tt_iconst (v := nI 0) d_Sights_agreeWith_53 (by decide) ?_
            refine tt_zret rfl rfl d_Sights_agreeWith_54 ?_
            exact ⟨rfl, rfl⟩
        · have ha := agT_1 (P := P) (g := g) (i := i) c_36 g3
          refine tt_iconst (v := nI 1) d_Sights_agreeWith_39 (by decide) ?_
          refine tt_goto (t := 44) d_Sights_agreeWith_40 (by decide) ?_
          refine tt_aload_n d_Sights_agreeWith_44 rfl ?_
          refine tt_getR d_Sights_agreeWith_45 rfl rfl (by decide) rfl rfl ?_
          refine tt_iload_n d_Sights_agreeWith_48 rfl ?_
          refine tn_zald d_Sights_agreeWith_49 rfl (by decide) (by omega) s3 ?_
          refine tn_ic_eq (t := 55) (by omega) (by omega) d_Sights_agreeWith_50 (by decide) (fun c_50 => ?_) (fun c_50 => ?_)
          · refine tt_iinc (lv2 := [_, _, _, _]) d_Sights_agreeWith_55 rfl (nI_inc _ 1) (by decide) rfl ?_
            refine tt_goto (t := 2) d_Sights_agreeWith_58 (by decide) ?_
            exact ih (g.1 - (i + 1)) (by omega) (i + 1) (some _) rfl (by omega) (ag_s hj (ha.mpr c_50))
          · rw [agX (by omega) (fun q => c_50 (ha.mp q))]
            refine tt_iconst (v := nI 0) d_Sights_agreeWith_53 (by decide) ?_
            refine tt_zret rfl rfl d_Sights_agreeWith_54 ?_
            exact ⟨rfl, rfl⟩

theorem x_agree {l : xLa} {d : Nat} {σ : xs} {b : Nat} {P : Nat → Nat} {g : Nat × (Nat → Nat) × (Nat → Nat) × (Nat → Nat)} (hb : xSh[b]? = some (1, 0, 21)) (hp : ∀ h, h ≤ 20 → si σ b h = nI (P h)) (hP : ∀ h, P h < 36) (hS : XS σ g) (hg : okG g) : TE l M_Sights_agreeWith (d + 1) [.ref 112, .ref b] σ (some (.int (nI (bN (agB P g))))) σ := by
  show T l M_Sights_agreeWith (d + 1) 0 _ [] σ _
  refine tt_iconst (v := nI 0) d_Sights_agreeWith_0 (by decide) ?_
  refine tt_istore_n (lv2 := [_, _, _, _]) d_Sights_agreeWith_1 (by decide) rfl ?_
  exact x_agree_l hb hp hP hS hg g.1 0 none rfl (by omega) (fun j hj => absurd hj (Nat.not_lt_zero j))

/-! fish i has let go (8: none has) -/
def lgV (w : wv) (i : Nat) : sv := if i < eN (wE w) then upv (wV w) 0 5 (dfN (wV w 0 5) (2 ^ i)) else wV w
def plH (w : wv) (i h : Nat) : Nat := (hrsV (wE w) (lgV w i) h) 0 0
theorem ok_lg {w : wv} (ho : okQ w) (i : Nat) : okV (wE w) (lgV w i) ∧ (lgV w i) 0 4 = wV w 0 4 := by
  unfold lgV
  split
  · exact ⟨ok_05 ho.2.1 (dfN_lt (n := 8) ho.h5), rfl⟩
  · exact ⟨ho.2.1, rfl⟩
theorem ok_lgh {w : wv} (ho : okQ w) (i : Nat) {h : Nat} (hh : h ≤ 1000) : okV (wE w) (hrsV (wE w) (lgV w i) h) ∧ (hrsV (wE w) (lgV w i) h) 0 4 + 1000 < 2 ^ 30 ∧ plH w i h < 36 := by
  have h2 := ho.2.2
  obtain ⟨a, b⟩ := ok_lg ho i
  obtain ⟨h1, h4⟩ := ok_hrs ho.1 a h (by omega)
  have := ho.fb
  have h0 := h1.1
  exact ⟨h1, by omega, by unfold plH; omega⟩
theorem hr_000 {e : xe} (he : okE e) (v : sv) (hv : v 0 0 < 36) : (hrV e v) 0 0 < 36 := by
  rw [hr_00]
  split
  · exact hv
  · have hb : ∀ R, R < 7 → ∀ C, C < 7 → ∀ f, f < 36 → ∀ w, w < 4 → (X_bes R C f w).toNatClampNeg < 36 := by decide +kernel
    have h1 := he.1
    have hg := goV_lt (e := e) (v := v) (z := nI 255)
    exact hb _ (by omega) _ (by omega) _ hv _ (by omega)
theorem plH_lt {w : wv} (ho : okQ w) (i : Nat) : ∀ h, plH w i h < 36
  | 0 => (ok_lgh ho i (h := 0) (by omega)).2.2
  | h + 1 => hr_000 ho.1 _ (plH_lt ho i h)
section
variable {l : xLa} {d : Nat} {σ τ υ : xs} {w : wv} {c : Nat}
theorem xq_hrsP {v : sv} {n : Nat} (h : XQ w σ τ) (ho : okQ w) (hv : okV (wE w) v) (hS : ST τ 30 v) (hh : v 0 4 + n < 2 ^ 30) : TC l M_Trip_pass (d + 7) [.ref 19, .ref 30, .ref (sp τ), .int (nI n)] τ (fun r υ => r = none ∧ XQ w σ υ ∧ ST υ 30 (hrsV (wE w) v n) ∧ Tn τ υ ∧ ∀ c, 118 ≤ c → c ≤ 126 → si υ c = si τ c) := by
  refine T.mono (x_pass (d := d) (σ := τ) isS_30 h.1.sp ho.1 hv hS h.e h.1.1.2.2.2.2 hh (by omega)) ?_
  rintro r υ ⟨rfl, h1, h2, h3, h4⟩
  have hR := h.1.R
  refine ⟨rfl, h.fq (h4.fq (fun c hc => by unfold PP PT PM Pu at hc; unfold XqA; omega) (fun c k hc => by unfold PP PT PM Pu at hc; unfold XqF XqA; omega)) h3, h1.e5 (hrs_z _ _ _), ⟨by rw [(h4.1 3 (by unfold PP PT PM Pu; omega)).1], by rw [h4.2.1]⟩, fun c h5 h6 => (h4.1 c (by unfold PP PT PM Pu; omega)).2⟩
theorem yq_hr0P {v : sv} (h : YQ c w σ τ) (ho : okQ w) (hv : okV (wE w) v) (hS : SY τ 161 (eN (wE w)) v) (hh : v 0 4 + 1 < 2 ^ 30) : TC l M_Y_hourGoes (d + 10) [.ref 154, .ref 161] τ (fun r υ => r = none ∧ YQ c w σ υ ∧ SY υ 161 (eN (wE w)) (hrV (wE w) v) ∧ Un τ υ ∧ ∀ c, 171 ≤ c → si υ c = si τ c) := by
  obtain ⟨u, h5, hT⟩ := TY_any τ v
  refine T.mono (y_hourGoes (d := d) (σ := τ) isY_161 ho.1 (h5.sy.ok hv) h.e (hS.e5 h5.sy) h.1.1.2 hT (by rw [h5 0 4 (by decide)]; exact hh)) ?_
  rintro r υ ⟨rfl, h1, h2, h3⟩
  exact ⟨rfl, h.fq (h3.mono (fun _ => HA_q) (fun _ _ => HF_q) (fun _ q => q.elim)), h1.e5 (h5.hr _), Un.fq h3, fun c hc => h3.1 c (by unfold HA; omega)⟩
end
/-- the places of fish i are noted -/
def PLX (w : wv) (i : Nat) (τ : xs) : Prop := ∀ h, h ≤ 20 → si τ (118 + i) h = nI (plH w i h)
theorem xw_pl {σ τ : xs} {w : wv} {a j : Nat} {x : Int32} (h : XQ w σ τ) (ha : 118 ≤ a ∧ a ≤ 126) : XQ w σ (wI τ a j x) := h.f0 (Fq.wI (by unfold sA; omega))
theorem pl_sh : ∀ i, i < 9 → xrr 117 i = some (118 + i) ∧ xSh[118 + i]? = some (1, 0, 21) := by decide +kernel
set_option maxHeartbeats 4000000 in
theorem x_follow_l {l : xLa} {d : Nat} {σ : xs} {w : wv} {i : Nat} {σ0 : xs} (hi : i ≤ 8) (ho : okQ w) : ∀ (m : Nat) (h0 : Nat) (τ : xs), 21 - h0 = m → h0 ≤ 21 → XQ w σ τ → Tn σ0 τ → ST τ 30 (hrsV (wE w) (lgV w i) h0) → (∀ k, k < h0 → si τ (118 + i) k = nI (plH w i k)) → (∀ c, 118 ≤ c → c ≤ 126 → ¬ c = 118 + i → si τ c = si σ0 c) → T l M_X_follow (d + 12) 54 [some (.ref 0), some (.int (nI i)), some (.int (nI h0))] [] τ (fun r υ => r = none ∧ XQ w σ υ ∧ Tn σ0 υ ∧ PLX w i υ ∧ ∀ c, 118 ≤ c → c ≤ 126 → ¬ c = 118 + i → si υ c = si σ0 c) := by
  have hb0 := ho.fb
  have hb8 := ho.n8
  intro m
  induction m using Nat.strongRecOn with
  | ind m ih =>
    intro h0 τ hm hh h ht hS hp hc
    have hok := ok_lgh ho i (h := h0) (by omega)
    have hsh := pl_sh i (by omega)
    refine tt_iload_n d_X_follow_54 rfl ?_
    refine tt_bipush (v := nI 20) d_X_follow_55 (by decide) ?_
    refine tn_ic_gt (t := 97) (by omega) (by omega) d_X_follow_57 (by decide) (fun c_57 => ?_) (fun c_57 => ?_)
    · obtain rfl : h0 = 21 := by omega
      refine tt_vret rfl d_X_follow_97 ?_
      exact ⟨rfl, h, ht, fun k hk => hp k (by omega), hc⟩
    · refine tt_aload_n d_X_follow_60 rfl ?_
      refine tt_getR d_X_follow_61 rfl rfl (by decide) rfl rfl ?_
      refine tt_iload_n d_X_follow_64 rfl ?_
      refine tn_aald d_X_follow_65 rfl (by decide) (by decide) (by omega) hsh.1 ?_
      refine tt_iload_n d_X_follow_66 rfl ?_
      refine tt_aload_n d_X_follow_67 rfl ?_
      refine tt_getR d_X_follow_68 rfl rfl (by decide) rfl rfl ?_
      refine tn_get d_X_follow_71 rfl rfl (by decide) rfl (show _ = nI (plH w i h0) from hS.1 0 (by decide)) ?_
      refine tn_iast d_X_follow_74 hsh.2 (by decide) (by omega) ?_
      replace hS : ST (wI _ (118 + i) h0 (nI (plH w i h0))) 30 _ := hS.fq (Fq.wI (A := fun c => c = 118 + i) (F := fun _ _ => False) (J := fun _ => False) rfl) (fun k hk => by omega) (fun k hk => id)
      replace h := xw_pl (a := 118 + i) (j := h0) (x := nI (plH w i h0)) h (by omega)
      replace ht : Tn σ0 (wI _ (118 + i) h0 (nI (plH w i h0))) := ht
      replace hp : ∀ k, k < h0 + 1 → si (wI _ (118 + i) h0 (nI (plH w i h0))) (118 + i) k = nI (plH w i k) := fun k hk => by
        rw [si_wI]
        by_cases q : k = h0
        · rw [if_pos ⟨rfl, q⟩, q]
        · rw [if_neg (fun z => q z.2)]; exact hp k (by omega)
      replace hc : ∀ c, 118 ≤ c → c ≤ 126 → ¬ c = 118 + i → si (wI _ (118 + i) h0 (nI (plH w i h0))) c = si σ0 c := fun c h1 h2 h3 => (up2_o h3).trans (hc c h1 h2 h3)
      refine tt_aload_n d_X_follow_75 rfl ?_
      refine tt_getR d_X_follow_76 rfl rfl (by decide) rfl rfl ?_
      refine tt_aload_n d_X_follow_79 rfl ?_
      refine tt_getR d_X_follow_80 rfl rfl (by decide) rfl rfl ?_
      refine tt_aload_n d_X_follow_83 rfl ?_
      refine tt_getP d_X_follow_84 rfl ?_
      refine tt_iconst (v := nI 1) d_X_follow_87 (by decide) ?_
      refine tt_callV (xq_hrsP (d := d) (n := 1) h ho hok.1 hS (by omega)) cw_Trip_pass rfl rfl (by decide) rfl (by omega) d_X_follow_88 rfl rfl (Nat.le_of_ble_eq_true rfl) (Nat.le_of_ble_eq_true rfl) rfl rfl rfl (fun v σ2 q => ?_)
      obtain ⟨rfl, h, hS, hu, hk⟩ := q
      replace ht := ht.tr hu
      replace hp : ∀ k, k < h0 + 1 → si _ (118 + i) k = nI (plH w i k) := fun k hk2 => (congrFun (hk (118 + i) (by omega) (by omega)) k).trans (hp k hk2)
      replace hc : ∀ c, 118 ≤ c → c ≤ 126 → ¬ c = 118 + i → si _ c = si σ0 c := fun c h1 h2 h3 => (hk c h1 h2).trans (hc c h1 h2 h3)
      refine tt_iinc (lv2 := [_, _, _]) d_X_follow_91 rfl (nI_inc _ 1) (by decide) rfl ?_
      refine tt_goto (t := 54) d_X_follow_94 (by decide) ?_
      exact ih (21 - (h0 + 1)) (by omega) (h0 + 1) _ rfl (by omega) h ht hS hp hc

theorem xq_follow {l : xLa} {d : Nat} {σ τ : xs} {w : wv} {i : Nat} (h : XQ w σ τ) (hi : i < eN (wE w) ∨ i = 8) (ho : okQ w) : TC l M_X_follow (d + 12) [.ref 0, .int (nI i)] τ (fun r υ => r = none ∧ XQ w σ υ ∧ Tn τ υ ∧ PLX w i υ ∧ ∀ c, 118 ≤ c → c ≤ 126 → ¬ c = 118 + i → si υ c = si τ c) := by
  have hb8 := ho.n8
  have ht : Tn τ τ := Tn.rf
  have hc : ∀ c, 118 ≤ c → c ≤ 126 → ¬ c = 118 + i → si τ c = si τ c := fun _ _ _ _ => rfl
  show T l M_X_follow (d + 12) 0 _ [] τ _
  rcases hi with hi | hi
  · have hxi : X_in (nI i) (eN (wE w)) = nI 1 := X_in_N hi (by omega)
    have hlg : lgV w i = upv (wV w) 0 5 (dfN (wV w 0 5) (2 ^ i)) := if_pos hi
    refine tt_aload_n d_X_follow_0 rfl ?_
    refine tt_getR d_X_follow_1 rfl rfl (by decide) rfl rfl ?_
    refine tt_aload_n d_X_follow_4 rfl ?_
    refine tt_getR d_X_follow_5 rfl rfl (by decide) rfl rfl ?_
    refine tt_callV (x_State_copy (d := d) isS_30 isS_20) cw_State_copy rfl rfl (by decide) rfl (by omega) d_X_follow_8 rfl rfl (Nat.le_of_ble_eq_true rfl) (Nat.le_of_ble_eq_true rfl) rfl rfl rfl (fun v σ2 q => ?_)
    obtain ⟨rfl, e9⟩ := q
    rw [e9]
    clear e9
    have hS := ST_copy isS_30 isS_20 h.1.2.1
    have h9 := Fq_copy (σ := τ) (A := fun c => 31 ≤ c ∧ c ≤ 34) (F := fun c _ => c = 30) (J := fun _ => False) isS_30 isS_20 (fun c hc => hc) (fun k hk => rfl)
    replace hc : ∀ c, 118 ≤ c → c ≤ 126 → ¬ c = 118 + i → si (X_copy τ 30 20) c = si τ c := fun c h1 h2 _ => h9.1 c (by omega)
    replace ht : Tn τ (X_copy τ 30 20) := ⟨h9.2.1 3 1 (by omega), h9.2.2.1 4 id⟩
    replace h := h.f0 (Fq_copy isS_30 isS_20 (fun c hc => by unfold sA; omega) (fun k hk => by unfold sF; omega))
    refine tt_aload_n d_X_follow_11 rfl ?_
    refine tt_getR d_X_follow_12 rfl rfl (by decide) rfl rfl ?_
    refine tt_iload_n d_X_follow_15 rfl ?_
    refine tt_callV (x_School_has (d := d) h.n ho.n8) cw_School_has rfl rfl (by decide) rfl (by omega) d_X_follow_16 rfl rfl (Nat.le_of_ble_eq_true rfl) (Nat.le_of_ble_eq_true rfl) rfl rfl rfl (fun v σ2 q => ?_)
    obtain ⟨rfl, e9⟩ := q
    rw [e9, hxi]
    clear e9
    refine tn_if_eq (t := 39) (by omega) d_X_follow_19 (by decide) (fun c_19 => ?_) (fun c_19 => ?_)
    · omega
    · refine tt_aload_n d_X_follow_22 rfl ?_
      refine tt_getR d_X_follow_23 rfl rfl (by decide) rfl rfl ?_
      refine tt_dup d_X_follow_26 rfl ?_
      refine tn_get d_X_follow_27 rfl rfl (by decide) rfl (hS.1 5 (by decide)) ?_
      refine tt_iconst (v := nI 1) d_X_follow_30 (by decide) ?_
      refine tt_iload_n d_X_follow_31 rfl ?_
      refine tt_ishl d_X_follow_32 ?_
      refine tt_top (shl_9 _ (by omega)) ?_
      refine tt_iconst (v := (-1)) d_X_follow_33 (by decide) ?_
      refine tt_ixor d_X_follow_34 ?_
      refine tt_iand d_X_follow_35 ?_
      refine tt_top (an_N _ _) ?_
      refine tt_putI d_X_follow_36 rfl rfl (by decide) rfl (xpok_int rfl) rfl ?_
      replace hS := ST_wF (k := 5) (x := dfN (wV w 0 5) (2 ^ i)) hS
      rw [← hlg] at hS
      replace h := xq_wh (k := 5) (x := nI (dfN (wV w 0 5) (2 ^ i))) h
      replace ht : Tn τ (wF (X_copy τ 30 20) 30 5 (nI (dfN (wV w 0 5) (2 ^ i)))) := ht
      replace hc : ∀ c, 118 ≤ c → c ≤ 126 → ¬ c = 118 + i → si (wF (X_copy τ 30 20) 30 5 (nI (dfN (wV w 0 5) (2 ^ i)))) c = si τ c := hc
      refine tt_iload_n d_X_follow_39 rfl ?_
      refine tn_if_lt (t := 97) (by omega) d_X_follow_40 (by decide) ?_
      refine tt_iload_n d_X_follow_43 rfl ?_
      refine tt_aload_n d_X_follow_44 rfl ?_
      refine tt_getR d_X_follow_45 rfl rfl (by decide) rfl rfl ?_
      refine tt_len d_X_follow_48 rfl (by decide) (by decide) (show Int32.ofNat 9 = nI 9 from rfl) ?_
      refine tn_ic_ge (t := 97) (by omega) (by omega) d_X_follow_49 (by decide) (fun c_49 => ?_) (fun c_49 => ?_)
      · omega
      · refine tt_iconst (v := nI 0) d_X_follow_52 (by decide) ?_
        refine tt_istore_n (lv2 := [_, _, _]) d_X_follow_53 (by decide) rfl ?_
        exact x_follow_l (by omega) ho 21 0 _ rfl (by omega) h ht hS (fun k hk => absurd hk (Nat.not_lt_zero k)) hc
  · subst hi
    have hxi : X_in (nI 8) (eN (wE w)) = nI 0 := X_in_none (by rw [nI_toInt (by decide)]; omega)
    have hlg : lgV w 8 = wV w := if_neg (by omega)
    refine tt_aload_n d_X_follow_0 rfl ?_
    refine tt_getR d_X_follow_1 rfl rfl (by decide) rfl rfl ?_
    refine tt_aload_n d_X_follow_4 rfl ?_
    refine tt_getR d_X_follow_5 rfl rfl (by decide) rfl rfl ?_
    refine tt_callV (x_State_copy (d := d) isS_30 isS_20) cw_State_copy rfl rfl (by decide) rfl (by omega) d_X_follow_8 rfl rfl (Nat.le_of_ble_eq_true rfl) (Nat.le_of_ble_eq_true rfl) rfl rfl rfl (fun v σ2 q => ?_)
    obtain ⟨rfl, e9⟩ := q
    rw [e9]
    clear e9
    have hS := ST_copy isS_30 isS_20 h.1.2.1
    rw [← hlg] at hS
    have h9 := Fq_copy (σ := τ) (A := fun c => 31 ≤ c ∧ c ≤ 34) (F := fun c _ => c = 30) (J := fun _ => False) isS_30 isS_20 (fun c hc => hc) (fun k hk => rfl)
    replace hc : ∀ c, 118 ≤ c → c ≤ 126 → ¬ c = 118 + 8 → si (X_copy τ 30 20) c = si τ c := fun c h1 h2 _ => h9.1 c (by omega)
    replace ht : Tn τ (X_copy τ 30 20) := ⟨h9.2.1 3 1 (by omega), h9.2.2.1 4 id⟩
    replace h := h.f0 (Fq_copy isS_30 isS_20 (fun c hc => by unfold sA; omega) (fun k hk => by unfold sF; omega))
    refine tt_aload_n d_X_follow_11 rfl ?_
    refine tt_getR d_X_follow_12 rfl rfl (by decide) rfl rfl ?_
    refine tt_iload_n d_X_follow_15 rfl ?_
    refine tt_callV (x_School_has (d := d) h.n ho.n8) cw_School_has rfl rfl (by decide) rfl (by omega) d_X_follow_16 rfl rfl (Nat.le_of_ble_eq_true rfl) (Nat.le_of_ble_eq_true rfl) rfl rfl rfl (fun v σ2 q => ?_)
    obtain ⟨rfl, e9⟩ := q
    rw [e9, hxi]
    clear e9
    refine tn_if_eq (t := 39) (by omega) d_X_follow_19 (by decide) (fun c_19 => ?_) (fun c_19 => ?_)
    · refine tt_iload_n d_X_follow_39 rfl ?_
      refine tn_if_lt (t := 97) (by omega) d_X_follow_40 (by decide) ?_
      refine tt_iload_n d_X_follow_43 rfl ?_
      refine tt_aload_n d_X_follow_44 rfl ?_
      refine tt_getR d_X_follow_45 rfl rfl (by decide) rfl rfl ?_
      refine tt_len d_X_follow_48 rfl (by decide) (by decide) (show Int32.ofNat 9 = nI 9 from rfl) ?_
      refine tn_ic_ge (t := 97) (by omega) (by omega) d_X_follow_49 (by decide) (fun c_49 => ?_) (fun c_49 => ?_)
      · omega
      · refine tt_iconst (v := nI 0) d_X_follow_52 (by decide) ?_
        refine tt_istore_n (lv2 := [_, _, _]) d_X_follow_53 (by decide) rfl ?_
        exact x_follow_l (by omega) ho 21 0 _ rfl (by omega) h ht hS (fun k hk => absurd hk (Nat.not_lt_zero k)) hc
    · omega

def ftB (w : wv) (i : Nat) : Bool := (wV w 0 5).testBit i && agB (plH w i) (wS w)
def ftN (w : wv) (n : Nat) : Nat := bsN (ftB w) n
theorem ftN_s (w : wv) (n : Nat) : ftN w (n + 1) = ftN w n ||| (if ftB w n = true then 2 ^ n else 0) := rfl
theorem ftN_lt (w : wv) {n : Nat} (h : n ≤ 8) : ftN w n < 256 := bsN_256 _ h
def q_fits (w : wv) : Int32 × Option (List Int64) := (nI (ftN w (eN (wE w))), some [(nI (pcN (ftN w (eN (wE w))))).toInt64, (nI (bN (agB (plH w 8) (wS w)))).toInt64])
theorem XQ.s {σ τ : xs} {w : wv} (h : XQ w σ τ) : XS τ (wS w) := h.1.2.2.2.2.2
set_option maxHeartbeats 4000000 in
theorem x_fitting_l {l : xLa} {d : Nat} {σ : xs} {w : wv} {σ0 : xs} (hg : okG (wS w)) (ho : okQ w) : ∀ (m : Nat) (i b : Nat) (τ : xs), eN (wE w) - i = m → i ≤ eN (wE w) → XQ w σ τ → Tn σ0 τ → (∀ j, j < i → (wV w 0 5).testBit j = true → PLX w j τ) → b = ftN w i → T l M_X_fitting (d + 20) 4 [some (.ref 0), some (.int (nI b)), some (.int (nI i))] [] τ (fun r υ => r = some (.int (nI (ftN w (eN (wE w))))) ∧ XQ w σ υ ∧ Tn σ0 υ ∧ ∀ i, i < eN (wE w) → (wV w 0 5).testBit i = true → PLX w i υ) := by
  have hb0 := ho.fb
  have hb8 := ho.n8
  intro m
  induction m using Nat.strongRecOn with
  | ind m ih =>
    intro i b τ hm hi h ht hp hb
    have htb := tbN_c (wV w 0 5) i
    have hbn := bN_c (agB (plH w i) (wS w))
    refine tt_iload_n d_X_fitting_4 rfl ?_
    refine tt_aload_n d_X_fitting_5 rfl ?_
    refine tt_getR d_X_fitting_6 rfl rfl (by decide) rfl rfl ?_
    refine tn_get d_X_fitting_9 rfl rfl (by decide) rfl h.n ?_
    refine tn_ic_ge (t := 63) (by omega) (by omega) d_X_fitting_12 (by decide) (fun c_12 => ?_) (fun c_12 => ?_)
    · obtain rfl : i = eN (wE w) := by omega
      subst hb
      refine tt_iload_n d_X_fitting_63 rfl ?_
      refine tt_iret rfl d_X_fitting_64 ?_
      exact ⟨rfl, h, ht, hp⟩
    · have hsh := pl_sh i (by omega)
      refine tt_aload_n d_X_fitting_15 rfl ?_
      refine tt_getR d_X_fitting_16 rfl rfl (by decide) rfl rfl ?_
      refine tt_iload_n d_X_fitting_19 rfl ?_
      refine tt_callV (x_holdN (d := d) isS_20 h.1.2.1 ho.h5 (by omega)) cw_State_holds rfl rfl (by decide) rfl (by omega) d_X_fitting_20 rfl rfl (Nat.le_of_ble_eq_true rfl) (Nat.le_of_ble_eq_true rfl) rfl rfl rfl (fun v σ2 q => ?_)
      obtain ⟨rfl, e9⟩ := q
      rw [e9]
      clear e9
      refine tn_if_eq (t := 57) (by omega) d_X_fitting_23 (by decide) (fun c_23 => ?_) (fun c_23 => ?_)
      · have hz : b = ftN w (i + 1) := by
          rw [ftN_s, if_neg (show ¬ ftB w i = true from fun q => htb.2.2.mp c_23 (((Bool.and_eq_true _ _).mp q).1)), Nat.or_zero, hb]
        replace hp : ∀ j, j < i + 1 → (wV w 0 5).testBit j = true → PLX w j _ := fun j hj q => by
          by_cases z : j = i
          · subst z; exact absurd q (htb.2.2.mp c_23)
          · exact hp j (by omega) q
        refine tt_iinc (lv2 := [_, _, _]) d_X_fitting_57 rfl (nI_inc _ 1) (by decide) rfl ?_
        refine tt_goto (t := 4) d_X_fitting_60 (by decide) ?_
        exact ih (eN (wE w) - (i + 1)) (by omega) (i + 1) _ _ rfl (by omega) h ht hp hz
      · have hti : (wV w 0 5).testBit i = true := htb.2.1.mp (by omega)
        refine tt_aload_n d_X_fitting_26 rfl ?_
        refine tt_iload_n d_X_fitting_27 rfl ?_
        refine tt_callV (xq_follow (d := d) h (Or.inl (by omega)) ho) cw_X_follow rfl rfl (by decide) rfl (by omega) d_X_fitting_28 rfl rfl (Nat.le_of_ble_eq_true rfl) (Nat.le_of_ble_eq_true rfl) rfl rfl rfl (fun v σ2 q => ?_)
        obtain ⟨rfl, h, hu, hpi, hpo⟩ := q
        replace ht := ht.tr hu
        replace hp : ∀ j, j < i + 1 → (wV w 0 5).testBit j = true → PLX w j _ := fun j hj q => by
          by_cases z : j = i
          · subst z; exact hpi
          · exact fun k hk => (congrFun (hpo (118 + j) (by omega) (by omega) (by omega)) k).trans (hp j (by omega) q k hk)
        refine tt_iload_n d_X_fitting_31 rfl ?_
        refine tt_aload_n d_X_fitting_32 rfl ?_
        refine tt_getR d_X_fitting_33 rfl rfl (by decide) rfl rfl ?_
        refine tt_aload_n d_X_fitting_36 rfl ?_
        refine tt_getR d_X_fitting_37 rfl rfl (by decide) rfl rfl ?_
        refine tt_iload_n d_X_fitting_40 rfl ?_
        refine tn_aald d_X_fitting_41 rfl (by decide) (by decide) (by omega) hsh.1 ?_
        refine tt_callV (x_agree (d := d) hsh.2 hpi (plH_lt ho i) h.s hg) cw_Sights_agreeWith rfl rfl (by decide) rfl (by omega) d_X_fitting_42 rfl rfl (Nat.le_of_ble_eq_true rfl) (Nat.le_of_ble_eq_true rfl) rfl rfl rfl (fun v σ2 q => ?_)
        obtain ⟨rfl, e9⟩ := q
        rw [e9]
        clear e9
        have hfb : ftB w i = agB (plH w i) (wS w) := by unfold ftB; rw [hti, Bool.true_and]
        refine tn_if_eq (t := 54) (by omega) d_X_fitting_45 (by decide) (fun c_45 => ?_) (fun c_45 => ?_)
        · have hz : b ||| 0 = ftN w (i + 1) := by
            rw [ftN_s, if_neg (fun q => by rw [hbn.2.1.mp c_45] at hfb; rw [hfb] at q; cases q), hb]
          refine tt_iconst (v := nI 0) d_X_fitting_54 (by decide) ?_
          refine tt_ior d_X_fitting_55 ?_
          refine tt_top (or_N _ _) ?_
          refine tt_istore_n (lv2 := [_, _, _]) d_X_fitting_56 (by decide) rfl ?_
          refine tt_iinc (lv2 := [_, _, _]) d_X_fitting_57 rfl (nI_inc _ 1) (by decide) rfl ?_
          refine tt_goto (t := 4) d_X_fitting_60 (by decide) ?_
          exact ih (eN (wE w) - (i + 1)) (by omega) (i + 1) _ _ rfl (by omega) h ht hp hz
        · have hz : b ||| 2 ^ i = ftN w (i + 1) := by
            have hb1 : agB (plH w i) (wS w) = true := hbn.2.2.mp (by omega)
            rw [hb1] at hfb
            rw [ftN_s, if_pos hfb, hb]
          refine tt_iconst (v := nI 1) d_X_fitting_48 (by decide) ?_
          refine tt_iload_n d_X_fitting_49 rfl ?_
          refine tt_ishl d_X_fitting_50 ?_
          refine tt_top (shl_9 _ (by omega)) ?_
          refine tt_goto (t := 55) d_X_fitting_51 (by decide) ?_
          refine tt_ior d_X_fitting_55 ?_
          refine tt_top (or_N _ _) ?_
          refine tt_istore_n (lv2 := [_, _, _]) d_X_fitting_56 (by decide) rfl ?_
          refine tt_iinc (lv2 := [_, _, _]) d_X_fitting_57 rfl (nI_inc _ 1) (by decide) rfl ?_
          refine tt_goto (t := 4) d_X_fitting_60 (by decide) ?_
          exact ih (eN (wE w) - (i + 1)) (by omega) (i + 1) _ _ rfl (by omega) h ht hp hz

theorem xq_fitting {l : xLa} {d : Nat} {σ τ : xs} {w : wv} (h : XQ w σ τ) (hg : okG (wS w)) (ho : okQ w) : TC l M_X_fitting (d + 20) [.ref 0] τ (fun r υ => r = some (.int (nI (ftN w (eN (wE w))))) ∧ XQ w σ υ ∧ Tn τ υ ∧ ∀ i, i < eN (wE w) → (wV w 0 5).testBit i = true → PLX w i υ) := by
  show T l M_X_fitting (d + 20) 0 _ [] τ _
  refine tt_iconst (v := nI 0) d_X_fitting_0 (by decide) ?_
  refine tt_istore_n (lv2 := [_, _, _]) d_X_fitting_1 (by decide) rfl ?_
  refine tt_iconst (v := nI 0) d_X_fitting_2 (by decide) ?_
  refine tt_istore_n (lv2 := [_, _, _]) d_X_fitting_3 (by decide) rfl ?_
  exact x_fitting_l hg ho (eN (wE w)) 0 0 _ rfl (by omega) h Tn.rf (fun j hj => absurd hj (Nat.not_lt_zero j)) rfl

set_option maxHeartbeats 4000000 in
theorem xc_fits {l : xLa} {d : Nat} {σ : xs} {w : wv} (ho : okQ w) (hw : XW σ w) (hg : okG (wS w)) : TC l M_X_fits (d + 40) [.ref 0] σ (fun r τ => r = some (.int ((q_fits w).1)) ∧ XW τ (stD w ((q_fits w).2)) ∧ XF σ τ) := by
  show T l M_X_fits (d + 40) 0 _ [] σ _
  refine T_lv (lv2 := [_, _]) rfl ?_
  have h := XQ.rf hw.v
  have hd0 := hw.2.2.2.1
  have hb0 := ho.fb
  have hb8 := ho.n8
  have hfl := ftN_lt w ho.n8
  have hbn := bN_c (agB (plH w 8) (wS w))
  refine tt_aload_n d_X_fits_0 rfl ?_
  refine tt_callV (xq_fitting (d := d) h hg ho) cw_X_fitting rfl rfl (by decide) rfl (by omega) d_X_fits_1 rfl rfl (Nat.le_of_ble_eq_true rfl) (Nat.le_of_ble_eq_true rfl) rfl rfl rfl (fun v σ2 q => ?_)
  obtain ⟨rfl, h, hu, -⟩ := q
  refine tt_istore_n (lv2 := [_, _]) d_X_fits_4 (by decide) rfl ?_
  refine tt_aload_n d_X_fits_5 rfl ?_
  refine tt_bipush (v := nI 8) d_X_fits_6 (by decide) ?_
  refine tt_callV (xq_follow (d := d) h (Or.inr rfl) ho) cw_X_follow rfl rfl (by decide) rfl (by omega) d_X_fits_8 rfl rfl (Nat.le_of_ble_eq_true rfl) (Nat.le_of_ble_eq_true rfl) rfl rfl rfl (fun v σ2 q => ?_)
  obtain ⟨rfl, h, hu, hpi, -⟩ := q
  refine tt_aload_n d_X_fits_11 rfl ?_
  refine tt_getR d_X_fits_12 rfl rfl (by decide) rfl rfl ?_
  refine tt_callV (xq_start (d := d) h) cw_Told_start rfl rfl (by decide) rfl (by omega) d_X_fits_15 rfl rfl (Nat.le_of_ble_eq_true rfl) (Nat.le_of_ble_eq_true rfl) rfl rfl rfl (fun v σ2 q => ?_)
  obtain ⟨rfl, h, hd, hf⟩ := q
  replace hpi : PLX w 8 _ := fun k hk => (congrFun (hf.si (118 + 8)) k).trans (hpi k hk)
  refine tt_aload_n d_X_fits_18 rfl ?_
  refine tt_getR d_X_fits_19 rfl rfl (by decide) rfl rfl ?_
  refine tt_iload_n d_X_fits_22 rfl ?_
  refine tt_callS (x_bitN (d := d) (by omega)) cw_Integer_bitCount rfl (by omega) d_X_fits_23 rfl rfl (Nat.le_of_ble_eq_true rfl) (Nat.le_of_ble_eq_true rfl) rfl rfl rfl (fun v σ2 q => ?_)
  obtain ⟨rfl, e9⟩ := q
  rw [e9]
  clear e9
  refine tt_i2l d_X_fits_26 ?_
  refine tt_callV (xq_add (d := d) h hd (Nat.le_of_ble_eq_true rfl)) cw_Told_add rfl rfl (by decide) rfl (by omega) d_X_fits_27 rfl rfl (Nat.le_of_ble_eq_true rfl) (Nat.le_of_ble_eq_true rfl) rfl rfl rfl (fun v σ2 q => ?_)
  obtain ⟨rfl, h, hd, hf⟩ := q
  replace hpi : PLX w 8 _ := fun k hk => (congrFun (hf.si (118 + 8)) k).trans (hpi k hk)
  refine tt_aload_n d_X_fits_30 rfl ?_
  refine tt_getR d_X_fits_31 rfl rfl (by decide) rfl rfl ?_
  refine tt_aload_n d_X_fits_34 rfl ?_
  refine tt_getR d_X_fits_35 rfl rfl (by decide) rfl rfl ?_
  refine tt_aload_n d_X_fits_38 rfl ?_
  refine tt_getR d_X_fits_39 rfl rfl (by decide) rfl rfl ?_
  refine tt_bipush (v := nI 8) d_X_fits_42 (by decide) ?_
  refine tn_aald d_X_fits_44 rfl (by decide) (by decide) (by omega) rfl ?_
  refine tt_callV (x_agree (d := d) (b := 126) rfl hpi (plH_lt ho 8) h.s hg) cw_Sights_agreeWith rfl rfl (by decide) rfl (by omega) d_X_fits_45 rfl rfl (Nat.le_of_ble_eq_true rfl) (Nat.le_of_ble_eq_true rfl) rfl rfl rfl (fun v σ2 q => ?_)
  obtain ⟨rfl, e9⟩ := q
  rw [e9]
  clear e9
  refine tn_if_eq (t := 55) (by omega) d_X_fits_48 (by decide) (fun c_48 => ?_) (fun c_48 => ?_)
  · have e1 : (0 : Int64) = (nI (bN (agB (plH w 8) (wS w)))).toInt64 := by rw [c_48]; rfl
    refine tt_lconst (v := 0) d_X_fits_55 (by decide) ?_
    refine tt_callV (xq_add (d := d) h hd (Nat.le_of_ble_eq_true rfl)) cw_Told_add rfl rfl (by decide) rfl (by omega) d_X_fits_56 rfl rfl (Nat.le_of_ble_eq_true rfl) (Nat.le_of_ble_eq_true rfl) rfl rfl rfl (fun v σ2 q => ?_)
    obtain ⟨rfl, h, hd, hf⟩ := q
    refine tt_iload_n d_X_fits_59 rfl ?_
    refine tt_iret rfl d_X_fits_60 ?_
    rw [e1] at hd
    exact ⟨rfl, h.done hd, h.2.1⟩
  · have e1 : (1 : Int64) = (nI (bN (agB (plH w 8) (wS w)))).toInt64 := by rw [show bN (agB (plH w 8) (wS w)) = 1 by omega]; rfl
    refine tt_lconst (v := 1) d_X_fits_51 (by decide) ?_
    refine tt_goto (t := 56) d_X_fits_52 (by decide) ?_
    refine tt_callV (xq_add (d := d) h hd (Nat.le_of_ble_eq_true rfl)) cw_Told_add rfl rfl (by decide) rfl (by omega) d_X_fits_56 rfl rfl (Nat.le_of_ble_eq_true rfl) (Nat.le_of_ble_eq_true rfl) rfl rfl rfl (fun v σ2 q => ?_)
    obtain ⟨rfl, h, hd, hf⟩ := q
    refine tt_iload_n d_X_fits_59 rfl ?_
    refine tt_iret rfl d_X_fits_60 ?_
    rw [e1] at hd
    exact ⟨rfl, h.done hd, h.2.1⟩

theorem y_place {l : xLa} {d : Nat} {σ : xs} {k n : Nat} : TE l M_Y_place (d + 1) [.int (nI k), .int (nI n)] σ (some (.int (nI (21 * k + n)))) σ := by
  show T l M_Y_place (d + 1) 0 _ [] σ _
  refine tt_bipush (v := nI 21) d_Y_place_0 (by decide) ?_
  refine tt_iload_n d_Y_place_2 rfl ?_
  refine tn_imul d_Y_place_3 ?_
  refine tt_iload_n d_Y_place_4 rfl ?_
  refine tn_iadd d_Y_place_5 ?_
  refine tt_iret rfl d_Y_place_6 ?_
  exact ⟨rfl, rfl⟩
/-- the places of fish i are noted -/
def PLY (w : wv) (i : Nat) (τ : xs) : Prop := ∀ h, h ≤ 20 → si τ 180 (21 * i + h) = nI (plH w i h)
theorem yw_pl {σ τ : xs} {w : wv} {c j : Nat} {x : Int32} (h : YQ c w σ τ) : YQ c w σ (wI τ 180 j x) := h.fq (Fq.wI (by unfold YqA; omega))
theorem YQ.s {σ τ : xs} {w : wv} {c : Nat} (h : YQ c w σ τ) : YS τ (wS w) := h.1.2.2.2.2.2
theorem nar_b {b : Nat} (h : b ≤ 1) : narrow .boolean (.int (nI b)) = .int (nI b) := by
  rcases (show b = 0 ∨ b = 1 by omega) with rfl | rfl <;> rfl
set_option maxHeartbeats 4000000 in
theorem y_isAs2 {l : xLa} {d : Nat} {σ : xs} {c : Nat} {w : wv} {i : Nat} {τ : xs} (hi : i ≤ 8) (hg : okG (wS w)) (h : YQ c w σ τ) (hp : PLY w i τ) (ho : okQ w) : ∀ (m : Nat) (j b : Nat), (wS w).1 - j = m → j ≤ (wS w).1 → b ≤ 1 → (b = 1 ↔ ∀ z, z < j → agT (plH w i) (wS w) z = true) → T l M_Y_isAsSeen (d + 20) 82 [some (.ref 154), some (.int (nI i)), some (.int (nI b)), some (.int (nI j))] [] τ (fun r υ => r = some (.int (nI (bN (agB (plH w i) (wS w))))) ∧ υ = τ) := by
  have hb0 := ho.fb
  have hb8 := ho.n8
  intro m
  induction m using Nat.strongRecOn with
  | ind m ih =>
    intro j b hm hj hb hbb
    have hg1 := hg.1
    have hg2 := hg.2
    have hPL := plH_lt ho i
    have hsy := h.s
    refine tt_iload_n d_Y_isAsSeen_82 rfl ?_
    refine tt_aload_n d_Y_isAsSeen_83 rfl ?_
    refine tn_get d_Y_isAsSeen_84 rfl rfl (by decide) rfl hsy.1 ?_
    refine tn_ic_ge (t := 147) (by omega) (by omega) d_Y_isAsSeen_87 (by decide) (fun c_87 => ?_) (fun c_87 => ?_)
    · obtain rfl : j = (wS w).1 := by omega
      have hbe : b = bN (agB (plH w i) (wS w)) := by
        have hc := bN_c (agB (plH w i) (wS w))
        by_cases q : b = 1
        · rw [q, agE (hbb.mp q)]
        · have : ¬ agB (plH w i) (wS w) = true := fun z => q (hbb.mpr (fun y hy => agB_t.mp z y hy))
          rw [hc.2.1.mpr (Bool.eq_false_iff.mpr this)]
          omega
      rw [hbe]
      refine tt_iload_n d_Y_isAsSeen_147 rfl ?_
      refine tt_zret rfl (nar_b (bN_c _).1) d_Y_isAsSeen_148 ?_
      exact ⟨rfl, rfl⟩
    · obtain ⟨g1, g2, g3⟩ := hg2 j (by omega)
      have hpj := hPL ((wS w).2.1 j)
      obtain ⟨s1, s2, s3⟩ := hsy.2 j (by omega)
      refine tt_iload_n d_Y_isAsSeen_90 rfl ?_
      refine tn_if_eq (t := 139) (by omega) d_Y_isAsSeen_91 (by decide) (fun c_91 => ?_) (fun c_91 => ?_)
      · have hz : (0 = 1 ↔ ∀ z, z < j + 1 → agT (plH w i) (wS w) z = true) := ⟨fun q => by omega, fun q => by have := hbb.mpr (fun z hz => q z (by omega)); omega⟩
        refine tt_iconst (v := nI 0) d_Y_isAsSeen_139 (by decide) ?_
        refine tt_istore_n (lv2 := [_, _, _, _]) d_Y_isAsSeen_140 (by decide) rfl ?_
        refine tt_iinc (lv2 := [_, _, _, _]) d_Y_isAsSeen_141 rfl (nI_inc _ 1) (by decide) rfl ?_
        refine tt_goto (t := 82) d_Y_isAsSeen_144 (by decide) ?_
        exact ih ((wS w).1 - (j + 1)) (by omega) (j + 1) _ rfl (by omega) (by omega) hz
      · have hb1 := hbb.mp (by omega)
        refine tt_aload_n d_Y_isAsSeen_94 rfl ?_
        refine tt_getR d_Y_isAsSeen_95 rfl rfl (by decide) rfl rfl ?_
        refine tt_iload_n d_Y_isAsSeen_98 rfl ?_
        refine tt_aload_n d_Y_isAsSeen_99 rfl ?_
        refine tt_getR d_Y_isAsSeen_100 rfl rfl (by decide) rfl rfl ?_
        refine tt_iload_n d_Y_isAsSeen_103 rfl ?_
        refine tn_iald d_Y_isAsSeen_104 rfl (by decide) (by omega) s1 ?_
        refine tt_callS (y_place (d := d)) cw_Y_place rfl (by omega) d_Y_isAsSeen_105 rfl rfl (Nat.le_of_ble_eq_true rfl) (Nat.le_of_ble_eq_true rfl) rfl rfl rfl (fun v σ2 q => ?_)
        obtain ⟨rfl, e9⟩ := q
        rw [e9]
        clear e9
        refine tn_iald d_Y_isAsSeen_108 rfl (by decide) (by omega) (hp _ (by omega)) ?_
        refine tt_aload_n d_Y_isAsSeen_109 rfl ?_
        refine tt_getR d_Y_isAsSeen_110 rfl rfl (by decide) rfl rfl ?_
        refine tt_iload_n d_Y_isAsSeen_113 rfl ?_
        refine tn_iald d_Y_isAsSeen_114 rfl (by decide) (by omega) s2 ?_
        refine tn_ic_ne (t := 122) (by omega) (by omega) d_Y_isAsSeen_115 (by decide) (fun c_115 => ?_) (fun c_115 => ?_)
        · have ha := agT_0 (P := plH w i) (g := wS w) (i := j) c_115 g3
          refine tt_iconst (v := nI 0) d_Y_isAsSeen_122 (by decide) ?_
          refine tt_callS (y_flagN (d := d) (by omega)) cw_Y_flag rfl (by omega) d_Y_isAsSeen_123 rfl rfl (Nat.le_of_ble_eq_true rfl) (Nat.le_of_ble_eq_true rfl) rfl rfl rfl (fun v σ2 q => ?_)
          obtain ⟨rfl, e9⟩ := q
          rw [e9]
          clear e9
          refine tt_aload_n d_Y_isAsSeen_126 rfl ?_
          refine tt_getR d_Y_isAsSeen_127 rfl rfl (by decide) rfl rfl ?_
          refine tt_iload_n d_Y_isAsSeen_130 rfl ?_
          refine tn_iald d_Y_isAsSeen_131 rfl (by decide) (by omega) s3 ?_
          refine tn_ic_ne (t := 139) (by omega) (by omega) d_Y_isAsSeen_132 (by decide) (fun c_132 => ?_) (fun c_132 => ?_)
          · have hz : (0 = 1 ↔ ∀ z, z < j + 1 → agT (plH w i) (wS w) z = true) := ⟨fun q => by omega, fun q => absurd (ha.mp (q j (by omega))) c_132⟩
            refine tt_iconst (v := nI 0) d_Y_isAsSeen_139 (by decide) ?_
            refine tt_istore_n (lv2 := [_, _, _, _]) d_Y_isAsSeen_140 (by decide) rfl ?_
            refine tt_iinc (lv2 := [_, _, _, _]) d_Y_isAsSeen_141 rfl (nI_inc _ 1) (by decide) rfl ?_
            refine tt_goto (t := 82) d_Y_isAsSeen_144 (by decide) ?_
            exact ih ((wS w).1 - (j + 1)) (by omega) (j + 1) _ rfl (by omega) (by omega) hz
          · have hz : (1 = 1 ↔ ∀ z, z < j + 1 → agT (plH w i) (wS w) z = true) := ⟨fun _ => ag_s hb1 (ha.mpr c_132), fun _ => rfl⟩
            refine tt_iconst (v := nI 1) d_Y_isAsSeen_135 (by decide) ?_
            refine tt_goto (t := 140) d_Y_isAsSeen_136 (by decide) ?_
            refine tt_istore_n (lv2 := [_, _, _, _]) d_Y_isAsSeen_140 (by decide) rfl ?_
            refine tt_iinc (lv2 := [_, _, _, _]) d_Y_isAsSeen_141 rfl (nI_inc _ 1) (by decide) rfl ?_
            refine tt_goto (t := 82) d_Y_isAsSeen_144 (by decide) ?_
            exact ih ((wS w).1 - (j + 1)) (by omega) (j + 1) _ rfl (by omega) (by omega) hz
        · have ha := agT_1 (P := plH w i) (g := wS w) (i := j) c_115 g3
          refine tt_iconst (v := nI 1) d_Y_isAsSeen_118 (by decide) ?_
          refine tt_goto (t := 123) d_Y_isAsSeen_119 (by decide) ?_
          refine tt_callS (y_flagN (d := d) (by omega)) cw_Y_flag rfl (by omega) d_Y_isAsSeen_123 rfl rfl (Nat.le_of_ble_eq_true rfl) (Nat.le_of_ble_eq_true rfl) rfl rfl rfl (fun v σ2 q => ?_)
          obtain ⟨rfl, e9⟩ := q
          rw [e9]
          clear e9
          refine tt_aload_n d_Y_isAsSeen_126 rfl ?_
          refine tt_getR d_Y_isAsSeen_127 rfl rfl (by decide) rfl rfl ?_
          refine tt_iload_n d_Y_isAsSeen_130 rfl ?_
          refine tn_iald d_Y_isAsSeen_131 rfl (by decide) (by omega) s3 ?_
          refine tn_ic_ne (t := 139) (by omega) (by omega) d_Y_isAsSeen_132 (by decide) (fun c_132 => ?_) (fun c_132 => ?_)
          · have hz : (0 = 1 ↔ ∀ z, z < j + 1 → agT (plH w i) (wS w) z = true) := ⟨fun q => by omega, fun q => absurd (ha.mp (q j (by omega))) c_132⟩
            refine tt_iconst (v := nI 0) d_Y_isAsSeen_139 (by decide) ?_
            refine tt_istore_n (lv2 := [_, _, _, _]) d_Y_isAsSeen_140 (by decide) rfl ?_
            refine tt_iinc (lv2 := [_, _, _, _]) d_Y_isAsSeen_141 rfl (nI_inc _ 1) (by decide) rfl ?_
            refine tt_goto (t := 82) d_Y_isAsSeen_144 (by decide) ?_
            exact ih ((wS w).1 - (j + 1)) (by omega) (j + 1) _ rfl (by omega) (by omega) hz
          · have hz : (1 = 1 ↔ ∀ z, z < j + 1 → agT (plH w i) (wS w) z = true) := ⟨fun _ => ag_s hb1 (ha.mpr c_132), fun _ => rfl⟩
            refine tt_iconst (v := nI 1) d_Y_isAsSeen_135 (by decide) ?_
            refine tt_goto (t := 140) d_Y_isAsSeen_136 (by decide) ?_
            refine tt_istore_n (lv2 := [_, _, _, _]) d_Y_isAsSeen_140 (by decide) rfl ?_
            refine tt_iinc (lv2 := [_, _, _, _]) d_Y_isAsSeen_141 rfl (nI_inc _ 1) (by decide) rfl ?_
            refine tt_goto (t := 82) d_Y_isAsSeen_144 (by decide) ?_
            exact ih ((wS w).1 - (j + 1)) (by omega) (j + 1) _ rfl (by omega) (by omega) hz

set_option maxHeartbeats 4000000 in
theorem y_isAs1 {l : xLa} {d : Nat} {σ : xs} {c : Nat} {w : wv} {i : Nat} {σ0 : xs} (hi : i ≤ 8) (hg : okG (wS w)) (ho : okQ w) : ∀ (m : Nat) (h0 : Nat) (τ : xs), 21 - h0 = m → h0 ≤ 21 → YQ c w σ τ → Un σ0 τ → SY τ 161 (eN (wE w)) (hrsV (wE w) (lgV w i) h0) → (∀ k, k < h0 → si τ 180 (21 * i + k) = nI (plH w i k)) → (∀ k, k < 189 → ¬ (21 * i ≤ k ∧ k < 21 * i + 21) → si τ 180 k = si σ0 180 k) → T l M_Y_isAsSeen (d + 20) 42 [some (.ref 154), some (.int (nI i)), some (.int (nI h0)), none] [] τ (fun r υ => r = some (.int (nI (bN (agB (plH w i) (wS w))))) ∧ YQ c w σ υ ∧ Un σ0 υ ∧ PLY w i υ ∧ ∀ k, k < 189 → ¬ (21 * i ≤ k ∧ k < 21 * i + 21) → si υ 180 k = si σ0 180 k) := by
  have hb0 := ho.fb
  have hb8 := ho.n8
  intro m
  induction m using Nat.strongRecOn with
  | ind m ih =>
    intro h0 τ hm hh h ht hS hp hc
    have hok := ok_lgh ho i (h := h0) (by omega)
    refine tt_iload_n d_Y_isAsSeen_42 rfl ?_
    refine tt_bipush (v := nI 20) d_Y_isAsSeen_43 (by decide) ?_
    refine tn_ic_gt (t := 78) (by omega) (by omega) d_Y_isAsSeen_45 (by decide) (fun c_45 => ?_) (fun c_45 => ?_)
    · obtain rfl : h0 = 21 := by omega
      refine tt_iconst (v := nI 1) d_Y_isAsSeen_78 (by decide) ?_
      refine tt_istore_n (lv2 := [_, _, _, _]) d_Y_isAsSeen_79 (by decide) rfl ?_
      refine tt_iconst (v := nI 0) d_Y_isAsSeen_80 (by decide) ?_
      refine tt_istore_n (lv2 := [_, _, _, _]) d_Y_isAsSeen_81 (by decide) rfl ?_
      refine T.mono (y_isAs2 hi hg h (fun k hk => hp k (by omega)) ho (wS w).1 0 1 rfl (by omega) (by omega) ⟨fun _ z hz => absurd hz (Nat.not_lt_zero z), fun _ => rfl⟩) ?_
      rintro r υ ⟨rfl, rfl⟩
      exact ⟨rfl, h, ht, fun k hk => hp k (by omega), hc⟩
    · refine tt_aload_n d_Y_isAsSeen_48 rfl ?_
      refine tt_getR d_Y_isAsSeen_49 rfl rfl (by decide) rfl rfl ?_
      refine tt_iload_n d_Y_isAsSeen_52 rfl ?_
      refine tt_iload_n d_Y_isAsSeen_53 rfl ?_
      refine tt_callS (y_place (d := d)) cw_Y_place rfl (by omega) d_Y_isAsSeen_54 rfl rfl (Nat.le_of_ble_eq_true rfl) (Nat.le_of_ble_eq_true rfl) rfl rfl rfl (fun v σ2 q => ?_)
      obtain ⟨rfl, e9⟩ := q
      rw [e9]
      clear e9
      refine tt_aload_n d_Y_isAsSeen_57 rfl ?_
      refine tt_getR d_Y_isAsSeen_58 rfl rfl (by decide) rfl rfl ?_
      refine tt_iconst (v := nI 0) d_Y_isAsSeen_61 (by decide) ?_
      refine tn_iald d_Y_isAsSeen_62 rfl (by decide) (by omega) (show _ = nI (plH w i h0) from hS.1.1) ?_
      refine tn_iast d_Y_isAsSeen_63 rfl (by decide) (by omega) ?_
      replace hS := SY_o (τ := wI τ 180 (21 * i + h0) (nI (plH w i h0))) hS (funext fun j => by rw [si_wI, if_neg (by omega)])
      replace h := yw_pl (j := 21 * i + h0) (x := nI (plH w i h0)) h
      replace ht : Un σ0 (wI τ 180 (21 * i + h0) (nI (plH w i h0))) := ht
      replace hp : ∀ k, k < h0 + 1 → si (wI τ 180 (21 * i + h0) (nI (plH w i h0))) 180 (21 * i + k) = nI (plH w i k) := fun k hk => by
        rw [si_wI]
        by_cases q : k = h0
        · rw [if_pos ⟨rfl, by omega⟩, q]
        · rw [if_neg (fun z => by omega)]; exact hp k (by omega)
      replace hc : ∀ k, k < 189 → ¬ (21 * i ≤ k ∧ k < 21 * i + 21) → si (wI τ 180 (21 * i + h0) (nI (plH w i h0))) 180 k = si σ0 180 k := fun k h1 h2 => by
        rw [si_wI, if_neg (fun z => by omega)]; exact hc k h1 h2
      refine tt_aload_n d_Y_isAsSeen_64 rfl ?_
      refine tt_aload_n d_Y_isAsSeen_65 rfl ?_
      refine tt_getR d_Y_isAsSeen_66 rfl rfl (by decide) rfl rfl ?_
      refine tt_callV (yq_hr0P (d := d) h ho hok.1 hS (by omega)) cw_Y_hourGoes rfl rfl (by decide) rfl (by omega) d_Y_isAsSeen_69 rfl rfl (Nat.le_of_ble_eq_true rfl) (Nat.le_of_ble_eq_true rfl) rfl rfl rfl (fun v σ2 q => ?_)
      obtain ⟨rfl, h, hS, hu, hk⟩ := q
      replace ht := ht.tr hu
      replace hp : ∀ k, k < h0 + 1 → si _ 180 (21 * i + k) = nI (plH w i k) := fun k hk2 => (congrFun (hk 180 (by decide)) _).trans (hp k hk2)
      replace hc : ∀ k, k < 189 → ¬ (21 * i ≤ k ∧ k < 21 * i + 21) → si _ 180 k = si σ0 180 k := fun k h1 h2 => (congrFun (hk 180 (by decide)) k).trans (hc k h1 h2)
      refine tt_iinc (lv2 := [_, _, _, _]) d_Y_isAsSeen_72 rfl (nI_inc _ 1) (by decide) rfl ?_
      refine tt_goto (t := 42) d_Y_isAsSeen_75 (by decide) ?_
      exact ih (21 - (h0 + 1)) (by omega) (h0 + 1) _ rfl (by omega) h ht hS hp hc

set_option maxHeartbeats 4000000 in
theorem yq_isAs {l : xLa} {d c : Nat} {σ τ : xs} {w : wv} {i : Nat} (h : YQ c w σ τ) (hi : i < eN (wE w) ∨ i = 8) (hg : okG (wS w)) (ho : okQ w) : TC l M_Y_isAsSeen (d + 20) [.ref 154, .int (nI i)] τ (fun r υ => r = some (.int (nI (bN (agB (plH w i) (wS w))))) ∧ YQ c w σ υ ∧ Un τ υ ∧ PLY w i υ ∧ ∀ k, k < 189 → ¬ (21 * i ≤ k ∧ k < 21 * i + 21) → si υ 180 k = si τ 180 k) := by
  have hb8 := ho.n8
  have h5 := ho.h5
  have hc : ∀ k, k < 189 → ¬ (21 * i ≤ k ∧ k < 21 * i + 21) → si τ 180 k = si τ 180 k := fun _ _ _ => rfl
  show T l M_Y_isAsSeen (d + 20) 0 _ [] τ _
  refine tt_aload_n d_Y_isAsSeen_0 rfl ?_
  refine tt_callV (y_copies (d := d)) cw_Y_copies rfl rfl (by decide) rfl (by omega) d_Y_isAsSeen_1 rfl rfl (Nat.le_of_ble_eq_true rfl) (Nat.le_of_ble_eq_true rfl) rfl rfl rfl (fun v σ2 q => ?_)
  obtain ⟨rfl, e9⟩ := q
  rw [e9]
  clear e9
  have hS : SY (wA τ 161 (cpN (si τ 160) (si τ 161) 38)) 161 (eN (wE w)) (wV w) := rO_c (f := si τ 160) hb8 h.1.2.1 (fun k hk => by rw [si_wA, if_pos rfl]; exact if_pos hk)
  replace hc : ∀ k, k < 189 → ¬ (21 * i ≤ k ∧ k < 21 * i + 21) → si (wA τ 161 (cpN (si τ 160) (si τ 161) 38)) 180 k = si τ 180 k := fun _ _ _ => rfl
  have ht : Un τ (wA τ 161 (cpN (si τ 160) (si τ 161) 38)) := ⟨rfl, rfl⟩
  replace h := h.fq (Fq.wA (a := 161) (f := cpN (si τ 160) (si τ 161) 38) (by unfold YqA; omega))
  refine tt_aload_n d_Y_isAsSeen_4 rfl ?_
  refine tt_getR d_Y_isAsSeen_5 rfl rfl (by decide) rfl rfl ?_
  refine tt_bipush (v := nI 33) d_Y_isAsSeen_8 (by decide) ?_
  refine tt_iload_n d_Y_isAsSeen_10 rfl ?_
  refine tt_bipush (v := nI 8) d_Y_isAsSeen_11 (by decide) ?_
  refine tn_ic_ge (t := 32) (by omega) (by omega) d_Y_isAsSeen_13 (by decide) (fun c_13 => ?_) (fun c_13 => ?_)
  · have hlg : lgV w i = upv (wV w) 0 5 (wV w 0 5) := by
      unfold lgV
      rw [if_neg (by omega), upv_id]
    refine tt_aload_n d_Y_isAsSeen_32 rfl ?_
    refine tt_getR d_Y_isAsSeen_33 rfl rfl (by decide) rfl rfl ?_
    refine tt_bipush (v := nI 33) d_Y_isAsSeen_36 (by decide) ?_
    refine tn_iald d_Y_isAsSeen_38 rfl (by decide) (by omega) (h.1.2.1.1.2.1) ?_
    refine tn_iast d_Y_isAsSeen_39 rfl (by decide) (by omega) ?_
    replace hS := SY_05 (x := wV w 0 5) hS hb8
    rw [← hlg] at hS
    replace h := h.fq (υ := wI _ 161 33 (nI (wV w 0 5))) (Fq.wI (by unfold YqA; omega))
    replace ht : Un τ (wI (wA τ 161 (cpN (si τ 160) (si τ 161) 38)) 161 33 (nI (wV w 0 5))) := ht
    refine tt_iconst (v := nI 0) d_Y_isAsSeen_40 (by decide) ?_
    refine tt_istore_n (lv2 := [_, _, _, _]) d_Y_isAsSeen_41 (by decide) rfl ?_
    exact y_isAs1 (by omega) hg ho 21 0 _ rfl (by omega) h ht hS (fun k hk => absurd hk (Nat.not_lt_zero k)) hc
  · have hlg : lgV w i = upv (wV w) 0 5 (dfN (wV w 0 5) (2 ^ i)) := if_pos (by omega)
    refine tt_aload_n d_Y_isAsSeen_16 rfl ?_
    refine tt_getR d_Y_isAsSeen_17 rfl rfl (by decide) rfl rfl ?_
    refine tt_bipush (v := nI 33) d_Y_isAsSeen_20 (by decide) ?_
    refine tn_iald d_Y_isAsSeen_22 rfl (by decide) (by omega) (h.1.2.1.1.2.1) ?_
    refine tt_iconst (v := nI 1) d_Y_isAsSeen_23 (by decide) ?_
    refine tt_iload_n d_Y_isAsSeen_24 rfl ?_
    refine tt_ishl d_Y_isAsSeen_25 ?_
    refine tt_top (shl_9 _ (by omega)) ?_
    refine tt_iconst (v := (-1)) d_Y_isAsSeen_26 (by decide) ?_
    refine tt_ixor d_Y_isAsSeen_27 ?_
    refine tt_iand d_Y_isAsSeen_28 ?_
    refine tt_top (an_N _ _) ?_
    refine tt_goto (t := 39) d_Y_isAsSeen_29 (by decide) ?_
    refine tn_iast d_Y_isAsSeen_39 rfl (by decide) (by omega) ?_
    replace hS := SY_05 (x := dfN (wV w 0 5) (2 ^ i)) hS hb8
    rw [← hlg] at hS
    replace h := h.fq (υ := wI _ 161 33 (nI (dfN (wV w 0 5) (2 ^ i)))) (Fq.wI (by unfold YqA; omega))
    replace ht : Un τ (wI (wA τ 161 (cpN (si τ 160) (si τ 161) 38)) 161 33 (nI (dfN (wV w 0 5) (2 ^ i)))) := ht
    refine tt_iconst (v := nI 0) d_Y_isAsSeen_40 (by decide) ?_
    refine tt_istore_n (lv2 := [_, _, _, _]) d_Y_isAsSeen_41 (by decide) rfl ?_
    exact y_isAs1 (by omega) hg ho 21 0 _ rfl (by omega) h ht hS (fun k hk => absurd hk (Nat.not_lt_zero k)) hc

set_option maxHeartbeats 4000000 in
theorem y_fitting_l {l : xLa} {d : Nat} {σ : xs} {c : Nat} {w : wv} {σ0 : xs} (hg : okG (wS w)) (ho : okQ w) : ∀ (m : Nat) (i b : Nat) (τ : xs), eN (wE w) - i = m → i ≤ eN (wE w) → YQ c w σ τ → Un σ0 τ → (∀ j, j < i → (wV w 0 5).testBit j = true → PLY w j τ) → b = ftN w i → T l M_Y_fitting (d + 30) 4 [some (.ref 154), some (.int (nI b)), some (.int (nI i))] [] τ (fun r υ => r = some (.int (nI (ftN w (eN (wE w))))) ∧ YQ c w σ υ ∧ Un σ0 υ ∧ ∀ i, i < eN (wE w) → (wV w 0 5).testBit i = true → PLY w i υ) := by
  have hb0 := ho.fb
  have hb8 := ho.n8
  intro m
  induction m using Nat.strongRecOn with
  | ind m ih =>
    intro i b τ hm hi h ht hp hb
    have htb := tbN_c (wV w 0 5) i
    have h5 := ho.h5
    have hbn := bN_c (agB (plH w i) (wS w))
    refine tt_iload_n d_Y_fitting_4 rfl ?_
    refine tt_aload_n d_Y_fitting_5 rfl ?_
    refine tn_get d_Y_fitting_6 rfl rfl (by decide) rfl h.e.1.2.2.1 ?_
    refine tn_ic_ge (t := 51) (by omega) (by omega) d_Y_fitting_9 (by decide) (fun c_9 => ?_) (fun c_9 => ?_)
    · obtain rfl : i = eN (wE w) := by omega
      subst hb
      refine tt_iload_n d_Y_fitting_51 rfl ?_
      refine tt_iret rfl d_Y_fitting_52 ?_
      exact ⟨rfl, h, ht, hp⟩
    · refine tt_iload_n d_Y_fitting_12 rfl ?_
      refine tt_aload_n d_Y_fitting_13 rfl ?_
      refine tt_getR d_Y_fitting_14 rfl rfl (by decide) rfl rfl ?_
      refine tt_bipush (v := nI 33) d_Y_fitting_17 (by decide) ?_
      refine tn_iald d_Y_fitting_19 rfl (by decide) (by omega) (h.1.2.1.1.2.1) ?_
      refine tt_i2l d_Y_fitting_20 ?_
      refine tt_iload_n d_Y_fitting_21 rfl ?_
      refine tt_callS (y_hasN (d := d) (by omega) (by omega)) cw_Y_has rfl (by omega) d_Y_fitting_22 rfl rfl (Nat.le_of_ble_eq_true rfl) (Nat.le_of_ble_eq_true rfl) rfl rfl rfl (fun v σ2 q => ?_)
      obtain ⟨rfl, e9⟩ := q
      rw [e9]
      clear e9
      refine tn_if_eq (t := 42) (by omega) d_Y_fitting_25 (by decide) (fun c_25 => ?_) (fun c_25 => ?_)
      · have hz : b ||| 0 = ftN w (i + 1) := by
          rw [ftN_s, if_neg (show ¬ ftB w i = true from fun q => htb.2.2.mp c_25 (((Bool.and_eq_true _ _).mp q).1)), hb]
        replace hp : ∀ j, j < i + 1 → (wV w 0 5).testBit j = true → PLY w j _ := fun j hj q => by
          by_cases z : j = i
          · subst z; exact absurd q (htb.2.2.mp c_25)
          · exact hp j (by omega) q
        refine tt_iconst (v := nI 0) d_Y_fitting_42 (by decide) ?_
        refine tt_ior d_Y_fitting_43 ?_
        refine tt_top (or_N _ _) ?_
        refine tt_istore_n (lv2 := [_, _, _]) d_Y_fitting_44 (by decide) rfl ?_
        refine tt_iinc (lv2 := [_, _, _]) d_Y_fitting_45 rfl (nI_inc _ 1) (by decide) rfl ?_
        refine tt_goto (t := 4) d_Y_fitting_48 (by decide) ?_
        exact ih (eN (wE w) - (i + 1)) (by omega) (i + 1) _ _ rfl (by omega) h ht hp hz
      · have hti : (wV w 0 5).testBit i = true := htb.2.1.mp (by omega)
        have hfb : ftB w i = agB (plH w i) (wS w) := by unfold ftB; rw [hti, Bool.true_and]
        refine tt_aload_n d_Y_fitting_28 rfl ?_
        refine tt_iload_n d_Y_fitting_29 rfl ?_
        refine tt_callV (yq_isAs (d := d) h (Or.inl (by omega)) hg ho) cw_Y_isAsSeen rfl rfl (by decide) rfl (by omega) d_Y_fitting_30 rfl rfl (Nat.le_of_ble_eq_true rfl) (Nat.le_of_ble_eq_true rfl) rfl rfl rfl (fun v σ2 q => ?_)
        obtain ⟨rfl, h, hu, hpi, hpo⟩ := q
        replace ht := ht.tr hu
        replace hp : ∀ j, j < i + 1 → (wV w 0 5).testBit j = true → PLY w j _ := fun j hj q => by
          by_cases z : j = i
          · subst z; exact hpi
          · exact fun k hk => (hpo (21 * j + k) (by omega) (by omega)).trans (hp j (by omega) q k hk)
        refine tn_if_eq (t := 42) (by omega) d_Y_fitting_33 (by decide) (fun c_33 => ?_) (fun c_33 => ?_)
        · have hz : b ||| 0 = ftN w (i + 1) := by
            rw [ftN_s, if_neg (fun q => by rw [hbn.2.1.mp c_33] at hfb; rw [hfb] at q; cases q), hb]
          refine tt_iconst (v := nI 0) d_Y_fitting_42 (by decide) ?_
          refine tt_ior d_Y_fitting_43 ?_
          refine tt_top (or_N _ _) ?_
          refine tt_istore_n (lv2 := [_, _, _]) d_Y_fitting_44 (by decide) rfl ?_
          refine tt_iinc (lv2 := [_, _, _]) d_Y_fitting_45 rfl (nI_inc _ 1) (by decide) rfl ?_
          refine tt_goto (t := 4) d_Y_fitting_48 (by decide) ?_
          exact ih (eN (wE w) - (i + 1)) (by omega) (i + 1) _ _ rfl (by omega) h ht hp hz
        · have hz : b ||| 2 ^ i = ftN w (i + 1) := by
            have hb1 : agB (plH w i) (wS w) = true := hbn.2.2.mp (by omega)
            rw [hb1] at hfb
            rw [ftN_s, if_pos hfb, hb]
          refine tt_iconst (v := nI 1) d_Y_fitting_36 (by decide) ?_
          refine tt_iload_n d_Y_fitting_37 rfl ?_
          refine tt_ishl d_Y_fitting_38 ?_
          refine tt_top (shl_9 _ (by omega)) ?_
          refine tt_goto (t := 43) d_Y_fitting_39 (by decide) ?_
          refine tt_ior d_Y_fitting_43 ?_
          refine tt_top (or_N _ _) ?_
          refine tt_istore_n (lv2 := [_, _, _]) d_Y_fitting_44 (by decide) rfl ?_
          refine tt_iinc (lv2 := [_, _, _]) d_Y_fitting_45 rfl (nI_inc _ 1) (by decide) rfl ?_
          refine tt_goto (t := 4) d_Y_fitting_48 (by decide) ?_
          exact ih (eN (wE w) - (i + 1)) (by omega) (i + 1) _ _ rfl (by omega) h ht hp hz

theorem yq_fitting {l : xLa} {d c : Nat} {σ τ : xs} {w : wv} (h : YQ c w σ τ) (hg : okG (wS w)) (ho : okQ w) : TC l M_Y_fitting (d + 30) [.ref 154] τ (fun r υ => r = some (.int (nI (ftN w (eN (wE w))))) ∧ YQ c w σ υ ∧ Un τ υ ∧ ∀ i, i < eN (wE w) → (wV w 0 5).testBit i = true → PLY w i υ) := by
  show T l M_Y_fitting (d + 30) 0 _ [] τ _
  refine tt_iconst (v := nI 0) d_Y_fitting_0 (by decide) ?_
  refine tt_istore_n (lv2 := [_, _, _]) d_Y_fitting_1 (by decide) rfl ?_
  refine tt_iconst (v := nI 0) d_Y_fitting_2 (by decide) ?_
  refine tt_istore_n (lv2 := [_, _, _]) d_Y_fitting_3 (by decide) rfl ?_
  exact y_fitting_l hg ho (eN (wE w)) 0 0 _ rfl (by omega) h Un.rf (fun j hj => absurd hj (Nat.not_lt_zero j)) rfl

set_option maxHeartbeats 4000000 in
theorem yc_fits {l : xLa} {d c : Nat} {σ : xs} {w : wv} (ho : okQ w) (hw : YW σ c w) (hg : okG (wS w)) : TC l M_Y_fits (d + 150) [.ref 154] σ (fun r τ => r = some (.int ((q_fits w).1)) ∧ YW τ c (stD w ((q_fits w).2)) ∧ YF σ τ) := by
  show T l M_Y_fits (d + 150) 0 _ [] σ _
  refine T_lv (lv2 := [_, _]) rfl ?_
  have h := YQ.rf hw.v
  have hd0 := hw.2.2.2.1
  have hb0 := ho.fb
  have hb8 := ho.n8
  have hfl := ftN_lt w ho.n8
  have hbn := bN_c (agB (plH w 8) (wS w))
  refine tt_aload_n d_Y_fits_0 rfl ?_
  refine tt_iconst (v := nI 0) d_Y_fits_1 (by decide) ?_
  refine tt_putI d_Y_fits_2 rfl rfl (by decide) rfl (xpok_int rfl) rfl ?_
  replace h := h.thr (x := nI 0)
  replace hd0 := hd0.thr (x := nI 0)
  refine tt_aload_n d_Y_fits_5 rfl ?_
  refine tt_callV (yq_fitting (d := d) h hg ho) cw_Y_fitting rfl rfl (by decide) rfl (by omega) d_Y_fits_6 rfl rfl (Nat.le_of_ble_eq_true rfl) (Nat.le_of_ble_eq_true rfl) rfl rfl rfl (fun v σ2 q => ?_)
  obtain ⟨rfl, h, hu, -⟩ := q
  refine tt_istore_n (lv2 := [_, _]) d_Y_fits_9 (by decide) rfl ?_
  refine tt_aload_n d_Y_fits_10 rfl ?_
  refine tt_iconst (v := nI 0) d_Y_fits_11 (by decide) ?_
  refine tt_putI d_Y_fits_12 rfl rfl (by decide) rfl (xpok_int rfl) rfl ?_
  replace h := h.td0
  have hd := YD_0t h
  refine tt_aload_n d_Y_fits_15 rfl ?_
  refine tt_iload_n d_Y_fits_16 rfl ?_
  refine tt_callS (x_bitN (d := d) (by omega)) cw_Integer_bitCount rfl (by omega) d_Y_fits_17 rfl rfl (Nat.le_of_ble_eq_true rfl) (Nat.le_of_ble_eq_true rfl) rfl rfl rfl (fun v σ2 q => ?_)
  obtain ⟨rfl, e9⟩ := q
  rw [e9]
  clear e9
  refine tt_i2l d_Y_fits_20 ?_
  refine tt_callV (yq_add (d := d) h hd (Nat.le_of_ble_eq_true rfl)) cw_Y_enters rfl rfl (by decide) rfl (by omega) d_Y_fits_21 rfl rfl (Nat.le_of_ble_eq_true rfl) (Nat.le_of_ble_eq_true rfl) rfl rfl rfl (fun v σ2 q => ?_)
  obtain ⟨rfl, h, hd, hf⟩ := q
  refine tt_aload_n d_Y_fits_24 rfl ?_
  refine tt_aload_n d_Y_fits_25 rfl ?_
  refine tt_bipush (v := nI 8) d_Y_fits_26 (by decide) ?_
  refine tt_callV (yq_isAs (d := d) h (Or.inr rfl) hg ho) cw_Y_isAsSeen rfl rfl (by decide) rfl (by omega) d_Y_fits_28 rfl rfl (Nat.le_of_ble_eq_true rfl) (Nat.le_of_ble_eq_true rfl) rfl rfl rfl (fun v σ2 q => ?_)
  obtain ⟨rfl, h, hu, -, -⟩ := q
  replace hd := hd.un hu
  refine tt_callS (y_flagN (d := d) (by omega)) cw_Y_flag rfl (by omega) d_Y_fits_31 rfl rfl (Nat.le_of_ble_eq_true rfl) (Nat.le_of_ble_eq_true rfl) rfl rfl rfl (fun v σ2 q => ?_)
  obtain ⟨rfl, e9⟩ := q
  rw [e9]
  clear e9
  refine tt_i2l d_Y_fits_34 ?_
  refine tt_callV (yq_add (d := d) h hd (Nat.le_of_ble_eq_true rfl)) cw_Y_enters rfl rfl (by decide) rfl (by omega) d_Y_fits_35 rfl rfl (Nat.le_of_ble_eq_true rfl) (Nat.le_of_ble_eq_true rfl) rfl rfl rfl (fun v σ2 q => ?_)
  obtain ⟨rfl, h, hd, hf⟩ := q
  refine tt_iload_n d_Y_fits_38 rfl ?_
  refine tt_iret rfl d_Y_fits_39 ?_
  exact ⟨rfl, h.done hd, h.2⟩

