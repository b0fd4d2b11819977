/-! FishFerry$Trip: object 19, slots kept 3, broken 4, stuck 5, keptSet 6, brokenSet 7 (in the view: row 5). move, tire, reward. Printed by wip/whole. -/
def upv (v : sv) (r k x : Nat) : sv := fun a b => if a = r ∧ b = k then x else v a b
/-- what is written stays in these objects and arrays -/
def Fr (P : Nat → Prop) (σ τ : xs) : Prop := (∀ c, ¬ P c → sf τ c = sf σ c ∧ si τ c = si σ c) ∧ sj τ = sj σ ∧ sp τ = sp σ ∧ so τ = so σ
theorem Fr.rf {P : Nat → Prop} {σ : xs} : Fr P σ σ := ⟨fun _ _ => ⟨rfl, rfl⟩, rfl, rfl, rfl⟩
theorem Fr.tr {P : Nat → Prop} {σ τ υ : xs} (h : Fr P σ τ) (g : Fr P τ υ) : Fr P σ υ := ⟨fun c hc => ⟨(g.1 c hc).1.trans (h.1 c hc).1, (g.1 c hc).2.trans (h.1 c hc).2⟩, g.2.1.trans h.2.1, g.2.2.1.trans h.2.2.1, g.2.2.2.trans h.2.2.2⟩
theorem Fr.mono {P R : Nat → Prop} {σ τ : xs} (h : Fr P σ τ) (hp : ∀ a, P a → R a) : Fr R σ τ := ⟨fun c hc => h.1 c (fun q => hc (hp c q)), h.2⟩
theorem Fr.sc {P : Nat → Prop} {σ τ : xs} (h : Sc P σ τ) : Fr P σ τ := ⟨fun c hc => ⟨by rw [h.1], h.2.2.2.2 c hc⟩, h.2.1, h.2.2.1, h.2.2.2.1⟩
theorem Fr.wF {P : Nat → Prop} {σ : xs} {a j : Nat} {v : Int32} (h : P a) : Fr P σ (wF σ a j v) := ⟨fun b hb => ⟨up2_o (fun q => hb (by rw [q]; exact h)), rfl⟩, rfl, rfl, rfl⟩
theorem Fr.wI {P : Nat → Prop} {σ : xs} {a j : Nat} {v : Int32} (h : P a) : Fr P σ (wI σ a j v) := Fr.sc (Sc.wI h)
theorem Fr.wA {P : Nat → Prop} {σ : xs} {a : Nat} {f : Nat → Int32} (h : P a) : Fr P σ (wA σ a f) := Fr.sc (Sc.wA h)
theorem ST.fr {P : Nat → Prop} {σ τ : xs} {a : Nat} {v : sv} (h : ST σ a v) (hf : Fr P σ τ) (hp : ∀ k, k ≤ 4 → ¬ P (a + k)) : ST τ a v := by
  refine ⟨fun k hk => by rw [(hf.1 a (hp 0 (by omega))).1]; exact h.1 k hk, fun i hi => ?_⟩
  rw [(hf.1 (a + 1) (hp 1 (by omega))).2, (hf.1 (a + 2) (hp 2 (by omega))).2, (hf.1 (a + 3) (hp 3 (by omega))).2, (hf.1 (a + 4) (hp 4 (by omega))).2]
  exact h.2 i hi
theorem ST_wF {σ : xs} {a k x : Nat} {v : sv} (h : ST σ a v) : ST (wF σ a k (nI x)) a (upv v 0 k x) := by
  refine ⟨fun j hj => ?_, fun i hi => h.2 i hi⟩
  rw [sf_wF]
  show _ = nI (if 0 = 0 ∧ j = k then x else v 0 j)
  by_cases e : j = k
  · rw [if_pos ⟨rfl, e⟩, if_pos ⟨rfl, e⟩]
  · rw [if_neg (fun q => e q.2), if_neg (fun q => e q.2)]
    exact h.1 j hj
theorem ST_w1 {σ : xs} {a j x : Nat} {v : sv} (h : ST σ a v) : ST (wI σ (a + 1) j (nI x)) a (upv v 1 j x) := by
  refine ⟨h.1, fun i hi => ?_⟩
  obtain ⟨h1, h2, h3, h4⟩ := h.2 i hi
  rw [si_wI, si_wI, si_wI, si_wI, if_neg (show ¬ (a + 2 = a + 1 ∧ i = j) by omega), if_neg (show ¬ (a + 3 = a + 1 ∧ i = j) by omega), if_neg (show ¬ (a + 4 = a + 1 ∧ i = j) by omega)]
  refine ⟨?_, h2, h3, h4⟩
  show _ = nI (if 1 = 1 ∧ i = j then x else v 1 i)
  by_cases e : i = j
  · rw [if_pos ⟨rfl, e⟩, if_pos ⟨rfl, e⟩]
  · rw [if_neg (fun q => e q.2), if_neg (fun q => e q.2)]; exact h1
theorem ST_w2 {σ : xs} {a j x : Nat} {v : sv} (h : ST σ a v) : ST (wI σ (a + 2) j (nI x)) a (upv v 2 j x) := by
  refine ⟨h.1, fun i hi => ?_⟩
  obtain ⟨h1, h2, h3, h4⟩ := h.2 i hi
  rw [si_wI, si_wI, si_wI, si_wI, if_neg (show ¬ (a + 1 = a + 2 ∧ i = j) by omega), if_neg (show ¬ (a + 3 = a + 2 ∧ i = j) by omega), if_neg (show ¬ (a + 4 = a + 2 ∧ i = j) by omega)]
  refine ⟨h1, ?_, h3, h4⟩
  show _ = nI (if 2 = 2 ∧ i = j then x else v 2 i)
  by_cases e : i = j
  · rw [if_pos ⟨rfl, e⟩, if_pos ⟨rfl, e⟩]
  · rw [if_neg (fun q => e q.2), if_neg (fun q => e q.2)]; exact h2
theorem ST_w3 {σ : xs} {a j x : Nat} {v : sv} (h : ST σ a v) : ST (wI σ (a + 3) j (gI x)) a (upv v 3 j x) := by
  refine ⟨h.1, fun i hi => ?_⟩
  obtain ⟨h1, h2, h3, h4⟩ := h.2 i hi
  rw [si_wI, si_wI, si_wI, si_wI, if_neg (show ¬ (a + 1 = a + 3 ∧ i = j) by omega), if_neg (show ¬ (a + 2 = a + 3 ∧ i = j) by omega), if_neg (show ¬ (a + 4 = a + 3 ∧ i = j) by omega)]
  refine ⟨h1, h2, ?_, h4⟩
  show _ = gI (if 3 = 3 ∧ i = j then x else v 3 i)
  by_cases e : i = j
  · rw [if_pos ⟨rfl, e⟩, if_pos ⟨rfl, e⟩]
  · rw [if_neg (fun q => e q.2), if_neg (fun q => e q.2)]; exact h3
theorem ST_w4 {σ : xs} {a j x : Nat} {v : sv} (h : ST σ a v) : ST (wI σ (a + 4) j (nI x)) a (upv v 4 j x) := by
  refine ⟨h.1, fun i hi => ?_⟩
  obtain ⟨h1, h2, h3, h4⟩ := h.2 i hi
  rw [si_wI, si_wI, si_wI, si_wI, if_neg (show ¬ (a + 1 = a + 4 ∧ i = j) by omega), if_neg (show ¬ (a + 2 = a + 4 ∧ i = j) by omega), if_neg (show ¬ (a + 3 = a + 4 ∧ i = j) by omega)]
  refine ⟨h1, h2, h3, ?_⟩
  show _ = nI (if 4 = 4 ∧ i = j then x else v 4 i)
  by_cases e : i = j
  · rw [if_pos ⟨rfl, e⟩, if_pos ⟨rfl, e⟩]
  · rw [if_neg (fun q => e q.2), if_neg (fun q => e q.2)]; exact h4
/-- the counters of a trip are no part of a state -/
theorem ST_5 {σ : xs} {a k x : Nat} {v : sv} (h : ST σ a v) : ST σ a (upv v 5 k x) := by
  refine ⟨fun j hj => ?_, fun i hi => ?_⟩
  · show _ = nI (if 0 = 5 ∧ j = k then x else v 0 j)
    rw [if_neg (by omega)]; exact h.1 j hj
  · show _ = nI (if 1 = 5 ∧ i = k then x else v 1 i) ∧ _ = nI (if 2 = 5 ∧ i = k then x else v 2 i) ∧ _ = gI (if 3 = 5 ∧ i = k then x else v 3 i) ∧ _ = nI (if 4 = 5 ∧ i = k then x else v 4 i)
    rw [if_neg (by omega), if_neg (by omega), if_neg (by omega), if_neg (by omega)]; exact h.2 i hi
def TR (σ : xs) (v : sv) : Prop := ∀ k, k < 5 → sf σ 19 (3 + k) = nI (v 5 k)
theorem TR.sf {σ τ : xs} {v : sv} (h : TR σ v) (hs : sf τ 19 = sf σ 19) : TR τ v := fun k hk => by rw [hs]; exact h k hk
theorem TR_o {σ : xs} {r k x : Nat} {v : sv} (hr : ¬ r = 5) (h : TR σ v) : TR σ (upv v r k x) := fun j hj => by
  show _ = nI (if 5 = r ∧ j = k then x else v 5 j)
  rw [if_neg (fun q => hr q.1.symm)]; exact h j hj
theorem TR_wF {σ : xs} {k x : Nat} {v : sv} (h : TR σ v) : TR (wF σ 19 (3 + k) (nI x)) (upv v 5 k x) := fun j hj => by
  rw [sf_wF]
  show _ = nI (if 5 = 5 ∧ j = k then x else v 5 j)
  by_cases e : j = k
  · rw [if_pos ⟨rfl, by omega⟩, if_pos ⟨rfl, e⟩]
  · rw [if_neg (fun q => e (by omega)), if_neg (fun q => e q.2)]; exact h j hj
theorem sf_19 {σ : xs} {a k : Nat} {x : Int32} (ha : isS a) : sf (wF σ a k x) 19 = sf σ 19 := by
  funext j
  rw [sf_wF, if_neg (by have := isS_out ha; omega)]
theorem ST_19 {σ : xs} {a k : Nat} {x : Int32} {v : sv} (ha : isS a) (h : ST σ a v) : ST (wF σ 19 k x) a v := h.fr (P := fun c => c = 19) (Fr.wF rfl) (fun j hj => by have := isS_out ha; omega)
/-- fish j tires, or rests, by what it pulled -/
def tirV (pl : Int32) (v : sv) (j : Nat) : sv := upv v 1 j (if 0 < pl then max 0 (min 9 (v 1 j + 1)) else v 1 j - 1)
theorem tir_dn : ∀ t, t ≤ 9 → (if nI 0 < (if nI t + (-1) < nI 9 then nI t + (-1) else nI 9) then (if nI t + (-1) < nI 9 then nI t + (-1) else nI 9) else nI 0) = nI (t - 1) := by decide +kernel
/-- the promise of fish j is kept, or broken -/
def rewV (v : sv) (j : Nat) : sv := if v 4 j ≤ v 0 1 then upv (upv (upv (upv (upv (upv v 0 1 (v 0 1 - v 4 j)) 0 2 (min 999 (v 0 2 + 1))) 2 j (min 9 (v 2 j + 1))) 5 0 (v 5 0 + 1)) 5 3 (v 5 3 ||| 2 ^ j)) 3 j 0
  else upv (upv (upv (upv (upv v 0 3 (min 999 (v 0 3 + 1))) 2 j 0) 5 1 (v 5 1 + 1)) 5 4 (v 5 4 ||| 2 ^ j)) 3 j 0
theorem or_N (a b : Nat) : nI a ||| nI b = nI (a ||| b) := by
  apply Int32.toBitVec_inj.mp
  show (Int32.ofNat a).toBitVec ||| (Int32.ofNat b).toBitVec = (Int32.ofNat (a ||| b)).toBitVec
  simp only [Int32.toBitVec_ofNat']
  rw [← BitVec.ofNat_or]
theorem shl_1 : ∀ j, j < 8 → nI 1 <<< (nI j &&& 31) = nI (2 ^ j) := by decide +kernel
def PT (a : Nat) : Nat → Prop := fun c => (a ≤ c ∧ c ≤ a + 4) ∨ c = 19
theorem x_tire {l : xLa} {d : Nat} {σ : xs} {a j : Nat} {v : sv} {pl : Int32} (ha : isS a) (hj : j < 8) (hS : ST σ a v) (hT : TR σ v) (h9 : v 1 j ≤ 9) (hp : si σ 15 j = pl) : TC l M_Trip_tire (d + 1) [.ref 19, .ref a, .int (nI j)] σ (fun r τ => r = none ∧ ST τ a (tirV pl v j) ∧ TR τ (tirV pl v j) ∧ Fr (PT a) σ τ) := by
  show T l M_Trip_tire (d + 1) 0 _ [] σ _
  refine tt_aload_n d_Trip_tire_0 rfl ?_
  refine tt_getR d_Trip_tire_1 rfl rfl (by decide) rfl rfl ?_
  refine tt_getR d_Trip_tire_4 rfl rfl (by decide) rfl rfl ?_
  refine tt_iload_n d_Trip_tire_7 rfl ?_
  refine tn_iald d_Trip_tire_8 rfl (by decide) hj hp ?_
  refine tt_if_le (t := 16) d_Trip_tire_9 (by decide) (fun c_9 => ?_) (fun c_9 => ?_)
  · skip
    refine tt_iconst (v := (-1)) d_Trip_tire_16 (by decide) ?_
    refine tt_istore_n d_Trip_tire_17 (by decide) rfl ?_
    refine tt_aload_n d_Trip_tire_18 rfl ?_
    refine tt_getR d_Trip_tire_19 rfl (by first | exact xS_sh ha) (by decide) (by first | exact (xS_r ha).1) (by first | exact xS_0 ha _ (by decide)) ?_
    refine tt_iload_n d_Trip_tire_22 rfl ?_
    refine tt_iconst (v := nI 0) d_Trip_tire_23 (by decide) ?_
    refine tt_bipush (v := nI 9) d_Trip_tire_24 (by decide) ?_
    refine tt_aload_n d_Trip_tire_26 rfl ?_
    refine tt_getR d_Trip_tire_27 rfl (by first | exact xS_sh ha) (by decide) (by first | exact (xS_r ha).1) (by first | exact xS_0 ha _ (by decide)) ?_
    refine tt_iload_n d_Trip_tire_30 rfl ?_
    refine tn_iald d_Trip_tire_31 (xS_a ha).1 (by decide) hj (hS.2 j hj).1 ?_
    refine tt_iload_n d_Trip_tire_32 rfl ?_
    refine tt_iadd d_Trip_tire_33 ?_
    refine tt_min d_Trip_tire_34 rfl (Nat.le_of_ble_eq_true rfl) ?_
    refine tt_max d_Trip_tire_37 rfl (Nat.le_of_ble_eq_true rfl) ?_
    refine tt_top (y := nI (if 0 < pl then max 0 (min 9 (v 1 j + 1)) else v 1 j - 1)) ((tir_dn _ h9).trans (congrArg nI (if_neg (fa_ngt c_9)).symm)) ?_
    refine tn_iast d_Trip_tire_40 (xS_a ha).1 (by decide) hj ?_
    refine tt_vret rfl d_Trip_tire_41 ?_
    exact ⟨rfl, ST_w1 hS, TR_o (by decide) (hT.sf rfl), Fr.wI (Or.inl (by omega))⟩
  · skip
    refine tt_iconst (v := nI 1) d_Trip_tire_12 (by decide) ?_
    refine tt_goto (t := 17) d_Trip_tire_13 (by decide) ?_
    refine tt_istore_n d_Trip_tire_17 (by decide) rfl ?_
    refine tt_aload_n d_Trip_tire_18 rfl ?_
    refine tt_getR d_Trip_tire_19 rfl (by first | exact xS_sh ha) (by decide) (by first | exact (xS_r ha).1) (by first | exact xS_0 ha _ (by decide)) ?_
    refine tt_iload_n d_Trip_tire_22 rfl ?_
    refine tt_iconst (v := nI 0) d_Trip_tire_23 (by decide) ?_
    refine tt_bipush (v := nI 9) d_Trip_tire_24 (by decide) ?_
    refine tt_aload_n d_Trip_tire_26 rfl ?_
    refine tt_getR d_Trip_tire_27 rfl (by first | exact xS_sh ha) (by decide) (by first | exact (xS_r ha).1) (by first | exact xS_0 ha _ (by decide)) ?_
    refine tt_iload_n d_Trip_tire_30 rfl ?_
    refine tn_iald d_Trip_tire_31 (xS_a ha).1 (by decide) hj (hS.2 j hj).1 ?_
    refine tt_iload_n d_Trip_tire_32 rfl ?_
    refine tn_iadd d_Trip_tire_33 ?_
    refine tn_min (by omega) (by omega) d_Trip_tire_34 rfl (Nat.le_of_ble_eq_true rfl) ?_
    refine tn_max (by omega) (by omega) d_Trip_tire_37 rfl (Nat.le_of_ble_eq_true rfl) ?_
    refine tt_top (y := nI (if 0 < pl then max 0 (min 9 (v 1 j + 1)) else v 1 j - 1)) (congrArg nI (if_pos (fa_nle c_9)).symm) ?_
    refine tn_iast d_Trip_tire_40 (xS_a ha).1 (by decide) hj ?_
    refine tt_vret rfl d_Trip_tire_41 ?_
    exact ⟨rfl, ST_w1 hS, TR_o (by decide) (hT.sf rfl), Fr.wI (Or.inl (by omega))⟩

theorem x_move_s {l : xLa} {d : Nat} {σ : xs} {a : Nat} {v : sv} (ha : isS a) (hS : ST σ a v) (hT : TR σ v) : TC l M_Trip_move (d + 3) [.ref 19, .ref a, .int (-2)] σ (fun r τ => r = none ∧ ST τ a (upv v 5 2 (v 5 2 + 1)) ∧ TR τ (upv v 5 2 (v 5 2 + 1)) ∧ Fr (PT a) σ τ) := by
  show T l M_Trip_move (d + 3) 0 _ [] σ _
  refine tt_iload_n d_Trip_move_0 rfl ?_
  refine tt_bipush (v := (-2)) d_Trip_move_1 (by decide) ?_
  refine tt_ic_ne (t := 19) d_Trip_move_3 (by decide) (fun c_3 => ?_) (fun c_3 => ?_)
  · exact absurd rfl c_3
  · refine tt_aload_n d_Trip_move_6 rfl ?_
    refine tt_dup d_Trip_move_7 rfl ?_
    refine tn_get d_Trip_move_8 rfl rfl (by decide) rfl (hT 2 (by decide)) ?_
    refine tt_iconst (v := nI 1) d_Trip_move_11 (by decide) ?_
    refine tn_iadd d_Trip_move_12 ?_
    refine tt_putI d_Trip_move_13 rfl rfl (by decide) rfl (xpok_int rfl) rfl ?_
    refine tt_goto (t := 35) d_Trip_move_16 (by decide) ?_
    refine tt_vret rfl d_Trip_move_35 ?_
    exact ⟨rfl, ST_5 (ST_19 ha hS), TR_wF (k := 2) hT, Fr.wF (Or.inr rfl)⟩

theorem x_move_g {l : xLa} {d : Nat} {σ : xs} {a w k : Nat} {v : sv} (ha : isS a) (hS : ST σ a v) (hT : TR σ v) (hw : w < 4) {e : xe} (hr : sf σ 5 0 = nI (eR e)) (hc : sf σ 5 1 = nI (eC e)) (hR : eR e ≤ 6) (hC : eC e ≤ 6) (hC0 : 0 < eC e) (hb : v 0 0 < 2 ^ 31) (hk : X_bes (eR e) (eC e) (v 0 0) w = nI k) : TC l M_Trip_move (d + 3) [.ref 19, .ref a, .int (nI w)] σ (fun r τ => r = none ∧ ST τ a (upv v 0 0 k) ∧ TR τ (upv v 0 0 k) ∧ Fr (PT a) σ τ) := by
  show T l M_Trip_move (d + 3) 0 _ [] σ _
  refine tt_iload_n d_Trip_move_0 rfl ?_
  refine tt_bipush (v := (-2)) d_Trip_move_1 (by decide) ?_
  refine tt_ic_ne (t := 19) d_Trip_move_3 (by decide) (fun c_3 => ?_) (fun c_3 => ?_)
  · refine tt_aload_n d_Trip_move_19 rfl ?_
    refine tt_aload_n d_Trip_move_20 rfl ?_
    refine tt_getR d_Trip_move_21 rfl rfl (by decide) rfl rfl ?_
    refine tt_aload_n d_Trip_move_24 rfl ?_
    refine tn_get d_Trip_move_25 rfl (by first | exact xS_sh ha) (by decide) (by first | exact xS_i ha _ (by decide)) (hS.1 0 (by decide)) ?_
    refine tt_iload_n d_Trip_move_28 rfl ?_
    refine tt_callV (x_Lake_beside (d := d) (f := v 0 0) (w := w) hb hw hr hc hR hC hC0) cw_Lake_beside rfl rfl (by decide) rfl (by omega) d_Trip_move_29 rfl rfl (Nat.le_of_ble_eq_true rfl) (Nat.le_of_ble_eq_true rfl) rfl rfl rfl (fun v σ2 q => ?_)
    obtain ⟨rfl, e9⟩ := q
    rw [e9, hk]
    clear e9
    refine tt_putI d_Trip_move_32 rfl (by first | exact xS_sh ha) (by decide) (by first | exact xS_i ha _ (by decide)) (xpok_int rfl) rfl ?_
    refine tt_vret rfl d_Trip_move_35 ?_
    exact ⟨rfl, ST_wF hS, TR_o (by decide) (hT.sf (sf_19 ha)), Fr.wF (Or.inl (by omega))⟩
  · exact absurd (Classical.not_not.mp c_3) ((show ∀ w, w < 4 → ¬ nI w = -2 by decide +kernel) w hw)

theorem x_reward {l : xLa} {d : Nat} {σ : xs} {a j : Nat} {v : sv} (ha : isS a) (hj : j < 8) (hS : ST σ a v) (hT : TR σ v) (hb : v 0 1 ≤ 99 ∧ v 0 2 ≤ 999 ∧ v 0 3 ≤ 999 ∧ v 2 j ≤ 9 ∧ v 4 j ≤ 9) : TC l M_Trip_reward (d + 1) [.ref 19, .ref a, .int (nI j)] σ (fun r τ => r = none ∧ ST τ a (rewV v j) ∧ TR τ (rewV v j) ∧ Fr (PT a) σ τ) := by
  have ho := isS_out ha
  show T l M_Trip_reward (d + 1) 0 _ [] σ _
  refine tt_aload_n d_Trip_reward_0 rfl ?_
  refine tn_get d_Trip_reward_1 rfl (by first | exact xS_sh ha) (by decide) (by first | exact xS_i ha _ (by decide)) (hS.1 1 (by decide)) ?_
  refine tt_aload_n d_Trip_reward_4 rfl ?_
  refine tt_getR d_Trip_reward_5 rfl (by first | exact xS_sh ha) (by decide) (by first | exact (xS_r ha).2.2.2) (by first | exact xS_0 ha _ (by decide)) ?_
  refine tt_iload_n d_Trip_reward_8 rfl ?_
  refine tn_iald d_Trip_reward_9 (xS_a ha).2.2.2 (by decide) hj (hS.2 j hj).2.2.2 ?_
  refine tn_ic_lt (t := 88) (by omega) (by omega) d_Trip_reward_10 (by decide) (fun c_10 => ?_) (fun c_10 => ?_)
  · skip
    refine tt_aload_n d_Trip_reward_88 rfl ?_
    refine tt_sipush (v := nI 999) d_Trip_reward_89 (by decide) ?_
    refine tt_aload_n d_Trip_reward_92 rfl ?_
    refine tn_get d_Trip_reward_93 rfl (by first | exact xS_sh ha) (by decide) (by first | exact xS_i ha _ (by decide)) (hS.1 3 (by decide)) ?_
    refine tt_iconst (v := nI 1) d_Trip_reward_96 (by decide) ?_
    refine tn_iadd d_Trip_reward_97 ?_
    refine tn_min (by omega) (by omega) d_Trip_reward_98 rfl (Nat.le_of_ble_eq_true rfl) ?_
    refine tt_putI d_Trip_reward_101 rfl (by first | exact xS_sh ha) (by decide) (by first | exact xS_i ha _ (by decide)) (xpok_int rfl) rfl ?_
    have s1 := ST_wF (k := 3) (x := min 999 (v 0 3 + 1)) hS
    have f1 : Fr (PT a) σ _ := Fr.wF (σ := σ) (a := a) (j := 3) (v := nI (min 999 (v 0 3 + 1))) (Or.inl (by omega))
    refine tt_aload_n d_Trip_reward_104 rfl ?_
    refine tt_getR d_Trip_reward_105 rfl (by first | exact xS_sh ha) (by decide) (by first | exact (xS_r ha).2.1) (by first | exact xS_0 ha _ (by decide)) ?_
    refine tt_iload_n d_Trip_reward_108 rfl ?_
    refine tt_iconst (v := nI 0) d_Trip_reward_109 (by decide) ?_
    refine tn_iast d_Trip_reward_110 (xS_a ha).2.1 (by decide) hj ?_
    have s3 := ST_w2 (j := j) (x := 0) s1
    have f3 := f1.tr (Fr.wI (a := a + 2) (j := j) (v := nI 0) (Or.inl (by omega)))
    have t3 := TR_o (r := 2) (k := j) (x := 0) (by decide) (TR.sf (τ := wI (wF σ a 3 (nI (min 999 (v 0 3 + 1)))) (a + 2) j (nI 0)) (TR_o (r := 0) (k := 3) (x := min 999 (v 0 3 + 1)) (by decide) hT) (sf_19 ha))
    refine tt_aload_n d_Trip_reward_111 rfl ?_
    refine tt_dup d_Trip_reward_112 rfl ?_
    refine tn_get d_Trip_reward_113 rfl rfl (by decide) rfl (show sf _ 19 4 = nI (v 5 1) from t3 1 (by decide)) ?_
    refine tt_iconst (v := nI 1) d_Trip_reward_116 (by decide) ?_
    refine tn_iadd d_Trip_reward_117 ?_
    refine tt_putI d_Trip_reward_118 rfl rfl (by decide) rfl (xpok_int rfl) rfl ?_
    have s4 := ST_5 (k := 1) (x := v 5 1 + 1) (ST_19 (k := 4) (x := nI (v 5 1 + 1)) ha s3)
    have t4 := TR_wF (k := 1) (x := v 5 1 + 1) t3
    have f4 := f3.tr (Fr.wF (a := 19) (j := 4) (v := nI (v 5 1 + 1)) (Or.inr rfl))
    refine tt_aload_n d_Trip_reward_121 rfl ?_
    refine tt_dup d_Trip_reward_122 rfl ?_
    refine tn_get d_Trip_reward_123 rfl rfl (by decide) rfl (show sf _ 19 7 = nI (v 5 4) from t4 4 (by decide)) ?_
    refine tt_iconst (v := nI 1) d_Trip_reward_126 (by decide) ?_
    refine tt_iload_n d_Trip_reward_127 rfl ?_
    refine tt_ishl d_Trip_reward_128 ?_
    refine tt_ior d_Trip_reward_129 ?_
    refine tt_top (y := nI (v 5 4 ||| 2 ^ j)) (by rw [shl_1 j hj]; exact or_N _ _) ?_
    refine tt_putI d_Trip_reward_130 rfl rfl (by decide) rfl (xpok_int rfl) rfl ?_
    have s5 := ST_5 (k := 4) (x := v 5 4 ||| 2 ^ j) (ST_19 (k := 7) (x := nI (v 5 4 ||| 2 ^ j)) ha s4)
    have t5 := TR_wF (k := 4) (x := v 5 4 ||| 2 ^ j) t4
    have f5 := f4.tr (Fr.wF (a := 19) (j := 7) (v := nI (v 5 4 ||| 2 ^ j)) (Or.inr rfl))
    refine tt_aload_n d_Trip_reward_133 rfl ?_
    refine tt_getR d_Trip_reward_134 rfl (by first | exact xS_sh ha) (by decide) (by first | exact (xS_r ha).2.2.1) (by first | exact xS_0 ha _ (by decide)) ?_
    refine tt_iload_n d_Trip_reward_137 rfl ?_
    refine tt_iconst (v := (-1)) d_Trip_reward_138 (by decide) ?_
    refine tn_iast d_Trip_reward_139 (xS_a ha).2.2.1 (by decide) hj ?_
    refine tt_vret rfl d_Trip_reward_140 ?_
    rw [show rewV v j = _ from if_neg (by omega)]
    exact ⟨rfl, ST_w3 (x := 0) s5, TR_o (by decide) (t5.sf rfl), f5.tr (Fr.wI (Or.inl (by omega)))⟩
  · refine tt_aload_n d_Trip_reward_13 rfl ?_
    refine tt_dup d_Trip_reward_14 rfl ?_
    refine tn_get d_Trip_reward_15 rfl (by first | exact xS_sh ha) (by decide) (by first | exact xS_i ha _ (by decide)) (hS.1 1 (by decide)) ?_
    refine tt_aload_n d_Trip_reward_18 rfl ?_
    refine tt_getR d_Trip_reward_19 rfl (by first | exact xS_sh ha) (by decide) (by first | exact (xS_r ha).2.2.2) (by first | exact xS_0 ha _ (by decide)) ?_
    refine tt_iload_n d_Trip_reward_22 rfl ?_
    refine tn_iald d_Trip_reward_23 (xS_a ha).2.2.2 (by decide) hj (hS.2 j hj).2.2.2 ?_
    refine tn_isub (by omega) d_Trip_reward_24 ?_
    refine tt_putI d_Trip_reward_25 rfl (by first | exact xS_sh ha) (by decide) (by first | exact xS_i ha _ (by decide)) (xpok_int rfl) rfl ?_
    have s1 := ST_wF (k := 1) (x := v 0 1 - v 4 j) hS
    have f1 : Fr (PT a) σ _ := Fr.wF (σ := σ) (a := a) (j := 1) (v := nI (v 0 1 - v 4 j)) (Or.inl (by omega))
    refine tt_aload_n d_Trip_reward_28 rfl ?_
    refine tt_sipush (v := nI 999) d_Trip_reward_29 (by decide) ?_
    refine tt_aload_n d_Trip_reward_32 rfl ?_
    refine tn_get d_Trip_reward_33 rfl (by first | exact xS_sh ha) (by decide) (by first | exact xS_i ha _ (by decide)) (show sf _ a 2 = nI (v 0 2) from s1.1 2 (by decide)) ?_
    refine tt_iconst (v := nI 1) d_Trip_reward_36 (by decide) ?_
    refine tn_iadd d_Trip_reward_37 ?_
    refine tn_min (by omega) (by omega) d_Trip_reward_38 rfl (Nat.le_of_ble_eq_true rfl) ?_
    refine tt_putI d_Trip_reward_41 rfl (by first | exact xS_sh ha) (by decide) (by first | exact xS_i ha _ (by decide)) (xpok_int rfl) rfl ?_
    have s2 := ST_wF (k := 2) (x := min 999 (v 0 2 + 1)) s1
    have f2 := f1.tr (Fr.wF (a := a) (j := 2) (v := nI (min 999 (v 0 2 + 1))) (Or.inl (by omega)))
    refine tt_aload_n d_Trip_reward_44 rfl ?_
    refine tt_getR d_Trip_reward_45 rfl (by first | exact xS_sh ha) (by decide) (by first | exact (xS_r ha).2.1) (by first | exact xS_0 ha _ (by decide)) ?_
    refine tt_iload_n d_Trip_reward_48 rfl ?_
    refine tt_bipush (v := nI 9) d_Trip_reward_49 (by decide) ?_
    refine tt_aload_n d_Trip_reward_51 rfl ?_
    refine tt_getR d_Trip_reward_52 rfl (by first | exact xS_sh ha) (by decide) (by first | exact (xS_r ha).2.1) (by first | exact xS_0 ha _ (by decide)) ?_
    refine tt_iload_n d_Trip_reward_55 rfl ?_
    refine tn_iald d_Trip_reward_56 (xS_a ha).2.1 (by decide) hj (show si _ (a + 2) j = nI (v 2 j) from (s2.2 j hj).2.1) ?_
    refine tt_iconst (v := nI 1) d_Trip_reward_57 (by decide) ?_
    refine tn_iadd d_Trip_reward_58 ?_
    refine tn_min (by omega) (by omega) d_Trip_reward_59 rfl (Nat.le_of_ble_eq_true rfl) ?_
    refine tn_iast d_Trip_reward_62 (xS_a ha).2.1 (by decide) hj ?_
    have s3 := ST_w2 (j := j) (x := min 9 (v 2 j + 1)) s2
    have f3 := f2.tr (Fr.wI (a := a + 2) (j := j) (v := nI (min 9 (v 2 j + 1))) (Or.inl (by omega)))
    have t3 := TR_o (r := 2) (k := j) (x := min 9 (v 2 j + 1)) (by decide) (TR.sf (τ := wI (wF (wF σ a 1 (nI (v 0 1 - v 4 j))) a 2 (nI (min 999 (v 0 2 + 1)))) (a + 2) j (nI (min 9 (v 2 j + 1)))) (TR_o (r := 0) (k := 2) (x := min 999 (v 0 2 + 1)) (by decide) (TR_o (r := 0) (k := 1) (x := v 0 1 - v 4 j) (by decide) hT)) ((sf_19 ha).trans (sf_19 ha)))
    refine tt_aload_n d_Trip_reward_63 rfl ?_
    refine tt_dup d_Trip_reward_64 rfl ?_
    refine tn_get d_Trip_reward_65 rfl rfl (by decide) rfl (show sf _ 19 3 = nI (v 5 0) from t3 0 (by decide)) ?_
    refine tt_iconst (v := nI 1) d_Trip_reward_68 (by decide) ?_
    refine tn_iadd d_Trip_reward_69 ?_
    refine tt_putI d_Trip_reward_70 rfl rfl (by decide) rfl (xpok_int rfl) rfl ?_
    have s4 := ST_5 (k := 0) (x := v 5 0 + 1) (ST_19 (k := 3) (x := nI (v 5 0 + 1)) ha s3)
    have t4 := TR_wF (k := 0) (x := v 5 0 + 1) t3
    have f4 := f3.tr (Fr.wF (a := 19) (j := 3) (v := nI (v 5 0 + 1)) (Or.inr rfl))
    refine tt_aload_n d_Trip_reward_73 rfl ?_
    refine tt_dup d_Trip_reward_74 rfl ?_
    refine tn_get d_Trip_reward_75 rfl rfl (by decide) rfl (show sf _ 19 6 = nI (v 5 3) from t4 3 (by decide)) ?_
    refine tt_iconst (v := nI 1) d_Trip_reward_78 (by decide) ?_
    refine tt_iload_n d_Trip_reward_79 rfl ?_
    refine tt_ishl d_Trip_reward_80 ?_
    refine tt_ior d_Trip_reward_81 ?_
    refine tt_top (y := nI (v 5 3 ||| 2 ^ j)) (by rw [shl_1 j hj]; exact or_N _ _) ?_
    refine tt_putI d_Trip_reward_82 rfl rfl (by decide) rfl (xpok_int rfl) rfl ?_
    have s5 := ST_5 (k := 3) (x := v 5 3 ||| 2 ^ j) (ST_19 (k := 6) (x := nI (v 5 3 ||| 2 ^ j)) ha s4)
    have t5 := TR_wF (k := 3) (x := v 5 3 ||| 2 ^ j) t4
    have f5 := f4.tr (Fr.wF (a := 19) (j := 6) (v := nI (v 5 3 ||| 2 ^ j)) (Or.inr rfl))
    refine tt_goto (t := 133) d_Trip_reward_85 (by decide) ?_
    skip
    refine tt_aload_n d_Trip_reward_133 rfl ?_
    refine tt_getR d_Trip_reward_134 rfl (by first | exact xS_sh ha) (by decide) (by first | exact (xS_r ha).2.2.1) (by first | exact xS_0 ha _ (by decide)) ?_
    refine tt_iload_n d_Trip_reward_137 rfl ?_
    refine tt_iconst (v := (-1)) d_Trip_reward_138 (by decide) ?_
    refine tn_iast d_Trip_reward_139 (xS_a ha).2.2.1 (by decide) hj ?_
    refine tt_vret rfl d_Trip_reward_140 ?_
    rw [show rewV v j = _ from if_pos c_10]
    exact ⟨rfl, ST_w3 (x := 0) s5, TR_o (by decide) (t5.sf rfl), f5.tr (Fr.wI (Or.inl (by omega)))⟩

