/-! Questions, one by one: when the boat comes to a field. Printed by wip/whole. -/
/-! fish of a set are promised a field -/
def prm (v : sv) (s f c : Nat) : Nat → sv
  | 0 => v
  | i + 1 => if s.testBit i = true then upv (upv (prm v s f c i) 3 i (f + 1)) 4 i c else prm v s f c i
theorem ok_prm {e : xe} {v : sv} {s f c : Nat} (hv : okV e v) (hf : f < eR e * eC e) (hc : c ≤ 9) : ∀ n, okV e (prm v s f c n)
  | 0 => hv
  | n + 1 => by
    show okV e (if s.testBit n = true then upv (upv (prm v s f c n) 3 n (f + 1)) 4 n c else prm v s f c n)
    split
    · exact ok_4 (ok_3 (ok_prm hv hf hc n) (by omega)) hc
    · exact ok_prm hv hf hc n
theorem prm_0 (v : sv) (f c : Nat) : ∀ n, prm v 0 f c n = v
  | 0 => rfl
  | n + 1 => by
    show (if (0 : Nat).testBit n = true then _ else prm v 0 f c n) = v
    rw [Nat.zero_testBit, if_neg (by decide), prm_0 v f c n]
theorem prm_0r {v : sv} {s f c k : Nat} : ∀ n, (prm v s f c n) 0 k = v 0 k
  | 0 => rfl
  | n + 1 => by
    show (if s.testBit n = true then upv (upv (prm v s f c n) 3 n (f + 1)) 4 n c else prm v s f c n) 0 k = _
    split
    · exact prm_0r n
    · exact prm_0r n
/-! when the boat is on a field -/
def pAt (e : xe) (u : sv) (f : Nat) (h : Nat) : Bool := decide ((hrsV e u h) 0 0 = f)
def aryN (e : xe) (u : sv) (f n : Nat) : Option Nat := fstN (pAt e u f) (n + 1) 0
def arI : Option Nat → Int32
  | none => -1
  | some h => nI h
theorem arI_c {e : xe} {u : sv} {f n : Nat} (hn : n < 1000) : (arI (aryN e u f n) = -1 ↔ aryN e u f n = none) ∧ (arI (aryN e u f n) < 0 ↔ aryN e u f n = none) ∧ (∀ h, aryN e u f n = some h → h ≤ n) := by
  cases q : aryN e u f n with
  | none => exact ⟨⟨fun _ => rfl, fun _ => rfl⟩, ⟨fun _ => rfl, fun _ => by decide⟩, fun h z => by cases z⟩
  | some h =>
    have hb : h < 0 + (n + 1) := (fst_some _ _ _ q).2.1
    refine ⟨⟨fun z => ?_, fun z => by cases z⟩, ⟨fun z => ?_, fun z => by cases z⟩, fun k z => by cases z; omega⟩
    · have := congrArg Int32.toInt z
      rw [show arI (some h) = nI h from rfl, nI_toInt (by omega)] at this
      have e : (-1 : Int32).toInt = -1 := rfl
      omega
    · exact absurd z (nI_pos (by omega))
theorem pAt_t {e : xe} {u : sv} {f h : Nat} : pAt e u f h = true ↔ (hrsV e u h) 0 0 = f := decide_eq_true_iff
/-! a boat goes one field an hour -/
theorem gpN_lt {C a b : Nat} (ha : a < 100) (hb : b < 100) : gpN C a b < 400 := by
  have h1 : a / C ≤ a := Nat.div_le_self a C
  have h2 : b / C ≤ b := Nat.div_le_self b C
  have h3 : a % C ≤ a := Nat.mod_le a C
  have h4 : b % C ≤ b := Nat.mod_le b C
  unfold gpN adf
  generalize a / C = x1 at *
  generalize b / C = x2 at *
  generalize a % C = x3 at *
  generalize b % C = x4 at *
  omega
theorem gpN_sy (C a b : Nat) : gpN C a b = gpN C b a := by unfold gpN adf; omega
theorem gpN_rf (C a : Nat) : gpN C a a = 0 := by unfold gpN adf; omega
theorem gpN_tr (C a b c : Nat) : gpN C a c ≤ gpN C a b + gpN C b c := by unfold gpN adf; omega
def bes1 (R C f w : Nat) : Bool := decide (X_bes R C f w = -1) || decide (gpN C f (X_bes R C f w).toNatClampNeg = 1)
theorem bes1_all : ∀ R, R < 7 → ∀ C, C < 7 → ∀ f, f < 36 → ∀ w, w < 4 → (decide (f < R * C) = true → bes1 R C f w = true) := by decide +kernel
theorem gap_mv {e : xe} {v : sv} (he : okE e) (hv : okV e v) : gpN (eC e) (v 0 0) ((hrV e v) 0 0) ≤ 1 := by
  rw [hr_00]
  by_cases c : goV e v (nI 255) = 0
  · rw [if_pos c, gpN_rf]; omega
  · rw [if_neg c]
    obtain ⟨⟨e1, e2, e3, e4, e5, e6, e7⟩, e8⟩ := he
    have hg := goV_lt (e := e) (v := v) (z := nI 255)
    have hRC : eR e * eC e ≤ 36 := Nat.mul_le_mul e2 e4
    have q := bes1_all (eR e) (by omega) (eC e) (by omega) (v 0 0) (by have := hv.1; omega) (goV e v (nI 255) - 1) (by omega) (decide_eq_true hv.1)
    have h2 := goV_f ⟨⟨e1, e2, e3, e4, e5, e6, e7⟩, e8⟩ hv c
    unfold bes1 at q
    rw [Bool.or_eq_true, decide_eq_true_iff, decide_eq_true_iff] at q
    rcases q with q | q
    · have h3 := h2.2
      rw [q] at h3
      exact absurd h3 (by decide)
    · omega
theorem gap_hrs {e : xe} {v : sv} (he : okE e) (hv : okV e v) (i : Nat) : ∀ k, v 0 4 + (i + k) < 2 ^ 30 → gpN (eC e) ((hrsV e v i) 0 0) ((hrsV e v (i + k)) 0 0) ≤ k
  | 0, _ => by rw [Nat.add_zero, gpN_rf]; omega
  | k + 1, hk => by
    have h1 := gap_hrs he hv i k (by omega)
    have h2 := gap_mv he (ok_hrs he hv (i + k) (by omega)).1
    have h3 := gpN_tr (eC e) ((hrsV e v i) 0 0) ((hrsV e v (i + k)) 0 0) ((hrsV e v (i + (k + 1))) 0 0)
    have h4 : (hrsV e v (i + (k + 1))) = hrV e (hrsV e v (i + k)) := rfl
    rw [h4] at h3 ⊢
    omega
theorem gap_no {e : xe} {v : sv} {f n i : Nat} (he : okE e) (hv : okV e v) (hb : v 0 4 + n < 2 ^ 30) (hi : i ≤ n) (h : n - i < gpN (eC e) ((hrsV e v i) 0 0) f) : fstN (pAt e v f) (n + 1 - i) i = none := by
  refine fst_no _ _ (fun j h1 h2 q => ?_)
  have h3 := gap_hrs he hv i (j - i) (by omega)
  rw [show i + (j - i) = j by omega, pAt_t.mp q] at h3
  omega
theorem Tn.tr {σ τ υ : xs} (h : Tn σ τ) (g : Tn τ υ) : Tn σ υ := ⟨g.1.trans h.1, g.2.trans h.2⟩
theorem Tn.rf {σ : xs} : Tn σ σ := ⟨rfl, rfl⟩
theorem Un.tr {σ τ υ : xs} (h : Un σ τ) (g : Un τ υ) : Un σ υ := ⟨g.1.trans h.1, g.2.trans h.2⟩
theorem Un.rf {σ : xs} : Un σ σ := ⟨rfl, rfl⟩
theorem xq_w3 {σ τ : xs} {w : wv} {a i : Nat} {x : Int32} (h : XQ w σ τ) (ha : 31 ≤ a ∧ a ≤ 34) : XQ w σ (wI τ a i x) := h.f0 (Fq.wI (by unfold sA; omega))
set_option maxHeartbeats 4000000 in
theorem x_arr2 {l : xLa} {d : Nat} {σ : xs} {w : wv} {s f cc n : Nat} {u : sv} {σ0 : xs} (hv : okV (wE w) u) (hv4 : u 0 4 < 2 ^ 29) (hf : f < eR (wE w) * eC (wE w)) (hn : n ≤ 99) (ho : okQ w) : ∀ (m : Nat) (i : Nat) (τ : xs), n + 1 - i = m → i ≤ n + 1 → XQ w σ τ → Tn σ0 τ → ST τ 30 (hrsV (wE w) u i) → T l M_X_arrivesBy (d + 30) 67 [some (.ref 0), some (.int (nI s)), some (.int (nI f)), some (.int (nI cc)), some (.int (nI n)), some (.int (nI i))] [] τ (fun r υ => r = some (.int (arI (fstN (pAt (wE w) u f) (n + 1 - i) i))) ∧ XQ w σ υ ∧ Tn σ0 υ ∧ ∀ h, fstN (pAt (wE w) u f) (n + 1 - i) i = some h → ST υ 30 (hrsV (wE w) u h)) := by
  have hb0 := ho.fb
  have hb8 := ho.n8
  intro m
  induction m using Nat.strongRecOn with
  | ind m ih =>
    intro i τ hm hi h ht hS
    have hok := ok_hrs ho.1 hv i (by omega)
    have hbo := hok.1.1
    have hgl : gpN (eC (wE w)) ((hrsV (wE w) u i) 0 0) f < 400 := gpN_lt (by omega) (by omega)
    refine tt_iload d_X_arrivesBy_67 rfl ?_
    refine tt_iload d_X_arrivesBy_69 rfl ?_
    refine tn_ic_gt (t := 135) (by omega) (by omega) d_X_arrivesBy_71 (by decide) (fun c_71 => ?_) (fun c_71 => ?_)
    · obtain rfl : i = n + 1 := by omega
      rw [fst_end (Nat.le_refl _)]
      refine tt_iconst (v := (-1)) d_X_arrivesBy_135 (by decide) ?_
      refine tt_iret rfl d_X_arrivesBy_136 ?_
      exact ⟨rfl, h, ht, fun k hk => by cases hk⟩
    · refine tt_aload_n d_X_arrivesBy_74 rfl ?_
      refine tt_getR d_X_arrivesBy_75 rfl rfl (by decide) rfl rfl ?_
      refine tn_get d_X_arrivesBy_78 rfl rfl (by decide) rfl (hS.1 0 (by decide)) ?_
      refine tt_iload_n d_X_arrivesBy_81 rfl ?_
      refine tn_ic_ne (t := 88) (by omega) (by omega) d_X_arrivesBy_82 (by decide) (fun c_82 => ?_) (fun c_82 => ?_)
      · refine tt_aload_n d_X_arrivesBy_88 rfl ?_
        refine tt_getR d_X_arrivesBy_89 rfl rfl (by decide) rfl rfl ?_
        refine tt_aload_n d_X_arrivesBy_92 rfl ?_
        refine tt_getR d_X_arrivesBy_93 rfl rfl (by decide) rfl rfl ?_
        refine tn_get d_X_arrivesBy_96 rfl rfl (by decide) rfl (hS.1 0 (by decide)) ?_
        refine tt_iload_n d_X_arrivesBy_99 rfl ?_
        refine tt_callV (x_Lake_gap (d := d) (by omega) (by omega) h.r h.cl ho.1.1.2.1 ho.1.1.2.2.2.1 ho.cp) cw_Lake_gap rfl rfl (by decide) rfl (by omega) d_X_arrivesBy_100 rfl rfl (Nat.le_of_ble_eq_true rfl) (Nat.le_of_ble_eq_true rfl) rfl rfl rfl (fun v σ2 q => ?_)
        obtain ⟨rfl, e9⟩ := q
        rw [e9, X_gap_N (by omega) (by omega)]
        clear e9
        refine tt_iload d_X_arrivesBy_103 rfl ?_
        refine tt_iload d_X_arrivesBy_105 rfl ?_
        refine tn_isub (by omega) d_X_arrivesBy_107 ?_
        refine tn_ic_le (t := 113) (by omega) (by omega) d_X_arrivesBy_108 (by decide) (fun c_108 => ?_) (fun c_108 => ?_)
        · rw [fst_miss (by omega) (fun q => c_82 (pAt_t.mp q))]
          refine tt_aload_n d_X_arrivesBy_113 rfl ?_
          refine tt_getR d_X_arrivesBy_114 rfl rfl (by decide) rfl rfl ?_
          refine tt_aload_n d_X_arrivesBy_117 rfl ?_
          refine tt_getR d_X_arrivesBy_118 rfl rfl (by decide) rfl rfl ?_
          refine tt_aload_n d_X_arrivesBy_121 rfl ?_
          refine tt_getP d_X_arrivesBy_122 rfl ?_
          refine tt_iconst (v := nI 1) d_X_arrivesBy_125 (by decide) ?_
          refine tt_callV (xq_hrs (d := d) (n := 1) h ho hok.1 hS (by omega)) cw_Trip_pass rfl rfl (by decide) rfl (by omega) d_X_arrivesBy_126 rfl rfl (Nat.le_of_ble_eq_true rfl) (Nat.le_of_ble_eq_true rfl) rfl rfl rfl (fun v σ2 q => ?_)
          obtain ⟨rfl, h, hS, hT, hu⟩ := q
          replace ht := ht.tr hu
          refine tt_iinc (lv2 := [_, _, _, _, _, _]) d_X_arrivesBy_129 rfl (nI_inc _ 1) (by decide) rfl ?_
          refine tt_goto (t := 67) d_X_arrivesBy_132 (by decide) ?_
          exact ih (n + 1 - (i + 1)) (by omega) (i + 1) _ rfl (by omega) h ht hS
        · rw [gap_no ho.1 hv (by omega) (by omega) (by omega)]
          refine tt_iconst (v := (-1)) d_X_arrivesBy_111 (by decide) ?_
          refine tt_iret rfl d_X_arrivesBy_112 ?_
          exact ⟨rfl, h, ht, fun k hk => by cases hk⟩
      · rw [fst_hit (by omega) (pAt_t.mpr c_82)]
        refine tt_iload d_X_arrivesBy_85 rfl ?_
        refine tt_iret rfl d_X_arrivesBy_87 ?_
        exact ⟨rfl, h, ht, fun k hk => by cases hk; exact hS⟩

set_option maxHeartbeats 4000000 in
theorem x_arr1 {l : xLa} {d : Nat} {σ : xs} {w : wv} {s f cc n : Nat} {σ0 : xs} (hs : s < 256) (hf : f < eR (wE w) * eC (wE w)) (hc : cc ≤ 9) (hn : n ≤ 99) (ho : okQ w) : ∀ (m : Nat) (i : Nat) (τ : xs), eN (wE w) - i = m → i ≤ eN (wE w) → XQ w σ τ → Tn σ0 τ → ST τ 30 (prm (wV w) s f cc i) → T l M_X_arrivesBy (d + 30) 14 [some (.ref 0), some (.int (nI s)), some (.int (nI f)), some (.int (nI cc)), some (.int (nI n)), some (.int (nI i))] [] τ (fun r υ => r = some (.int (arI (aryN (wE w) (prm (wV w) s f cc (eN (wE w))) f n))) ∧ XQ w σ υ ∧ Tn σ0 υ ∧ ∀ h, aryN (wE w) (prm (wV w) s f cc (eN (wE w))) f n = some h → ST υ 30 (hrsV (wE w) (prm (wV w) s f cc (eN (wE w))) h)) := by
  have hb0 := ho.fb
  have hb8 := ho.n8
  intro m
  induction m using Nat.strongRecOn with
  | ind m ih =>
    intro i τ hm hi h ht hS
    have hu := ok_prm (s := s) (c := cc) ho.2.1 hf hc (eN (wE w))
    refine tt_iload d_X_arrivesBy_14 rfl ?_
    refine tt_aload_n d_X_arrivesBy_16 rfl ?_
    refine tt_getR d_X_arrivesBy_17 rfl rfl (by decide) rfl rfl ?_
    refine tn_get d_X_arrivesBy_20 rfl rfl (by decide) rfl h.n ?_
    refine tn_ic_ge (t := 64) (by omega) (by omega) d_X_arrivesBy_23 (by decide) (fun c_23 => ?_) (fun c_23 => ?_)
    · obtain rfl : i = eN (wE w) := by omega
      refine tt_iconst (v := nI 0) d_X_arrivesBy_64 (by decide) ?_
      refine tt_istore (lv2 := [_, _, _, _, _, _]) d_X_arrivesBy_65 (by decide) rfl ?_
      refine x_arr2 (σ0 := σ0) hu (by rw [prm_0r]; exact ho.2.2) hf hn ho (n + 1) 0 _ rfl (by omega) h ht hS
    · refine tt_iload_n d_X_arrivesBy_26 rfl ?_
      refine tt_iload d_X_arrivesBy_27 rfl ?_
      refine tt_iushr d_X_arrivesBy_29 ?_
      refine tt_iconst (v := nI 1) d_X_arrivesBy_30 (by decide) ?_
      refine tt_iand d_X_arrivesBy_31 ?_
      refine tt_top (xbit_N (by omega) (by omega)) ?_
      refine tt_iconst (v := nI 1) d_X_arrivesBy_32 (by decide) ?_
      have htb := (tbN_c s i).1
      refine tn_ic_ne (t := 58) (by omega) (by omega) d_X_arrivesBy_33 (by decide) (fun c_33 => ?_) (fun c_33 => ?_)
      · have hz : prm (wV w) s f cc i = prm (wV w) s f cc (i + 1) := (if_neg (fun q => c_33 ((tbN_c s i).2.1.mpr q))).symm
        rw [hz] at hS
        refine tt_iinc (lv2 := [_, _, _, _, _, _]) d_X_arrivesBy_58 rfl (nI_inc _ 1) (by decide) rfl ?_
        refine tt_goto (t := 14) d_X_arrivesBy_61 (by decide) ?_
        exact ih (eN (wE w) - (i + 1)) (by omega) (i + 1) _ rfl (by omega) h ht hS
      · have hz : upv (upv (prm (wV w) s f cc i) 3 i (f + 1)) 4 i cc = prm (wV w) s f cc (i + 1) := (if_pos ((tbN_c s i).2.1.mp c_33)).symm
        replace hS := ST_w4 (a := 30) (j := i) (x := cc) (ST_w3 (a := 30) (j := i) (x := f + 1) hS)
        rw [hz] at hS
        replace h := xq_w3 (a := 34) (i := i) (x := nI cc) (xq_w3 (a := 33) (i := i) (x := nI f) h (by decide)) (by decide)
        replace ht : Tn σ0 (wI (wI _ 33 i (nI f)) 34 i (nI cc)) := ht
        refine tt_aload_n d_X_arrivesBy_36 rfl ?_
        refine tt_getR d_X_arrivesBy_37 rfl rfl (by decide) rfl rfl ?_
        refine tt_getR d_X_arrivesBy_40 rfl rfl (by decide) rfl rfl ?_
        refine tt_iload d_X_arrivesBy_43 rfl ?_
        refine tt_iload_n d_X_arrivesBy_45 rfl ?_
        refine tn_iast d_X_arrivesBy_46 rfl (by decide) (by omega) ?_
        refine tt_aload_n d_X_arrivesBy_47 rfl ?_
        refine tt_getR d_X_arrivesBy_48 rfl rfl (by decide) rfl rfl ?_
        refine tt_getR d_X_arrivesBy_51 rfl rfl (by decide) rfl rfl ?_
        refine tt_iload d_X_arrivesBy_54 rfl ?_
        refine tt_iload_n d_X_arrivesBy_56 rfl ?_
        refine tn_iast d_X_arrivesBy_57 rfl (by decide) (by omega) ?_
        refine tt_iinc (lv2 := [_, _, _, _, _, _]) d_X_arrivesBy_58 rfl (nI_inc _ 1) (by decide) rfl ?_
        refine tt_goto (t := 14) d_X_arrivesBy_61 (by decide) ?_
        exact ih (eN (wE w) - (i + 1)) (by omega) (i + 1) _ rfl (by omega) h ht hS

theorem xq_arr {l : xLa} {d : Nat} {σ τ : xs} {w : wv} {s f cc n : Nat} (h : XQ w σ τ) (hs : s < 256) (hf : f < eR (wE w) * eC (wE w)) (hc : cc ≤ 9) (hn : n ≤ 99) (ho : okQ w) : TC l M_X_arrivesBy (d + 30) [.ref 0, .int (nI s), .int (nI f), .int (nI cc), .int (nI n)] τ (fun r υ => r = some (.int (arI (aryN (wE w) (prm (wV w) s f cc (eN (wE w))) f n))) ∧ XQ w σ υ ∧ Tn τ υ ∧ ∀ h, aryN (wE w) (prm (wV w) s f cc (eN (wE w))) f n = some h → ST υ 30 (hrsV (wE w) (prm (wV w) s f cc (eN (wE w))) h)) := by
  have ht : Tn τ τ := Tn.rf
  show T l M_X_arrivesBy (d + 30) 0 _ [] τ _
  refine tt_aload_n d_X_arrivesBy_0 rfl ?_
  refine tt_getR d_X_arrivesBy_1 rfl rfl (by decide) rfl rfl ?_
  refine tt_aload_n d_X_arrivesBy_4 rfl ?_
  refine tt_getR d_X_arrivesBy_5 rfl rfl (by decide) rfl rfl ?_
  refine tt_callV (xq_copy (d := d) h) cw_State_copy rfl rfl (by decide) rfl (by omega) d_X_arrivesBy_8 rfl rfl (Nat.le_of_ble_eq_true rfl) (Nat.le_of_ble_eq_true rfl) rfl rfl rfl (fun v σ2 q => ?_)
  obtain ⟨rfl, h, hS, hu⟩ := q
  replace ht := ht.tr hu
  refine tt_iconst (v := nI 0) d_X_arrivesBy_11 (by decide) ?_
  refine tt_istore (lv2 := [_, _, _, _, _, _]) d_X_arrivesBy_12 (by decide) rfl ?_
  exact x_arr1 hs hf hc hn ho (eN (wE w)) 0 _ rfl (by omega) h ht hS

def q_comes (w : wv) (f : Int32) : Int32 × Option (List Int64) := match inN f (eR (wE w) * eC (wE w)) with
  | none => (-1, none)
  | some f => match aryN (wE w) (wV w) f 99 with
    | none => (-2, none)
    | some h => (nI h, some [(nI ((hrsV (wE w) (wV w) h) 0 1)).toInt64])
set_option maxHeartbeats 4000000 in
theorem xc_comes {l : xLa} {d : Nat} {σ : xs} {w : wv} (ho : okQ w) (hw : XW σ w) {f : Int32} : TC l M_X_comes (d + 40) [.ref 0, .int f] σ (fun r τ => r = some (.int ((q_comes w f).1)) ∧ XW τ (stD w ((q_comes w f).2)) ∧ XF σ τ) := by
  show T l M_X_comes (d + 40) 0 _ [] σ _
  refine T_lv (lv2 := [_, _, _]) rfl ?_
  have h := XQ.rf hw.v
  have hd0 := hw.2.2.2.1
  have hb0 := ho.fb
  have hb8 := ho.n8
  rcases inN_c f (eR (wE w) * eC (wE w)) with ⟨m, hm, rfl, hq⟩ | ⟨hq, hb⟩
  · unfold q_comes
    rw [hq]
    dsimp only
    refine tt_aload_n d_X_comes_0 rfl ?_
    refine tt_getR d_X_comes_1 rfl rfl (by decide) rfl rfl ?_
    refine tt_iload_n d_X_comes_4 rfl ?_
    refine tt_callV (x_Lake_has (d := d) h.r h.cl ho.1.1.2.1 ho.1.1.2.2.2.1 ho.cp) cw_Lake_has rfl rfl (by decide) rfl (by omega) d_X_comes_5 rfl rfl (Nat.le_of_ble_eq_true rfl) (Nat.le_of_ble_eq_true rfl) rfl rfl rfl (fun v σ2 q => ?_)
    obtain ⟨rfl, e9⟩ := q
    rw [e9, X_in_N hm (by omega)]
    clear e9
    refine tn_if_ne (t := 13) (by omega) d_X_comes_8 (by decide) (fun c_8 => ?_) (fun c_8 => ?_)
    · refine tt_aload_n d_X_comes_13 rfl ?_
      refine tt_iconst (v := nI 0) d_X_comes_14 (by decide) ?_
      refine tt_iload_n d_X_comes_15 rfl ?_
      refine tt_iconst (v := nI 0) d_X_comes_16 (by decide) ?_
      refine tt_bipush (v := nI 99) d_X_comes_17 (by decide) ?_
      refine tt_callV (xq_arr (d := d) h (by decide) hm (by decide) (by decide) ho) cw_X_arrivesBy rfl rfl (by decide) rfl (by omega) d_X_comes_19 rfl rfl (Nat.le_of_ble_eq_true rfl) (Nat.le_of_ble_eq_true rfl) rfl rfl rfl (fun v σ2 q => ?_)
      obtain ⟨rfl, h, hu, hA⟩ := q
      rw [prm_0] at hA
      rw [prm_0]
      replace hd0 := hd0.tn hu
      have ha := arI_c (e := wE w) (u := wV w) (f := m) (n := 99) (by decide)
      refine tt_istore_n (lv2 := [_, _, _]) d_X_comes_22 (by decide) rfl ?_
      refine tt_iload_n d_X_comes_23 rfl ?_
      refine tt_iconst (v := (-1)) d_X_comes_24 (by decide) ?_
      refine tt_ic_ne (t := 31) d_X_comes_25 (by decide) (fun c_25 => ?_) (fun c_25 => ?_)
      · obtain ⟨hh, hy⟩ := Option.ne_none_iff_exists'.mp (fun q => c_25 (ha.1.mpr q))
        replace hS := hA hh hy
        rw [hy]
        dsimp only
        refine tt_aload_n d_X_comes_31 rfl ?_
        refine tt_getR d_X_comes_32 rfl rfl (by decide) rfl rfl ?_
        refine tt_callV (xq_start (d := d) h) cw_Told_start rfl rfl (by decide) rfl (by omega) d_X_comes_35 rfl rfl (Nat.le_of_ble_eq_true rfl) (Nat.le_of_ble_eq_true rfl) rfl rfl rfl (fun v σ2 q => ?_)
        obtain ⟨rfl, h, hd, hf⟩ := q
        replace hS := hf.st hS (by decide)
        refine tt_aload_n d_X_comes_38 rfl ?_
        refine tt_getR d_X_comes_39 rfl rfl (by decide) rfl rfl ?_
        refine tt_aload_n d_X_comes_42 rfl ?_
        refine tt_getR d_X_comes_43 rfl rfl (by decide) rfl rfl ?_
        refine tn_get d_X_comes_46 rfl rfl (by decide) rfl (hS.1 1 (by decide)) ?_
        refine tt_i2l d_X_comes_49 ?_
        refine tt_callV (xq_add (d := d) h hd (Nat.le_of_ble_eq_true rfl)) cw_Told_add rfl rfl (by decide) rfl (by omega) d_X_comes_50 rfl rfl (Nat.le_of_ble_eq_true rfl) (Nat.le_of_ble_eq_true rfl) rfl rfl rfl (fun v σ2 q => ?_)
        obtain ⟨rfl, h, hd, hf⟩ := q
        replace hS := hf.st hS (by decide)
        refine tt_iload_n d_X_comes_53 rfl ?_
        refine tt_iret rfl d_X_comes_54 ?_
        exact ⟨rfl, h.done hd, h.2.1⟩
      · have hy := ha.1.mp (Decidable.not_not.mp c_25)
        rw [hy]
        dsimp only
        refine tt_bipush (v := (-2)) d_X_comes_28 (by decide) ?_
        refine tt_iret rfl d_X_comes_30 ?_
        exact ⟨rfl, h.none hd0, h.2.1⟩
    · exact absurd c_8 (by decide)
  · have hqv : q_comes w f = (-1, none) := by unfold q_comes; rw [hq]
    rw [hqv]
    refine tt_aload_n d_X_comes_0 rfl ?_
    refine tt_getR d_X_comes_1 rfl rfl (by decide) rfl rfl ?_
    refine tt_iload_n d_X_comes_4 rfl ?_
    refine tt_callV (x_Lake_has (d := d) h.r h.cl ho.1.1.2.1 ho.1.1.2.2.2.1 ho.cp) cw_Lake_has rfl rfl (by decide) rfl (by omega) d_X_comes_5 rfl rfl (Nat.le_of_ble_eq_true rfl) (Nat.le_of_ble_eq_true rfl) rfl rfl rfl (fun v σ2 q => ?_)
    obtain ⟨rfl, e9⟩ := q
    rw [e9, X_in_none hb]
    clear e9
    refine tn_if_ne (t := 13) (by omega) d_X_comes_8 (by decide) (fun c_8 => ?_) (fun c_8 => ?_)
    · exact absurd c_8 (by decide)
    · refine tt_iconst (v := (-1)) d_X_comes_11 (by decide) ?_
      refine tt_iret rfl d_X_comes_12 ?_
      exact ⟨rfl, h.none hd0, h.2.1⟩

set_option maxHeartbeats 4000000 in
theorem y_comesIn_l {l : xLa} {d : Nat} {σ : xs} {c : Nat} {w : wv} {f n : Nat} {u : sv} {σ0 : xs} (hv : okV (wE w) u) (hv4 : u 0 4 < 2 ^ 29) (hf : f < eR (wE w) * eC (wE w)) (hn : n ≤ 99) (ho : okQ w) : ∀ (m : Nat) (i : Nat) (τ : xs), n + 1 - i = m → i ≤ n + 1 → YQ c w σ τ → Un σ0 τ → SY τ 161 (eN (wE w)) (hrsV (wE w) u i) → T l M_Y_comesIn (d + 20) 2 [some (.ref 154), some (.int (nI f)), some (.int (nI n)), some (.int (nI i))] [] τ (fun r υ => r = some (.int (arI (fstN (pAt (wE w) u f) (n + 1 - i) i))) ∧ YQ c w σ υ ∧ Un σ0 υ ∧ ∀ h, fstN (pAt (wE w) u f) (n + 1 - i) i = some h → SY υ 161 (eN (wE w)) (hrsV (wE w) u h)) := by
  have hb0 := ho.fb
  have hb8 := ho.n8
  intro m
  induction m using Nat.strongRecOn with
  | ind m ih =>
    intro i τ hm hi h ht hS
    have hok := ok_hrs ho.1 hv i (by omega)
    have hbo := hok.1.1
    refine tt_iload_n d_Y_comesIn_2 rfl ?_
    refine tt_iload_n d_Y_comesIn_3 rfl ?_
    refine tn_ic_gt (t := 33) (by omega) (by omega) d_Y_comesIn_4 (by decide) (fun c_4 => ?_) (fun c_4 => ?_)
    · obtain rfl : i = n + 1 := by omega
      rw [fst_end (Nat.le_refl _)]
      refine tt_iconst (v := (-1)) d_Y_comesIn_33 (by decide) ?_
      refine tt_iret rfl d_Y_comesIn_34 ?_
      exact ⟨rfl, h, ht, fun k hk => by cases hk⟩
    · refine tt_aload_n d_Y_comesIn_7 rfl ?_
      refine tt_getR d_Y_comesIn_8 rfl rfl (by decide) rfl rfl ?_
      refine tt_iconst (v := nI 0) d_Y_comesIn_11 (by decide) ?_
      refine tn_iald d_Y_comesIn_12 rfl (by decide) (by omega) (hS.1.1) ?_
      refine tt_iload_n d_Y_comesIn_13 rfl ?_
      refine tn_ic_ne (t := 19) (by omega) (by omega) d_Y_comesIn_14 (by decide) (fun c_14 => ?_) (fun c_14 => ?_)
      · rw [fst_miss (by omega) (fun q => c_14 (pAt_t.mp q))]
        refine tt_aload_n d_Y_comesIn_19 rfl ?_
        refine tt_aload_n d_Y_comesIn_20 rfl ?_
        refine tt_getR d_Y_comesIn_21 rfl rfl (by decide) rfl rfl ?_
        refine tt_callV (yq_hr0 (d := d) h ho hok.1 hS (by omega)) cw_Y_hourGoes rfl rfl (by decide) rfl (by omega) d_Y_comesIn_24 rfl rfl (Nat.le_of_ble_eq_true rfl) (Nat.le_of_ble_eq_true rfl) rfl rfl rfl (fun v σ2 q => ?_)
        obtain ⟨rfl, h, hS, hu⟩ := q
        replace ht := ht.tr hu
        refine tt_iinc (lv2 := [_, _, _, _]) d_Y_comesIn_27 rfl (nI_inc _ 1) (by decide) rfl ?_
        refine tt_goto (t := 2) d_Y_comesIn_30 (by decide) ?_
        exact ih (n + 1 - (i + 1)) (by omega) (i + 1) _ rfl (by omega) h ht hS
      · rw [fst_hit (by omega) (pAt_t.mpr c_14)]
        refine tt_iload_n d_Y_comesIn_17 rfl ?_
        refine tt_iret rfl d_Y_comesIn_18 ?_
        exact ⟨rfl, h, ht, fun k hk => by cases hk; exact hS⟩

theorem yq_comesIn {l : xLa} {d c : Nat} {σ τ : xs} {w : wv} {f n : Nat} {u : sv} (h : YQ c w σ τ) (hS : SY τ 161 (eN (wE w)) u) (hv : okV (wE w) u) (hv4 : u 0 4 < 2 ^ 29) (hf : f < eR (wE w) * eC (wE w)) (hn : n ≤ 99) (ho : okQ w) : TC l M_Y_comesIn (d + 20) [.ref 154, .int (nI f), .int (nI n)] τ (fun r υ => r = some (.int (arI (aryN (wE w) u f n))) ∧ YQ c w σ υ ∧ Un τ υ ∧ ∀ h, aryN (wE w) u f n = some h → SY υ 161 (eN (wE w)) (hrsV (wE w) u h)) := by
  show T l M_Y_comesIn (d + 20) 0 _ [] τ _
  refine tt_iconst (v := nI 0) d_Y_comesIn_0 (by decide) ?_
  refine tt_istore_n (lv2 := [_, _, _, _]) d_Y_comesIn_1 (by decide) rfl ?_
  exact y_comesIn_l hv hv4 hf hn ho (n + 1) 0 _ rfl (by omega) h Un.rf hS

set_option maxHeartbeats 4000000 in
theorem yc_comes {l : xLa} {d c : Nat} {σ : xs} {w : wv} (ho : okQ w) (hw : YW σ c w) {f : Int32} : TC l M_Y_comes (d + 150) [.ref 154, .int f] σ (fun r τ => r = some (.int ((q_comes w f).1)) ∧ YW τ c (stD w ((q_comes w f).2)) ∧ YF σ τ) := by
  show T l M_Y_comes (d + 150) 0 _ [] σ _
  refine T_lv (lv2 := [_, _, _]) rfl ?_
  have h := YQ.rf hw.v
  have hd0 := hw.2.2.2.1
  have hb0 := ho.fb
  have hb8 := ho.n8
  rcases inN_c f (eR (wE w) * eC (wE w)) with ⟨m, hm, rfl, hq⟩ | ⟨hq, hb⟩
  · unfold q_comes
    rw [hq]
    dsimp only
    refine tt_aload_n d_Y_comes_0 rfl ?_
    refine tt_iconst (v := nI 0) d_Y_comes_1 (by decide) ?_
    refine tt_putI d_Y_comes_2 rfl rfl (by decide) rfl (xpok_int rfl) rfl ?_
    replace h := h.thr (x := nI 0)
    replace hd0 := hd0.thr (x := nI 0)
    refine tt_aload_n d_Y_comes_5 rfl ?_
    refine tt_iload_n d_Y_comes_6 rfl ?_
    refine tt_callV (y_isField (d := d) h.e.1.1 h.e.1.2.1 ho.1.1.2.1 ho.1.1.2.2.2.1 ho.cp) cw_Y_isField rfl rfl (by decide) rfl (by omega) d_Y_comes_7 rfl rfl (Nat.le_of_ble_eq_true rfl) (Nat.le_of_ble_eq_true rfl) rfl rfl rfl (fun v σ2 q => ?_)
    obtain ⟨rfl, e9⟩ := q
    rw [e9, X_in_N hm (by omega)]
    clear e9
    refine tn_if_ne (t := 15) (by omega) d_Y_comes_10 (by decide) (fun c_10 => ?_) (fun c_10 => ?_)
    · refine tt_aload_n d_Y_comes_15 rfl ?_
      refine tt_callV (yq_copies (d := d) h ho.n8) cw_Y_copies rfl rfl (by decide) rfl (by omega) d_Y_comes_16 rfl rfl (Nat.le_of_ble_eq_true rfl) (Nat.le_of_ble_eq_true rfl) rfl rfl rfl (fun v σ2 q => ?_)
      obtain ⟨rfl, h, hS, hu, -⟩ := q
      replace hd0 := hd0.un hu
      refine tt_aload_n d_Y_comes_19 rfl ?_
      refine tt_iload_n d_Y_comes_20 rfl ?_
      refine tt_bipush (v := nI 99) d_Y_comes_21 (by decide) ?_
      refine tt_callV (yq_comesIn (d := d) h hS ho.2.1 ho.2.2 hm (by decide) ho) cw_Y_comesIn rfl rfl (by decide) rfl (by omega) d_Y_comes_23 rfl rfl (Nat.le_of_ble_eq_true rfl) (Nat.le_of_ble_eq_true rfl) rfl rfl rfl (fun v σ2 q => ?_)
      obtain ⟨rfl, h, hu, hA⟩ := q
      replace hd0 := hd0.un hu
      have ha := arI_c (e := wE w) (u := wV w) (f := m) (n := 99) (by decide)
      refine tt_istore_n (lv2 := [_, _, _]) d_Y_comes_26 (by decide) rfl ?_
      refine tt_iload_n d_Y_comes_27 rfl ?_
      refine tt_if_ge (t := 34) d_Y_comes_28 (by decide) (fun c_28 => ?_) (fun c_28 => ?_)
      · obtain ⟨hh, hy⟩ := Option.ne_none_iff_exists'.mp (fun q => fa_nlt2 (ha.2.1.mpr q) c_28)
        replace hS := hA hh hy
        rw [hy]
        dsimp only
        refine tt_aload_n d_Y_comes_34 rfl ?_
        refine tt_iconst (v := nI 0) d_Y_comes_35 (by decide) ?_
        refine tt_putI d_Y_comes_36 rfl rfl (by decide) rfl (xpok_int rfl) rfl ?_
        replace h := h.td0
        have hd := YD_0t h
        replace hS := SY_0t h hS
        refine tt_aload_n d_Y_comes_39 rfl ?_
        refine tt_aload_n d_Y_comes_40 rfl ?_
        refine tt_getR d_Y_comes_41 rfl rfl (by decide) rfl rfl ?_
        refine tt_bipush (v := nI 34) d_Y_comes_44 (by decide) ?_
        refine tn_iald d_Y_comes_46 rfl (by decide) (by omega) (hS.1.2.2.1) ?_
        refine tt_i2l d_Y_comes_47 ?_
        refine tt_callV (yq_add (d := d) h hd (Nat.le_of_ble_eq_true rfl)) cw_Y_enters rfl rfl (by decide) rfl (by omega) d_Y_comes_48 rfl rfl (Nat.le_of_ble_eq_true rfl) (Nat.le_of_ble_eq_true rfl) rfl rfl rfl (fun v σ2 q => ?_)
        obtain ⟨rfl, h, hd, hf⟩ := q
        replace hS := hf.sy hS
        refine tt_iload_n d_Y_comes_51 rfl ?_
        refine tt_iret rfl d_Y_comes_52 ?_
        exact ⟨rfl, h.done hd, h.2⟩
      · have hy := ha.2.1.mp (fa_nle c_28)
        rw [hy]
        dsimp only
        refine tt_bipush (v := (-2)) d_Y_comes_31 (by decide) ?_
        refine tt_iret rfl d_Y_comes_33 ?_
        exact ⟨rfl, h.none hd0, h.2⟩
    · exact absurd c_10 (by decide)
  · have hqv : q_comes w f = (-1, none) := by unfold q_comes; rw [hq]
    rw [hqv]
    refine tt_aload_n d_Y_comes_0 rfl ?_
    refine tt_iconst (v := nI 0) d_Y_comes_1 (by decide) ?_
    refine tt_putI d_Y_comes_2 rfl rfl (by decide) rfl (xpok_int rfl) rfl ?_
    replace h := h.thr (x := nI 0)
    replace hd0 := hd0.thr (x := nI 0)
    refine tt_aload_n d_Y_comes_5 rfl ?_
    refine tt_iload_n d_Y_comes_6 rfl ?_
    refine tt_callV (y_isField (d := d) h.e.1.1 h.e.1.2.1 ho.1.1.2.1 ho.1.1.2.2.2.1 ho.cp) cw_Y_isField rfl rfl (by decide) rfl (by omega) d_Y_comes_7 rfl rfl (Nat.le_of_ble_eq_true rfl) (Nat.le_of_ble_eq_true rfl) rfl rfl rfl (fun v σ2 q => ?_)
    obtain ⟨rfl, e9⟩ := q
    rw [e9, X_in_none hb]
    clear e9
    refine tn_if_ne (t := 15) (by omega) d_Y_comes_10 (by decide) (fun c_10 => ?_) (fun c_10 => ?_)
    · exact absurd c_10 (by decide)
    · refine tt_iconst (v := (-1)) d_Y_comes_13 (by decide) ?_
      refine tt_iret rfl d_Y_comes_14 ?_
      exact ⟨rfl, h.none hd0, h.2⟩

