/-! Rule.plain, Rule.read. Printed by wip/whole. -/
/-- the code in the order in which it stands -/
def rv (L : List Nat) (i : Nat) : Nat := L.getD (L.length - 1 - i) 0
theorem rv_l {c : Nat} {L : List Nat} : rv (c :: L) L.length = c := by
  show (c :: L).getD (L.length + 1 - 1 - L.length) 0 = c
  rw [show L.length + 1 - 1 - L.length = 0 by omega]
  rfl
theorem rv_o {c i : Nat} {L : List Nat} (h : i < L.length) : rv (c :: L) i = rv L i := by
  show (c :: L).getD (L.length + 1 - 1 - i) 0 = L.getD (L.length - 1 - i) 0
  rw [show L.length + 1 - 1 - i = (L.length - 1 - i) + 1 by omega]
  rfl
theorem AL_g {σ : xs} {a : Nat} : ∀ {L : List Nat}, AL σ a L → ∀ i, i < L.length → si σ a i = nI (rv L i)
  | [], _, i, hi => absurd hi (Nat.not_lt_zero i)
  | c :: L, h, i, hi => by
    have hi' : i < L.length + 1 := hi
    by_cases z : i = L.length
    · subst z
      rw [rv_l]; exact h.1
    · rw [rv_o (by omega)]
      exact AL_g h.2 i (by omega)
theorem dp_c {f g : Nat → Nat} : ∀ n, (∀ i, i < n → f i = g i) → dp f n = dp g n
  | 0, _ => rfl
  | n + 1, h => by
    have ih := dp_c (f := f) (g := g) n (fun i hi => h i (by omega))
    show (if f n < 2000 then dp f n + 1 else if f n = 3000 then dp f n else dp f n - 1) = (if g n < 2000 then dp g n + 1 else if g n = 3000 then dp g n else dp g n - 1)
    rw [ih, h n (by omega)]
theorem wfc_l : ∀ L : List Nat, wfl L → wfc (rv L) L.length ∧ dp (rv L) L.length = dpl L
  | [], _ => ⟨fun i hi => absurd hi (Nat.not_lt_zero i), rfl⟩
  | c :: L, h => by
    obtain ⟨h1, h2⟩ := wfc_l L h.2
    have e : ∀ n, n ≤ L.length → dp (rv (c :: L)) n = dp (rv L) n := fun n hn => dp_c n (fun i hi => rv_o (by omega))
    refine ⟨fun i hi => ?_, ?_⟩
    · have hi' : i < L.length + 1 := hi
      rw [e i (by omega)]
      by_cases z : i = L.length
      · subst z
        rw [rv_l, h2]; exact h.1
      · rw [rv_o (by omega)]
        exact h1 i (by omega)
    · show (if rv (c :: L) L.length < 2000 then dp (rv (c :: L)) L.length + 1 else if rv (c :: L) L.length = 3000 then dp (rv (c :: L)) L.length else dp (rv (c :: L)) L.length - 1) = dpl (c :: L)
      rw [rv_l, e _ (Nat.le_refl _), h2]
      rfl
theorem gL_dp {key : Int32} {c : Nat → Nat} {n : Nat} (h : wfc c n) : ∀ i, i ≤ n → (gL key c i).length = dp c i
  | 0, _ => rfl
  | i + 1, hi => by
    have ih := gL_dp (key := key) h i (by omega)
    obtain ⟨h1, h2, h3⟩ := h i (by omega)
    show (gst key (c i) (gL key c i)).length = dp c (i + 1)
    unfold gst
    rw [show dp c (i + 1) = if c i < 2000 then dp c i + 1 else if c i = 3000 then dp c i else dp c i - 1 from rfl]
    by_cases a : c i < 1000
    · rw [if_pos a, if_pos (by omega), List.length_append, ih]; rfl
    · rw [if_neg a]
      by_cases b : c i < 2000
      · rw [if_pos b, if_pos b, List.length_append, ih]; rfl
      · rw [if_neg b, if_neg b]
        by_cases g : c i = 3000
        · rw [if_pos g, if_pos g, if_pos (by have := h2 g; omega), List.length_set, ih]
        · have := h3 (by omega) g
          rw [if_neg g, if_neg g, if_pos (by omega), List.length_append, List.length_take, List.length_singleton]
          omega
theorem wfc_p : wfc plc 7 := by
  have : ∀ i, i < 7 → ((plc i < 1000 ∨ (1000 ≤ plc i ∧ plc i < 1008) ∨ plc i = 3000 ∨ plc i = 2042 ∨ plc i = 2043 ∨ plc i = 2045 ∨ plc i = 2060 ∨ plc i = 2061 ∨ plc i = 2062 ∨ plc i = 2047) ∧ (plc i = 3000 → 0 < dp plc i) ∧ (2000 ≤ plc i → ¬ plc i = 3000 → 1 < dp plc i)) := by decide +kernel
  exact this
/-- only what reading a rule changes -/
def Fp (u : Nat) (σ τ : xs) : Prop := Fq (fun c => c = u + 1 ∨ c = u + 3 ∨ c = u + 4) (fun c _ => c = u) (fun _ => False) σ τ
theorem Fu.p {u : Nat} {σ τ : xs} (h : Fu u σ τ) : Fp u σ τ := Fq.mono h (fun _ q => q.elim Or.inl (fun z => Or.inr (Or.inl z))) (fun _ _ q => q) (fun _ q => q)
theorem Fp.tr {u : Nat} {σ τ υ : xs} (h : Fp u σ τ) (g : Fp u τ υ) : Fp u σ υ := Fq.tr h g
/-- notes wiped -/
theorem CI_w {σ : xs} {u : Nat} {W : Int32 → Int32} {g : Nat → Int32} : CI (wA σ (u + 4) (cpN (fun _ => -1) g 1024)) u W := fun s hs => Or.inl (by
  rw [si_wA, if_pos rfl]
  exact if_pos hs)
theorem isC_m {σ : xs} {u n : Nat} {c : Nat → Nat} (h1 : sf σ u 1 = nI n) (h2 : n ≤ 40) (h3 : ∀ i, i < n → si σ (u + 1) i = nI (c i)) (hw : wfc c n) (h0 : 0 < n) : isC σ u n c := ⟨h1, h2, fun i hi => ⟨h3 i hi, (hw i hi).1⟩, fun key => by rw [gL_dp hw n (Nat.le_refl _)]; exact dp_pos hw h0⟩
theorem x_plain {l : xLa} {d : Nat} {σ : xs} {u : Nat} (hu : isR u) : TC l M_Rule_plain (d + 2) [.ref u] σ (fun r τ => r = none ∧ isC τ u 7 plc ∧ CI τ u (V plc 7) ∧ Fp u σ τ) := by
  show T l M_Rule_plain (d + 2) 0 _ [] σ _
  refine tt_gets (a := 0) rfl xgs_51 d_Rule_plain_0 ?_
  refine tt_iconst (v := nI 0) d_Rule_plain_3 (by decide) ?_
  refine tt_aload_n d_Rule_plain_4 rfl ?_
  refine tt_getR d_Rule_plain_5 rfl (xR_sh hu) (by decide) ((xR_r hu).1) (xR_0 hu _ (by decide)) ?_
  refine tt_iconst (v := nI 0) d_Rule_plain_8 (by decide) ?_
  refine tt_gets (a := 0) rfl xgs_51 d_Rule_plain_9 ?_
  refine E.slen (a := 0) (v := nI 7) rfl rfl d_Rule_plain_12 ?_
  refine tn_copyS (a := 0) d_Rule_plain_13 rfl rfl ((xR_a hu).1) (by decide) (by decide) (by decide) (Nat.le_of_ble_eq_true rfl) ?_
  refine tt_aload_n d_Rule_plain_16 rfl ?_
  refine tt_gets (a := 0) rfl xgs_51 d_Rule_plain_17 ?_
  refine E.slen (a := 0) (v := nI 7) rfl rfl d_Rule_plain_20 ?_
  refine tt_putI d_Rule_plain_21 rfl (xR_sh hu) (by decide) (xR_i hu _ (by decide)) (xpok_int rfl) rfl ?_
  refine tt_aload_n d_Rule_plain_24 rfl ?_
  refine tt_getR d_Rule_plain_25 rfl (xR_sh hu) (by decide) ((xR_r hu).2.2.2.1) (xR_0 hu _ (by decide)) ?_
  refine tt_iconst (v := (-1)) d_Rule_plain_28 (by decide) ?_
  refine tt_callS (x_fill (d := d) ((xR_a hu).2.2.2.1) (by decide)) cw_Arrays_fill rfl (by omega) d_Rule_plain_29 rfl rfl (Nat.le_of_ble_eq_true rfl) (Nat.le_of_ble_eq_true rfl) rfl rfl rfl (fun v σ2 q => ?_)
  obtain ⟨rfl, e9⟩ := q
  rw [e9]
  clear e9
  refine tt_vret rfl d_Rule_plain_32 ?_
  refine ⟨rfl, isC_m ?_ (by decide) (fun i hi => ?_) wfc_p (by decide), CI_w, Fq.tr (Fq.tr (Fq.wA (Or.inl rfl)) (Fq.wF rfl)) (Fq.wA (Or.inr (Or.inr rfl)))⟩
  · show sf (wF _ u 1 (nI 7)) u 1 = nI 7
    exact sfy
  · rw [si_wA, if_neg (by omega), si_wF, si_wA, if_pos rfl]
    show (if i < 7 then _ else _) = _
    rw [if_pos hi]
    exact (show ∀ i, i < 7 → ([1000, 1001, 2045, 1002, 1003, 2062, 2043] : List Int32).getD i 0 = nI (plc i) by decide +kernel) i hi

theorem PB_01 {o : Option rst} {u b : Nat} {σ τ : xs} (hb : b ≤ 1) (h : PB o u σ (some (.int (nI b))) τ) : (b = 0 → o = none ∧ Fu u σ τ) ∧ (¬ b = 0 → ∃ S', o = some S' ∧ RX τ u S' ∧ Fu u σ τ) := by
  cases o with
  | none =>
    obtain ⟨h1, h2⟩ := h.1 rfl
    refine ⟨fun _ => ⟨rfl, h2⟩, fun z => ?_⟩
    obtain rfl : b = 1 := by omega
    exact absurd (Value.int.inj (Option.some.inj h1)) (by decide)
  | some S =>
    obtain ⟨h1, h2, h3⟩ := h.2 S rfl
    refine ⟨fun z => ?_, fun _ => ⟨S, rfl, h2, h3⟩⟩
    subst z
    exact absurd (Value.int.inj (Option.some.inj h1)) (by decide)
theorem XT_u {u : Nat} {σ τ : xs} {x : Nat × (Nat → Nat)} (hu : isR u) (h : XT σ x) (hf : Fu u σ τ) : XT τ x := by
  have h1 := isR_c hu
  exact ⟨(hf.2.1 1 1 (by omega)).trans h.1, fun i hi => by rw [hf.1 2 (by omega)]; exact h.2 i hi⟩
def rlM (x : Nat × (Nat → Nat)) : Nat := if x.1 = 0 then 7 else (rlL x).length
def rlW (x : Nat × (Nat → Nat)) : Nat → Nat := if x.1 = 0 then plc else rv (rlL x)
def QR (x : Nat × (Nat → Nat)) (u : Nat) (σ : xs) : Option Value → xs → Prop := fun r τ => r = some (.int (gI (rlF x))) ∧ Fp u σ τ ∧ (rlF x = 0 → isC τ u (rlM x) (rlW x) ∧ CI τ u (V (rlW x) (rlM x)))
theorem rlF_l {x : Nat × (Nat → Nat)} {q : Nat} (h0 : ¬ x.1 = 0) (h : rn x (min 40 x.1) 0 rs0 = .inl q) : rlF x = q + 1 := by
  unfold rlF
  rw [if_neg h0, h]
theorem rlF_r {x : Nat × (Nat → Nat)} {S : rst} (h0 : ¬ x.1 = 0) (h : rn x (min 40 x.1) 0 rs0 = .inr S) : rlF x = if 40 < x.1 ∨ rN S = 1 ∨ 0 < rD S then min 40 x.1 + 1 else 0 := by
  unfold rlF
  rw [if_neg h0, h]
theorem rlL_r {x : Nat × (Nat → Nat)} {S : rst} (h : rn x (min 40 x.1) 0 rs0 = .inr S) : rlL x = (stl 0 (rW S) (rC S)).1 := by
  unfold rlL
  rw [h]

set_option maxHeartbeats 4000000 in
theorem x_read_l {l : xLa} {d : Nat} {σ : xs} {u : Nat} {x : Nat × (Nat → Nat)} (hu : isR u) (hx : XT σ x) (hX : okX x) : ∀ (m i : Nat) (S : rst) (z : Option Int32) (τ : xs), min 40 x.1 - i = m → i ≤ min 40 x.1 → RI S i → RX τ u S → Fu u σ τ → rn x (min 40 x.1 - i) i S = rn x (min 40 x.1) 0 rs0 → T l M_Rule_read (d + 10) 42 [some (.ref u), some (.ref 1), some (.int (nI (min 40 x.1))), some (.int (nI i)), z.map Value.int] [] τ (QR x u σ) := by
  have hx80 := hX.1
  intro m
  induction m using Nat.strongRecOn with
  | ind m ih =>
    intro i S z τ hm hi hI hR hF hrn
    have hN := hI.2.2.2.1.2.2.2
    have hD := hI.2.2.2.1.1
    refine tt_iload_n d_Rule_read_42 rfl ?_
    refine tt_iload_n d_Rule_read_43 rfl ?_
    refine tn_ic_ge (t := 90) (by omega) (by omega) d_Rule_read_44 (by decide) (fun c_44 => ?_) (fun c_44 => ?_)
    · have e0 : min 40 x.1 - i = 0 := by omega
      rw [e0] at hrn
      have hr : rn x (min 40 x.1) 0 rs0 = .inr S := hrn.symm
      refine tt_aload_n d_Rule_read_90 rfl ?_
      refine tt_callV (x_Text_length (d := d)) cw_Text_length rfl rfl (by decide) rfl (by omega) d_Rule_read_91 rfl rfl (Nat.le_of_ble_eq_true rfl) (Nat.le_of_ble_eq_true rfl) rfl rfl rfl (fun v σ2 q => ?_)
      obtain ⟨rfl, e9⟩ := q
      rw [e9]
      clear e9
      refine tt_top (XT_u hu hx hF).1 ?_
      refine tn_if_ne (t := 103) (by omega) d_Rule_read_94 (by decide) (fun c_94 => ?_) (fun c_94 => ?_)
      · have ef := rlF_r c_94 hr
        refine tt_aload_n d_Rule_read_103 rfl ?_
        refine tt_callV (x_Text_length (d := d)) cw_Text_length rfl rfl (by decide) rfl (by omega) d_Rule_read_104 rfl rfl (Nat.le_of_ble_eq_true rfl) (Nat.le_of_ble_eq_true rfl) rfl rfl rfl (fun v σ2 q => ?_)
        obtain ⟨rfl, e9⟩ := q
        rw [e9]
        clear e9
        refine tt_top (XT_u hu hx hF).1 ?_
        refine tt_bipush (v := nI 40) d_Rule_read_107 (by decide) ?_
        refine tn_ic_gt (t := 126) (by omega) (by omega) d_Rule_read_109 (by decide) (fun c_109 => ?_) (fun c_109 => ?_)
        · refine tt_iload_n d_Rule_read_126 rfl ?_
          refine tt_iret rfl d_Rule_read_127 ?_
          rw [if_pos (by omega)] at ef
          exact ⟨by rw [ef]; rfl, hF.p, fun z => by omega⟩
        · refine tt_aload_n d_Rule_read_112 rfl ?_
          refine tn_get d_Rule_read_113 rfl (xR_sh hu) (by decide) (xR_i hu _ (by decide)) hR.2.2.2.2 ?_
          refine tn_if_ne (t := 126) (by omega) d_Rule_read_116 (by decide) (fun c_116 => ?_) (fun c_116 => ?_)
          · refine tt_iload_n d_Rule_read_126 rfl ?_
            refine tt_iret rfl d_Rule_read_127 ?_
            rw [if_pos (by omega)] at ef
            exact ⟨by rw [ef]; rfl, hF.p, fun z => by omega⟩
          · refine tt_aload_n d_Rule_read_119 rfl ?_
            refine tn_get d_Rule_read_120 rfl (xR_sh hu) (by decide) (xR_i hu _ (by decide)) hR.2.1 ?_
            refine tn_if_le (t := 128) (by omega) d_Rule_read_123 (by decide) (fun c_123 => ?_) (fun c_123 => ?_)
            · refine tt_aload_n d_Rule_read_128 rfl ?_
              refine tt_iconst (v := nI 0) d_Rule_read_129 (by decide) ?_
              refine tt_callV (x_settle (d := d) hu (b := 0) (by omega) hI.2.1 (by have := hI.1; omega) hR.1) cw_Rule_settle rfl (xR_sh hu) (by decide) rfl (by omega) d_Rule_read_130 rfl rfl (Nat.le_of_ble_eq_true rfl) (Nat.le_of_ble_eq_true rfl) rfl rfl rfl (fun v σ2 q => ?_)
              obtain ⟨rfl, hW2, hF3⟩ := q
              refine tt_aload_n d_Rule_read_133 rfl ?_
              refine tt_getR d_Rule_read_134 rfl (xR_sh hu) (by decide) ((xR_r hu).2.2.2.1) (xR_0 hu _ (by decide)) ?_
              refine tt_iconst (v := (-1)) d_Rule_read_137 (by decide) ?_
              refine tt_callS (x_fill (d := d) ((xR_a hu).2.2.2.1) (by decide)) cw_Arrays_fill rfl (by omega) d_Rule_read_138 rfl rfl (Nat.le_of_ble_eq_true rfl) (Nat.le_of_ble_eq_true rfl) rfl rfl rfl (fun v σ2 q => ?_)
              obtain ⟨rfl, e9⟩ := q
              rw [e9]
              clear e9
              refine tt_iconst (v := (-1)) d_Rule_read_141 (by decide) ?_
              refine tt_iret rfl d_Rule_read_142 ?_
              rw [if_neg (by omega)] at ef
              have em : rlM x = (rlL x).length := if_neg c_94
              have ew : rlW x = rv (rlL x) := if_neg c_94
              rw [rlL_r hr] at em ew
              obtain ⟨a1, a2, a3, a4, a5, a6⟩ := stl_ok (b := 0) (rW S) (rC S) hI.2.1 hI.2.2.2.2.1 (by have := hI.2.2.2.2.2.1; omega)
              have h1 := hI.1
              refine ⟨by rw [ef]; rfl, (hF.tr (Fs.u hF3)).p.tr (Fq.wA (Or.inr (Or.inr rfl))), fun _ => ?_⟩
              rw [em, ew]
              refine ⟨isC_m hW2.1 (by omega) (fun i hi => ?_) (wfc_l _ a4).1 ?_, CI_w⟩
              · rw [si_wA, if_neg (by omega)]
                exact AL_g hW2.2.2.1 i hi
              · cases eL : (stl 0 (rW S) (rC S)).1 with
                | nil => rw [eL] at a5; have : 0 = nb2 (stl 0 (rW S) (rC S)).2 + 1 := a5; omega
                | cons c L => show 0 < L.length + 1; omega
            · refine tt_iload_n d_Rule_read_126 rfl ?_
              refine tt_iret rfl d_Rule_read_127 ?_
              rw [if_pos (by omega)] at ef
              exact ⟨by rw [ef]; rfl, hF.p, fun z => by omega⟩
      · refine tt_aload_n d_Rule_read_97 rfl ?_
        refine tt_callV (x_plain (d := d) hu) cw_Rule_plain rfl (xR_sh hu) (by decide) rfl (by omega) d_Rule_read_98 rfl rfl (Nat.le_of_ble_eq_true rfl) (Nat.le_of_ble_eq_true rfl) rfl rfl rfl (fun v σ2 q => ?_)
        obtain ⟨rfl, p1, p2, p3⟩ := q
        refine tt_iconst (v := (-1)) d_Rule_read_101 (by decide) ?_
        refine tt_iret rfl d_Rule_read_102 ?_
        have ef : rlF x = 0 := if_pos c_94
        have em : rlM x = 7 := if_pos c_94
        have ew : rlW x = plc := if_pos c_94
        exact ⟨by rw [ef]; rfl, hF.p.tr p3, fun _ => by rw [em, ew]; exact ⟨p1, p2⟩⟩
    · have hlt : x.2 i < 256 := hX.2 i (by omega)
      have e1 : min 40 x.1 - i = (min 40 x.1 - (i + 1)) + 1 := by omega
      rw [e1] at hrn
      refine tt_aload_n d_Rule_read_47 rfl ?_
      refine tn_get d_Rule_read_48 rfl (xR_sh hu) (by decide) (xR_i hu _ (by decide)) hR.2.2.2.2 ?_
      refine tn_if_eq (t := 66) (by omega) d_Rule_read_51 (by decide) (fun c_51 => ?_) (fun c_51 => ?_)
      · refine tt_aload_n d_Rule_read_66 rfl ?_
        refine tt_aload_n d_Rule_read_67 rfl ?_
        refine tt_iload_n d_Rule_read_68 rfl ?_
        refine tt_callV (x_Text_at (d := d) (n := x.1) (j := i) (XT_u hu hx hF).1 hX.1 (by omega)) cw_Text_at rfl rfl (by decide) rfl (by omega) d_Rule_read_69 rfl rfl (Nat.le_of_ble_eq_true rfl) (Nat.le_of_ble_eq_true rfl) rfl rfl rfl (fun v σ2 q => ?_)
        obtain ⟨rfl, e9⟩ := q
        rw [e9]
        clear e9
        refine tt_top (y := nI (x.2 i)) (by rw [X_at_N (XT_u hu hx hF)]; show gI (if i < x.1 then x.2 i + 1 else 0) = _; rw [if_pos (by omega)]; rfl) ?_
        refine tt_callV (x_takeBehind (d := d) (s := x.2 i) hu hI (by omega) (by omega) hR hlt) cw_Rule_takeBehind rfl (xR_sh hu) (by decide) rfl (by omega) d_Rule_read_72 rfl rfl (Nat.le_of_ble_eq_true rfl) (Nat.le_of_ble_eq_true rfl) rfl rfl rfl (fun v σ2 q => ?_)
        obtain ⟨b9, hb9, rfl⟩ := PB_b q
        have q9 := PB_01 hb9 q
        have et : tk S (x.2 i) = tkB S (x.2 i) := if_neg (by omega)
        rw [← et] at q9
        refine tt_istore (lv2 := [_, _, _, _, _]) d_Rule_read_75 (by decide) rfl ?_
        refine tt_iload d_Rule_read_77 rfl ?_
        refine tn_if_ne (t := 84) (by omega) d_Rule_read_79 (by decide) (fun c_79 => ?_) (fun c_79 => ?_)
        · obtain ⟨S2, eS, hR2, hF2⟩ := q9.2 c_79
          refine tt_iinc (lv2 := [_, _, _, _, _]) d_Rule_read_84 rfl (nI_inc _ 1) (by decide) rfl ?_
          refine tt_goto (t := 42) d_Rule_read_87 (by decide) ?_
          exact ih _ (by omega) (i + 1) S2 (some (nI b9)) _ rfl (by omega) (tk_ok hI eS) hR2 (hF.tr hF2) ((rn_s eS).symm.trans hrn)
        · obtain ⟨eS, hF2⟩ := q9.1 (by omega)
          have hr : rn x (min 40 x.1) 0 rs0 = .inl i := hrn.symm.trans (rn_n eS)
          have ef := rlF_l (by omega) hr
          refine tt_iload_n d_Rule_read_82 rfl ?_
          refine tt_iret rfl d_Rule_read_83 ?_
          exact ⟨by rw [ef]; rfl, (hF.tr hF2).p, fun z => by omega⟩
      · refine tt_aload_n d_Rule_read_54 rfl ?_
        refine tt_aload_n d_Rule_read_55 rfl ?_
        refine tt_iload_n d_Rule_read_56 rfl ?_
        refine tt_callV (x_Text_at (d := d) (n := x.1) (j := i) (XT_u hu hx hF).1 hX.1 (by omega)) cw_Text_at rfl rfl (by decide) rfl (by omega) d_Rule_read_57 rfl rfl (Nat.le_of_ble_eq_true rfl) (Nat.le_of_ble_eq_true rfl) rfl rfl rfl (fun v σ2 q => ?_)
        obtain ⟨rfl, e9⟩ := q
        rw [e9]
        clear e9
        refine tt_top (y := nI (x.2 i)) (by rw [X_at_N (XT_u hu hx hF)]; show gI (if i < x.1 then x.2 i + 1 else 0) = _; rw [if_pos (by omega)]; rfl) ?_
        refine tt_callV (x_takeThing (d := d) (s := x.2 i) hu hI (by omega) (by omega) hR hlt) cw_Rule_takeThing rfl (xR_sh hu) (by decide) rfl (by omega) d_Rule_read_60 rfl rfl (Nat.le_of_ble_eq_true rfl) (Nat.le_of_ble_eq_true rfl) rfl rfl rfl (fun v σ2 q => ?_)
        obtain ⟨b9, hb9, rfl⟩ := PB_b q
        have q9 := PB_01 hb9 q
        have et : tk S (x.2 i) = tkT S (x.2 i) := if_pos (by omega)
        rw [← et] at q9
        refine tt_goto (t := 75) d_Rule_read_63 (by decide) ?_
        refine tt_istore (lv2 := [_, _, _, _, _]) d_Rule_read_75 (by decide) rfl ?_
        refine tt_iload d_Rule_read_77 rfl ?_
        refine tn_if_ne (t := 84) (by omega) d_Rule_read_79 (by decide) (fun c_79 => ?_) (fun c_79 => ?_)
        · obtain ⟨S2, eS, hR2, hF2⟩ := q9.2 c_79
          refine tt_iinc (lv2 := [_, _, _, _, _]) d_Rule_read_84 rfl (nI_inc _ 1) (by decide) rfl ?_
          refine tt_goto (t := 42) d_Rule_read_87 (by decide) ?_
          exact ih _ (by omega) (i + 1) S2 (some (nI b9)) _ rfl (by omega) (tk_ok hI eS) hR2 (hF.tr hF2) ((rn_s eS).symm.trans hrn)
        · obtain ⟨eS, hF2⟩ := q9.1 (by omega)
          have hr : rn x (min 40 x.1) 0 rs0 = .inl i := hrn.symm.trans (rn_n eS)
          have ef := rlF_l (by omega) hr
          refine tt_iload_n d_Rule_read_82 rfl ?_
          refine tt_iret rfl d_Rule_read_83 ?_
          exact ⟨by rw [ef]; rfl, (hF.tr hF2).p, fun z => by omega⟩

theorem x_read {l : xLa} {d : Nat} {σ : xs} {u : Nat} {x : Nat × (Nat → Nat)} (hu : isR u) (hx : XT σ x) (hX : okX x) : TC l M_Rule_read (d + 10) [.ref u, .ref 1] σ (QR x u σ) := by
  have hx80 := hX.1
  have hF : Fu u σ (wF (wF (wF (wF (wF (wF σ u 1 (nI 0)) u 4 (nI 0)) u 5 (nI 0)) u 6 (nI 0)) u 7 (nI 0)) u 8 (nI 1)) := Fu.f.tr (Fu.f.tr (Fu.f.tr (Fu.f.tr (Fu.f.tr Fu.f))))
  show T l M_Rule_read (d + 10) 0 _ [] σ _
  refine T_lv (lv2 := [_, _, _, _, _]) rfl ?_
  refine tt_aload_n d_Rule_read_0 rfl ?_
  refine tt_iconst (v := nI 0) d_Rule_read_1 (by decide) ?_
  refine tt_putI d_Rule_read_2 rfl (xR_sh hu) (by decide) (xR_i hu _ (by decide)) (xpok_int rfl) rfl ?_
  refine tt_aload_n d_Rule_read_5 rfl ?_
  refine tt_iconst (v := nI 0) d_Rule_read_6 (by decide) ?_
  refine tt_putI d_Rule_read_7 rfl (xR_sh hu) (by decide) (xR_i hu _ (by decide)) (xpok_int rfl) rfl ?_
  refine tt_aload_n d_Rule_read_10 rfl ?_
  refine tt_iconst (v := nI 0) d_Rule_read_11 (by decide) ?_
  refine tt_putI d_Rule_read_12 rfl (xR_sh hu) (by decide) (xR_i hu _ (by decide)) (xpok_int rfl) rfl ?_
  refine tt_aload_n d_Rule_read_15 rfl ?_
  refine tt_iconst (v := nI 0) d_Rule_read_16 (by decide) ?_
  refine tt_putI d_Rule_read_17 rfl (xR_sh hu) (by decide) (xR_i hu _ (by decide)) (xpok_int rfl) rfl ?_
  refine tt_aload_n d_Rule_read_20 rfl ?_
  refine tt_iconst (v := nI 0) d_Rule_read_21 (by decide) ?_
  refine tt_putI d_Rule_read_22 rfl (xR_sh hu) (by decide) (xR_i hu _ (by decide)) (xpok_int rfl) rfl ?_
  refine tt_aload_n d_Rule_read_25 rfl ?_
  refine tt_iconst (v := nI 1) d_Rule_read_26 (by decide) ?_
  refine tt_putI d_Rule_read_27 rfl (xR_sh hu) (by decide) (xR_i hu _ (by decide)) (by decide) rfl ?_
  refine tt_bipush (v := nI 40) d_Rule_read_30 (by decide) ?_
  refine tt_aload_n d_Rule_read_32 rfl ?_
  refine tt_callV (x_Text_length (d := d)) cw_Text_length rfl rfl (by decide) rfl (by omega) d_Rule_read_33 rfl rfl (Nat.le_of_ble_eq_true rfl) (Nat.le_of_ble_eq_true rfl) rfl rfl rfl (fun v σ2 q => ?_)
  obtain ⟨rfl, e9⟩ := q
  rw [e9]
  clear e9
  refine tt_top (XT_u hu hx hF).1 ?_
  refine tn_min (by omega) (by omega) d_Rule_read_36 rfl (Nat.le_of_ble_eq_true rfl) ?_
  refine tt_istore_n (lv2 := [_, _, _, _, _]) d_Rule_read_39 (by decide) rfl ?_
  refine tt_iconst (v := nI 0) d_Rule_read_40 (by decide) ?_
  refine tt_istore_n (lv2 := [_, _, _, _, _]) d_Rule_read_41 (by decide) rfl ?_
  exact x_read_l hu hx hX _ 0 rs0 none _ rfl (Nat.zero_le _) RI_0 ⟨⟨sfn (sfn (sfn (sfn (sfn sfy (by decide)) (by decide)) (by decide)) (by decide)) (by decide), sfn (sfn (sfn (sfn sfy (by decide)) (by decide)) (by decide)) (by decide), trivial, trivial⟩, sfn (sfn (sfn sfy (by decide)) (by decide)) (by decide), sfn (sfn sfy (by decide)) (by decide), sfn sfy (by decide), sfy⟩ hF rfl

