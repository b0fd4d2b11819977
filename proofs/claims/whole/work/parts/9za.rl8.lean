/-! A rule while it is read: readsThing. Printed by wip/whole. -/
/-- the codes of the reference, the last first -/
def CL (τ : xs) : List Nat → Prop
  | [] => True
  | v :: L => si τ 166 L.length = nI (trn v) ∧ CL τ L
theorem CL_o {σ τ : xs} (e : si τ 166 = si σ 166) : ∀ {L : List Nat}, CL σ L → CL τ L
  | [], _ => trivial
  | _ :: _, h => ⟨by rw [e]; exact h.1, CL_o e h.2⟩
theorem CL_w {σ : xs} {j : Nat} {x : Int32} : ∀ {L : List Nat}, CL σ L → L.length ≤ j → CL (wI σ 166 j x) L
  | [], _, _ => trivial
  | v :: L, h, hj => by
    have hj' : L.length + 1 ≤ j := hj
    exact ⟨by rw [si_wI, if_neg (fun q => by have := q.2; omega)]; exact h.1, CL_w h.2 (by omega)⟩
theorem CL_f {σ : xs} {a k : Nat} {x : Int32} {L : List Nat} (h : CL σ L) : CL (wF σ a k x) L := CL_o (σ := σ) (τ := wF σ a k x) rfl h
/-- one code more -/
def CD (τ : xs) (n : Nat) (v : Int32) : xs := wF (wI τ 166 n v) 154 25 (nI (n + 1))
theorem CL_cd {τ : xs} {L : List Nat} {v : Nat} (h : CL τ L) : CL (CD τ L.length (nI (trn v))) (v :: L) := ⟨by show si (wI τ 166 L.length (nI (trn v))) 166 L.length = _; rw [si_wI, if_pos ⟨rfl, rfl⟩], CL_f (CL_w h (Nat.le_refl _))⟩
section
variable {c : Nat} {w : wv} {σ τ υ : xs} {n : Nat} {v : Int32}
theorem cd_f : Fq (fun c => c = 166) (fun c k => c = 154 ∧ k = 25) (fun _ => False) τ (CD τ n v) := Fq.tr (Fq.wI rfl) (Fq.wF ⟨rfl, rfl⟩)
theorem YQ.cd (h : YQ c w σ τ) : YQ c w σ (CD τ n v) := h.fq (cd_f.mono (fun _ q => by unfold YqA; omega) (fun _ _ q => by unfold YqF; omega) (fun _ q => q.elim))
theorem YD.cd {t : Nat × (Nat → Int64)} (h : YD τ t) : YD (CD τ n v) t := h.fq (cd_f (τ := τ) (n := n) (v := v)) id (by omega)
theorem RT.cd {t : Nat → Nat} {to a : Nat} (h : RT τ t to a) : RT (CD τ n v) t to a := h.o (cd_f.2.1 154 17 (by omega)) (cd_f.2.1 154 16 (by omega)) (cd_f.1 162 (by omega))
theorem YQ.ns (h : YQ c w σ τ) : YQ c w σ (wF τ 154 18 v) := h.fq (Fq.wF (by unfold YqF; omega))
theorem YD.ns {t : Nat × (Nat → Int64)} (h : YD τ t) : YD (wF τ 154 18 v) t := h.fq (Fq.wF (A := fun _ => False) (F := fun c k => c = 154 ∧ k = 18) (J := fun _ => False) ⟨rfl, rfl⟩) id (by omega)
theorem RT.ns {t : Nat → Nat} {to a : Nat} (h : RT τ t to a) : RT (wF τ 154 18 v) t to a := h.o rfl rfl rfl
theorem cd_25 : sf (CD τ n v) 154 25 = nI (n + 1) := rfl
theorem cd_18 : sf (CD τ n v) 154 18 = sf τ 154 18 := rfl
end
theorem y_codes {l : xLa} {d : Nat} {τ : xs} {n : Nat} {v : Int32} (hn : sf τ 154 25 = nI n) (h80 : n < 80) : TE l M_Y_codes (d + 1) [.ref 154, .int v] τ none (CD τ n v) := by
  show T l M_Y_codes (d + 1) 0 _ [] τ _
  refine tt_aload_n d_Y_codes_0 rfl ?_
  refine tt_getR d_Y_codes_1 rfl rfl (by decide) rfl rfl ?_
  refine tt_aload_n d_Y_codes_4 rfl ?_
  refine tn_get d_Y_codes_5 rfl rfl (by decide) rfl hn ?_
  refine tt_iload_n d_Y_codes_8 rfl ?_
  refine tn_iast d_Y_codes_9 rfl (by decide) h80 ?_
  refine tt_aload_n d_Y_codes_10 rfl ?_
  refine tt_dup d_Y_codes_11 rfl ?_
  refine tn_get d_Y_codes_12 rfl rfl (by decide) rfl hn ?_
  refine tt_iconst (v := nI 1) d_Y_codes_15 (by decide) ?_
  refine tn_iadd d_Y_codes_16 ?_
  refine tt_putI d_Y_codes_17 rfl rfl (by decide) rfl (xpok_int rfl) rfl ?_
  refine tt_vret rfl d_Y_codes_20 ?_
  exact ⟨rfl, rfl⟩

theorem of_3 : ∀ s, s < 256 → ofN 3 s = if ltN s = 0 then none else some (trn (999 + ltN s) - 1000) := by decide +kernel
theorem trn_lt : ∀ t, t ≤ 8 → ¬ t = 0 → nI 1000 + nI (trn (999 + t) - 1000) = nI (trn (999 + t)) ∧ trn (999 + t) - 1000 < 8 := by decide +kernel
theorem trn_n {c : Nat} (h : c < 1000) : trn c = c := if_pos h
/-- what a reading of the reference leaves -/
def YRp (c : Nat) (w : wv) (σ : xs) (x : Nat × (Nat → Nat)) (N r p : Nat) (S : rst) : Option Value → xs → Prop := fun rr υ => YQ c w σ υ ∧ YD υ (wD w) ∧ ∃ q n b, rr = some (.int (nI b)) ∧ b ≤ 1 ∧ RT υ x.2 N q ∧ sf υ 154 25 = nI n ∧ n + p ≤ (rC S).length + q ∧ p ≤ q ∧ (b = 1 → sf υ 154 18 = nI (rD S) ∧ ∃ S' L, OKr x N r p q S S' L ∧ L.length = n ∧ CL υ L) ∧ (b = 0 → NOr x N p q S)
section
variable {c : Nat} {w : wv} {σ υ : xs} {x : Nat × (Nat → Nat)} {N r p q n : Nat} {S S' : rst} {L : List Nat}
theorem YRn (h : YQ c w σ υ) (hd : YD υ (wD w)) (hR : RT υ x.2 N q) (hn : sf υ 154 25 = nI n) (hb : n + p ≤ (rC S).length + q) (ho : NOr x N p q S) : YRp c w σ x N r p S (some (.int (nI 0))) υ := ⟨h, hd, q, n, 0, rfl, by decide, hR, hn, hb, ho.1.1, fun z => absurd z (by decide), fun _ => ho⟩
theorem YRs (h : YQ c w σ υ) (hd : YD υ (wD w)) (hR : RT υ x.2 N q) (hn : sf υ 154 25 = nI L.length) (hb : L.length + p ≤ (rC S).length + q) (h8 : sf υ 154 18 = nI (rD S)) (ho : OKr x N r p q S S' L) (hc : CL υ L) : YRp c w σ x N r p S (some (.int (nI 1))) υ := ⟨h, hd, q, _, 1, rfl, by decide, hR, hn, hb, Nat.le_of_lt ho.1.1.1, fun _ => ⟨h8, S', L, ho, rfl, hc⟩, fun z => absurd z (by decide)⟩
end
/-- what a reading of the reference asks -/
def YIN (c : Nat) (w : wv) (σ : xs) (x : Nat × (Nat → Nat)) (N r p : Nat) (S : rst) (τ : xs) : Prop := PRr N r p S ∧ YQ c w σ τ ∧ YD τ (wD w) ∧ RT τ x.2 N p ∧ sf τ 154 25 = nI (rC S).length ∧ CL τ (rC S) ∧ sf τ 154 18 = nI (rD S)
def HT (l : xLa) (e c : Nat) (w : wv) (σ : xs) (x : Nat × (Nat → Nat)) (N m : Nat) : Prop := ∀ (p : Nat) (S : rst) (τ : xs), (N - p) * 6 + 1 = m → YIN c w σ x N 3 p S τ → TC l M_Y_readsThing (e + (N - p) + 6 * (4 - rD S) + 10) [.ref 154] τ (YRp c w σ x N 3 p S)
def HK (l : xLa) (e c : Nat) (w : wv) (σ : xs) (x : Nat × (Nat → Nat)) (N m : Nat) : Prop := ∀ (r p : Nat) (S : rst) (τ : xs), r ≤ 3 → (N - p) * 6 + (5 - r) = m → YIN c w σ x N r p S τ → TC l M_Y_readsRank (e + (N - p) + 6 * (4 - rD S) + (4 - r) + 10) [.ref 154, .int (nI r)] τ (YRp c w σ x N r p S)

set_option maxHeartbeats 4000000 in
theorem y_thing {l : xLa} {e c : Nat} {w : wv} {σ : xs} {x : Nat × (Nat → Nat)} {N m : Nat} (hN : N ≤ 40) (hx : ∀ i, i < N → x.2 i < 256) (ihT : ∀ k, k < m → HT l e c w σ x N k) (ihK : ∀ k, k < m → HK l e c w σ x N k) : HT l e c w σ x N m := by
  intro p S τ hm hin
  obtain ⟨hP, h, hd, hR, h25, hcl, h18⟩ := hin
  have i1 := hP.2.1.1
  have i4 := hP.2.1.2.2.2.1.1
  have hpN := hP.1
  show T l M_Y_readsThing _ 0 _ [] τ _
  refine T_lv (lv2 := [_, _]) rfl ?_
  refine tt_aload_n d_Y_readsThing_0 rfl ?_
  refine tt_bipush (v := nI 45) d_Y_readsThing_1 (by decide) ?_
  refine tt_callV (y_takes (d := e) hR (s := 45) (by decide)) cw_Y_takes rfl rfl (by decide) rfl (by omega) d_Y_readsThing_3 rfl rfl (Nat.le_of_ble_eq_true rfl) (Nat.le_of_ble_eq_true rfl) rfl rfl rfl (fun v σ2 q => ?_)
  obtain ⟨rfl, hR, hfa⟩ := q
  have k1 := tk_le x.2 N p 45
  replace h := h.fa hfa
  replace hd := hd.fa hfa
  replace h25 := (hfa.sf 25 (by decide)).trans h25
  replace h18 := (hfa.sf 18 (by decide)).trans h18
  replace hcl := CL_o (hfa.si 166) hcl
  refine tn_if_eq (t := 23) (by omega) d_Y_readsThing_6 (by decide) (fun c_6 => ?_) (fun c_6 => ?_)
  · rw [c_6] at hR
    have k2 := k1.2.2 c_6
    refine tt_aload_n d_Y_readsThing_23 rfl ?_
    refine tt_callV (y_isDigit (d := e) hR) cw_Y_isDigit rfl rfl (by decide) rfl (by omega) d_Y_readsThing_24 rfl rfl (Nat.le_of_ble_eq_true rfl) (Nat.le_of_ble_eq_true rfl) rfl rfl rfl (fun v σ2 q => ?_)
    obtain ⟨rfl, e9⟩ := q
    rw [e9]
    clear e9
    have k5 := id_le x.2 N (p + 0)
    refine tn_if_eq (t := 41) (by omega) d_Y_readsThing_27 (by decide) (fun c_27 => ?_) (fun c_27 => ?_)
    · have k6 : ¬ isD x.2 N p := fun z => absurd c_27 (k5.2.mpr z)
      refine tt_aload_n d_Y_readsThing_41 rfl ?_
      refine E.ldcS (j := 3) rfl rfl rfl d_Y_readsThing_42 ?_
      refine tt_callV (y_takesOf (d := e) hR (j := 3) (by decide)) cw_Y_takesOf rfl rfl (by decide) rfl (by omega) d_Y_readsThing_44 rfl rfl (Nat.le_of_ble_eq_true rfl) (Nat.le_of_ble_eq_true rfl) rfl rfl rfl (fun v σ2 q => ?_)
      obtain ⟨rfl, hR, hfa⟩ := q
      replace h := h.fa hfa
      replace hd := hd.fa hfa
      replace h25 := (hfa.sf 25 (by decide)).trans h25
      replace h18 := (hfa.sf 18 (by decide)).trans h18
      replace hcl := CL_o (hfa.si 166) hcl
      have k7 : toN 3 x.2 N (p + 0) = if p < N ∧ ¬ ltN (x.2 p) = 0 then some (trn (999 + ltN (x.2 p)) - 1000) else none := by
        unfold toN
        by_cases z : p < N
        · rw [if_pos (show p + 0 < N from z), show p + 0 = p from rfl, of_3 _ (hx p z)]
          by_cases y : ltN (x.2 p) = 0
          · rw [if_pos y, if_neg (fun q => q.2 y)]
          · rw [if_neg y, if_pos ⟨z, y⟩]
        · rw [if_neg (show ¬ p + 0 < N from z), if_neg (fun q => z q.1)]
      rw [k7] at hR ⊢
      have l8 := trn_lt (ltN (x.2 p)) (lt_c _).1
      refine tt_istore_n (lv2 := [_, _]) d_Y_readsThing_47 (by decide) rfl ?_
      refine tt_iload_n d_Y_readsThing_48 rfl ?_
      refine tt_if_lt (t := 63) d_Y_readsThing_49 (by decide) (fun c_49 => ?_) (fun c_49 => ?_)
      · have k8 : ¬ (p < N ∧ ¬ ltN (x.2 p) = 0) := fun z => by
          rw [if_pos z] at c_49
          have : nI (trn (999 + ltN (x.2 p)) - 1000) < 0 := c_49
          have k9 := (l8 z.2).2
          rw [fa_lt', nI_toInt (by omega)] at this
          exact absurd this (by show ¬ (_ < (0 : Int)); omega)
        rw [if_neg k8] at hR
        replace hR : RT _ x.2 N p := hR
        refine tt_aload_n d_Y_readsThing_63 rfl ?_
        refine tn_get d_Y_readsThing_64 rfl rfl (by decide) rfl h18 ?_
        refine tt_iconst (v := nI 4) d_Y_readsThing_67 (by decide) ?_
        refine tn_ic_eq (t := 80) (by omega) (by omega) d_Y_readsThing_68 (by decide) (fun c_68 => ?_) (fun c_68 => ?_)
        · refine tt_iconst (v := nI 0) d_Y_readsThing_80 (by decide) ?_
          refine tt_zret rfl rfl d_Y_readsThing_81 ?_
          exact YRn h hd hR h25 (by omega) (NO_T hP k2 k6 (fun z => Decidable.byContradiction (fun y => k8 ⟨z, y⟩)) (Or.inl c_68))
        · refine tt_aload_n d_Y_readsThing_71 rfl ?_
          refine tt_bipush (v := nI 40) d_Y_readsThing_72 (by decide) ?_
          refine tt_callV (y_takes (d := e) hR (s := 40) (by decide)) cw_Y_takes rfl rfl (by decide) rfl (by omega) d_Y_readsThing_74 rfl rfl (Nat.le_of_ble_eq_true rfl) (Nat.le_of_ble_eq_true rfl) rfl rfl rfl (fun v σ2 q => ?_)
          obtain ⟨rfl, hR, hfa⟩ := q
          have k10 := tk_le x.2 N p 40
          replace h := h.fa hfa
          replace hd := hd.fa hfa
          replace h25 := (hfa.sf 25 (by decide)).trans h25
          replace h18 := (hfa.sf 18 (by decide)).trans h18
          replace hcl := CL_o (hfa.si 166) hcl
          refine tn_if_ne (t := 82) (by omega) d_Y_readsThing_77 (by decide) (fun c_77 => ?_) (fun c_77 => ?_)
          · have e1 : tkN x.2 N p 40 = 1 := by have := k10.1; omega
            rw [e1] at hR
            obtain ⟨k3, k4⟩ := k10.2.1 e1
            obtain ⟨hP1, hrn⟩ := PR_B hP k3 k4 c_68
            refine tt_aload_n d_Y_readsThing_82 rfl ?_
            refine tt_dup d_Y_readsThing_83 rfl ?_
            refine tn_get d_Y_readsThing_84 rfl rfl (by decide) rfl h18 ?_
            refine tt_iconst (v := nI 1) d_Y_readsThing_87 (by decide) ?_
            refine tn_iadd d_Y_readsThing_88 ?_
            refine tt_putI d_Y_readsThing_89 rfl rfl (by decide) rfl (xpok_int rfl) rfl ?_
            refine tt_aload_n d_Y_readsThing_92 rfl ?_
            refine tt_iconst (v := nI 0) d_Y_readsThing_93 (by decide) ?_
            refine tt_callV (ihK _ (by omega) 0 (p + 1) (sB S) _ (by omega) rfl ⟨hP1, h.ns, hd.ns, hR.ns, h25, CL_f hcl, rfl⟩) cw_Y_readsRank rfl rfl (by decide) rfl (by have e9 : rD (sB S) = rD S + 1 := rfl; omega) d_Y_readsThing_94 rfl rfl (Nat.le_of_ble_eq_true rfl) (Nat.le_of_ble_eq_true rfl) rfl rfl rfl (fun v σ2 q => ?_)
            obtain ⟨h, hd, q, n, b, rfl, hb, hR, h25, hbd, hpq, ok1, no0⟩ := q
            have hqN := hR.2.2.2.2
            have hbd2 : n + (p + 1) ≤ (rC S).length + q := hbd
            refine tn_if_eq (t := 109) (by omega) d_Y_readsThing_97 (by decide) (fun c_97 => ?_) (fun c_97 => ?_)
            · have hno := NO_t hrn (by omega) (no0 c_97)
              refine tt_iconst (v := nI 0) d_Y_readsThing_109 (by decide) ?_
              refine tt_zret rfl rfl d_Y_readsThing_110 ?_
              exact YRn h hd hR h25 (by omega) hno
            · obtain ⟨h18, S2, L, ho, rfl, hcl⟩ := ok1 (by omega)
              replace h18 : sf _ 154 18 = nI (rD S + 1) := h18
              refine tt_aload_n d_Y_readsThing_100 rfl ?_
              refine tt_bipush (v := nI 41) d_Y_readsThing_101 (by decide) ?_
              refine tt_callV (y_takes (d := e) hR (s := 41) (by decide)) cw_Y_takes rfl rfl (by decide) rfl (by omega) d_Y_readsThing_103 rfl rfl (Nat.le_of_ble_eq_true rfl) (Nat.le_of_ble_eq_true rfl) rfl rfl rfl (fun v σ2 q => ?_)
              obtain ⟨rfl, hR, hfa⟩ := q
              have k12 := tk_le x.2 N q 41
              replace h := h.fa hfa
              replace hd := hd.fa hfa
              replace h25 := (hfa.sf 25 (by decide)).trans h25
              replace h18 := (hfa.sf 18 (by decide)).trans h18
              replace hcl := CL_o (hfa.si 166) hcl
              refine tn_if_ne (t := 111) (by omega) d_Y_readsThing_106 (by decide) (fun c_106 => ?_) (fun c_106 => ?_)
              · have e1 : tkN x.2 N q 41 = 1 := by have := k12.1; omega
                rw [e1] at hR
                obtain ⟨k3, k4⟩ := k12.2.1 e1
                refine tt_aload_n d_Y_readsThing_111 rfl ?_
                refine tt_dup d_Y_readsThing_112 rfl ?_
                refine tn_get d_Y_readsThing_113 rfl rfl (by decide) rfl h18 ?_
                refine tt_iconst (v := nI 1) d_Y_readsThing_116 (by decide) ?_
                refine tn_isub (by omega) d_Y_readsThing_117 ?_
                refine tt_putI d_Y_readsThing_118 rfl rfl (by decide) rfl (xpok_int rfl) rfl ?_
                refine tt_iconst (v := nI 1) d_Y_readsThing_121 (by decide) ?_
                refine tt_zret rfl rfl d_Y_readsThing_122 ?_
                exact YRs h.ns hd.ns hR.ns h25 (by omega) rfl (OK_B hP c_68 hrn ho k3 k4) (CL_f hcl)
              · have e1 : tkN x.2 N q 41 = 0 := by omega
                rw [e1] at hR
                have hno := NO_B hrn ho (k12.2.2 e1)
                refine tt_iconst (v := nI 0) d_Y_readsThing_109 (by decide) ?_
                refine tt_zret rfl rfl d_Y_readsThing_110 ?_
                exact YRn h hd hR h25 (by omega) hno
          · have e1 : tkN x.2 N p 40 = 0 := by omega
            rw [e1] at hR
            have k11 := k10.2.2 e1
            refine tt_iconst (v := nI 0) d_Y_readsThing_80 (by decide) ?_
            refine tt_zret rfl rfl d_Y_readsThing_81 ?_
            exact YRn h hd hR h25 (by omega) (NO_T hP k2 k6 (fun z => Decidable.byContradiction (fun y => k8 ⟨z, y⟩)) (Or.inr k11))
      · have k8 : p < N ∧ ¬ ltN (x.2 p) = 0 := Decidable.byContradiction (fun z => by
          rw [if_neg z] at c_49
          exact c_49 (by decide))
        rw [if_pos k8] at hR
        rw [if_pos k8]
        replace hR : RT _ x.2 N (p + 1) := hR
        refine tt_aload_n d_Y_readsThing_52 rfl ?_
        refine tt_sipush (v := nI 1000) d_Y_readsThing_53 (by decide) ?_
        refine tt_iload_n d_Y_readsThing_56 rfl ?_
        refine tt_iadd d_Y_readsThing_57 ?_
        refine tt_top (l8 k8.2).1 ?_
        refine tt_callV (y_codes (d := e) h25 (by omega)) cw_Y_codes rfl rfl (by decide) rfl (by omega) d_Y_readsThing_58 rfl rfl (Nat.le_of_ble_eq_true rfl) (Nat.le_of_ble_eq_true rfl) rfl rfl rfl (fun v σ2 q => ?_)
        obtain ⟨rfl, e9⟩ := q
        rw [e9]
        clear e9
        refine tt_iconst (v := nI 1) d_Y_readsThing_61 (by decide) ?_
        refine tt_zret rfl rfl d_Y_readsThing_62 ?_
        exact YRs h.cd hd.cd hR.cd cd_25 (by show (rC S).length + 1 + p ≤ _; omega) h18 (OK_L hP k8.1 k8.2) (CL_cd hcl)
    · have k6 : isD x.2 N p := k5.2.mp c_27
      obtain ⟨S9, ho, hv9⟩ := OK_N hP k6
      refine tt_aload_n d_Y_readsThing_30 rfl ?_
      refine tt_aload_n d_Y_readsThing_31 rfl ?_
      refine tt_iconst (v := nI 3) d_Y_readsThing_32 (by decide) ?_
      refine tt_callV (y_number (d := e) hR (D := 3) (by decide)) cw_Y_number rfl rfl (by decide) rfl (by omega) d_Y_readsThing_33 rfl rfl (Nat.le_of_ble_eq_true rfl) (Nat.le_of_ble_eq_true rfl) rfl rfl rfl (fun v σ2 q => ?_)
      obtain ⟨rfl, hR, hfa⟩ := q
      replace h := h.fa hfa
      replace hd := hd.fa hfa
      replace h25 := (hfa.sf 25 (by decide)).trans h25
      replace h18 := (hfa.sf 18 (by decide)).trans h18
      replace hcl := CL_o (hfa.si 166) hcl
      rw [show nmA x.2 N 3 (p + 0) = (nmF x.2 N 3 0 p).2 from if_pos k6] at hR
      refine tt_top (y := nI (trn (nmF x.2 N 3 0 p).1)) (by rw [show nmI x.2 N 3 (p + 0) = nI (nmF x.2 N 3 0 p).1 from if_pos k6, trn_n hv9]) ?_
      refine tt_callV (y_codes (d := e) h25 (by omega)) cw_Y_codes rfl rfl (by decide) rfl (by omega) d_Y_readsThing_36 rfl rfl (Nat.le_of_ble_eq_true rfl) (Nat.le_of_ble_eq_true rfl) rfl rfl rfl (fun v σ2 q => ?_)
      obtain ⟨rfl, e9⟩ := q
      rw [e9]
      clear e9
      refine tt_iconst (v := nI 1) d_Y_readsThing_39 (by decide) ?_
      refine tt_zret rfl rfl d_Y_readsThing_40 ?_
      have o1 := ho.1.1.1
      exact YRs h.cd hd.cd hR.cd cd_25 (by show (rC S).length + 1 + p ≤ _; omega) h18 ho (CL_cd hcl)
  · have e1 : tkN x.2 N p 45 = 1 := by have := k1.1; omega
    rw [e1] at hR
    obtain ⟨k3, k4⟩ := k1.2.1 e1
    obtain ⟨hP1, hrn⟩ := PR_T hP k3 k4
    refine tt_aload_n d_Y_readsThing_9 rfl ?_
    refine tt_callV (ihT _ (by omega) (p + 1) (sT S) _ rfl ⟨hP1, h, hd, hR, h25, hcl, h18⟩) cw_Y_readsThing rfl rfl (by decide) rfl (by have e9 : rD (sT S) = rD S := rfl; omega) d_Y_readsThing_10 rfl rfl (Nat.le_of_ble_eq_true rfl) (Nat.le_of_ble_eq_true rfl) rfl rfl rfl (fun v σ2 q => ?_)
    obtain ⟨h, hd, q, n, b, rfl, hb, hR, h25, hbd, hpq, ok1, no0⟩ := q
    have hqN := hR.2.2.2.2
    have hbd2 : n + (p + 1) ≤ (rC S).length + q := hbd
    refine tt_istore_n (lv2 := [_, _]) d_Y_readsThing_13 (by decide) rfl ?_
    refine tt_aload_n d_Y_readsThing_14 rfl ?_
    refine tt_sipush (v := nI 3000) d_Y_readsThing_15 (by decide) ?_
    refine tt_callV (y_codes (d := e) (v := nI 3000) h25 (by omega)) cw_Y_codes rfl rfl (by decide) rfl (by omega) d_Y_readsThing_18 rfl rfl (Nat.le_of_ble_eq_true rfl) (Nat.le_of_ble_eq_true rfl) rfl rfl rfl (fun v σ2 q => ?_)
    obtain ⟨rfl, e9⟩ := q
    rw [e9]
    clear e9
    refine tt_iload_n d_Y_readsThing_21 rfl ?_
    refine tt_zret rfl (nar_b hb) d_Y_readsThing_22 ?_
    rcases (show b = 0 ∨ b = 1 by omega) with rfl | rfl
    · exact YRn h.cd hd.cd hR.cd cd_25 (by omega) (NO_t hrn (by omega) (no0 rfl))
    · obtain ⟨h18, S', L, ho, rfl, hcl⟩ := ok1 rfl
      have q9 := CL_cd (v := 3000) hcl
      exact YRs h.cd hd.cd hR.cd cd_25 (by show L.length + 1 + p ≤ _; omega) h18 (OK_T hrn ho) q9

