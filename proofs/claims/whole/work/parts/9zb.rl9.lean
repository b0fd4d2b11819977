/-! A rule while it is read: readsRank. Printed by wip/whole. -/
theorem of_4 : ∀ s, s < 256 → ofN 4 s = (if bnd s = 1 then some (trn (2000 + s) - 2000) else none) ∧ (bnd s = 1 → nI 2000 + nI (trn (2000 + s) - 2000) + nI 0 = nI (trn (2000 + s))) := by decide +kernel
theorem of_5 : ∀ s, s < 256 → ofN 5 s = (if bnd s = 2 then some (trn (2000 + s) - 2003) else none) ∧ (bnd s = 2 → nI 2000 + nI (trn (2000 + s) - 2003) + nI 3 = nI (trn (2000 + s))) := by decide +kernel
theorem of_6 : ∀ s, s < 256 → ofN 6 s = (if bnd s = 3 then some (trn (2000 + s) - 2005) else none) ∧ (bnd s = 3 → nI 2000 + nI (trn (2000 + s) - 2005) + nI 5 = nI (trn (2000 + s))) := by decide +kernel
theorem trn_b : ∀ s, s < 256 → trn (2000 + s) < 4000 := by decide +kernel
theorem nI_0le {n : Nat} (h : n < 2 ^ 31) : (0 : Int32) ≤ nI n := by
  rw [Int32.le_iff_toInt_le, nI_toInt h]
  show (0 : Int) ≤ _
  omega

set_option maxHeartbeats 8000000 in
theorem y_rank_l {l : xLa} {e c : Nat} {w : wv} {σ : xs} {x : Nat × (Nat → Nat)} {N r p : Nat} {S : rst} (hN : N ≤ 40) (hx : ∀ i, i < N → x.2 i < 256) (hP : PRr N r p S) (hr : r < 3) (ihK : ∀ k, k < (N - p) * 6 + (5 - r) → HK l e c w σ x N k) : ∀ (m i : Nat) (S' : rst) (L : List Nat) (z : Option Int32) (τ : xs), N - i = m → YQ c w σ τ → YD τ (wD w) → RT τ x.2 N i → sf τ 154 25 = nI L.length → CL τ L → sf τ 154 18 = nI (rD S) → L.length + p ≤ (rC S).length + i → LPr x N r p i S S' L → T l M_Y_readsRank (e + (N - p) + 6 * (4 - rD S) + (4 - r) + 10) 24 [some (.ref 154), some (.int (nI r)), some (.int (nI 1)), z.map Value.int] [] τ (YRp c w σ x N r p S) := by
  have i1 := hP.2.1.1
  have i4 := hP.2.1.2.2.2.1.1
  have hpN := hP.1
  intro m
  induction m using Nat.strongRecOn with
  | ind m ih =>
    intro i S' L z τ hm h hd hR h25 hcl h18 hbd hlp
    have hiN := hlp.1.1
    have eD : rD S' = rD S := hlp.1.2.2.2.1.2
    refine tt_iload_n d_Y_readsRank_24 rfl ?_
    refine tn_if_eq (t := 116) (by omega) d_Y_readsRank_25 (by decide) (fun c_25 => ?_) (fun c_25 => ?_)
    · omega
    · refine tt_aload_n d_Y_readsRank_28 rfl ?_
      refine tt_iload_n d_Y_readsRank_29 rfl ?_
      refine tn_if_ne (t := 39) (by omega) d_Y_readsRank_30 (by decide) (fun c_30 => ?_) (fun c_30 => ?_)
      · refine tt_iload_n d_Y_readsRank_39 rfl ?_
        refine tt_iconst (v := nI 1) d_Y_readsRank_40 (by decide) ?_
        refine tn_ic_ne (t := 50) (by omega) (by omega) d_Y_readsRank_41 (by decide) (fun c_41 => ?_) (fun c_41 => ?_)
        · refine E.ldcSw (j := 6) rfl rfl rfl d_Y_readsRank_50 ?_
          refine tt_callV (y_takesOf (d := e) hR (j := 6) (by decide)) cw_Y_takesOf rfl rfl (by decide) rfl (by omega) d_Y_readsRank_53 rfl rfl (Nat.le_of_ble_eq_true rfl) (Nat.le_of_ble_eq_true rfl) rfl rfl rfl (fun v σ2 q => ?_)
          obtain ⟨rfl, hR, hfa⟩ := q
          replace h := h.fa hfa
          replace hd := hd.fa hfa
          replace h25 := (hfa.sf 25 (by decide)).trans h25
          replace h18 := (hfa.sf 18 (by decide)).trans h18
          replace hcl := CL_o (hfa.si 166) hcl
          have k7 : toN 6 x.2 N i = if i < N ∧ bnd (x.2 i) = 3 then some (trn (2000 + x.2 i) - 2005) else none := by
            unfold toN
            by_cases z : i < N
            · rw [if_pos z, (of_6 _ (hx i z)).1]
              by_cases y : bnd (x.2 i) = 3
              · rw [if_pos y, if_pos ⟨z, y⟩]
              · rw [if_neg y, if_neg (fun q => y q.2)]
            · rw [if_neg z, if_neg (fun q => z q.1)]
          rw [k7] at hR ⊢
          refine tt_istore_n (lv2 := [_, _, _, _]) d_Y_readsRank_56 (by decide) rfl ?_
          refine tt_iload_n d_Y_readsRank_57 rfl ?_
          refine tt_if_ge (t := 63) d_Y_readsRank_58 (by decide) (fun c_58 => ?_) (fun c_58 => ?_)
          · have k8 : i < N ∧ bnd (x.2 i) = 3 := Decidable.byContradiction (fun z => by
              rw [if_neg z] at c_58
              exact absurd c_58 (by decide))
            rw [if_pos k8] at hR
            rw [if_pos k8]
            replace hR : RT _ x.2 N (i + 1) := hR
            have k9 : bnd (x.2 i) = r + 1 := by omega
            obtain ⟨hP1, hrn⟩ := PR_O hP hr hlp k8.1 k9
            have h18b : sf _ 154 18 = nI (rD S') := h18.trans (by rw [eD])
            refine tt_aload_n d_Y_readsRank_63 rfl ?_
            refine tt_iload_n d_Y_readsRank_64 rfl ?_
            refine tt_iconst (v := nI 1) d_Y_readsRank_65 (by decide) ?_
            refine tn_iadd d_Y_readsRank_66 ?_
            refine tt_callV (ihK _ (by omega) (r + 1) (i + 1) (sO S S' L (x.2 i)) _ (by omega) rfl ⟨hP1, h, hd, hR, h25, hcl, h18b⟩) cw_Y_readsRank rfl rfl (by decide) rfl (by have e9 : rD (sO S S' L (x.2 i)) = rD S := eD; omega) d_Y_readsRank_67 rfl rfl (Nat.le_of_ble_eq_true rfl) (Nat.le_of_ble_eq_true rfl) rfl rfl rfl (fun v σ2 q => ?_)
            obtain ⟨h, hd, q2, n2, b, rfl, hb, hR, h25, hbd2, hpq, ok1, no0⟩ := q
            have hqN2 := hR.2.2.2.2
            replace hbd2 : n2 + (i + 1) ≤ L.length + q2 := hbd2
            refine tn_if_ne (t := 75) (by omega) d_Y_readsRank_70 (by decide) (fun c_70 => ?_) (fun c_70 => ?_)
            · obtain ⟨h18, S2, L2, ho, rfl, hcl⟩ := ok1 (by omega)
              replace h18 : sf _ 154 18 = nI (rD S) := h18.trans (by rw [show rD (sO S S' L (x.2 i)) = rD S from eD])
              refine tt_aload_n d_Y_readsRank_75 rfl ?_
              refine tt_sipush (v := nI 2000) d_Y_readsRank_76 (by decide) ?_
              refine tt_iload_n d_Y_readsRank_79 rfl ?_
              refine tt_iadd d_Y_readsRank_80 ?_
              refine tt_iload_n d_Y_readsRank_81 rfl ?_
              refine tn_if_ne (t := 89) (by omega) d_Y_readsRank_82 (by decide) (fun c_82 => ?_) (fun c_82 => ?_)
              · refine tt_iload_n d_Y_readsRank_89 rfl ?_
                refine tt_iconst (v := nI 1) d_Y_readsRank_90 (by decide) ?_
                refine tn_ic_ne (t := 98) (by omega) (by omega) d_Y_readsRank_91 (by decide) (fun c_91 => ?_) (fun c_91 => ?_)
                · refine tt_iconst (v := nI 5) d_Y_readsRank_98 (by decide) ?_
                  refine tt_iadd d_Y_readsRank_99 ?_
                  refine tt_top (y := nI (trn (2000 + x.2 i))) ((of_6 _ (hx i k8.1)).2 k8.2) ?_
                  refine tt_callV (y_codes (d := e) h25 (by omega)) cw_Y_codes rfl rfl (by decide) rfl (by omega) d_Y_readsRank_100 rfl rfl (Nat.le_of_ble_eq_true rfl) (Nat.le_of_ble_eq_true rfl) rfl rfl rfl (fun v σ2 q => ?_)
                  obtain ⟨rfl, e9⟩ := q
                  rw [e9]
                  clear e9
                  refine tt_iload_n d_Y_readsRank_103 rfl ?_
                  refine tn_if_le (t := 111) (by omega) d_Y_readsRank_104 (by decide) (fun c_104 => ?_) (fun c_104 => ?_)
                  · omega
                  · refine tt_iconst (v := nI 1) d_Y_readsRank_107 (by decide) ?_
                    refine tt_goto (t := 112) d_Y_readsRank_108 (by decide) ?_
                    refine tt_istore_n (lv2 := [_, _, _, _]) d_Y_readsRank_112 (by decide) rfl ?_
                    refine tt_goto (t := 24) d_Y_readsRank_113 (by decide) ?_
                    refine ih _ (by omega) q2 S2 ((2000 + x.2 i) :: L2) (some _) _ rfl h.cd hd.cd hR.cd cd_25 (CL_cd hcl) h18 ?_ (LP_O hP hr c_30 hlp k8.1 k9 hrn ho)
                    show L2.length + 1 + p ≤ (rC S).length + q2
                    omega
                · first | exact absurd c_41 c_91 | exact absurd c_91 c_41 | omega
              · first | exact absurd c_30 c_82 | exact absurd c_82 c_30 | omega
            · have hno := NO_t hrn (by omega) (no0 (by omega))
              refine tt_iconst (v := nI 0) d_Y_readsRank_73 (by decide) ?_
              refine tt_zret rfl rfl d_Y_readsRank_74 ?_
              exact YRn h hd hR h25 (by omega) hno
          · have k8 : ¬ (i < N ∧ bnd (x.2 i) = 3) := fun z => by
              rw [if_pos z] at c_58
              have t9 := trn_b (x.2 i) (hx i z.1)
              exact c_58 (nI_0le (show trn (2000 + x.2 i) - 2005 < 2 ^ 31 by omega))
            rw [if_neg k8] at hR
            replace hR : RT _ x.2 N i := hR
            refine tt_iconst (v := nI 1) d_Y_readsRank_61 (by decide) ?_
            refine tt_zret rfl rfl d_Y_readsRank_62 ?_
            exact YRs h hd hR h25 hbd h18 (OK_l hlp (fun z y => k8 ⟨z, by omega⟩)) hcl
        · refine E.ldcSw (j := 5) rfl rfl rfl d_Y_readsRank_44 ?_
          refine tt_goto (t := 53) d_Y_readsRank_47 (by decide) ?_
          refine tt_callV (y_takesOf (d := e) hR (j := 5) (by decide)) cw_Y_takesOf rfl rfl (by decide) rfl (by omega) d_Y_readsRank_53 rfl rfl (Nat.le_of_ble_eq_true rfl) (Nat.le_of_ble_eq_true rfl) rfl rfl rfl (fun v σ2 q => ?_)
          obtain ⟨rfl, hR, hfa⟩ := q
          replace h := h.fa hfa
          replace hd := hd.fa hfa
          replace h25 := (hfa.sf 25 (by decide)).trans h25
          replace h18 := (hfa.sf 18 (by decide)).trans h18
          replace hcl := CL_o (hfa.si 166) hcl
          have k7 : toN 5 x.2 N i = if i < N ∧ bnd (x.2 i) = 2 then some (trn (2000 + x.2 i) - 2003) else none := by
            unfold toN
            by_cases z : i < N
            · rw [if_pos z, (of_5 _ (hx i z)).1]
              by_cases y : bnd (x.2 i) = 2
              · rw [if_pos y, if_pos ⟨z, y⟩]
              · rw [if_neg y, if_neg (fun q => y q.2)]
            · rw [if_neg z, if_neg (fun q => z q.1)]
          rw [k7] at hR ⊢
          refine tt_istore_n (lv2 := [_, _, _, _]) d_Y_readsRank_56 (by decide) rfl ?_
          refine tt_iload_n d_Y_readsRank_57 rfl ?_
          refine tt_if_ge (t := 63) d_Y_readsRank_58 (by decide) (fun c_58 => ?_) (fun c_58 => ?_)
          · have k8 : i < N ∧ bnd (x.2 i) = 2 := Decidable.byContradiction (fun z => by
              rw [if_neg z] at c_58
              exact absurd c_58 (by decide))
            rw [if_pos k8] at hR
            rw [if_pos k8]
            replace hR : RT _ x.2 N (i + 1) := hR
            have k9 : bnd (x.2 i) = r + 1 := by omega
            obtain ⟨hP1, hrn⟩ := PR_O hP hr hlp k8.1 k9
            have h18b : sf _ 154 18 = nI (rD S') := h18.trans (by rw [eD])
            refine tt_aload_n d_Y_readsRank_63 rfl ?_
            refine tt_iload_n d_Y_readsRank_64 rfl ?_
            refine tt_iconst (v := nI 1) d_Y_readsRank_65 (by decide) ?_
            refine tn_iadd d_Y_readsRank_66 ?_
            refine tt_callV (ihK _ (by omega) (r + 1) (i + 1) (sO S S' L (x.2 i)) _ (by omega) rfl ⟨hP1, h, hd, hR, h25, hcl, h18b⟩) cw_Y_readsRank rfl rfl (by decide) rfl (by have e9 : rD (sO S S' L (x.2 i)) = rD S := eD; omega) d_Y_readsRank_67 rfl rfl (Nat.le_of_ble_eq_true rfl) (Nat.le_of_ble_eq_true rfl) rfl rfl rfl (fun v σ2 q => ?_)
            obtain ⟨h, hd, q2, n2, b, rfl, hb, hR, h25, hbd2, hpq, ok1, no0⟩ := q
            have hqN2 := hR.2.2.2.2
            replace hbd2 : n2 + (i + 1) ≤ L.length + q2 := hbd2
            refine tn_if_ne (t := 75) (by omega) d_Y_readsRank_70 (by decide) (fun c_70 => ?_) (fun c_70 => ?_)
            · obtain ⟨h18, S2, L2, ho, rfl, hcl⟩ := ok1 (by omega)
              replace h18 : sf _ 154 18 = nI (rD S) := h18.trans (by rw [show rD (sO S S' L (x.2 i)) = rD S from eD])
              refine tt_aload_n d_Y_readsRank_75 rfl ?_
              refine tt_sipush (v := nI 2000) d_Y_readsRank_76 (by decide) ?_
              refine tt_iload_n d_Y_readsRank_79 rfl ?_
              refine tt_iadd d_Y_readsRank_80 ?_
              refine tt_iload_n d_Y_readsRank_81 rfl ?_
              refine tn_if_ne (t := 89) (by omega) d_Y_readsRank_82 (by decide) (fun c_82 => ?_) (fun c_82 => ?_)
              · refine tt_iload_n d_Y_readsRank_89 rfl ?_
                refine tt_iconst (v := nI 1) d_Y_readsRank_90 (by decide) ?_
                refine tn_ic_ne (t := 98) (by omega) (by omega) d_Y_readsRank_91 (by decide) (fun c_91 => ?_) (fun c_91 => ?_)
                · first | exact absurd c_41 c_91 | exact absurd c_91 c_41 | omega
                · refine tt_iconst (v := nI 3) d_Y_readsRank_94 (by decide) ?_
                  refine tt_goto (t := 99) d_Y_readsRank_95 (by decide) ?_
                  refine tt_iadd d_Y_readsRank_99 ?_
                  refine tt_top (y := nI (trn (2000 + x.2 i))) ((of_5 _ (hx i k8.1)).2 k8.2) ?_
                  refine tt_callV (y_codes (d := e) h25 (by omega)) cw_Y_codes rfl rfl (by decide) rfl (by omega) d_Y_readsRank_100 rfl rfl (Nat.le_of_ble_eq_true rfl) (Nat.le_of_ble_eq_true rfl) rfl rfl rfl (fun v σ2 q => ?_)
                  obtain ⟨rfl, e9⟩ := q
                  rw [e9]
                  clear e9
                  refine tt_iload_n d_Y_readsRank_103 rfl ?_
                  refine tn_if_le (t := 111) (by omega) d_Y_readsRank_104 (by decide) (fun c_104 => ?_) (fun c_104 => ?_)
                  · omega
                  · refine tt_iconst (v := nI 1) d_Y_readsRank_107 (by decide) ?_
                    refine tt_goto (t := 112) d_Y_readsRank_108 (by decide) ?_
                    refine tt_istore_n (lv2 := [_, _, _, _]) d_Y_readsRank_112 (by decide) rfl ?_
                    refine tt_goto (t := 24) d_Y_readsRank_113 (by decide) ?_
                    refine ih _ (by omega) q2 S2 ((2000 + x.2 i) :: L2) (some _) _ rfl h.cd hd.cd hR.cd cd_25 (CL_cd hcl) h18 ?_ (LP_O hP hr c_30 hlp k8.1 k9 hrn ho)
                    show L2.length + 1 + p ≤ (rC S).length + q2
                    omega
              · first | exact absurd c_30 c_82 | exact absurd c_82 c_30 | omega
            · have hno := NO_t hrn (by omega) (no0 (by omega))
              refine tt_iconst (v := nI 0) d_Y_readsRank_73 (by decide) ?_
              refine tt_zret rfl rfl d_Y_readsRank_74 ?_
              exact YRn h hd hR h25 (by omega) hno
          · have k8 : ¬ (i < N ∧ bnd (x.2 i) = 2) := fun z => by
              rw [if_pos z] at c_58
              have t9 := trn_b (x.2 i) (hx i z.1)
              exact c_58 (nI_0le (show trn (2000 + x.2 i) - 2003 < 2 ^ 31 by omega))
            rw [if_neg k8] at hR
            replace hR : RT _ x.2 N i := hR
            refine tt_iconst (v := nI 1) d_Y_readsRank_61 (by decide) ?_
            refine tt_zret rfl rfl d_Y_readsRank_62 ?_
            exact YRs h hd hR h25 hbd h18 (OK_l hlp (fun z y => k8 ⟨z, by omega⟩)) hcl
      · refine E.ldcSw (j := 4) rfl rfl rfl d_Y_readsRank_33 ?_
        refine tt_goto (t := 53) d_Y_readsRank_36 (by decide) ?_
        refine tt_callV (y_takesOf (d := e) hR (j := 4) (by decide)) cw_Y_takesOf rfl rfl (by decide) rfl (by omega) d_Y_readsRank_53 rfl rfl (Nat.le_of_ble_eq_true rfl) (Nat.le_of_ble_eq_true rfl) rfl rfl rfl (fun v σ2 q => ?_)
        obtain ⟨rfl, hR, hfa⟩ := q
        replace h := h.fa hfa
        replace hd := hd.fa hfa
        replace h25 := (hfa.sf 25 (by decide)).trans h25
        replace h18 := (hfa.sf 18 (by decide)).trans h18
        replace hcl := CL_o (hfa.si 166) hcl
        have k7 : toN 4 x.2 N i = if i < N ∧ bnd (x.2 i) = 1 then some (trn (2000 + x.2 i) - 2000) else none := by
          unfold toN
          by_cases z : i < N
          · rw [if_pos z, (of_4 _ (hx i z)).1]
            by_cases y : bnd (x.2 i) = 1
            · rw [if_pos y, if_pos ⟨z, y⟩]
            · rw [if_neg y, if_neg (fun q => y q.2)]
          · rw [if_neg z, if_neg (fun q => z q.1)]
        rw [k7] at hR ⊢
        refine tt_istore_n (lv2 := [_, _, _, _]) d_Y_readsRank_56 (by decide) rfl ?_
        refine tt_iload_n d_Y_readsRank_57 rfl ?_
        refine tt_if_ge (t := 63) d_Y_readsRank_58 (by decide) (fun c_58 => ?_) (fun c_58 => ?_)
        · have k8 : i < N ∧ bnd (x.2 i) = 1 := Decidable.byContradiction (fun z => by
            rw [if_neg z] at c_58
            exact absurd c_58 (by decide))
          rw [if_pos k8] at hR
          rw [if_pos k8]
          replace hR : RT _ x.2 N (i + 1) := hR
          have k9 : bnd (x.2 i) = r + 1 := by omega
          obtain ⟨hP1, hrn⟩ := PR_O hP hr hlp k8.1 k9
          have h18b : sf _ 154 18 = nI (rD S') := h18.trans (by rw [eD])
          refine tt_aload_n d_Y_readsRank_63 rfl ?_
          refine tt_iload_n d_Y_readsRank_64 rfl ?_
          refine tt_iconst (v := nI 1) d_Y_readsRank_65 (by decide) ?_
          refine tn_iadd d_Y_readsRank_66 ?_
          refine tt_callV (ihK _ (by omega) (r + 1) (i + 1) (sO S S' L (x.2 i)) _ (by omega) rfl ⟨hP1, h, hd, hR, h25, hcl, h18b⟩) cw_Y_readsRank rfl rfl (by decide) rfl (by have e9 : rD (sO S S' L (x.2 i)) = rD S := eD; omega) d_Y_readsRank_67 rfl rfl (Nat.le_of_ble_eq_true rfl) (Nat.le_of_ble_eq_true rfl) rfl rfl rfl (fun v σ2 q => ?_)
          obtain ⟨h, hd, q2, n2, b, rfl, hb, hR, h25, hbd2, hpq, ok1, no0⟩ := q
          have hqN2 := hR.2.2.2.2
          replace hbd2 : n2 + (i + 1) ≤ L.length + q2 := hbd2
          refine tn_if_ne (t := 75) (by omega) d_Y_readsRank_70 (by decide) (fun c_70 => ?_) (fun c_70 => ?_)
          · obtain ⟨h18, S2, L2, ho, rfl, hcl⟩ := ok1 (by omega)
            replace h18 : sf _ 154 18 = nI (rD S) := h18.trans (by rw [show rD (sO S S' L (x.2 i)) = rD S from eD])
            refine tt_aload_n d_Y_readsRank_75 rfl ?_
            refine tt_sipush (v := nI 2000) d_Y_readsRank_76 (by decide) ?_
            refine tt_iload_n d_Y_readsRank_79 rfl ?_
            refine tt_iadd d_Y_readsRank_80 ?_
            refine tt_iload_n d_Y_readsRank_81 rfl ?_
            refine tn_if_ne (t := 89) (by omega) d_Y_readsRank_82 (by decide) (fun c_82 => ?_) (fun c_82 => ?_)
            · first | exact absurd c_30 c_82 | exact absurd c_82 c_30 | omega
            · refine tt_iconst (v := nI 0) d_Y_readsRank_85 (by decide) ?_
              refine tt_goto (t := 99) d_Y_readsRank_86 (by decide) ?_
              refine tt_iadd d_Y_readsRank_99 ?_
              refine tt_top (y := nI (trn (2000 + x.2 i))) ((of_4 _ (hx i k8.1)).2 k8.2) ?_
              refine tt_callV (y_codes (d := e) h25 (by omega)) cw_Y_codes rfl rfl (by decide) rfl (by omega) d_Y_readsRank_100 rfl rfl (Nat.le_of_ble_eq_true rfl) (Nat.le_of_ble_eq_true rfl) rfl rfl rfl (fun v σ2 q => ?_)
              obtain ⟨rfl, e9⟩ := q
              rw [e9]
              clear e9
              refine tt_iload_n d_Y_readsRank_103 rfl ?_
              refine tn_if_le (t := 111) (by omega) d_Y_readsRank_104 (by decide) (fun c_104 => ?_) (fun c_104 => ?_)
              · refine tt_iconst (v := nI 0) d_Y_readsRank_111 (by decide) ?_
                refine tt_istore_n (lv2 := [_, _, _, _]) d_Y_readsRank_112 (by decide) rfl ?_
                refine tt_goto (t := 24) d_Y_readsRank_113 (by decide) ?_
                refine tt_iload_n d_Y_readsRank_24 rfl ?_
                refine tn_if_eq (t := 116) (by omega) d_Y_readsRank_25 (by decide) (fun c_25 => ?_) (fun c_25 => ?_)
                · refine tt_iconst (v := nI 1) d_Y_readsRank_116 (by decide) ?_
                  refine tt_zret rfl rfl d_Y_readsRank_117 ?_
                  refine YRs h.cd hd.cd hR.cd cd_25 ?_ h18 (OK_O hP c_30 hlp k8.1 k9 hrn ho) (CL_cd hcl)
                  show L2.length + 1 + p ≤ (rC S).length + q2
                  omega
                · exact absurd rfl c_25
              · omega
          · have hno := NO_t hrn (by omega) (no0 (by omega))
            refine tt_iconst (v := nI 0) d_Y_readsRank_73 (by decide) ?_
            refine tt_zret rfl rfl d_Y_readsRank_74 ?_
            exact YRn h hd hR h25 (by omega) hno
        · have k8 : ¬ (i < N ∧ bnd (x.2 i) = 1) := fun z => by
            rw [if_pos z] at c_58
            have t9 := trn_b (x.2 i) (hx i z.1)
            exact c_58 (nI_0le (show trn (2000 + x.2 i) - 2000 < 2 ^ 31 by omega))
          rw [if_neg k8] at hR
          replace hR : RT _ x.2 N i := hR
          refine tt_iconst (v := nI 1) d_Y_readsRank_61 (by decide) ?_
          refine tt_zret rfl rfl d_Y_readsRank_62 ?_
          exact YRs h hd hR h25 hbd h18 (OK_l hlp (fun z y => k8 ⟨z, by omega⟩)) hcl

