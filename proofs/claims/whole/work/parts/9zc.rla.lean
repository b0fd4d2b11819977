/-! rule: the reference. Printed by wip/whole. -/
set_option maxHeartbeats 4000000 in
theorem y_rank {l : xLa} {e c : Nat} {w : wv} {σ : xs} {x : Nat × (Nat → Nat)} {N m : Nat} (hN : N ≤ 40) (hx : ∀ i, i < N → x.2 i < 256) (ihT : ∀ k, k < m → HT l e c w σ x N k) (ihK : ∀ k, k < m → HK l e c w σ x N k) : HK l e c w σ x N m := by
  intro r p S τ hr hm hin
  obtain ⟨hP, h, hd, hR, h25, hcl, h18⟩ := hin
  have i4 := hP.2.1.2.2.2.1.1
  have hpN := hP.1
  show T l M_Y_readsRank _ 0 _ [] τ _
  refine T_lv (lv2 := [_, _, _, _]) rfl ?_
  refine tt_iload_n d_Y_readsRank_0 rfl ?_
  refine tt_iconst (v := nI 3) d_Y_readsRank_1 (by decide) ?_
  refine tn_ic_ne (t := 10) (by omega) (by omega) d_Y_readsRank_2 (by decide) (fun c_2 => ?_) (fun c_2 => ?_)
  · refine tt_aload_n d_Y_readsRank_10 rfl ?_
    refine tt_iload_n d_Y_readsRank_11 rfl ?_
    refine tt_iconst (v := nI 1) d_Y_readsRank_12 (by decide) ?_
    refine tn_iadd d_Y_readsRank_13 ?_
    refine tt_callV (ihK _ (by omega) (r + 1) p S _ (by omega) rfl ⟨PR_up hP (by omega), h, hd, hR, h25, hcl, h18⟩) cw_Y_readsRank rfl rfl (by decide) rfl (by omega) d_Y_readsRank_14 rfl rfl (Nat.le_of_ble_eq_true rfl) (Nat.le_of_ble_eq_true rfl) rfl rfl rfl (fun v σ2 q => ?_)
    obtain ⟨h, hd, q, n, b, rfl, hb, hR, h25, hbd, hpq, ok1, no0⟩ := q
    refine tn_if_ne (t := 22) (by omega) d_Y_readsRank_17 (by decide) (fun c_17 => ?_) (fun c_17 => ?_)
    · obtain ⟨h18, S2, L, ho, rfl, hcl⟩ := ok1 (by omega)
      have hlp := LP_0 hP (by omega) ho
      refine tt_iconst (v := nI 1) d_Y_readsRank_22 (by decide) ?_
      refine tt_istore_n (lv2 := [_, _, _, _]) d_Y_readsRank_23 (by decide) rfl ?_
      exact y_rank_l hN hx hP (by omega) (fun k hk => ihK k (by omega)) _ q S2 L none _ rfl h hd hR h25 hcl h18 hbd hlp
    · refine tt_iconst (v := nI 0) d_Y_readsRank_20 (by decide) ?_
      refine tt_zret rfl rfl d_Y_readsRank_21 ?_
      exact YRn h hd hR h25 hbd (no0 (by omega))
  · subst c_2
    refine tt_aload_n d_Y_readsRank_5 rfl ?_
    refine tt_callV (ihT _ (by omega) p S _ rfl ⟨hP, h, hd, hR, h25, hcl, h18⟩) cw_Y_readsThing rfl rfl (by decide) rfl (by omega) d_Y_readsRank_6 rfl rfl (Nat.le_of_ble_eq_true rfl) (Nat.le_of_ble_eq_true rfl) rfl rfl rfl (fun v σ2 q => ?_)
    have q9 := q
    obtain ⟨-, -, _, _, b, rfl, hb, -⟩ := q
    refine tt_zret rfl (nar_b hb) d_Y_readsRank_9 ?_
    exact q9

theorem y_rd {l : xLa} {e c : Nat} {w : wv} {σ : xs} {x : Nat × (Nat → Nat)} {N : Nat} (hN : N ≤ 40) (hx : ∀ i, i < N → x.2 i < 256) : ∀ m, HT l e c w σ x N m ∧ HK l e c w σ x N m := by
  intro m
  induction m using Nat.strongRecOn with
  | ind m ih => exact ⟨y_thing hN hx (fun k hk => (ih k hk).1) (fun k hk => (ih k hk).2), y_rank hN hx (fun k hk => (ih k hk).1) (fun k hk => (ih k hk).2)⟩
section
variable {x : Nat × (Nat → Nat)} {N q : Nat} {S' : rst} {L : List Nat}
theorem NO_E (ho : OKr x N 0 0 q rs0 S' L) (hq : q < N) : NOr x N 0 q rs0 := by
  obtain ⟨⟨⟨a1, a2⟩, a3, a4, ⟨a5, a5'⟩, a6, a7, a8⟩, a9⟩ := ho
  have e5 : rD S' = 0 := a5'
  refine NO_t a3 (by omega) (NO_n hq ((if_neg (by omega)).trans ?_))
  by_cases c1 : 48 ≤ x.2 q ∧ x.2 q ≤ 57
  · exact (if_pos c1).trans (if_pos (a8 ⟨hq, c1⟩))
  · by_cases c2 : x.2 q = 41
    · exact (if_neg c1).trans ((if_pos c2).trans (if_pos e5))
    · refine (if_neg c1).trans ((if_neg c2).trans (if_pos ?_))
      rcases a9 hq with z | z
      · exact Or.inl (by omega)
      · exact Or.inr z.2
theorem rl_no (hN : N = min 40 x.1) (h0 : ¬ x.1 = 0) (h : NOr x N 0 q rs0) : rlF x = q + 1 := by
  subst hN
  rcases h.2 with ⟨z, _⟩ | ⟨rfl, S', z, y⟩
  · exact rlF_l h0 z
  · rw [rlF_r h0 z, if_pos (Or.inr y)]
theorem rl_ok (hN : N = min 40 x.1) (h0 : ¬ x.1 = 0) (h : OKr x N 0 0 N rs0 S' L) : rlF x = (if 40 < x.1 then 41 else 0) ∧ rlL x = L ∧ wfl L ∧ 0 < L.length := by
  subst hN
  obtain ⟨⟨⟨a1, a2⟩, a3, a4, ⟨a5, a5'⟩, a6, ⟨P, b1, b2, b3'⟩, a8⟩, a9⟩ := h
  have e5 : rD S' = 0 := a5'
  have er : rn x (min 40 x.1) 0 rs0 = .inr S' := by
    rw [Nat.sub_self] at a3
    exact a3
  have es : stl 0 (rW S') (rC S') = (L, []) := by
    rw [b1, stl_P P (rC S') 0 b2 (by decide), ← b3']
    rfl
  obtain ⟨s1, s2, s3, s4, s5, s6⟩ := stl_ok (b := 0) (rW S') (rC S') a4.2.1 a4.2.2.2.2.1 (by have := a4.2.2.2.2.2.1; omega)
  rw [es] at s4 s5
  refine ⟨?_, by rw [rlL_r er, es], s4, ?_⟩
  · rw [rlF_r h0 er]
    by_cases c : 40 < x.1
    · rw [if_pos (Or.inl c), if_pos c]; omega
    · rw [if_neg (by omega), if_neg c]
  · cases L with
    | nil => have : 0 = 0 + 1 := s5; omega
    | cons a L => show 0 < L.length + 1; omega
end
/-- the answer to a text of a rule -/
def rlI (x : Nat × (Nat → Nat)) : Int32 := if rlF x = 0 then nI 0 else (-1) - nI (rlF x - 1)
theorem fo_no {n N q : Nat} (hN : N = min 40 n) (hq : q ≤ N) : foI n 40 0 N q = (-1) - nI q := by
  unfold foI
  by_cases c : 40 < n ∧ ((0 = 1 ∧ q = N) ∨ 40 ≤ q)
  · rw [if_pos c, show q = 40 by omega]
  · rw [if_neg c, if_neg (by omega)]
theorem fo_n1 {n N q : Nat} (hN : N = min 40 n) (hq : q < N) : foI n 40 1 N q = (-1) - nI q := by
  unfold foI
  rw [if_neg (by omega), if_neg (by omega)]
theorem fo_ok {n N : Nat} (hN : N = min 40 n) : foI n 40 1 N N = if 40 < n then (-1) - nI 40 else nI 0 := by
  unfold foI
  by_cases c : 40 < n
  · rw [if_pos ⟨c, Or.inl ⟨rfl, rfl⟩⟩, if_pos c]
  · rw [if_neg (fun q => c q.1), if_pos ⟨rfl, rfl⟩, if_neg c]
def RRp (c : Nat) (w : wv) (σ : xs) : Option Value → xs → Prop := fun r υ => r = some (.int (rlI (wX w))) ∧ YQ c (txC w) σ υ ∧ YD υ (wD w) ∧ (rlF (wX w) = 0 → ∃ L, sf υ 154 25 = nI L.length ∧ CL υ L ∧ L.length ≤ 40 ∧ ((wX w).1 = 0 → L = []) ∧ (¬ (wX w).1 = 0 → L = rlL (wX w) ∧ wfl L ∧ 0 < L.length))
set_option maxHeartbeats 4000000 in
theorem y_readsRule {l : xLa} {d c : Nat} {σ τ : xs} {w : wv} (h : YQ c w σ τ) (hd0 : YD τ (wD w)) (hX : okX (wX w)) : TC l M_Y_readsRule (d + 100) [.ref 154] τ (RRp c w σ) := by
  have hx1 := hX.1
  have hx2 : ∀ i, i < min (wX w).1 40 → (wX w).2 i < 256 := fun i hi => hX.2 i (by omega)
  have hNe : min (wX w).1 40 = min 40 (wX w).1 := Nat.min_comm _ _
  show T l M_Y_readsRule (d + 100) 0 _ [] τ _
  refine T_lv (lv2 := [_, _, _]) rfl ?_
  refine tt_aload_n d_Y_readsRule_0 rfl ?_
  refine tt_bipush (v := nI 40) d_Y_readsRule_1 (by decide) ?_
  refine tt_callV (y_begins (d := d) h hd0 hX (m := 40) (by decide)) cw_Y_begins rfl rfl (by decide) rfl (by omega) d_Y_readsRule_3 rfl rfl (Nat.le_of_ble_eq_true rfl) (Nat.le_of_ble_eq_true rfl) rfl rfl rfl (fun v σ2 q => ?_)
  obtain ⟨rfl, h, hd, hR, h18⟩ := q
  refine tt_istore_n (lv2 := [_, _, _]) d_Y_readsRule_6 (by decide) rfl ?_
  refine tt_aload_n d_Y_readsRule_7 rfl ?_
  refine tt_iconst (v := nI 0) d_Y_readsRule_8 (by decide) ?_
  refine tt_putI d_Y_readsRule_9 rfl rfl (by decide) rfl (xpok_int rfl) rfl ?_
  replace h := YQ.fq h (Fq.wF (a := 154) (k := 25) (x := nI 0) (by unfold YqF; omega))
  replace hd := hd.fq (Fq.wF (A := fun _ => False) (F := fun c k => c = 154 ∧ k = 25) (J := fun _ => False) (a := 154) (k := 25) (x := nI 0) ⟨rfl, rfl⟩) id (by omega)
  replace hR := hR.o (υ := wF _ 154 25 (nI 0)) rfl rfl rfl
  refine tt_iload_n d_Y_readsRule_12 rfl ?_
  refine tn_if_eq (t := 24) (by omega) d_Y_readsRule_13 (by decide) (fun c_13 => ?_) (fun c_13 => ?_)
  · have eN : min (wX w).1 40 = 0 := by omega
    rw [eN] at hR
    refine tt_iconst (v := nI 1) d_Y_readsRule_24 (by decide) ?_
    refine tt_goto (t := 29) d_Y_readsRule_25 (by decide) ?_
    refine tt_istore_n (lv2 := [_, _, _]) d_Y_readsRule_29 (by decide) rfl ?_
    refine tt_aload_n d_Y_readsRule_30 rfl ?_
    refine tt_iload_n d_Y_readsRule_31 rfl ?_
    refine tt_bipush (v := nI 40) d_Y_readsRule_32 (by decide) ?_
    refine tt_iload_n d_Y_readsRule_34 rfl ?_
    refine tt_callV (y_faultOf (d := d) hR (n := (wX w).1) (m := 40) (b := 1) (by omega) (by decide) (by decide)) cw_Y_faultOf rfl rfl (by decide) rfl (by omega) d_Y_readsRule_35 rfl rfl (Nat.le_of_ble_eq_true rfl) (Nat.le_of_ble_eq_true rfl) rfl rfl rfl (fun v σ2 q => ?_)
    obtain ⟨rfl, e9⟩ := q
    rw [e9]
    clear e9
    refine tt_iret rfl d_Y_readsRule_38 ?_
    have ef : rlF (wX w) = 0 := if_pos c_13
    refine ⟨?_, h, hd, fun _ => ⟨[], rfl, trivial, by decide, fun _ => rfl, fun z => absurd c_13 z⟩⟩
    rw [show rlI (wX w) = nI 0 from if_pos ef, c_13]
    rfl
  · refine tt_aload_n d_Y_readsRule_16 rfl ?_
    refine tt_iconst (v := nI 0) d_Y_readsRule_17 (by decide) ?_
    refine tt_callV ((y_rd (l := l) (e := d) (c := c) (w := txC w) (σ := σ) (x := wX w) (N := min (wX w).1 40) (by omega) hx2 _).2 0 0 rs0 _ (by decide) rfl ⟨⟨Nat.zero_le _, RI_0, rfl, fun _ t V e => (by cases e), fun _ => rfl⟩, h, hd, hR, rfl, trivial, h18⟩) cw_Y_readsRank rfl rfl (by decide) rfl (by have e9 : rD rs0 = 0 := rfl; omega) d_Y_readsRule_18 rfl rfl (Nat.le_of_ble_eq_true rfl) (Nat.le_of_ble_eq_true rfl) rfl rfl rfl (fun v σ2 q => ?_)
    obtain ⟨h, hd, q, n, b, rfl, hb, hR, h25, hbd, hpq, ok1, no0⟩ := q
    have hqN := hR.2.2.2.2
    refine tn_if_eq (t := 28) (by omega) d_Y_readsRule_21 (by decide) (fun c_21 => ?_) (fun c_21 => ?_)
    · have hno := no0 c_21
      have ef := rl_no hNe c_13 hno
      refine tt_iconst (v := nI 0) d_Y_readsRule_28 (by decide) ?_
      refine tt_istore_n (lv2 := [_, _, _]) d_Y_readsRule_29 (by decide) rfl ?_
      refine tt_aload_n d_Y_readsRule_30 rfl ?_
      refine tt_iload_n d_Y_readsRule_31 rfl ?_
      refine tt_bipush (v := nI 40) d_Y_readsRule_32 (by decide) ?_
      refine tt_iload_n d_Y_readsRule_34 rfl ?_
      refine tt_callV (y_faultOf (d := d) hR (n := (wX w).1) (m := 40) (b := 0) (by omega) (by decide) (by decide)) cw_Y_faultOf rfl rfl (by decide) rfl (by omega) d_Y_readsRule_35 rfl rfl (Nat.le_of_ble_eq_true rfl) (Nat.le_of_ble_eq_true rfl) rfl rfl rfl (fun v σ2 q => ?_)
      obtain ⟨rfl, e9⟩ := q
      rw [e9]
      clear e9
      refine tt_iret rfl d_Y_readsRule_38 ?_
      refine ⟨?_, h, hd, fun z => by omega⟩
      rw [fo_no hNe hqN, show rlI (wX w) = (-1) - nI (rlF (wX w) - 1) from if_neg (by omega), ef]
      rfl
    · obtain ⟨h18, S2, L, ho, rfl, hcl⟩ := ok1 (by omega)
      refine tt_iconst (v := nI 1) d_Y_readsRule_24 (by decide) ?_
      refine tt_goto (t := 29) d_Y_readsRule_25 (by decide) ?_
      refine tt_istore_n (lv2 := [_, _, _]) d_Y_readsRule_29 (by decide) rfl ?_
      refine tt_aload_n d_Y_readsRule_30 rfl ?_
      refine tt_iload_n d_Y_readsRule_31 rfl ?_
      refine tt_bipush (v := nI 40) d_Y_readsRule_32 (by decide) ?_
      refine tt_iload_n d_Y_readsRule_34 rfl ?_
      refine tt_callV (y_faultOf (d := d) hR (n := (wX w).1) (m := 40) (b := 1) (by omega) (by decide) (by decide)) cw_Y_faultOf rfl rfl (by decide) rfl (by omega) d_Y_readsRule_35 rfl rfl (Nat.le_of_ble_eq_true rfl) (Nat.le_of_ble_eq_true rfl) rfl rfl rfl (fun v σ2 q => ?_)
      obtain ⟨rfl, e9⟩ := q
      rw [e9]
      clear e9
      refine tt_iret rfl d_Y_readsRule_38 ?_
      by_cases cq : q < min (wX w).1 40
      · have ef := rl_no hNe c_13 (NO_E ho cq)
        refine ⟨?_, h, hd, fun z => by omega⟩
        rw [fo_n1 hNe cq, show rlI (wX w) = (-1) - nI (rlF (wX w) - 1) from if_neg (by omega), ef]
        rfl
      · obtain rfl : q = min (wX w).1 40 := by omega
        obtain ⟨ef, eL, hwf, hl0⟩ := rl_ok hNe c_13 ho
        have hlen := OK_len ho.1
        refine ⟨?_, h, hd, fun z => ⟨L, h25, hcl, by omega, fun y => absurd y c_13, fun _ => ⟨eL.symm, hwf, hl0⟩⟩⟩
        rw [fo_ok hNe]
        by_cases c40 : 40 < (wX w).1
        · rw [if_pos c40] at ef ⊢
          rw [show rlI (wX w) = (-1) - nI (rlF (wX w) - 1) from if_neg (by omega), ef]
        · rw [if_neg c40] at ef ⊢
          rw [show rlI (wX w) = nI 0 from if_pos ef]

