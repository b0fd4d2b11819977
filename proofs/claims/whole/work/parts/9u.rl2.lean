/-! A rule while it is read: the class. Printed by wip/whole. -/
/-- an array shows a list, the last first -/
def AL (σ : xs) (a : Nat) : List Nat → Prop
  | [] => True
  | v :: L => si σ a L.length = nI v ∧ AL σ a L
theorem AL_o {σ τ : xs} {a : Nat} : ∀ {L : List Nat}, AL σ a L → si τ a = si σ a → AL τ a L
  | [], _, _ => trivial
  | _ :: _, h, e => ⟨by rw [e]; exact h.1, AL_o h.2 e⟩
theorem AL_w {σ : xs} {a j : Nat} {x : Int32} : ∀ {L : List Nat}, AL σ a L → L.length ≤ j → AL (wI σ a j x) a L
  | [], _, _ => trivial
  | v :: L, h, hj => by
    have hj' : L.length + 1 ≤ j := hj
    exact ⟨by rw [si_wI, if_neg (fun q => by have := q.2; omega)]; exact h.1, AL_w h.2 (by omega)⟩
theorem AL_p {σ : xs} {a v : Nat} {L : List Nat} (h : AL σ a L) : AL (wI σ a L.length (nI v)) a (v :: L) := ⟨by rw [si_wI, if_pos ⟨rfl, rfl⟩], AL_w h (Nat.le_refl _)⟩
theorem AL_q {σ : xs} {a b j : Nat} {x : Int32} {L : List Nat} (h : AL σ a L) (hb : ¬ a = b) : AL (wI σ b j x) a L := AL_o h (funext fun k => by rw [si_wI, if_neg (fun q => hb q.1)])
theorem AL_f {σ : xs} {a b j : Nat} {x : Int32} {L : List Nat} (h : AL σ a L) : AL (wF σ b j x) a L := AL_o h rfl
def RW (σ : xs) (u : Nat) (C W : List Nat) : Prop := sf σ u 1 = nI C.length ∧ sf σ u 4 = nI W.length ∧ AL σ (u + 1) C ∧ AL σ (u + 3) W
def RX (σ : xs) (u : Nat) (S : rst) : Prop := RW σ u (rC S) (rW S) ∧ sf σ u 5 = nI (rD S) ∧ sf σ u 6 = nI (rM S) ∧ sf σ u 7 = nI (rG S) ∧ sf σ u 8 = nI (rN S)
/-- only what a settling changes -/
def Fs (u : Nat) (σ τ : xs) : Prop := Fq (fun c => c = u + 1) (fun c k => c = u ∧ (k = 1 ∨ k = 4)) (fun _ => False) σ τ
/-- only what reading changes -/
def Fu (u : Nat) (σ τ : xs) : Prop := Fq (fun c => c = u + 1 ∨ c = u + 3) (fun c _ => c = u) (fun _ => False) σ τ
theorem Fs.u {u : Nat} {σ τ : xs} (h : Fs u σ τ) : Fu u σ τ := Fq.mono h (fun _ q => Or.inl q) (fun _ _ q => q.1) (fun _ q => q)
theorem Fu.tr {u : Nat} {σ τ υ : xs} (h : Fu u σ τ) (g : Fu u τ υ) : Fu u σ υ := Fq.tr h g
theorem Fu.rf {u : Nat} {σ : xs} : Fu u σ σ := Fq.rf
theorem Fu.f {u k : Nat} {σ : xs} {x : Int32} : Fu u σ (wF σ u k x) := Fq.wF rfl
theorem Fu.c {u k : Nat} {σ : xs} {x : Int32} : Fu u σ (wI σ (u + 1) k x) := Fq.wI (Or.inl rfl)
theorem Fu.w {u k : Nat} {σ : xs} {x : Int32} : Fu u σ (wI σ (u + 3) k x) := Fq.wI (Or.inr rfl)
theorem sfn {σ : xs} {u k j : Nat} {x y : Int32} (h : sf σ u j = y) (hk : ¬ j = k) : sf (wF σ u k x) u j = y := by rw [sf_wF, if_neg (fun q => hk q.2)]; exact h
theorem sfy {σ : xs} {u k : Nat} {x : Int32} : sf (wF σ u k x) u k = x := by rw [sf_wF, if_pos ⟨rfl, rfl⟩]

theorem x_emit {l : xLa} {d : Nat} {σ : xs} {u n : Nat} {v : Int32} (hu : isR u) (hn : sf σ u 1 = nI n) (h40 : n < 40) : TE l M_Rule_emit (d + 1) [.ref u, .int v] σ (none) (wF (wI σ (u + 1) n v) u 1 (nI (n + 1))) := by
  show T l M_Rule_emit (d + 1) 0 _ [] σ _
  refine tt_aload_n d_Rule_emit_0 rfl ?_
  refine tn_get d_Rule_emit_1 rfl (xR_sh hu) (by decide) (xR_i hu _ (by decide)) hn ?_
  refine tt_bipush (v := nI 40) d_Rule_emit_4 (by decide) ?_
  refine tn_ic_ge (t := 29) (by omega) (by omega) d_Rule_emit_6 (by decide) (fun c_6 => ?_) (fun c_6 => ?_)
  · omega
  · refine tt_aload_n d_Rule_emit_9 rfl ?_
    refine tt_getR d_Rule_emit_10 rfl (xR_sh hu) (by decide) ((xR_r hu).1) (xR_0 hu _ (by decide)) ?_
    refine tt_aload_n d_Rule_emit_13 rfl ?_
    refine tn_get d_Rule_emit_14 rfl (xR_sh hu) (by decide) (xR_i hu _ (by decide)) hn ?_
    refine tt_iload_n d_Rule_emit_17 rfl ?_
    refine tn_iast d_Rule_emit_18 ((xR_a hu).1) (by decide) h40 ?_
    refine tt_aload_n d_Rule_emit_19 rfl ?_
    refine tt_dup d_Rule_emit_20 rfl ?_
    refine tn_get d_Rule_emit_21 rfl (xR_sh hu) (by decide) (xR_i hu _ (by decide)) hn ?_
    refine tt_iconst (v := nI 1) d_Rule_emit_24 (by decide) ?_
    refine tn_iadd d_Rule_emit_25 ?_
    refine tt_putI d_Rule_emit_26 rfl (xR_sh hu) (by decide) (xR_i hu _ (by decide)) (xpok_int rfl) rfl ?_
    refine tt_vret rfl d_Rule_emit_29 ?_
    exact ⟨rfl, rfl⟩

theorem x_await {l : xLa} {d : Nat} {σ : xs} {u n : Nat} {v : Int32} (hu : isR u) (hn : sf σ u 4 = nI n) (h40 : n < 40) : TE l M_Rule_await (d + 1) [.ref u, .int v] σ (none) (wF (wI σ (u + 3) n v) u 4 (nI (n + 1))) := by
  show T l M_Rule_await (d + 1) 0 _ [] σ _
  refine tt_aload_n d_Rule_await_0 rfl ?_
  refine tn_get d_Rule_await_1 rfl (xR_sh hu) (by decide) (xR_i hu _ (by decide)) hn ?_
  refine tt_bipush (v := nI 40) d_Rule_await_4 (by decide) ?_
  refine tn_ic_ge (t := 29) (by omega) (by omega) d_Rule_await_6 (by decide) (fun c_6 => ?_) (fun c_6 => ?_)
  · omega
  · refine tt_aload_n d_Rule_await_9 rfl ?_
    refine tt_getR d_Rule_await_10 rfl (xR_sh hu) (by decide) ((xR_r hu).2.2.1) (xR_0 hu _ (by decide)) ?_
    refine tt_aload_n d_Rule_await_13 rfl ?_
    refine tn_get d_Rule_await_14 rfl (xR_sh hu) (by decide) (xR_i hu _ (by decide)) hn ?_
    refine tt_iload_n d_Rule_await_17 rfl ?_
    refine tn_iast d_Rule_await_18 ((xR_a hu).2.2.1) (by decide) h40 ?_
    refine tt_aload_n d_Rule_await_19 rfl ?_
    refine tt_dup d_Rule_await_20 rfl ?_
    refine tn_get d_Rule_await_21 rfl (xR_sh hu) (by decide) (xR_i hu _ (by decide)) hn ?_
    refine tt_iconst (v := nI 1) d_Rule_await_24 (by decide) ?_
    refine tn_iadd d_Rule_await_25 ?_
    refine tt_putI d_Rule_await_26 rfl (xR_sh hu) (by decide) (xR_i hu _ (by decide)) (xpok_int rfl) rfl ?_
    refine tt_vret rfl d_Rule_await_29 ?_
    exact ⟨rfl, rfl⟩

theorem bnd_0 {s : Nat} (h : s < 42 ∨ 62 < s) : bnd s = 0 := by
  unfold bnd
  rw [if_neg (by omega), if_neg (by omega), if_neg (by omega)]
theorem x_bindingOf {l : xLa} {d : Nat} {σ : xs} {s : Nat} (hs : s < 1000) : TE l M_Rule_bindingOf (d + 1) [.int (nI s)] σ (some (.int (nI (bnd s)))) σ := by
  show T l M_Rule_bindingOf (d + 1) 0 _ [] σ _
  refine tt_iload_n d_Rule_bindingOf_0 rfl ?_
  rcases (show s = 42 ∨ s = 43 ∨ s = 44 ∨ s = 45 ∨ s = 46 ∨ s = 47 ∨ s = 48 ∨ s = 49 ∨ s = 50 ∨ s = 51 ∨ s = 52 ∨ s = 53 ∨ s = 54 ∨ s = 55 ∨ s = 56 ∨ s = 57 ∨ s = 58 ∨ s = 59 ∨ s = 60 ∨ s = 61 ∨ s = 62 ∨ (s < 42 ∨ 62 < s) by omega) with rfl | rfl | rfl | rfl | rfl | rfl | rfl | rfl | rfl | rfl | rfl | rfl | rfl | rfl | rfl | rfl | rfl | rfl | rfl | rfl | rfl | hb
  · refine tt_tab (t := 104) d_Rule_bindingOf_1 rfl ?_
    refine tt_iconst (v := nI 3) d_Rule_bindingOf_104 (by decide) ?_
    refine tt_iret rfl d_Rule_bindingOf_105 ?_
    exact ⟨rfl, rfl⟩
  · refine tt_tab (t := 102) d_Rule_bindingOf_1 rfl ?_
    refine tt_iconst (v := nI 2) d_Rule_bindingOf_102 (by decide) ?_
    refine tt_iret rfl d_Rule_bindingOf_103 ?_
    exact ⟨rfl, rfl⟩
  · refine tt_tab (t := 106) d_Rule_bindingOf_1 rfl ?_
    refine tt_iconst (v := nI 0) d_Rule_bindingOf_106 (by decide) ?_
    refine tt_iret rfl d_Rule_bindingOf_107 ?_
    exact ⟨rfl, rfl⟩
  · refine tt_tab (t := 102) d_Rule_bindingOf_1 rfl ?_
    refine tt_iconst (v := nI 2) d_Rule_bindingOf_102 (by decide) ?_
    refine tt_iret rfl d_Rule_bindingOf_103 ?_
    exact ⟨rfl, rfl⟩
  · refine tt_tab (t := 106) d_Rule_bindingOf_1 rfl ?_
    refine tt_iconst (v := nI 0) d_Rule_bindingOf_106 (by decide) ?_
    refine tt_iret rfl d_Rule_bindingOf_107 ?_
    exact ⟨rfl, rfl⟩
  · refine tt_tab (t := 104) d_Rule_bindingOf_1 rfl ?_
    refine tt_iconst (v := nI 3) d_Rule_bindingOf_104 (by decide) ?_
    refine tt_iret rfl d_Rule_bindingOf_105 ?_
    exact ⟨rfl, rfl⟩
  · refine tt_tab (t := 106) d_Rule_bindingOf_1 rfl ?_
    refine tt_iconst (v := nI 0) d_Rule_bindingOf_106 (by decide) ?_
    refine tt_iret rfl d_Rule_bindingOf_107 ?_
    exact ⟨rfl, rfl⟩
  · refine tt_tab (t := 106) d_Rule_bindingOf_1 rfl ?_
    refine tt_iconst (v := nI 0) d_Rule_bindingOf_106 (by decide) ?_
    refine tt_iret rfl d_Rule_bindingOf_107 ?_
    exact ⟨rfl, rfl⟩
  · refine tt_tab (t := 106) d_Rule_bindingOf_1 rfl ?_
    refine tt_iconst (v := nI 0) d_Rule_bindingOf_106 (by decide) ?_
    refine tt_iret rfl d_Rule_bindingOf_107 ?_
    exact ⟨rfl, rfl⟩
  · refine tt_tab (t := 106) d_Rule_bindingOf_1 rfl ?_
    refine tt_iconst (v := nI 0) d_Rule_bindingOf_106 (by decide) ?_
    refine tt_iret rfl d_Rule_bindingOf_107 ?_
    exact ⟨rfl, rfl⟩
  · refine tt_tab (t := 106) d_Rule_bindingOf_1 rfl ?_
    refine tt_iconst (v := nI 0) d_Rule_bindingOf_106 (by decide) ?_
    refine tt_iret rfl d_Rule_bindingOf_107 ?_
    exact ⟨rfl, rfl⟩
  · refine tt_tab (t := 106) d_Rule_bindingOf_1 rfl ?_
    refine tt_iconst (v := nI 0) d_Rule_bindingOf_106 (by decide) ?_
    refine tt_iret rfl d_Rule_bindingOf_107 ?_
    exact ⟨rfl, rfl⟩
  · refine tt_tab (t := 106) d_Rule_bindingOf_1 rfl ?_
    refine tt_iconst (v := nI 0) d_Rule_bindingOf_106 (by decide) ?_
    refine tt_iret rfl d_Rule_bindingOf_107 ?_
    exact ⟨rfl, rfl⟩
  · refine tt_tab (t := 106) d_Rule_bindingOf_1 rfl ?_
    refine tt_iconst (v := nI 0) d_Rule_bindingOf_106 (by decide) ?_
    refine tt_iret rfl d_Rule_bindingOf_107 ?_
    exact ⟨rfl, rfl⟩
  · refine tt_tab (t := 106) d_Rule_bindingOf_1 rfl ?_
    refine tt_iconst (v := nI 0) d_Rule_bindingOf_106 (by decide) ?_
    refine tt_iret rfl d_Rule_bindingOf_107 ?_
    exact ⟨rfl, rfl⟩
  · refine tt_tab (t := 106) d_Rule_bindingOf_1 rfl ?_
    refine tt_iconst (v := nI 0) d_Rule_bindingOf_106 (by decide) ?_
    refine tt_iret rfl d_Rule_bindingOf_107 ?_
    exact ⟨rfl, rfl⟩
  · refine tt_tab (t := 106) d_Rule_bindingOf_1 rfl ?_
    refine tt_iconst (v := nI 0) d_Rule_bindingOf_106 (by decide) ?_
    refine tt_iret rfl d_Rule_bindingOf_107 ?_
    exact ⟨rfl, rfl⟩
  · refine tt_tab (t := 106) d_Rule_bindingOf_1 rfl ?_
    refine tt_iconst (v := nI 0) d_Rule_bindingOf_106 (by decide) ?_
    refine tt_iret rfl d_Rule_bindingOf_107 ?_
    exact ⟨rfl, rfl⟩
  · refine tt_tab (t := 100) d_Rule_bindingOf_1 rfl ?_
    refine tt_iconst (v := nI 1) d_Rule_bindingOf_100 (by decide) ?_
    refine tt_iret rfl d_Rule_bindingOf_101 ?_
    exact ⟨rfl, rfl⟩
  · refine tt_tab (t := 100) d_Rule_bindingOf_1 rfl ?_
    refine tt_iconst (v := nI 1) d_Rule_bindingOf_100 (by decide) ?_
    refine tt_iret rfl d_Rule_bindingOf_101 ?_
    exact ⟨rfl, rfl⟩
  · refine tt_tab (t := 100) d_Rule_bindingOf_1 rfl ?_
    refine tt_iconst (v := nI 1) d_Rule_bindingOf_100 (by decide) ?_
    refine tt_iret rfl d_Rule_bindingOf_101 ?_
    exact ⟨rfl, rfl⟩
  · rw [bnd_0 hb]
    refine tt_tab (t := 106) d_Rule_bindingOf_1 (s_tab_d (by rw [nI_toInt (by omega)]; omega) rfl) ?_
    refine tt_iconst (v := nI 0) d_Rule_bindingOf_106 (by decide) ?_
    refine tt_iret rfl d_Rule_bindingOf_107 ?_
    exact ⟨rfl, rfl⟩

theorem x_settle_l {l : xLa} {d : Nat} {σ : xs} {u b : Nat} (hu : isR u) (hb : b ≤ 3) : ∀ (W C : List Nat) (τ : xs) (z : Option Int32), wll W → C.length + W.length ≤ 40 → RW τ u C W → Fs u σ τ → T l M_Rule_settle (d + 2) 0 [some (.ref u), some (.int (nI b)), z.map Value.int] [] τ (fun r υ => r = none ∧ RW υ u (stl b W C).1 (stl b W C).2 ∧ Fs u σ υ) := by
  intro W
  induction W with
  | nil =>
    intro C τ z hw hl hR hf
    refine tt_aload_n d_Rule_settle_0 rfl ?_
    refine tn_get d_Rule_settle_1 rfl (xR_sh hu) (by decide) (xR_i hu _ (by decide)) (show sf τ u 4 = nI 0 from hR.2.1) ?_
    refine tn_if_le (t := 73) (by omega) d_Rule_settle_4 (by decide) (fun c_4 => ?_) (fun c_4 => ?_)
    · refine tt_vret rfl d_Rule_settle_73 ?_
      exact ⟨rfl, hR, hf⟩
    · omega
  | cons t W ih =>
    intro C τ z hw hl hR hf
    have hl' : C.length + (W.length + 1) ≤ 40 := hl
    have ht := wok_lt hw.1
    have e4 : sf τ u 4 = nI (W.length + 1) := hR.2.1
    have ea : si τ (u + 3) (W.length + 1 - 1) = nI t := hR.2.2.2.1
    refine tt_aload_n d_Rule_settle_0 rfl ?_
    refine tn_get d_Rule_settle_1 rfl (xR_sh hu) (by decide) (xR_i hu _ (by decide)) e4 ?_
    refine tn_if_le (t := 73) (by omega) d_Rule_settle_4 (by decide) (fun c_4 => ?_) (fun c_4 => ?_)
    · omega
    · refine tt_aload_n d_Rule_settle_7 rfl ?_
      refine tt_getR d_Rule_settle_8 rfl (xR_sh hu) (by decide) ((xR_r hu).2.2.1) (xR_0 hu _ (by decide)) ?_
      refine tt_aload_n d_Rule_settle_11 rfl ?_
      refine tn_get d_Rule_settle_12 rfl (xR_sh hu) (by decide) (xR_i hu _ (by decide)) e4 ?_
      refine tt_iconst (v := nI 1) d_Rule_settle_15 (by decide) ?_
      refine tn_isub (by omega) d_Rule_settle_16 ?_
      refine tn_iald d_Rule_settle_17 ((xR_a hu).2.2.1) (by decide) (by omega) ea ?_
      refine tt_bipush (v := nI 40) d_Rule_settle_18 (by decide) ?_
      refine tn_ic_eq (t := 73) (by omega) (by omega) d_Rule_settle_20 (by decide) (fun c_20 => ?_) (fun c_20 => ?_)
      · subst c_20
        refine tt_vret rfl d_Rule_settle_73 ?_
        exact ⟨rfl, by rw [stl_4]; exact hR, hf⟩
      · have k1 := wok_c hw.1 c_20
        refine tt_aload_n d_Rule_settle_23 rfl ?_
        refine tt_getR d_Rule_settle_24 rfl (xR_sh hu) (by decide) ((xR_r hu).2.2.1) (xR_0 hu _ (by decide)) ?_
        refine tt_aload_n d_Rule_settle_27 rfl ?_
        refine tn_get d_Rule_settle_28 rfl (xR_sh hu) (by decide) (xR_i hu _ (by decide)) e4 ?_
        refine tt_iconst (v := nI 1) d_Rule_settle_31 (by decide) ?_
        refine tn_isub (by omega) d_Rule_settle_32 ?_
        refine tn_iald d_Rule_settle_33 ((xR_a hu).2.2.1) (by decide) (by omega) ea ?_
        refine tt_istore_n (lv2 := [_, _, _]) d_Rule_settle_34 (by decide) rfl ?_
        refine tt_iload_n d_Rule_settle_35 rfl ?_
        refine tt_sipush (v := nI 3000) d_Rule_settle_36 (by decide) ?_
        refine tn_ic_eq (t := 55) (by omega) (by omega) d_Rule_settle_39 (by decide) (fun c_39 => ?_) (fun c_39 => ?_)
        · have k2 : ¬ (¬ t = 3000 ∧ bnd (t - 2000) < b) := fun q => q.1 c_39
          refine tt_aload_n d_Rule_settle_55 rfl ?_
          refine tt_iload_n d_Rule_settle_56 rfl ?_
          refine tt_callV (x_emit (d := d) (v := nI t) hu hR.1 (by omega)) cw_Rule_emit rfl (xR_sh hu) (by decide) rfl (by omega) d_Rule_settle_57 rfl rfl (Nat.le_of_ble_eq_true rfl) (Nat.le_of_ble_eq_true rfl) rfl rfl rfl (fun v σ2 q => ?_)
          obtain ⟨rfl, e9⟩ := q
          rw [e9]
          clear e9
          refine tt_aload_n d_Rule_settle_60 rfl ?_
          refine tt_dup d_Rule_settle_61 rfl ?_
          refine tn_get d_Rule_settle_62 rfl (xR_sh hu) (by decide) (xR_i hu _ (by decide)) (sfn e4 (by decide)) ?_
          refine tt_iconst (v := nI 1) d_Rule_settle_65 (by decide) ?_
          refine tn_isub (by omega) d_Rule_settle_66 ?_
          refine tt_putI d_Rule_settle_67 rfl (xR_sh hu) (by decide) (xR_i hu _ (by decide)) (xpok_int rfl) rfl ?_
          refine tt_goto (t := 0) d_Rule_settle_70 (by decide) ?_
          have q := ih (t :: C) (wF (wF (wI τ (u + 1) C.length (nI t)) u 1 (nI (C.length + 1))) u 4 (nI (W.length + 1 - 1))) (some (nI t)) hw.2 (by show C.length + 1 + W.length ≤ 40; omega) ⟨sfn sfy (by decide), sfy, AL_f (AL_f (AL_p hR.2.2.1)), AL_f (AL_f (AL_q hR.2.2.2.2 (by omega)))⟩ (Fq.tr hf (Fq.tr (Fq.tr (Fq.wI rfl) (Fq.wF ⟨rfl, Or.inl rfl⟩)) (Fq.wF ⟨rfl, Or.inr rfl⟩)))
          rw [← stl_y (b := b) c_20 k2] at q
          exact q
        · obtain ⟨k3, k4, k5, k6⟩ := k1 c_39
          refine tt_iload_n d_Rule_settle_42 rfl ?_
          refine tt_sipush (v := nI 2000) d_Rule_settle_43 (by decide) ?_
          refine tn_isub (by omega) d_Rule_settle_46 ?_
          refine tt_callS (x_bindingOf (d := d) (s := t - 2000) (by omega)) cw_Rule_bindingOf rfl (by omega) d_Rule_settle_47 rfl rfl (Nat.le_of_ble_eq_true rfl) (Nat.le_of_ble_eq_true rfl) rfl rfl rfl (fun v σ2 q => ?_)
          obtain ⟨rfl, e9⟩ := q
          rw [e9]
          clear e9
          refine tt_iload_n d_Rule_settle_50 rfl ?_
          have b3 : bnd (t - 2000) ≤ 3 := (bnd_c (s := t - 2000) (by omega)).2.1
          refine tn_ic_ge (t := 55) (by omega) (by omega) d_Rule_settle_51 (by decide) (fun c_51 => ?_) (fun c_51 => ?_)
          · have k2 : ¬ (¬ t = 3000 ∧ bnd (t - 2000) < b) := fun q => by have := q.2; omega
            refine tt_aload_n d_Rule_settle_55 rfl ?_
            refine tt_iload_n d_Rule_settle_56 rfl ?_
            refine tt_callV (x_emit (d := d) (v := nI t) hu hR.1 (by omega)) cw_Rule_emit rfl (xR_sh hu) (by decide) rfl (by omega) d_Rule_settle_57 rfl rfl (Nat.le_of_ble_eq_true rfl) (Nat.le_of_ble_eq_true rfl) rfl rfl rfl (fun v σ2 q => ?_)
            obtain ⟨rfl, e9⟩ := q
            rw [e9]
            clear e9
            refine tt_aload_n d_Rule_settle_60 rfl ?_
            refine tt_dup d_Rule_settle_61 rfl ?_
            refine tn_get d_Rule_settle_62 rfl (xR_sh hu) (by decide) (xR_i hu _ (by decide)) (sfn e4 (by decide)) ?_
            refine tt_iconst (v := nI 1) d_Rule_settle_65 (by decide) ?_
            refine tn_isub (by omega) d_Rule_settle_66 ?_
            refine tt_putI d_Rule_settle_67 rfl (xR_sh hu) (by decide) (xR_i hu _ (by decide)) (xpok_int rfl) rfl ?_
            refine tt_goto (t := 0) d_Rule_settle_70 (by decide) ?_
            have q := ih (t :: C) (wF (wF (wI τ (u + 1) C.length (nI t)) u 1 (nI (C.length + 1))) u 4 (nI (W.length + 1 - 1))) (some (nI t)) hw.2 (by show C.length + 1 + W.length ≤ 40; omega) ⟨sfn sfy (by decide), sfy, AL_f (AL_f (AL_p hR.2.2.1)), AL_f (AL_f (AL_q hR.2.2.2.2 (by omega)))⟩ (Fq.tr hf (Fq.tr (Fq.tr (Fq.wI rfl) (Fq.wF ⟨rfl, Or.inl rfl⟩)) (Fq.wF ⟨rfl, Or.inr rfl⟩)))
            rw [← stl_y (b := b) c_20 k2] at q
            exact q
          · have k2 : ¬ t = 3000 ∧ bnd (t - 2000) < b := ⟨c_39, by omega⟩
            refine tt_vret rfl d_Rule_settle_54 ?_
            exact ⟨rfl, by rw [stl_n c_20 k2]; exact hR, hf⟩

theorem x_settle {l : xLa} {d : Nat} {σ : xs} {u b : Nat} {C W : List Nat} (hu : isR u) (hb : b ≤ 3) (hw : wll W) (hl : C.length + W.length ≤ 40) (hR : RW σ u C W) : TC l M_Rule_settle (d + 2) [.ref u, .int (nI b)] σ (fun r υ => r = none ∧ RW υ u (stl b W C).1 (stl b W C).2 ∧ Fs u σ υ) := x_settle_l hu hb W C σ none hw hl hR Fq.rf
/-- what a sign leaves -/
def PB (o : Option rst) (u : Nat) (σ : xs) : Option Value → xs → Prop := fun r τ => (o = none → r = some (.int (nI 0)) ∧ Fu u σ τ) ∧ ∀ S', o = some S' → r = some (.int (nI 1)) ∧ RX τ u S' ∧ Fu u σ τ
theorem PB_n {u : Nat} {σ τ : xs} (h : Fu u σ τ) : PB none u σ (some (.int (nI 0))) τ := ⟨fun _ => ⟨rfl, h⟩, fun _ q => by cases q⟩
theorem PB_s {u : Nat} {σ τ : xs} {S : rst} (h : Fu u σ τ) (hR : RX τ u S) : PB (some S) u σ (some (.int (nI 1))) τ := ⟨fun q => (by cases q), fun _ q => (by cases q; exact ⟨rfl, hR, h⟩)⟩

