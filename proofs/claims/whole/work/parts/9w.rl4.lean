/-! A rule while it is read: takeThing, takeBehind. Printed by wip/whole. -/
theorem PB_b {o : Option rst} {u : Nat} {σ τ : xs} {v : Option Value} (h : PB o u σ v τ) : ∃ b, b ≤ 1 ∧ v = some (.int (nI b)) := by
  cases o with
  | none => exact ⟨0, by decide, (h.1 rfl).1⟩
  | some S => exact ⟨1, by decide, (h.2 S rfl).1⟩
theorem PB_u {o : Option rst} {u : Nat} {σ τ υ : xs} {v : Option Value} (hf : Fu u σ τ) (h : PB o u τ v υ) : PB o u σ v υ := ⟨fun e => ⟨(h.1 e).1, hf.tr (h.1 e).2⟩, fun S' e => ⟨(h.2 S' e).1, (h.2 S' e).2.1, hf.tr (h.2 S' e).2.2⟩⟩
theorem gI8 : ∀ t, t ≤ 8 → (gI t < 0 ↔ t = 0) ∧ (0 ≤ gI t ↔ ¬ t = 0) ∧ (¬ t = 0 → nI 1000 + gI t = nI (999 + t)) := by decide +kernel
set_option maxHeartbeats 4000000 in
theorem x_takeThing {l : xLa} {d : Nat} {σ : xs} {u q s : Nat} {S : rst} (hu : isR u) (hI : RI S q) (hq : q < 40) (hn : rN S = 1) (hR : RX σ u S) (hs : s < 256) : TC l M_Rule_takeThing (d + 8) [.ref u, .int (nI s)] σ (PB (tkT S s) u σ) := by
  obtain ⟨hW, f5, f6, f7, f8⟩ := hR
  obtain ⟨i1, i2, i3, ⟨i4, i5, i6, i7⟩, i8, i9, i10⟩ := hI
  have g8 := gI8 (ltN s) (lt_c s).1
  show T l M_Rule_takeThing (d + 8) 0 _ [] σ _
  refine T_lv (lv2 := [_, _, _, _]) rfl ?_
  refine tt_iload_n d_Rule_takeThing_0 rfl ?_
  refine tt_bipush (v := nI 45) d_Rule_takeThing_1 (by decide) ?_
  refine tn_ic_ne (t := 15) (by omega) (by omega) d_Rule_takeThing_3 (by decide) (fun c_3 => ?_) (fun c_3 => ?_)
  · refine tt_iload_n d_Rule_takeThing_15 rfl ?_
    refine tt_bipush (v := nI 40) d_Rule_takeThing_16 (by decide) ?_
    refine tn_ic_ne (t := 67) (by omega) (by omega) d_Rule_takeThing_18 (by decide) (fun c_18 => ?_) (fun c_18 => ?_)
    · refine E.ldcS (j := 0) rfl rfl rfl d_Rule_takeThing_67 ?_
      refine tt_iload_n d_Rule_takeThing_69 rfl ?_
      refine tt_i2c d_Rule_takeThing_70 ?_
      refine tt_top (c16_N hs) ?_
      refine tt_callT (s_ix (d := d) (j := 0) (m := s) (by decide) (by omega) (by decide)) cw_String_indexOf rfl (by decide) rfl (by omega) d_Rule_takeThing_71 rfl rfl (Nat.le_of_ble_eq_true rfl) (Nat.le_of_ble_eq_true rfl) rfl rfl rfl (fun v σ2 q => ?_)
      obtain ⟨rfl, e9⟩ := q
      rw [e9]
      clear e9
      refine tt_top (y := gI (ltN s)) (by rw [if_pos (by omega)]; exact ix_lt s hs) ?_
      refine tt_istore_n (lv2 := [_, _, _, _]) d_Rule_takeThing_74 (by decide) rfl ?_
      refine tt_iload_n d_Rule_takeThing_75 rfl ?_
      refine tt_bipush (v := nI 48) d_Rule_takeThing_76 (by decide) ?_
      refine tn_ic_lt (t := 91) (by omega) (by omega) d_Rule_takeThing_78 (by decide) (fun c_78 => ?_) (fun c_78 => ?_)
      · refine tt_iconst (v := nI 0) d_Rule_takeThing_91 (by decide) ?_
        refine tt_istore_n (lv2 := [_, _, _, _]) d_Rule_takeThing_92 (by decide) rfl ?_
        refine tt_iload_n d_Rule_takeThing_93 rfl ?_
        refine tn_if_eq (t := 108) (by omega) d_Rule_takeThing_94 (by decide) (fun c_94 => ?_) (fun c_94 => ?_)
        · refine tt_iload_n d_Rule_takeThing_108 rfl ?_
          refine tt_if_lt (t := 121) d_Rule_takeThing_109 (by decide) (fun c_109 => ?_) (fun c_109 => ?_)
          · have z0 := g8.1.mp c_109
            refine tt_aload_n d_Rule_takeThing_121 rfl ?_
            refine tt_iload_n d_Rule_takeThing_122 rfl ?_
            refine tn_if_eq (t := 130) (by omega) d_Rule_takeThing_123 (by decide) (fun c_123 => ?_) (fun c_123 => ?_)
            · refine tt_iconst (v := nI 0) d_Rule_takeThing_130 (by decide) ?_
              refine tt_putI d_Rule_takeThing_131 rfl (xR_sh hu) (by decide) (xR_i hu _ (by decide)) (xpok_int rfl) rfl ?_
              refine tt_aload_n d_Rule_takeThing_134 rfl ?_
              refine tt_iload_n d_Rule_takeThing_135 rfl ?_
              refine tn_if_ne (t := 147) (by omega) d_Rule_takeThing_136 (by decide) (fun c_136 => ?_) (fun c_136 => ?_)
              · omega
              · refine tt_iload_n d_Rule_takeThing_139 rfl ?_
                refine tt_if_ge (t := 147) d_Rule_takeThing_140 (by decide) (fun c_140 => ?_) (fun c_140 => ?_)
                · exact absurd z0 (g8.2.1.mp c_140)
                · refine tt_iconst (v := nI 1) d_Rule_takeThing_143 (by decide) ?_
                  refine tt_goto (t := 148) d_Rule_takeThing_144 (by decide) ?_
                  refine tt_putI d_Rule_takeThing_148 rfl (xR_sh hu) (by decide) (xR_i hu _ (by decide)) (by decide) rfl ?_
                  refine tt_aload_n d_Rule_takeThing_151 rfl ?_
                  refine tn_get d_Rule_takeThing_152 rfl (xR_sh hu) (by decide) (xR_i hu _ (by decide)) sfy ?_
                  refine tn_if_ne (t := 162) (by omega) d_Rule_takeThing_155 (by decide) (fun c_155 => ?_) (fun c_155 => ?_)
                  · refine tt_iconst (v := nI 0) d_Rule_takeThing_162 (by decide) ?_
                    refine tt_zret rfl rfl d_Rule_takeThing_163 ?_
                    have e : tkT S s = none := (if_neg (by omega)).trans ((if_neg (by omega)).trans ((if_neg (by omega)).trans (if_pos z0)))
                    rw [e]
                    exact PB_n (Fu.f.tr Fu.f)
                  · omega
            · omega
          · have z0 : ¬ ltN s = 0 := fun z => c_109 (g8.1.mpr z)
            refine tt_aload_n d_Rule_takeThing_112 rfl ?_
            refine tt_sipush (v := nI 1000) d_Rule_takeThing_113 (by decide) ?_
            refine tt_iload_n d_Rule_takeThing_116 rfl ?_
            refine tt_iadd d_Rule_takeThing_117 ?_
            refine tt_top (g8.2.2 z0) ?_
            refine tt_callV (x_emit (d := d) (v := nI (999 + ltN s)) hu hW.1 (by omega)) cw_Rule_emit rfl (xR_sh hu) (by decide) rfl (by omega) d_Rule_takeThing_118 rfl rfl (Nat.le_of_ble_eq_true rfl) (Nat.le_of_ble_eq_true rfl) rfl rfl rfl (fun v σ2 q => ?_)
            obtain ⟨rfl, e9⟩ := q
            rw [e9]
            clear e9
            refine tt_aload_n d_Rule_takeThing_121 rfl ?_
            refine tt_iload_n d_Rule_takeThing_122 rfl ?_
            refine tn_if_eq (t := 130) (by omega) d_Rule_takeThing_123 (by decide) (fun c_123 => ?_) (fun c_123 => ?_)
            · refine tt_iconst (v := nI 0) d_Rule_takeThing_130 (by decide) ?_
              refine tt_putI d_Rule_takeThing_131 rfl (xR_sh hu) (by decide) (xR_i hu _ (by decide)) (xpok_int rfl) rfl ?_
              refine tt_aload_n d_Rule_takeThing_134 rfl ?_
              refine tt_iload_n d_Rule_takeThing_135 rfl ?_
              refine tn_if_ne (t := 147) (by omega) d_Rule_takeThing_136 (by decide) (fun c_136 => ?_) (fun c_136 => ?_)
              · omega
              · refine tt_iload_n d_Rule_takeThing_139 rfl ?_
                refine tt_if_ge (t := 147) d_Rule_takeThing_140 (by decide) (fun c_140 => ?_) (fun c_140 => ?_)
                · refine tt_iconst (v := nI 0) d_Rule_takeThing_147 (by decide) ?_
                  refine tt_putI d_Rule_takeThing_148 rfl (xR_sh hu) (by decide) (xR_i hu _ (by decide)) (by decide) rfl ?_
                  refine tt_aload_n d_Rule_takeThing_151 rfl ?_
                  refine tn_get d_Rule_takeThing_152 rfl (xR_sh hu) (by decide) (xR_i hu _ (by decide)) sfy ?_
                  refine tn_if_ne (t := 162) (by omega) d_Rule_takeThing_155 (by decide) (fun c_155 => ?_) (fun c_155 => ?_)
                  · omega
                  · refine tt_iconst (v := nI 1) d_Rule_takeThing_158 (by decide) ?_
                    refine tt_goto (t := 163) d_Rule_takeThing_159 (by decide) ?_
                    refine tt_zret rfl rfl d_Rule_takeThing_163 ?_
                    have e : tkT S s = some (((999 + ltN s) :: rC S, rW S), (rD S, rM S), 0, 0) := (if_neg (by omega)).trans ((if_neg (by omega)).trans ((if_neg (by omega)).trans (if_neg z0)))
                    rw [e]
                    exact PB_s (Fu.c.tr (Fu.f.tr (Fu.f.tr Fu.f))) ⟨⟨sfn (sfn sfy (by decide)) (by decide), sfn (sfn (sfn hW.2.1 (by decide)) (by decide)) (by decide), AL_f (AL_f (AL_f (AL_p hW.2.2.1))), AL_f (AL_f (AL_f (AL_q hW.2.2.2 (by omega))))⟩, sfn (sfn (sfn f5 (by decide)) (by decide)) (by decide), sfn (sfn (sfn f6 (by decide)) (by decide)) (by decide), sfn sfy (by decide), sfy⟩
                · exact absurd (g8.2.1.mpr z0) c_140
            · omega
        · omega
      · refine tt_iload_n d_Rule_takeThing_81 rfl ?_
        refine tt_bipush (v := nI 57) d_Rule_takeThing_82 (by decide) ?_
        refine tn_ic_gt (t := 91) (by omega) (by omega) d_Rule_takeThing_84 (by decide) (fun c_84 => ?_) (fun c_84 => ?_)
        · refine tt_iconst (v := nI 0) d_Rule_takeThing_91 (by decide) ?_
          refine tt_istore_n (lv2 := [_, _, _, _]) d_Rule_takeThing_92 (by decide) rfl ?_
          refine tt_iload_n d_Rule_takeThing_93 rfl ?_
          refine tn_if_eq (t := 108) (by omega) d_Rule_takeThing_94 (by decide) (fun c_94 => ?_) (fun c_94 => ?_)
          · refine tt_iload_n d_Rule_takeThing_108 rfl ?_
            refine tt_if_lt (t := 121) d_Rule_takeThing_109 (by decide) (fun c_109 => ?_) (fun c_109 => ?_)
            · have z0 := g8.1.mp c_109
              refine tt_aload_n d_Rule_takeThing_121 rfl ?_
              refine tt_iload_n d_Rule_takeThing_122 rfl ?_
              refine tn_if_eq (t := 130) (by omega) d_Rule_takeThing_123 (by decide) (fun c_123 => ?_) (fun c_123 => ?_)
              · refine tt_iconst (v := nI 0) d_Rule_takeThing_130 (by decide) ?_
                refine tt_putI d_Rule_takeThing_131 rfl (xR_sh hu) (by decide) (xR_i hu _ (by decide)) (xpok_int rfl) rfl ?_
                refine tt_aload_n d_Rule_takeThing_134 rfl ?_
                refine tt_iload_n d_Rule_takeThing_135 rfl ?_
                refine tn_if_ne (t := 147) (by omega) d_Rule_takeThing_136 (by decide) (fun c_136 => ?_) (fun c_136 => ?_)
                · omega
                · refine tt_iload_n d_Rule_takeThing_139 rfl ?_
                  refine tt_if_ge (t := 147) d_Rule_takeThing_140 (by decide) (fun c_140 => ?_) (fun c_140 => ?_)
                  · exact absurd z0 (g8.2.1.mp c_140)
                  · refine tt_iconst (v := nI 1) d_Rule_takeThing_143 (by decide) ?_
                    refine tt_goto (t := 148) d_Rule_takeThing_144 (by decide) ?_
                    refine tt_putI d_Rule_takeThing_148 rfl (xR_sh hu) (by decide) (xR_i hu _ (by decide)) (by decide) rfl ?_
                    refine tt_aload_n d_Rule_takeThing_151 rfl ?_
                    refine tn_get d_Rule_takeThing_152 rfl (xR_sh hu) (by decide) (xR_i hu _ (by decide)) sfy ?_
                    refine tn_if_ne (t := 162) (by omega) d_Rule_takeThing_155 (by decide) (fun c_155 => ?_) (fun c_155 => ?_)
                    · refine tt_iconst (v := nI 0) d_Rule_takeThing_162 (by decide) ?_
                      refine tt_zret rfl rfl d_Rule_takeThing_163 ?_
                      have e : tkT S s = none := (if_neg (by omega)).trans ((if_neg (by omega)).trans ((if_neg (by omega)).trans (if_pos z0)))
                      rw [e]
                      exact PB_n (Fu.f.tr Fu.f)
                    · omega
              · omega
            · have z0 : ¬ ltN s = 0 := fun z => c_109 (g8.1.mpr z)
              refine tt_aload_n d_Rule_takeThing_112 rfl ?_
              refine tt_sipush (v := nI 1000) d_Rule_takeThing_113 (by decide) ?_
              refine tt_iload_n d_Rule_takeThing_116 rfl ?_
              refine tt_iadd d_Rule_takeThing_117 ?_
              refine tt_top (g8.2.2 z0) ?_
              refine tt_callV (x_emit (d := d) (v := nI (999 + ltN s)) hu hW.1 (by omega)) cw_Rule_emit rfl (xR_sh hu) (by decide) rfl (by omega) d_Rule_takeThing_118 rfl rfl (Nat.le_of_ble_eq_true rfl) (Nat.le_of_ble_eq_true rfl) rfl rfl rfl (fun v σ2 q => ?_)
              obtain ⟨rfl, e9⟩ := q
              rw [e9]
              clear e9
              refine tt_aload_n d_Rule_takeThing_121 rfl ?_
              refine tt_iload_n d_Rule_takeThing_122 rfl ?_
              refine tn_if_eq (t := 130) (by omega) d_Rule_takeThing_123 (by decide) (fun c_123 => ?_) (fun c_123 => ?_)
              · refine tt_iconst (v := nI 0) d_Rule_takeThing_130 (by decide) ?_
                refine tt_putI d_Rule_takeThing_131 rfl (xR_sh hu) (by decide) (xR_i hu _ (by decide)) (xpok_int rfl) rfl ?_
                refine tt_aload_n d_Rule_takeThing_134 rfl ?_
                refine tt_iload_n d_Rule_takeThing_135 rfl ?_
                refine tn_if_ne (t := 147) (by omega) d_Rule_takeThing_136 (by decide) (fun c_136 => ?_) (fun c_136 => ?_)
                · omega
                · refine tt_iload_n d_Rule_takeThing_139 rfl ?_
                  refine tt_if_ge (t := 147) d_Rule_takeThing_140 (by decide) (fun c_140 => ?_) (fun c_140 => ?_)
                  · refine tt_iconst (v := nI 0) d_Rule_takeThing_147 (by decide) ?_
                    refine tt_putI d_Rule_takeThing_148 rfl (xR_sh hu) (by decide) (xR_i hu _ (by decide)) (by decide) rfl ?_
                    refine tt_aload_n d_Rule_takeThing_151 rfl ?_
                    refine tn_get d_Rule_takeThing_152 rfl (xR_sh hu) (by decide) (xR_i hu _ (by decide)) sfy ?_
                    refine tn_if_ne (t := 162) (by omega) d_Rule_takeThing_155 (by decide) (fun c_155 => ?_) (fun c_155 => ?_)
                    · omega
                    · refine tt_iconst (v := nI 1) d_Rule_takeThing_158 (by decide) ?_
                      refine tt_goto (t := 163) d_Rule_takeThing_159 (by decide) ?_
                      refine tt_zret rfl rfl d_Rule_takeThing_163 ?_
                      have e : tkT S s = some (((999 + ltN s) :: rC S, rW S), (rD S, rM S), 0, 0) := (if_neg (by omega)).trans ((if_neg (by omega)).trans ((if_neg (by omega)).trans (if_neg z0)))
                      rw [e]
                      exact PB_s (Fu.c.tr (Fu.f.tr (Fu.f.tr Fu.f))) ⟨⟨sfn (sfn sfy (by decide)) (by decide), sfn (sfn (sfn hW.2.1 (by decide)) (by decide)) (by decide), AL_f (AL_f (AL_f (AL_p hW.2.2.1))), AL_f (AL_f (AL_f (AL_q hW.2.2.2 (by omega))))⟩, sfn (sfn (sfn f5 (by decide)) (by decide)) (by decide), sfn (sfn (sfn f6 (by decide)) (by decide)) (by decide), sfn sfy (by decide), sfy⟩
                  · exact absurd (g8.2.1.mpr z0) c_140
              · omega
          · omega
        · refine tt_iconst (v := nI 1) d_Rule_takeThing_87 (by decide) ?_
          refine tt_goto (t := 92) d_Rule_takeThing_88 (by decide) ?_
          refine tt_istore_n (lv2 := [_, _, _, _]) d_Rule_takeThing_92 (by decide) rfl ?_
          refine tt_iload_n d_Rule_takeThing_93 rfl ?_
          refine tn_if_eq (t := 108) (by omega) d_Rule_takeThing_94 (by decide) (fun c_94 => ?_) (fun c_94 => ?_)
          · omega
          · refine tt_aload_n d_Rule_takeThing_97 rfl ?_
            refine tt_iload_n d_Rule_takeThing_98 rfl ?_
            refine tt_bipush (v := nI 48) d_Rule_takeThing_99 (by decide) ?_
            refine tn_isub (by omega) d_Rule_takeThing_101 ?_
            refine tt_callV (x_emit (d := d) (v := nI (s - 48)) hu hW.1 (by omega)) cw_Rule_emit rfl (xR_sh hu) (by decide) rfl (by omega) d_Rule_takeThing_102 rfl rfl (Nat.le_of_ble_eq_true rfl) (Nat.le_of_ble_eq_true rfl) rfl rfl rfl (fun v σ2 q => ?_)
            obtain ⟨rfl, e9⟩ := q
            rw [e9]
            clear e9
            refine tt_goto (t := 121) d_Rule_takeThing_105 (by decide) ?_
            refine tt_aload_n d_Rule_takeThing_121 rfl ?_
            refine tt_iload_n d_Rule_takeThing_122 rfl ?_
            refine tn_if_eq (t := 130) (by omega) d_Rule_takeThing_123 (by decide) (fun c_123 => ?_) (fun c_123 => ?_)
            · omega
            · refine tt_iconst (v := nI 1) d_Rule_takeThing_126 (by decide) ?_
              refine tt_goto (t := 131) d_Rule_takeThing_127 (by decide) ?_
              refine tt_putI d_Rule_takeThing_131 rfl (xR_sh hu) (by decide) (xR_i hu _ (by decide)) (xpok_int rfl) rfl ?_
              refine tt_aload_n d_Rule_takeThing_134 rfl ?_
              refine tt_iload_n d_Rule_takeThing_135 rfl ?_
              refine tn_if_ne (t := 147) (by omega) d_Rule_takeThing_136 (by decide) (fun c_136 => ?_) (fun c_136 => ?_)
              · refine tt_iconst (v := nI 0) d_Rule_takeThing_147 (by decide) ?_
                refine tt_putI d_Rule_takeThing_148 rfl (xR_sh hu) (by decide) (xR_i hu _ (by decide)) (by decide) rfl ?_
                refine tt_aload_n d_Rule_takeThing_151 rfl ?_
                refine tn_get d_Rule_takeThing_152 rfl (xR_sh hu) (by decide) (xR_i hu _ (by decide)) sfy ?_
                refine tn_if_ne (t := 162) (by omega) d_Rule_takeThing_155 (by decide) (fun c_155 => ?_) (fun c_155 => ?_)
                · omega
                · refine tt_iconst (v := nI 1) d_Rule_takeThing_158 (by decide) ?_
                  refine tt_goto (t := 163) d_Rule_takeThing_159 (by decide) ?_
                  refine tt_zret rfl rfl d_Rule_takeThing_163 ?_
                  have e : tkT S s = some (((s - 48) :: rC S, rW S), (rD S, rM S), 1, 0) := (if_neg (by omega)).trans ((if_neg (by omega)).trans (if_pos (by omega)))
                  rw [e]
                  exact PB_s (Fu.c.tr (Fu.f.tr (Fu.f.tr Fu.f))) ⟨⟨sfn (sfn sfy (by decide)) (by decide), sfn (sfn (sfn hW.2.1 (by decide)) (by decide)) (by decide), AL_f (AL_f (AL_f (AL_p hW.2.2.1))), AL_f (AL_f (AL_f (AL_q hW.2.2.2 (by omega))))⟩, sfn (sfn (sfn f5 (by decide)) (by decide)) (by decide), sfn (sfn (sfn f6 (by decide)) (by decide)) (by decide), sfn sfy (by decide), sfy⟩
              · omega
    · subst c_18
      have e : tkT S 40 = if rD S = 4 then none else some ((rC S, 40 :: rW S), (rD S + 1, clb (rM S) (rD S + 1)), rG S, 1) := rfl
      rw [e]
      refine tt_aload_n d_Rule_takeThing_21 rfl ?_
      refine tt_dup d_Rule_takeThing_22 rfl ?_
      refine tn_get d_Rule_takeThing_23 rfl (xR_sh hu) (by decide) (xR_i hu _ (by decide)) f5 ?_
      refine tt_iconst (v := nI 1) d_Rule_takeThing_26 (by decide) ?_
      refine tn_iadd d_Rule_takeThing_27 ?_
      refine tt_putI d_Rule_takeThing_28 rfl (xR_sh hu) (by decide) (xR_i hu _ (by decide)) (xpok_int rfl) rfl ?_
      refine tt_aload_n d_Rule_takeThing_31 rfl ?_
      refine tt_dup d_Rule_takeThing_32 rfl ?_
      refine tn_get d_Rule_takeThing_33 rfl (xR_sh hu) (by decide) (xR_i hu _ (by decide)) (sfn f6 (by decide)) ?_
      refine tt_iconst (v := nI 1) d_Rule_takeThing_36 (by decide) ?_
      refine tt_aload_n d_Rule_takeThing_37 rfl ?_
      refine tn_get d_Rule_takeThing_38 rfl (xR_sh hu) (by decide) (xR_i hu _ (by decide)) sfy ?_
      refine tt_ishl d_Rule_takeThing_41 ?_
      refine tt_top (shl_9 _ (by omega)) ?_
      refine tt_iconst (v := (-1)) d_Rule_takeThing_42 (by decide) ?_
      refine tt_ixor d_Rule_takeThing_43 ?_
      refine tt_iand d_Rule_takeThing_44 ?_
      refine tt_top (clb_I _ (by omega) _ i5) ?_
      refine tt_putI d_Rule_takeThing_45 rfl (xR_sh hu) (by decide) (xR_i hu _ (by decide)) (xpok_int rfl) rfl ?_
      refine tt_aload_n d_Rule_takeThing_48 rfl ?_
      refine tt_iload_n d_Rule_takeThing_49 rfl ?_
      refine tt_callV (x_await (d := d) (v := nI 40) hu (sfn (sfn hW.2.1 (by decide)) (by decide)) (by omega)) cw_Rule_await rfl (xR_sh hu) (by decide) rfl (by omega) d_Rule_takeThing_50 rfl rfl (Nat.le_of_ble_eq_true rfl) (Nat.le_of_ble_eq_true rfl) rfl rfl rfl (fun v σ2 q => ?_)
      obtain ⟨rfl, e9⟩ := q
      rw [e9]
      clear e9
      refine tt_aload_n d_Rule_takeThing_53 rfl ?_
      refine tn_get d_Rule_takeThing_54 rfl (xR_sh hu) (by decide) (xR_i hu _ (by decide)) (sfn (sfn (sfy (x := nI (rD S + 1))) (by decide)) (by decide)) ?_
      refine tt_iconst (v := nI 4) d_Rule_takeThing_57 (by decide) ?_
      refine tn_ic_gt (t := 65) (by omega) (by omega) d_Rule_takeThing_58 (by decide) (fun c_58 => ?_) (fun c_58 => ?_)
      · rw [if_pos (by omega)]
        refine tt_iconst (v := nI 0) d_Rule_takeThing_65 (by decide) ?_
        refine tt_zret rfl rfl d_Rule_takeThing_66 ?_
        exact PB_n (Fu.f.tr (Fu.f.tr (Fu.w.tr Fu.f)))
      · rw [if_neg (by omega)]
        refine tt_iconst (v := nI 1) d_Rule_takeThing_61 (by decide) ?_
        refine tt_goto (t := 66) d_Rule_takeThing_62 (by decide) ?_
        refine tt_zret rfl rfl d_Rule_takeThing_66 ?_
        exact PB_s (Fu.f.tr (Fu.f.tr (Fu.w.tr Fu.f))) ⟨⟨sfn (sfn (sfn hW.1 (by decide)) (by decide)) (by decide), sfy, AL_f (AL_q (AL_f (AL_f hW.2.2.1)) (by omega)), AL_f (AL_p (AL_f (AL_f hW.2.2.2)))⟩, sfn (sfn (sfy (x := nI (rD S + 1))) (by decide)) (by decide), sfn (sfy (x := nI (clb (rM S) (rD S + 1)))) (by decide), sfn (sfn (sfn f7 (by decide)) (by decide)) (by decide), sfn (sfn (sfn (hn ▸ f8) (by decide)) (by decide)) (by decide)⟩
  · subst c_3
    have e : tkT S 45 = some ((rC S, 3000 :: rW S), (rD S, rM S), rG S, 1) := rfl
    rw [e]
    refine tt_aload_n d_Rule_takeThing_6 rfl ?_
    refine tt_sipush (v := nI 3000) d_Rule_takeThing_7 (by decide) ?_
    refine tt_callV (x_await (d := d) (v := nI 3000) hu hW.2.1 (by omega)) cw_Rule_await rfl (xR_sh hu) (by decide) rfl (by omega) d_Rule_takeThing_10 rfl rfl (Nat.le_of_ble_eq_true rfl) (Nat.le_of_ble_eq_true rfl) rfl rfl rfl (fun v σ2 q => ?_)
    obtain ⟨rfl, e9⟩ := q
    rw [e9]
    clear e9
    refine tt_iconst (v := nI 1) d_Rule_takeThing_13 (by decide) ?_
    refine tt_zret rfl rfl d_Rule_takeThing_14 ?_
    exact PB_s (Fu.w.tr Fu.f) ⟨⟨sfn hW.1 (by decide), sfy, AL_f (AL_q hW.2.2.1 (by omega)), AL_f (AL_p hW.2.2.2)⟩, sfn f5 (by decide), sfn f6 (by decide), sfn f7 (by decide), sfn (hn ▸ f8) (by decide)⟩

set_option maxHeartbeats 4000000 in
theorem x_takeBehind {l : xLa} {d : Nat} {σ : xs} {u q s : Nat} {S : rst} (hu : isR u) (hI : RI S q) (hq : q < 40) (hn : rN S = 0) (hR : RX σ u S) (hs : s < 256) : TC l M_Rule_takeBehind (d + 8) [.ref u, .int (nI s)] σ (PB (tkB S s) u σ) := by
  have hR0 := hR
  have hI0 := hI
  obtain ⟨hW, f5, f6, f7, f8⟩ := hR
  obtain ⟨i1, i2, i3, ⟨i4, i5, i6, i7⟩, i8, i9, i10⟩ := hI
  have hI1 : RI ((rC S, rW S), (rD S, rM S), 0, rN S) q := RI_mk i1 i2 i3 ⟨i4, i5, by decide, i7⟩ i8 i9 (fun _ z => absurd z (Nat.lt_irrefl 0))
  have hW1 : RW (wF σ u 7 (nI 0)) u (rC S) (rW S) := ⟨sfn hW.1 (by decide), sfn hW.2.1 (by decide), AL_f hW.2.2.1, AL_f hW.2.2.2⟩
  have hR1 : RX (wF σ u 7 (nI 0)) u ((rC S, rW S), (rD S, rM S), 0, rN S) := ⟨hW1, sfn f5 (by decide), sfn f6 (by decide), sfy, sfn f8 (by decide)⟩
  have t5 := tbN_c (rM S) (rD S)
  have b3 : bnd s ≤ 3 := by
    by_cases z : bnd s = 0
    · omega
    · exact (bnd_c z).2.1
  show T l M_Rule_takeBehind (d + 8) 0 _ [] σ _
  refine T_lv (lv2 := [_, _, _]) rfl ?_
  refine tt_iload_n d_Rule_takeBehind_0 rfl ?_
  refine tt_bipush (v := nI 48) d_Rule_takeBehind_1 (by decide) ?_
  refine tn_ic_lt (t := 21) (by omega) (by omega) d_Rule_takeBehind_3 (by decide) (fun c_3 => ?_) (fun c_3 => ?_)
  · refine tt_aload_n d_Rule_takeBehind_21 rfl ?_
    refine tt_iconst (v := nI 0) d_Rule_takeBehind_22 (by decide) ?_
    refine tt_putI d_Rule_takeBehind_23 rfl (xR_sh hu) (by decide) (xR_i hu _ (by decide)) (xpok_int rfl) rfl ?_
    refine tt_iload_n d_Rule_takeBehind_26 rfl ?_
    refine tt_bipush (v := nI 41) d_Rule_takeBehind_27 (by decide) ?_
    refine tn_ic_ne (t := 37) (by omega) (by omega) d_Rule_takeBehind_29 (by decide) (fun c_29 => ?_) (fun c_29 => ?_)
    · refine tt_iload_n d_Rule_takeBehind_37 rfl ?_
      refine tt_callS (x_bindingOf (d := d) (s := s) (by omega)) cw_Rule_bindingOf rfl (by omega) d_Rule_takeBehind_38 rfl rfl (Nat.le_of_ble_eq_true rfl) (Nat.le_of_ble_eq_true rfl) rfl rfl rfl (fun v σ2 q => ?_)
      obtain ⟨rfl, e9⟩ := q
      rw [e9]
      clear e9
      refine tt_istore_n (lv2 := [_, _, _]) d_Rule_takeBehind_41 (by decide) rfl ?_
      refine tt_iload_n d_Rule_takeBehind_42 rfl ?_
      refine tn_if_eq (t := 66) (by omega) d_Rule_takeBehind_43 (by decide) (fun c_43 => ?_) (fun c_43 => ?_)
      · refine tt_iconst (v := nI 0) d_Rule_takeBehind_66 (by decide) ?_
        refine tt_zret rfl rfl d_Rule_takeBehind_67 ?_
        have e : tkB S s = none := (if_neg (by omega)).trans ((if_neg (by omega)).trans (if_pos (Or.inl c_43)))
        rw [e]
        exact PB_n Fu.f
      · refine tt_iload_n d_Rule_takeBehind_46 rfl ?_
        refine tt_iconst (v := nI 1) d_Rule_takeBehind_47 (by decide) ?_
        refine tn_ic_ne (t := 68) (by omega) (by omega) d_Rule_takeBehind_48 (by decide) (fun c_48 => ?_) (fun c_48 => ?_)
        · refine tt_aload_n d_Rule_takeBehind_68 rfl ?_
          refine tt_dup d_Rule_takeBehind_69 rfl ?_
          have n3 : ¬ (bnd s = 0 ∨ (bnd s = 1 ∧ (rM S).testBit (rD S) = true)) := fun z => by
            rcases z with z | z
            · exact c_43 z
            · exact c_48 z.1
          have e : tkB S s = some (((stl (bnd s) (rW S) (rC S)).1, (2000 + s) :: (stl (bnd s) (rW S) (rC S)).2), (rD S, if bnd s = 1 then rM S ||| 2 ^ rD S else rM S), 0, 1) := (if_neg (by omega)).trans ((if_neg (by omega)).trans (if_neg n3))
          rw [e]
          obtain ⟨a1, a2, a3, a4, a5, a6⟩ := stl_ok (b := bnd s) (rW S) (rC S) i2 i8 (by omega)
          obtain ⟨k1, k2, k3, k4, k5, k6⟩ := bnd_c (s := s) (fun z => n3 (Or.inl z))
          refine tn_get d_Rule_takeBehind_70 rfl (xR_sh hu) (by decide) (xR_i hu _ (by decide)) (sfn f6 (by decide)) ?_
          refine tt_iload_n d_Rule_takeBehind_73 rfl ?_
          refine tt_iconst (v := nI 1) d_Rule_takeBehind_74 (by decide) ?_
          refine tn_ic_ne (t := 87) (by omega) (by omega) d_Rule_takeBehind_75 (by decide) (fun c_75 => ?_) (fun c_75 => ?_)
          · rw [if_neg c_75]
            refine tt_iconst (v := nI 0) d_Rule_takeBehind_87 (by decide) ?_
            refine tt_ior d_Rule_takeBehind_88 ?_
            refine tt_top (or_N _ _) ?_
            refine tt_top (y := nI (rM S)) (by rw [Nat.or_zero]) ?_
            refine tt_putI d_Rule_takeBehind_89 rfl (xR_sh hu) (by decide) (xR_i hu _ (by decide)) (xpok_int rfl) rfl ?_
            refine tt_aload_n d_Rule_takeBehind_92 rfl ?_
            refine tt_iload_n d_Rule_takeBehind_93 rfl ?_
            refine tt_callV (x_settle (d := d) (C := rC S) (W := rW S) hu (b := bnd s) b3 i2 (by omega) ⟨sfn hW1.1 (by decide), sfn hW1.2.1 (by decide), AL_f hW1.2.2.1, AL_f hW1.2.2.2⟩) cw_Rule_settle rfl (xR_sh hu) (by decide) rfl (by omega) d_Rule_takeBehind_94 rfl rfl (Nat.le_of_ble_eq_true rfl) (Nat.le_of_ble_eq_true rfl) rfl rfl rfl (fun v σ2 q => ?_)
            obtain ⟨rfl, hW2, hF⟩ := q
            have g5 : sf σ2 u 5 = nI (rD S) := fsf hF (by decide) (sfn (sfn f5 (by decide)) (by decide))
            have g6 := fsf (k := 6) hF (by decide) sfy
            have g7 : sf σ2 u 7 = nI 0 := fsf hF (by decide) (sfn sfy (by decide))
            refine tt_aload_n d_Rule_takeBehind_97 rfl ?_
            refine tt_sipush (v := nI 2000) d_Rule_takeBehind_98 (by decide) ?_
            refine tt_iload_n d_Rule_takeBehind_101 rfl ?_
            refine tn_iadd d_Rule_takeBehind_102 ?_
            refine tt_callV (x_await (d := d) (v := nI (2000 + s)) hu hW2.2.1 (by omega)) cw_Rule_await rfl (xR_sh hu) (by decide) rfl (by omega) d_Rule_takeBehind_103 rfl rfl (Nat.le_of_ble_eq_true rfl) (Nat.le_of_ble_eq_true rfl) rfl rfl rfl (fun v σ2 q => ?_)
            obtain ⟨rfl, e9⟩ := q
            rw [e9]
            clear e9
            refine tt_aload_n d_Rule_takeBehind_106 rfl ?_
            refine tt_iconst (v := nI 1) d_Rule_takeBehind_107 (by decide) ?_
            refine tt_putI d_Rule_takeBehind_108 rfl (xR_sh hu) (by decide) (xR_i hu _ (by decide)) (by decide) rfl ?_
            refine tt_iconst (v := nI 1) d_Rule_takeBehind_111 (by decide) ?_
            refine tt_zret rfl rfl d_Rule_takeBehind_112 ?_
            exact PB_s (Fu.f.tr (Fu.f.tr ((Fs.u hF).tr (Fu.w.tr (Fu.f.tr Fu.f))))) ⟨⟨sfn (sfn hW2.1 (by decide)) (by decide), sfn sfy (by decide), AL_f (AL_f (AL_q hW2.2.2.1 (by omega))), AL_f (AL_f (AL_p hW2.2.2.2))⟩, sfn (sfn g5 (by decide)) (by decide), sfn (sfn g6 (by decide)) (by decide), sfn (sfn g7 (by decide)) (by decide), sfy⟩
          · rw [if_pos c_75]
            refine tt_iconst (v := nI 1) d_Rule_takeBehind_78 (by decide) ?_
            refine tt_aload_n d_Rule_takeBehind_79 rfl ?_
            refine tn_get d_Rule_takeBehind_80 rfl (xR_sh hu) (by decide) (xR_i hu _ (by decide)) (sfn f5 (by decide)) ?_
            refine tt_ishl d_Rule_takeBehind_83 ?_
            refine tt_top (shl_9 _ (by omega)) ?_
            refine tt_goto (t := 88) d_Rule_takeBehind_84 (by decide) ?_
            refine tt_ior d_Rule_takeBehind_88 ?_
            refine tt_top (or_N _ _) ?_
            skip
            refine tt_putI d_Rule_takeBehind_89 rfl (xR_sh hu) (by decide) (xR_i hu _ (by decide)) (xpok_int rfl) rfl ?_
            refine tt_aload_n d_Rule_takeBehind_92 rfl ?_
            refine tt_iload_n d_Rule_takeBehind_93 rfl ?_
            refine tt_callV (x_settle (d := d) (C := rC S) (W := rW S) hu (b := bnd s) b3 i2 (by omega) ⟨sfn hW1.1 (by decide), sfn hW1.2.1 (by decide), AL_f hW1.2.2.1, AL_f hW1.2.2.2⟩) cw_Rule_settle rfl (xR_sh hu) (by decide) rfl (by omega) d_Rule_takeBehind_94 rfl rfl (Nat.le_of_ble_eq_true rfl) (Nat.le_of_ble_eq_true rfl) rfl rfl rfl (fun v σ2 q => ?_)
            obtain ⟨rfl, hW2, hF⟩ := q
            have g5 : sf σ2 u 5 = nI (rD S) := fsf hF (by decide) (sfn (sfn f5 (by decide)) (by decide))
            have g6 := fsf (k := 6) hF (by decide) sfy
            have g7 : sf σ2 u 7 = nI 0 := fsf hF (by decide) (sfn sfy (by decide))
            refine tt_aload_n d_Rule_takeBehind_97 rfl ?_
            refine tt_sipush (v := nI 2000) d_Rule_takeBehind_98 (by decide) ?_
            refine tt_iload_n d_Rule_takeBehind_101 rfl ?_
            refine tn_iadd d_Rule_takeBehind_102 ?_
            refine tt_callV (x_await (d := d) (v := nI (2000 + s)) hu hW2.2.1 (by omega)) cw_Rule_await rfl (xR_sh hu) (by decide) rfl (by omega) d_Rule_takeBehind_103 rfl rfl (Nat.le_of_ble_eq_true rfl) (Nat.le_of_ble_eq_true rfl) rfl rfl rfl (fun v σ2 q => ?_)
            obtain ⟨rfl, e9⟩ := q
            rw [e9]
            clear e9
            refine tt_aload_n d_Rule_takeBehind_106 rfl ?_
            refine tt_iconst (v := nI 1) d_Rule_takeBehind_107 (by decide) ?_
            refine tt_putI d_Rule_takeBehind_108 rfl (xR_sh hu) (by decide) (xR_i hu _ (by decide)) (by decide) rfl ?_
            refine tt_iconst (v := nI 1) d_Rule_takeBehind_111 (by decide) ?_
            refine tt_zret rfl rfl d_Rule_takeBehind_112 ?_
            exact PB_s (Fu.f.tr (Fu.f.tr ((Fs.u hF).tr (Fu.w.tr (Fu.f.tr Fu.f))))) ⟨⟨sfn (sfn hW2.1 (by decide)) (by decide), sfn sfy (by decide), AL_f (AL_f (AL_q hW2.2.2.1 (by omega))), AL_f (AL_f (AL_p hW2.2.2.2))⟩, sfn (sfn g5 (by decide)) (by decide), sfn (sfn g6 (by decide)) (by decide), sfn (sfn g7 (by decide)) (by decide), sfy⟩
        · refine tt_aload_n d_Rule_takeBehind_51 rfl ?_
          refine tn_get d_Rule_takeBehind_52 rfl (xR_sh hu) (by decide) (xR_i hu _ (by decide)) (sfn f6 (by decide)) ?_
          refine tt_aload_n d_Rule_takeBehind_55 rfl ?_
          refine tn_get d_Rule_takeBehind_56 rfl (xR_sh hu) (by decide) (xR_i hu _ (by decide)) (sfn f5 (by decide)) ?_
          refine tt_iushr d_Rule_takeBehind_59 ?_
          refine tt_iconst (v := nI 1) d_Rule_takeBehind_60 (by decide) ?_
          refine tt_iand d_Rule_takeBehind_61 ?_
          refine tt_top (xbit_N (by omega) (by omega)) ?_
          refine tt_iconst (v := nI 1) d_Rule_takeBehind_62 (by decide) ?_
          refine tn_ic_ne (t := 68) (by omega) (by omega) d_Rule_takeBehind_63 (by decide) (fun c_63 => ?_) (fun c_63 => ?_)
          · refine tt_aload_n d_Rule_takeBehind_68 rfl ?_
            refine tt_dup d_Rule_takeBehind_69 rfl ?_
            have n3 : ¬ (bnd s = 0 ∨ (bnd s = 1 ∧ (rM S).testBit (rD S) = true)) := fun z => by
              rcases z with z | z
              · exact c_43 z
              · exact c_63 (t5.2.1.mpr z.2)
            have e : tkB S s = some (((stl (bnd s) (rW S) (rC S)).1, (2000 + s) :: (stl (bnd s) (rW S) (rC S)).2), (rD S, if bnd s = 1 then rM S ||| 2 ^ rD S else rM S), 0, 1) := (if_neg (by omega)).trans ((if_neg (by omega)).trans (if_neg n3))
            rw [e]
            obtain ⟨a1, a2, a3, a4, a5, a6⟩ := stl_ok (b := bnd s) (rW S) (rC S) i2 i8 (by omega)
            obtain ⟨k1, k2, k3, k4, k5, k6⟩ := bnd_c (s := s) (fun z => n3 (Or.inl z))
            refine tn_get d_Rule_takeBehind_70 rfl (xR_sh hu) (by decide) (xR_i hu _ (by decide)) (sfn f6 (by decide)) ?_
            refine tt_iload_n d_Rule_takeBehind_73 rfl ?_
            refine tt_iconst (v := nI 1) d_Rule_takeBehind_74 (by decide) ?_
            refine tn_ic_ne (t := 87) (by omega) (by omega) d_Rule_takeBehind_75 (by decide) (fun c_75 => ?_) (fun c_75 => ?_)
            · rw [if_neg c_75]
              refine tt_iconst (v := nI 0) d_Rule_takeBehind_87 (by decide) ?_
              refine tt_ior d_Rule_takeBehind_88 ?_
              refine tt_top (or_N _ _) ?_
              refine tt_top (y := nI (rM S)) (by rw [Nat.or_zero]) ?_
              refine tt_putI d_Rule_takeBehind_89 rfl (xR_sh hu) (by decide) (xR_i hu _ (by decide)) (xpok_int rfl) rfl ?_
              refine tt_aload_n d_Rule_takeBehind_92 rfl ?_
              refine tt_iload_n d_Rule_takeBehind_93 rfl ?_
              refine tt_callV (x_settle (d := d) (C := rC S) (W := rW S) hu (b := bnd s) b3 i2 (by omega) ⟨sfn hW1.1 (by decide), sfn hW1.2.1 (by decide), AL_f hW1.2.2.1, AL_f hW1.2.2.2⟩) cw_Rule_settle rfl (xR_sh hu) (by decide) rfl (by omega) d_Rule_takeBehind_94 rfl rfl (Nat.le_of_ble_eq_true rfl) (Nat.le_of_ble_eq_true rfl) rfl rfl rfl (fun v σ2 q => ?_)
              obtain ⟨rfl, hW2, hF⟩ := q
              have g5 : sf σ2 u 5 = nI (rD S) := fsf hF (by decide) (sfn (sfn f5 (by decide)) (by decide))
              have g6 := fsf (k := 6) hF (by decide) sfy
              have g7 : sf σ2 u 7 = nI 0 := fsf hF (by decide) (sfn sfy (by decide))
              refine tt_aload_n d_Rule_takeBehind_97 rfl ?_
              refine tt_sipush (v := nI 2000) d_Rule_takeBehind_98 (by decide) ?_
              refine tt_iload_n d_Rule_takeBehind_101 rfl ?_
              refine tn_iadd d_Rule_takeBehind_102 ?_
              refine tt_callV (x_await (d := d) (v := nI (2000 + s)) hu hW2.2.1 (by omega)) cw_Rule_await rfl (xR_sh hu) (by decide) rfl (by omega) d_Rule_takeBehind_103 rfl rfl (Nat.le_of_ble_eq_true rfl) (Nat.le_of_ble_eq_true rfl) rfl rfl rfl (fun v σ2 q => ?_)
              obtain ⟨rfl, e9⟩ := q
              rw [e9]
              clear e9
              refine tt_aload_n d_Rule_takeBehind_106 rfl ?_
              refine tt_iconst (v := nI 1) d_Rule_takeBehind_107 (by decide) ?_
              refine tt_putI d_Rule_takeBehind_108 rfl (xR_sh hu) (by decide) (xR_i hu _ (by decide)) (by decide) rfl ?_
              refine tt_iconst (v := nI 1) d_Rule_takeBehind_111 (by decide) ?_
              refine tt_zret rfl rfl d_Rule_takeBehind_112 ?_
              exact PB_s (Fu.f.tr (Fu.f.tr ((Fs.u hF).tr (Fu.w.tr (Fu.f.tr Fu.f))))) ⟨⟨sfn (sfn hW2.1 (by decide)) (by decide), sfn sfy (by decide), AL_f (AL_f (AL_q hW2.2.2.1 (by omega))), AL_f (AL_f (AL_p hW2.2.2.2))⟩, sfn (sfn g5 (by decide)) (by decide), sfn (sfn g6 (by decide)) (by decide), sfn (sfn g7 (by decide)) (by decide), sfy⟩
            · rw [if_pos c_75]
              refine tt_iconst (v := nI 1) d_Rule_takeBehind_78 (by decide) ?_
              refine tt_aload_n d_Rule_takeBehind_79 rfl ?_
              refine tn_get d_Rule_takeBehind_80 rfl (xR_sh hu) (by decide) (xR_i hu _ (by decide)) (sfn f5 (by decide)) ?_
              refine tt_ishl d_Rule_takeBehind_83 ?_
              refine tt_top (shl_9 _ (by omega)) ?_
              refine tt_goto (t := 88) d_Rule_takeBehind_84 (by decide) ?_
              refine tt_ior d_Rule_takeBehind_88 ?_
              refine tt_top (or_N _ _) ?_
              skip
              refine tt_putI d_Rule_takeBehind_89 rfl (xR_sh hu) (by decide) (xR_i hu _ (by decide)) (xpok_int rfl) rfl ?_
              refine tt_aload_n d_Rule_takeBehind_92 rfl ?_
              refine tt_iload_n d_Rule_takeBehind_93 rfl ?_
              refine tt_callV (x_settle (d := d) (C := rC S) (W := rW S) hu (b := bnd s) b3 i2 (by omega) ⟨sfn hW1.1 (by decide), sfn hW1.2.1 (by decide), AL_f hW1.2.2.1, AL_f hW1.2.2.2⟩) cw_Rule_settle rfl (xR_sh hu) (by decide) rfl (by omega) d_Rule_takeBehind_94 rfl rfl (Nat.le_of_ble_eq_true rfl) (Nat.le_of_ble_eq_true rfl) rfl rfl rfl (fun v σ2 q => ?_)
              obtain ⟨rfl, hW2, hF⟩ := q
              have g5 : sf σ2 u 5 = nI (rD S) := fsf hF (by decide) (sfn (sfn f5 (by decide)) (by decide))
              have g6 := fsf (k := 6) hF (by decide) sfy
              have g7 : sf σ2 u 7 = nI 0 := fsf hF (by decide) (sfn sfy (by decide))
              refine tt_aload_n d_Rule_takeBehind_97 rfl ?_
              refine tt_sipush (v := nI 2000) d_Rule_takeBehind_98 (by decide) ?_
              refine tt_iload_n d_Rule_takeBehind_101 rfl ?_
              refine tn_iadd d_Rule_takeBehind_102 ?_
              refine tt_callV (x_await (d := d) (v := nI (2000 + s)) hu hW2.2.1 (by omega)) cw_Rule_await rfl (xR_sh hu) (by decide) rfl (by omega) d_Rule_takeBehind_103 rfl rfl (Nat.le_of_ble_eq_true rfl) (Nat.le_of_ble_eq_true rfl) rfl rfl rfl (fun v σ2 q => ?_)
              obtain ⟨rfl, e9⟩ := q
              rw [e9]
              clear e9
              refine tt_aload_n d_Rule_takeBehind_106 rfl ?_
              refine tt_iconst (v := nI 1) d_Rule_takeBehind_107 (by decide) ?_
              refine tt_putI d_Rule_takeBehind_108 rfl (xR_sh hu) (by decide) (xR_i hu _ (by decide)) (by decide) rfl ?_
              refine tt_iconst (v := nI 1) d_Rule_takeBehind_111 (by decide) ?_
              refine tt_zret rfl rfl d_Rule_takeBehind_112 ?_
              exact PB_s (Fu.f.tr (Fu.f.tr ((Fs.u hF).tr (Fu.w.tr (Fu.f.tr Fu.f))))) ⟨⟨sfn (sfn hW2.1 (by decide)) (by decide), sfn sfy (by decide), AL_f (AL_f (AL_q hW2.2.2.1 (by omega))), AL_f (AL_f (AL_p hW2.2.2.2))⟩, sfn (sfn g5 (by decide)) (by decide), sfn (sfn g6 (by decide)) (by decide), sfn (sfn g7 (by decide)) (by decide), sfy⟩
          · refine tt_iconst (v := nI 0) d_Rule_takeBehind_66 (by decide) ?_
            refine tt_zret rfl rfl d_Rule_takeBehind_67 ?_
            have e : tkB S s = none := (if_neg (by omega)).trans ((if_neg (by omega)).trans (if_pos (Or.inr ⟨by omega, t5.2.1.mp (by omega)⟩)))
            rw [e]
            exact PB_n Fu.f
    · subst c_29
      refine tt_aload_n d_Rule_takeBehind_32 rfl ?_
      refine tt_callV (x_closeOne (d := d) (S := ((rC S, rW S), (rD S, rM S), 0, rN S)) hu hI1 (by omega) hn hR1 rfl) cw_Rule_closeOne rfl (xR_sh hu) (by decide) rfl (by omega) d_Rule_takeBehind_33 rfl rfl (Nat.le_of_ble_eq_true rfl) (Nat.le_of_ble_eq_true rfl) rfl rfl rfl (fun v σ2 q => ?_)
      obtain ⟨b9, hb9, rfl⟩ := PB_b q
      refine tt_zret rfl (nar_b hb9) d_Rule_takeBehind_36 ?_
      exact PB_u Fu.f q
  · refine tt_iload_n d_Rule_takeBehind_6 rfl ?_
    refine tt_bipush (v := nI 57) d_Rule_takeBehind_7 (by decide) ?_
    refine tn_ic_gt (t := 21) (by omega) (by omega) d_Rule_takeBehind_9 (by decide) (fun c_9 => ?_) (fun c_9 => ?_)
    · refine tt_aload_n d_Rule_takeBehind_21 rfl ?_
      refine tt_iconst (v := nI 0) d_Rule_takeBehind_22 (by decide) ?_
      refine tt_putI d_Rule_takeBehind_23 rfl (xR_sh hu) (by decide) (xR_i hu _ (by decide)) (xpok_int rfl) rfl ?_
      refine tt_iload_n d_Rule_takeBehind_26 rfl ?_
      refine tt_bipush (v := nI 41) d_Rule_takeBehind_27 (by decide) ?_
      refine tn_ic_ne (t := 37) (by omega) (by omega) d_Rule_takeBehind_29 (by decide) (fun c_29 => ?_) (fun c_29 => ?_)
      · refine tt_iload_n d_Rule_takeBehind_37 rfl ?_
        refine tt_callS (x_bindingOf (d := d) (s := s) (by omega)) cw_Rule_bindingOf rfl (by omega) d_Rule_takeBehind_38 rfl rfl (Nat.le_of_ble_eq_true rfl) (Nat.le_of_ble_eq_true rfl) rfl rfl rfl (fun v σ2 q => ?_)
        obtain ⟨rfl, e9⟩ := q
        rw [e9]
        clear e9
        refine tt_istore_n (lv2 := [_, _, _]) d_Rule_takeBehind_41 (by decide) rfl ?_
        refine tt_iload_n d_Rule_takeBehind_42 rfl ?_
        refine tn_if_eq (t := 66) (by omega) d_Rule_takeBehind_43 (by decide) (fun c_43 => ?_) (fun c_43 => ?_)
        · refine tt_iconst (v := nI 0) d_Rule_takeBehind_66 (by decide) ?_
          refine tt_zret rfl rfl d_Rule_takeBehind_67 ?_
          have e : tkB S s = none := (if_neg (by omega)).trans ((if_neg (by omega)).trans (if_pos (Or.inl c_43)))
          rw [e]
          exact PB_n Fu.f
        · refine tt_iload_n d_Rule_takeBehind_46 rfl ?_
          refine tt_iconst (v := nI 1) d_Rule_takeBehind_47 (by decide) ?_
          refine tn_ic_ne (t := 68) (by omega) (by omega) d_Rule_takeBehind_48 (by decide) (fun c_48 => ?_) (fun c_48 => ?_)
          · refine tt_aload_n d_Rule_takeBehind_68 rfl ?_
            refine tt_dup d_Rule_takeBehind_69 rfl ?_
            have n3 : ¬ (bnd s = 0 ∨ (bnd s = 1 ∧ (rM S).testBit (rD S) = true)) := fun z => by
              rcases z with z | z
              · exact c_43 z
              · exact c_48 z.1
            have e : tkB S s = some (((stl (bnd s) (rW S) (rC S)).1, (2000 + s) :: (stl (bnd s) (rW S) (rC S)).2), (rD S, if bnd s = 1 then rM S ||| 2 ^ rD S else rM S), 0, 1) := (if_neg (by omega)).trans ((if_neg (by omega)).trans (if_neg n3))
            rw [e]
            obtain ⟨a1, a2, a3, a4, a5, a6⟩ := stl_ok (b := bnd s) (rW S) (rC S) i2 i8 (by omega)
            obtain ⟨k1, k2, k3, k4, k5, k6⟩ := bnd_c (s := s) (fun z => n3 (Or.inl z))
            refine tn_get d_Rule_takeBehind_70 rfl (xR_sh hu) (by decide) (xR_i hu _ (by decide)) (sfn f6 (by decide)) ?_
            refine tt_iload_n d_Rule_takeBehind_73 rfl ?_
            refine tt_iconst (v := nI 1) d_Rule_takeBehind_74 (by decide) ?_
            refine tn_ic_ne (t := 87) (by omega) (by omega) d_Rule_takeBehind_75 (by decide) (fun c_75 => ?_) (fun c_75 => ?_)
            · rw [if_neg c_75]
              refine tt_iconst (v := nI 0) d_Rule_takeBehind_87 (by decide) ?_
              refine tt_ior d_Rule_takeBehind_88 ?_
              refine tt_top (or_N _ _) ?_
              refine tt_top (y := nI (rM S)) (by rw [Nat.or_zero]) ?_
              refine tt_putI d_Rule_takeBehind_89 rfl (xR_sh hu) (by decide) (xR_i hu _ (by decide)) (xpok_int rfl) rfl ?_
              refine tt_aload_n d_Rule_takeBehind_92 rfl ?_
              refine tt_iload_n d_Rule_takeBehind_93 rfl ?_
              refine tt_callV (x_settle (d := d) (C := rC S) (W := rW S) hu (b := bnd s) b3 i2 (by omega) ⟨sfn hW1.1 (by decide), sfn hW1.2.1 (by decide), AL_f hW1.2.2.1, AL_f hW1.2.2.2⟩) cw_Rule_settle rfl (xR_sh hu) (by decide) rfl (by omega) d_Rule_takeBehind_94 rfl rfl (Nat.le_of_ble_eq_true rfl) (Nat.le_of_ble_eq_true rfl) rfl rfl rfl (fun v σ2 q => ?_)
              obtain ⟨rfl, hW2, hF⟩ := q
              have g5 : sf σ2 u 5 = nI (rD S) := fsf hF (by decide) (sfn (sfn f5 (by decide)) (by decide))
              have g6 := fsf (k := 6) hF (by decide) sfy
              have g7 : sf σ2 u 7 = nI 0 := fsf hF (by decide) (sfn sfy (by decide))
              refine tt_aload_n d_Rule_takeBehind_97 rfl ?_
              refine tt_sipush (v := nI 2000) d_Rule_takeBehind_98 (by decide) ?_
              refine tt_iload_n d_Rule_takeBehind_101 rfl ?_
              refine tn_iadd d_Rule_takeBehind_102 ?_
              refine tt_callV (x_await (d := d) (v := nI (2000 + s)) hu hW2.2.1 (by omega)) cw_Rule_await rfl (xR_sh hu) (by decide) rfl (by omega) d_Rule_takeBehind_103 rfl rfl (Nat.le_of_ble_eq_true rfl) (Nat.le_of_ble_eq_true rfl) rfl rfl rfl (fun v σ2 q => ?_)
              obtain ⟨rfl, e9⟩ := q
              rw [e9]
              clear e9
              refine tt_aload_n d_Rule_takeBehind_106 rfl ?_
              refine tt_iconst (v := nI 1) d_Rule_takeBehind_107 (by decide) ?_
              refine tt_putI d_Rule_takeBehind_108 rfl (xR_sh hu) (by decide) (xR_i hu _ (by decide)) (by decide) rfl ?_
              refine tt_iconst (v := nI 1) d_Rule_takeBehind_111 (by decide) ?_
              refine tt_zret rfl rfl d_Rule_takeBehind_112 ?_
              exact PB_s (Fu.f.tr (Fu.f.tr ((Fs.u hF).tr (Fu.w.tr (Fu.f.tr Fu.f))))) ⟨⟨sfn (sfn hW2.1 (by decide)) (by decide), sfn sfy (by decide), AL_f (AL_f (AL_q hW2.2.2.1 (by omega))), AL_f (AL_f (AL_p hW2.2.2.2))⟩, sfn (sfn g5 (by decide)) (by decide), sfn (sfn g6 (by decide)) (by decide), sfn (sfn g7 (by decide)) (by decide), sfy⟩
            · rw [if_pos c_75]
              refine tt_iconst (v := nI 1) d_Rule_takeBehind_78 (by decide) ?_
              refine tt_aload_n d_Rule_takeBehind_79 rfl ?_
              refine tn_get d_Rule_takeBehind_80 rfl (xR_sh hu) (by decide) (xR_i hu _ (by decide)) (sfn f5 (by decide)) ?_
              refine tt_ishl d_Rule_takeBehind_83 ?_
              refine tt_top (shl_9 _ (by omega)) ?_
              refine tt_goto (t := 88) d_Rule_takeBehind_84 (by decide) ?_
              refine tt_ior d_Rule_takeBehind_88 ?_
              refine tt_top (or_N _ _) ?_
              skip
              refine tt_putI d_Rule_takeBehind_89 rfl (xR_sh hu) (by decide) (xR_i hu _ (by decide)) (xpok_int rfl) rfl ?_
              refine tt_aload_n d_Rule_takeBehind_92 rfl ?_
              refine tt_iload_n d_Rule_takeBehind_93 rfl ?_
              refine tt_callV (x_settle (d := d) (C := rC S) (W := rW S) hu (b := bnd s) b3 i2 (by omega) ⟨sfn hW1.1 (by decide), sfn hW1.2.1 (by decide), AL_f hW1.2.2.1, AL_f hW1.2.2.2⟩) cw_Rule_settle rfl (xR_sh hu) (by decide) rfl (by omega) d_Rule_takeBehind_94 rfl rfl (Nat.le_of_ble_eq_true rfl) (Nat.le_of_ble_eq_true rfl) rfl rfl rfl (fun v σ2 q => ?_)
              obtain ⟨rfl, hW2, hF⟩ := q
              have g5 : sf σ2 u 5 = nI (rD S) := fsf hF (by decide) (sfn (sfn f5 (by decide)) (by decide))
              have g6 := fsf (k := 6) hF (by decide) sfy
              have g7 : sf σ2 u 7 = nI 0 := fsf hF (by decide) (sfn sfy (by decide))
              refine tt_aload_n d_Rule_takeBehind_97 rfl ?_
              refine tt_sipush (v := nI 2000) d_Rule_takeBehind_98 (by decide) ?_
              refine tt_iload_n d_Rule_takeBehind_101 rfl ?_
              refine tn_iadd d_Rule_takeBehind_102 ?_
              refine tt_callV (x_await (d := d) (v := nI (2000 + s)) hu hW2.2.1 (by omega)) cw_Rule_await rfl (xR_sh hu) (by decide) rfl (by omega) d_Rule_takeBehind_103 rfl rfl (Nat.le_of_ble_eq_true rfl) (Nat.le_of_ble_eq_true rfl) rfl rfl rfl (fun v σ2 q => ?_)
              obtain ⟨rfl, e9⟩ := q
              rw [e9]
              clear e9
              refine tt_aload_n d_Rule_takeBehind_106 rfl ?_
              refine tt_iconst (v := nI 1) d_Rule_takeBehind_107 (by decide) ?_
              refine tt_putI d_Rule_takeBehind_108 rfl (xR_sh hu) (by decide) (xR_i hu _ (by decide)) (by decide) rfl ?_
              refine tt_iconst (v := nI 1) d_Rule_takeBehind_111 (by decide) ?_
              refine tt_zret rfl rfl d_Rule_takeBehind_112 ?_
              exact PB_s (Fu.f.tr (Fu.f.tr ((Fs.u hF).tr (Fu.w.tr (Fu.f.tr Fu.f))))) ⟨⟨sfn (sfn hW2.1 (by decide)) (by decide), sfn sfy (by decide), AL_f (AL_f (AL_q hW2.2.2.1 (by omega))), AL_f (AL_f (AL_p hW2.2.2.2))⟩, sfn (sfn g5 (by decide)) (by decide), sfn (sfn g6 (by decide)) (by decide), sfn (sfn g7 (by decide)) (by decide), sfy⟩
          · refine tt_aload_n d_Rule_takeBehind_51 rfl ?_
            refine tn_get d_Rule_takeBehind_52 rfl (xR_sh hu) (by decide) (xR_i hu _ (by decide)) (sfn f6 (by decide)) ?_
            refine tt_aload_n d_Rule_takeBehind_55 rfl ?_
            refine tn_get d_Rule_takeBehind_56 rfl (xR_sh hu) (by decide) (xR_i hu _ (by decide)) (sfn f5 (by decide)) ?_
            refine tt_iushr d_Rule_takeBehind_59 ?_
            refine tt_iconst (v := nI 1) d_Rule_takeBehind_60 (by decide) ?_
            refine tt_iand d_Rule_takeBehind_61 ?_
            refine tt_top (xbit_N (by omega) (by omega)) ?_
            refine tt_iconst (v := nI 1) d_Rule_takeBehind_62 (by decide) ?_
            refine tn_ic_ne (t := 68) (by omega) (by omega) d_Rule_takeBehind_63 (by decide) (fun c_63 => ?_) (fun c_63 => ?_)
            · refine tt_aload_n d_Rule_takeBehind_68 rfl ?_
              refine tt_dup d_Rule_takeBehind_69 rfl ?_
              have n3 : ¬ (bnd s = 0 ∨ (bnd s = 1 ∧ (rM S).testBit (rD S) = true)) := fun z => by
                rcases z with z | z
                · exact c_43 z
                · exact c_63 (t5.2.1.mpr z.2)
              have e : tkB S s = some (((stl (bnd s) (rW S) (rC S)).1, (2000 + s) :: (stl (bnd s) (rW S) (rC S)).2), (rD S, if bnd s = 1 then rM S ||| 2 ^ rD S else rM S), 0, 1) := (if_neg (by omega)).trans ((if_neg (by omega)).trans (if_neg n3))
              rw [e]
              obtain ⟨a1, a2, a3, a4, a5, a6⟩ := stl_ok (b := bnd s) (rW S) (rC S) i2 i8 (by omega)
              obtain ⟨k1, k2, k3, k4, k5, k6⟩ := bnd_c (s := s) (fun z => n3 (Or.inl z))
              refine tn_get d_Rule_takeBehind_70 rfl (xR_sh hu) (by decide) (xR_i hu _ (by decide)) (sfn f6 (by decide)) ?_
              refine tt_iload_n d_Rule_takeBehind_73 rfl ?_
              refine tt_iconst (v := nI 1) d_Rule_takeBehind_74 (by decide) ?_
              refine tn_ic_ne (t := 87) (by omega) (by omega) d_Rule_takeBehind_75 (by decide) (fun c_75 => ?_) (fun c_75 => ?_)
              · rw [if_neg c_75]
                refine tt_iconst (v := nI 0) d_Rule_takeBehind_87 (by decide) ?_
                refine tt_ior d_Rule_takeBehind_88 ?_
                refine tt_top (or_N _ _) ?_
                refine tt_top (y := nI (rM S)) (by rw [Nat.or_zero]) ?_
                refine tt_putI d_Rule_takeBehind_89 rfl (xR_sh hu) (by decide) (xR_i hu _ (by decide)) (xpok_int rfl) rfl ?_
                refine tt_aload_n d_Rule_takeBehind_92 rfl ?_
                refine tt_iload_n d_Rule_takeBehind_93 rfl ?_
                refine tt_callV (x_settle (d := d) (C := rC S) (W := rW S) hu (b := bnd s) b3 i2 (by omega) ⟨sfn hW1.1 (by decide), sfn hW1.2.1 (by decide), AL_f hW1.2.2.1, AL_f hW1.2.2.2⟩) cw_Rule_settle rfl (xR_sh hu) (by decide) rfl (by omega) d_Rule_takeBehind_94 rfl rfl (Nat.le_of_ble_eq_true rfl) (Nat.le_of_ble_eq_true rfl) rfl rfl rfl (fun v σ2 q => ?_)
                obtain ⟨rfl, hW2, hF⟩ := q
                have g5 : sf σ2 u 5 = nI (rD S) := fsf hF (by decide) (sfn (sfn f5 (by decide)) (by decide))
                have g6 := fsf (k := 6) hF (by decide) sfy
                have g7 : sf σ2 u 7 = nI 0 := fsf hF (by decide) (sfn sfy (by decide))
                refine tt_aload_n d_Rule_takeBehind_97 rfl ?_
                refine tt_sipush (v := nI 2000) d_Rule_takeBehind_98 (by decide) ?_
                refine tt_iload_n d_Rule_takeBehind_101 rfl ?_
                refine tn_iadd d_Rule_takeBehind_102 ?_
                refine tt_callV (x_await (d := d) (v := nI (2000 + s)) hu hW2.2.1 (by omega)) cw_Rule_await rfl (xR_sh hu) (by decide) rfl (by omega) d_Rule_takeBehind_103 rfl rfl (Nat.le_of_ble_eq_true rfl) (Nat.le_of_ble_eq_true rfl) rfl rfl rfl (fun v σ2 q => ?_)
                obtain ⟨rfl, e9⟩ := q
                rw [e9]
                clear e9
                refine tt_aload_n d_Rule_takeBehind_106 rfl ?_
                refine tt_iconst (v := nI 1) d_Rule_takeBehind_107 (by decide) ?_
                refine tt_putI d_Rule_takeBehind_108 rfl (xR_sh hu) (by decide) (xR_i hu _ (by decide)) (by decide) rfl ?_
                refine tt_iconst (v := nI 1) d_Rule_takeBehind_111 (by decide) ?_
                refine tt_zret rfl rfl d_Rule_takeBehind_112 ?_
                exact PB_s (Fu.f.tr (Fu.f.tr ((Fs.u hF).tr (Fu.w.tr (Fu.f.tr Fu.f))))) ⟨⟨sfn (sfn hW2.1 (by decide)) (by decide), sfn sfy (by decide), AL_f (AL_f (AL_q hW2.2.2.1 (by omega))), AL_f (AL_f (AL_p hW2.2.2.2))⟩, sfn (sfn g5 (by decide)) (by decide), sfn (sfn g6 (by decide)) (by decide), sfn (sfn g7 (by decide)) (by decide), sfy⟩
              · rw [if_pos c_75]
                refine tt_iconst (v := nI 1) d_Rule_takeBehind_78 (by decide) ?_
                refine tt_aload_n d_Rule_takeBehind_79 rfl ?_
                refine tn_get d_Rule_takeBehind_80 rfl (xR_sh hu) (by decide) (xR_i hu _ (by decide)) (sfn f5 (by decide)) ?_
                refine tt_ishl d_Rule_takeBehind_83 ?_
                refine tt_top (shl_9 _ (by omega)) ?_
                refine tt_goto (t := 88) d_Rule_takeBehind_84 (by decide) ?_
                refine tt_ior d_Rule_takeBehind_88 ?_
                refine tt_top (or_N _ _) ?_
                skip
                refine tt_putI d_Rule_takeBehind_89 rfl (xR_sh hu) (by decide) (xR_i hu _ (by decide)) (xpok_int rfl) rfl ?_
                refine tt_aload_n d_Rule_takeBehind_92 rfl ?_
                refine tt_iload_n d_Rule_takeBehind_93 rfl ?_
                refine tt_callV (x_settle (d := d) (C := rC S) (W := rW S) hu (b := bnd s) b3 i2 (by omega) ⟨sfn hW1.1 (by decide), sfn hW1.2.1 (by decide), AL_f hW1.2.2.1, AL_f hW1.2.2.2⟩) cw_Rule_settle rfl (xR_sh hu) (by decide) rfl (by omega) d_Rule_takeBehind_94 rfl rfl (Nat.le_of_ble_eq_true rfl) (Nat.le_of_ble_eq_true rfl) rfl rfl rfl (fun v σ2 q => ?_)
                obtain ⟨rfl, hW2, hF⟩ := q
                have g5 : sf σ2 u 5 = nI (rD S) := fsf hF (by decide) (sfn (sfn f5 (by decide)) (by decide))
                have g6 := fsf (k := 6) hF (by decide) sfy
                have g7 : sf σ2 u 7 = nI 0 := fsf hF (by decide) (sfn sfy (by decide))
                refine tt_aload_n d_Rule_takeBehind_97 rfl ?_
                refine tt_sipush (v := nI 2000) d_Rule_takeBehind_98 (by decide) ?_
                refine tt_iload_n d_Rule_takeBehind_101 rfl ?_
                refine tn_iadd d_Rule_takeBehind_102 ?_
                refine tt_callV (x_await (d := d) (v := nI (2000 + s)) hu hW2.2.1 (by omega)) cw_Rule_await rfl (xR_sh hu) (by decide) rfl (by omega) d_Rule_takeBehind_103 rfl rfl (Nat.le_of_ble_eq_true rfl) (Nat.le_of_ble_eq_true rfl) rfl rfl rfl (fun v σ2 q => ?_)
                obtain ⟨rfl, e9⟩ := q
                rw [e9]
                clear e9
                refine tt_aload_n d_Rule_takeBehind_106 rfl ?_
                refine tt_iconst (v := nI 1) d_Rule_takeBehind_107 (by decide) ?_
                refine tt_putI d_Rule_takeBehind_108 rfl (xR_sh hu) (by decide) (xR_i hu _ (by decide)) (by decide) rfl ?_
                refine tt_iconst (v := nI 1) d_Rule_takeBehind_111 (by decide) ?_
                refine tt_zret rfl rfl d_Rule_takeBehind_112 ?_
                exact PB_s (Fu.f.tr (Fu.f.tr ((Fs.u hF).tr (Fu.w.tr (Fu.f.tr Fu.f))))) ⟨⟨sfn (sfn hW2.1 (by decide)) (by decide), sfn sfy (by decide), AL_f (AL_f (AL_q hW2.2.2.1 (by omega))), AL_f (AL_f (AL_p hW2.2.2.2))⟩, sfn (sfn g5 (by decide)) (by decide), sfn (sfn g6 (by decide)) (by decide), sfn (sfn g7 (by decide)) (by decide), sfy⟩
            · refine tt_iconst (v := nI 0) d_Rule_takeBehind_66 (by decide) ?_
              refine tt_zret rfl rfl d_Rule_takeBehind_67 ?_
              have e : tkB S s = none := (if_neg (by omega)).trans ((if_neg (by omega)).trans (if_pos (Or.inr ⟨by omega, t5.2.1.mp (by omega)⟩)))
              rw [e]
              exact PB_n Fu.f
      · subst c_29
        refine tt_aload_n d_Rule_takeBehind_32 rfl ?_
        refine tt_callV (x_closeOne (d := d) (S := ((rC S, rW S), (rD S, rM S), 0, rN S)) hu hI1 (by omega) hn hR1 rfl) cw_Rule_closeOne rfl (xR_sh hu) (by decide) rfl (by omega) d_Rule_takeBehind_33 rfl rfl (Nat.le_of_ble_eq_true rfl) (Nat.le_of_ble_eq_true rfl) rfl rfl rfl (fun v σ2 q => ?_)
        obtain ⟨b9, hb9, rfl⟩ := PB_b q
        refine tt_zret rfl (nar_b hb9) d_Rule_takeBehind_36 ?_
        exact PB_u Fu.f q
    · refine tt_aload_n d_Rule_takeBehind_12 rfl ?_
      refine tt_iload_n d_Rule_takeBehind_13 rfl ?_
      refine tt_bipush (v := nI 48) d_Rule_takeBehind_14 (by decide) ?_
      refine tn_isub (by omega) d_Rule_takeBehind_16 ?_
      refine tt_callV (x_takeDigit (d := d) (s := s) hu hI0 (by omega) hn hR0 ⟨by omega, by omega⟩) cw_Rule_takeDigit rfl (xR_sh hu) (by decide) rfl (by omega) d_Rule_takeBehind_17 rfl rfl (Nat.le_of_ble_eq_true rfl) (Nat.le_of_ble_eq_true rfl) rfl rfl rfl (fun v σ2 q => ?_)
      obtain ⟨b9, hb9, rfl⟩ := PB_b q
      have e : tkB S s = tkD S s := if_pos (by omega)
      rw [e]
      refine tt_zret rfl (nar_b hb9) d_Rule_takeBehind_20 ?_
      exact q

