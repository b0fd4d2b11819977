/-! FishFerryModel: rows that change; comesTrue, hourGoes, goesOn. Printed by wip/whole. -/
theorem SY_00 {σ : xs} {b n : Nat} {v : sv} {x : Nat} (h : SY σ b n v) (hn : n ≤ 8) : SY (wI σ b 0 (nI x)) b n (upv v 0 0 x) := by
  obtain ⟨⟨h0, h5, h1, h2, h3, h4⟩, h7⟩ := h
  refine ⟨⟨?_, ?_, ?_, ?_, ?_, ?_⟩, fun i hi => ?_⟩
  · rw [si_wI, if_pos ⟨rfl, rfl⟩]; rfl
  · rw [si_wI, if_neg (by omega)]; exact h5
  · rw [si_wI, if_neg (by omega)]; exact h1
  · rw [si_wI, if_neg (by omega)]; exact h2
  · rw [si_wI, if_neg (by omega)]; exact h3
  · rw [si_wI, if_neg (by omega)]; exact h4
  · obtain ⟨g1, g2, g3, g4⟩ := h7 i hi
    rw [si_wI, if_neg (by omega), si_wI, if_neg (by omega), si_wI, if_neg (by omega), si_wI, if_neg (by omega)]
    exact ⟨g1, g2, g3, g4⟩
theorem SY_01 {σ : xs} {b n : Nat} {v : sv} {x : Nat} (h : SY σ b n v) (hn : n ≤ 8) : SY (wI σ b 34 (nI x)) b n (upv v 0 1 x) := by
  obtain ⟨⟨h0, h5, h1, h2, h3, h4⟩, h7⟩ := h
  refine ⟨⟨?_, ?_, ?_, ?_, ?_, ?_⟩, fun i hi => ?_⟩
  · rw [si_wI, if_neg (by omega)]; exact h0
  · rw [si_wI, if_neg (by omega)]; exact h5
  · rw [si_wI, if_pos ⟨rfl, rfl⟩]; rfl
  · rw [si_wI, if_neg (by omega)]; exact h2
  · rw [si_wI, if_neg (by omega)]; exact h3
  · rw [si_wI, if_neg (by omega)]; exact h4
  · obtain ⟨g1, g2, g3, g4⟩ := h7 i hi
    rw [si_wI, if_neg (by omega), si_wI, if_neg (by omega), si_wI, if_neg (by omega), si_wI, if_neg (by omega)]
    exact ⟨g1, g2, g3, g4⟩
theorem SY_02 {σ : xs} {b n : Nat} {v : sv} {x : Nat} (h : SY σ b n v) (hn : n ≤ 8) : SY (wI σ b 35 (nI x)) b n (upv v 0 2 x) := by
  obtain ⟨⟨h0, h5, h1, h2, h3, h4⟩, h7⟩ := h
  refine ⟨⟨?_, ?_, ?_, ?_, ?_, ?_⟩, fun i hi => ?_⟩
  · rw [si_wI, if_neg (by omega)]; exact h0
  · rw [si_wI, if_neg (by omega)]; exact h5
  · rw [si_wI, if_neg (by omega)]; exact h1
  · rw [si_wI, if_pos ⟨rfl, rfl⟩]; rfl
  · rw [si_wI, if_neg (by omega)]; exact h3
  · rw [si_wI, if_neg (by omega)]; exact h4
  · obtain ⟨g1, g2, g3, g4⟩ := h7 i hi
    rw [si_wI, if_neg (by omega), si_wI, if_neg (by omega), si_wI, if_neg (by omega), si_wI, if_neg (by omega)]
    exact ⟨g1, g2, g3, g4⟩
theorem SY_03 {σ : xs} {b n : Nat} {v : sv} {x : Nat} (h : SY σ b n v) (hn : n ≤ 8) : SY (wI σ b 36 (nI x)) b n (upv v 0 3 x) := by
  obtain ⟨⟨h0, h5, h1, h2, h3, h4⟩, h7⟩ := h
  refine ⟨⟨?_, ?_, ?_, ?_, ?_, ?_⟩, fun i hi => ?_⟩
  · rw [si_wI, if_neg (by omega)]; exact h0
  · rw [si_wI, if_neg (by omega)]; exact h5
  · rw [si_wI, if_neg (by omega)]; exact h1
  · rw [si_wI, if_neg (by omega)]; exact h2
  · rw [si_wI, if_pos ⟨rfl, rfl⟩]; rfl
  · rw [si_wI, if_neg (by omega)]; exact h4
  · obtain ⟨g1, g2, g3, g4⟩ := h7 i hi
    rw [si_wI, if_neg (by omega), si_wI, if_neg (by omega), si_wI, if_neg (by omega), si_wI, if_neg (by omega)]
    exact ⟨g1, g2, g3, g4⟩
theorem SY_04 {σ : xs} {b n : Nat} {v : sv} {x : Nat} (h : SY σ b n v) (hn : n ≤ 8) : SY (wI σ b 37 (nI x)) b n (upv v 0 4 x) := by
  obtain ⟨⟨h0, h5, h1, h2, h3, h4⟩, h7⟩ := h
  refine ⟨⟨?_, ?_, ?_, ?_, ?_, ?_⟩, fun i hi => ?_⟩
  · rw [si_wI, if_neg (by omega)]; exact h0
  · rw [si_wI, if_neg (by omega)]; exact h5
  · rw [si_wI, if_neg (by omega)]; exact h1
  · rw [si_wI, if_neg (by omega)]; exact h2
  · rw [si_wI, if_neg (by omega)]; exact h3
  · rw [si_wI, if_pos ⟨rfl, rfl⟩]; rfl
  · obtain ⟨g1, g2, g3, g4⟩ := h7 i hi
    rw [si_wI, if_neg (by omega), si_wI, if_neg (by omega), si_wI, if_neg (by omega), si_wI, if_neg (by omega)]
    exact ⟨g1, g2, g3, g4⟩
theorem SY_05 {σ : xs} {b n : Nat} {v : sv} {x : Nat} (h : SY σ b n v) (hn : n ≤ 8) : SY (wI σ b 33 (nI x)) b n (upv v 0 5 x) := by
  obtain ⟨⟨h0, h5, h1, h2, h3, h4⟩, h7⟩ := h
  refine ⟨⟨?_, ?_, ?_, ?_, ?_, ?_⟩, fun i hi => ?_⟩
  · rw [si_wI, if_neg (by omega)]; exact h0
  · rw [si_wI, if_pos ⟨rfl, rfl⟩]; rfl
  · rw [si_wI, if_neg (by omega)]; exact h1
  · rw [si_wI, if_neg (by omega)]; exact h2
  · rw [si_wI, if_neg (by omega)]; exact h3
  · rw [si_wI, if_neg (by omega)]; exact h4
  · obtain ⟨g1, g2, g3, g4⟩ := h7 i hi
    rw [si_wI, if_neg (by omega), si_wI, if_neg (by omega), si_wI, if_neg (by omega), si_wI, if_neg (by omega)]
    exact ⟨g1, g2, g3, g4⟩
theorem SY_1 {σ : xs} {b n : Nat} {v : sv} {k x : Nat} (h : SY σ b n v) (hk : k < 8) (hn : n ≤ 8) : SY (wI σ b (1 + k) (nI x)) b n (upv v 1 k x) := by
  obtain ⟨⟨h0, h5, h1, h2, h3, h4⟩, h7⟩ := h
  refine ⟨⟨?_, ?_, ?_, ?_, ?_, ?_⟩, fun i hi => ?_⟩
  · rw [si_wI, if_neg (by omega)]; exact h0
  · rw [si_wI, if_neg (by omega)]; exact h5
  · rw [si_wI, if_neg (by omega)]; exact h1
  · rw [si_wI, if_neg (by omega)]; exact h2
  · rw [si_wI, if_neg (by omega)]; exact h3
  · rw [si_wI, if_neg (by omega)]; exact h4
  · obtain ⟨g1, g2, g3, g4⟩ := h7 i hi
    refine ⟨?_, ?_, ?_, ?_⟩
    · rw [si_wI]
      show _ = nI (if 1 = 1 ∧ i = k then x else v 1 i)
      by_cases q : i = k
      · rw [if_pos ⟨rfl, by omega⟩, if_pos ⟨rfl, q⟩]
      · rw [if_neg (by omega), if_neg (fun z => q z.2)]; exact g1
    · rw [si_wI, if_neg (by omega)]; exact g2
    · rw [si_wI, if_neg (by omega)]; exact g3
    · rw [si_wI, if_neg (by omega)]; exact g4
theorem SY_2 {σ : xs} {b n : Nat} {v : sv} {k x : Nat} (h : SY σ b n v) (hk : k < 8) (hn : n ≤ 8) : SY (wI σ b (9 + k) (nI x)) b n (upv v 2 k x) := by
  obtain ⟨⟨h0, h5, h1, h2, h3, h4⟩, h7⟩ := h
  refine ⟨⟨?_, ?_, ?_, ?_, ?_, ?_⟩, fun i hi => ?_⟩
  · rw [si_wI, if_neg (by omega)]; exact h0
  · rw [si_wI, if_neg (by omega)]; exact h5
  · rw [si_wI, if_neg (by omega)]; exact h1
  · rw [si_wI, if_neg (by omega)]; exact h2
  · rw [si_wI, if_neg (by omega)]; exact h3
  · rw [si_wI, if_neg (by omega)]; exact h4
  · obtain ⟨g1, g2, g3, g4⟩ := h7 i hi
    refine ⟨?_, ?_, ?_, ?_⟩
    · rw [si_wI, if_neg (by omega)]; exact g1
    · rw [si_wI]
      show _ = nI (if 2 = 2 ∧ i = k then x else v 2 i)
      by_cases q : i = k
      · rw [if_pos ⟨rfl, by omega⟩, if_pos ⟨rfl, q⟩]
      · rw [if_neg (by omega), if_neg (fun z => q z.2)]; exact g2
    · rw [si_wI, if_neg (by omega)]; exact g3
    · rw [si_wI, if_neg (by omega)]; exact g4
theorem SY_3 {σ : xs} {b n : Nat} {v : sv} {k : Nat} (h : SY σ b n v) (hk : k < 8) (hn : n ≤ 8) : SY (wI (wI σ b (17 + k) (-1)) b (25 + k) (-1)) b n (upv v 3 k 0) := by
  obtain ⟨⟨h0, h5, h1, h2, h3, h4⟩, h7⟩ := h
  refine ⟨⟨?_, ?_, ?_, ?_, ?_, ?_⟩, fun i hi => ?_⟩
  all_goals first | (rw [si_wI, if_neg (by omega), si_wI, if_neg (by omega)]; first | exact h0 | exact h1 | exact h2 | exact h3 | exact h4 | exact h5) | skip
  obtain ⟨g1, g2, g3, g4⟩ := h7 i hi
  refine ⟨?_, ?_, ?_, ?_⟩
  · rw [si_wI, if_neg (by omega), si_wI, if_neg (by omega)]; exact g1
  · rw [si_wI, if_neg (by omega), si_wI, if_neg (by omega)]; exact g2
  · rw [si_wI, if_neg (by omega), si_wI]
    show _ = gI (if 3 = 3 ∧ i = k then 0 else v 3 i)
    by_cases q : i = k
    · rw [if_pos ⟨rfl, by omega⟩, if_pos ⟨rfl, q⟩]; rfl
    · rw [if_neg (by omega), if_neg (fun z => q z.2)]; exact g3
  · rw [si_wI, si_wI, if_neg (show ¬ (b = b ∧ 25 + i = 17 + k) by omega)]
    show _ = if (if 3 = 3 ∧ i = k then 0 else v 3 i) = 0 then -1 else nI (v 4 i)
    by_cases q : i = k
    · subst q
      simp
    · rw [if_neg (show ¬ (b = b ∧ 25 + i = 25 + k) by omega)]
      simp only [q, and_false, if_false]
      exact g4
theorem SY_34 {σ : xs} {b n : Nat} {v : sv} {k g c : Nat} (h : SY σ b n v) (hk : k < 8) (hn : n ≤ 8) : SY (wI (wI σ b (17 + k) (nI g)) b (25 + k) (nI c)) b n (upv (upv v 3 k (g + 1)) 4 k c) := by
  obtain ⟨⟨h0, h5, h1, h2, h3, h4⟩, h7⟩ := h
  refine ⟨⟨?_, ?_, ?_, ?_, ?_, ?_⟩, fun i hi => ?_⟩
  all_goals first | (rw [si_wI, if_neg (by omega), si_wI, if_neg (by omega)]; first | exact h0 | exact h1 | exact h2 | exact h3 | exact h4 | exact h5) | skip
  obtain ⟨g1, g2, g3, g4⟩ := h7 i hi
  refine ⟨?_, ?_, ?_, ?_⟩
  · rw [si_wI, if_neg (by omega), si_wI, if_neg (by omega)]; exact g1
  · rw [si_wI, if_neg (by omega), si_wI, if_neg (by omega)]; exact g2
  · rw [si_wI, if_neg (by omega), si_wI]
    show _ = gI (if 3 = 3 ∧ i = k then g + 1 else v 3 i)
    by_cases q : i = k
    · rw [if_pos ⟨rfl, by omega⟩, if_pos ⟨rfl, q⟩]; rfl
    · rw [if_neg (by omega), if_neg (fun z => q z.2)]; exact g3
  · rw [si_wI, si_wI, if_neg (show ¬ (b = b ∧ 25 + i = 17 + k) by omega)]
    show _ = if (if 3 = 3 ∧ i = k then g + 1 else v 3 i) = 0 then -1 else nI (if 4 = 4 ∧ i = k then c else v 4 i)
    by_cases q : i = k
    · subst q
      simp
    · rw [if_neg (show ¬ (b = b ∧ 25 + i = 25 + k) by omega)]
      simp only [q, and_false, if_false]
      exact g4
theorem SY_5 {σ : xs} {b n k x : Nat} {v : sv} (h : SY σ b n v) : SY σ b n (upv v 5 k x) := h
theorem SY_o {σ τ : xs} {b n : Nat} {v : sv} (h : SY σ b n v) (hs : si τ b = si σ b) : SY τ b n v := by
  unfold SY
  rw [hs]
  exact h
/-! a frame: int arrays outside A, int fields outside F, long arrays outside J stay -/
def Fq (A : Nat → Prop) (F : Nat → Nat → Prop) (J : Nat → Prop) (σ τ : xs) : Prop := (∀ c, ¬ A c → si τ c = si σ c) ∧ (∀ c k, ¬ F c k → sf τ c k = sf σ c k) ∧ (∀ c, ¬ J c → sj τ c = sj σ c) ∧ sp τ = sp σ ∧ so τ = so σ
section
variable {A B : Nat → Prop} {F G : Nat → Nat → Prop} {J K : Nat → Prop} {σ τ υ : xs}
theorem Fq.rf : Fq A F J σ σ := ⟨fun _ _ => rfl, fun _ _ _ => rfl, fun _ _ => rfl, rfl, rfl⟩
theorem Fq.tr (h : Fq A F J σ τ) (g : Fq A F J τ υ) : Fq A F J σ υ := ⟨fun c hc => (g.1 c hc).trans (h.1 c hc), fun c k hc => (g.2.1 c k hc).trans (h.2.1 c k hc), fun c hc => (g.2.2.1 c hc).trans (h.2.2.1 c hc), g.2.2.2.1.trans h.2.2.2.1, g.2.2.2.2.trans h.2.2.2.2⟩
theorem Fq.mono (h : Fq A F J σ τ) (ha : ∀ c, A c → B c) (hf : ∀ c k, F c k → G c k) (hj : ∀ c, J c → K c) : Fq B G K σ τ := ⟨fun c hc => h.1 c (fun q => hc (ha c q)), fun c k hc => h.2.1 c k (fun q => hc (hf c k q)), fun c hc => h.2.2.1 c (fun q => hc (hj c q)), h.2.2.2⟩
theorem Fq.wI {a k : Nat} {x : Int32} (h : A a) : Fq A F J σ (wI σ a k x) := ⟨fun c hc => by
  funext j
  rw [si_wI]; exact if_neg (fun q => hc (by rw [q.1]; exact h)), fun _ _ _ => rfl, fun _ _ => rfl, rfl, rfl⟩
theorem Fq.wF {a k : Nat} {x : Int32} (h : F a k) : Fq A F J σ (wF σ a k x) := ⟨fun _ _ => rfl, fun c j hc => by
  rw [sf_wF]; exact if_neg (fun q => hc (by rw [q.1, q.2]; exact h)), fun _ _ => rfl, rfl, rfl⟩
theorem Fq.wJ {a k : Nat} {x : Int64} (h : J a) : Fq A F J σ (wJ σ a k x) := ⟨fun _ _ => rfl, fun _ _ _ => rfl, fun c hc => by
  funext j
  rw [sj_wJ]; exact if_neg (fun q => hc (by rw [q.1]; exact h)), rfl, rfl⟩
theorem Fq.wA {a : Nat} {f : Nat → Int32} (h : A a) : Fq A F J σ (wA σ a f) := ⟨fun c hc => by
  funext j
  rw [si_wA]; exact if_neg (fun q => hc (by rw [q]; exact h)), fun _ _ _ => rfl, fun _ _ => rfl, rfl, rfl⟩
theorem Fq.sc (h : Sc A σ τ) : Fq A F J σ τ := ⟨h.2.2.2.2, fun c k _ => by rw [h.1], fun c _ => by rw [h.2.1], h.2.2.1, h.2.2.2.1⟩
end
theorem EYb.fq {σ τ : xs} {e : xe} {A : Nat → Prop} {F : Nat → Nat → Prop} {J : Nat → Prop} (h : EYb σ e) (hs : Fq A F J σ τ) (hp : ∀ c, 156 ≤ c ∧ c ≤ 159 → ¬ A c) (hf : ∀ k, 3 ≤ k ∧ k ≤ 7 → ¬ F 154 k) : EYb τ e := by
  obtain ⟨⟨a1, a2, a3, a4⟩, h2, h3, h4⟩ := h
  have g := hs.1
  refine ⟨⟨by rw [hs.2.1 154 3 (hf _ (by omega))]; exact a1, by rw [hs.2.1 154 4 (hf _ (by omega))]; exact a2, by rw [hs.2.1 154 5 (hf _ (by omega))]; exact a3, by rw [hs.2.1 154 7 (hf _ (by omega))]; exact a4⟩, fun i hi => ?_, fun i hi => ?_, fun i hi => ?_⟩
  · rw [g 158 (hp _ (by omega)), g 159 (hp _ (by omega))]; exact h2 i hi
  · rw [g 157 (hp _ (by omega))]; exact h3 i hi
  · rw [g 156 (hp _ (by omega))]; exact h4 i hi
theorem RCd.fq {σ τ : xs} {c : Nat → Nat} {m : Nat} {A : Nat → Prop} {F : Nat → Nat → Prop} {J : Nat → Prop} (h : RCd σ c m) (hs : Fq A F J σ τ) (hp : ¬ A 165) (hf : ¬ F 154 24) : RCd τ c m := by
  unfold RCd
  rw [hs.2.1 154 24 hf, hs.1 165 hp]
  exact h
/-- the reference's counters of a trip -/
def TY (σ : xs) (v : sv) : Prop := sf σ 154 32 = nI (v 5 0) ∧ sf σ 154 33 = nI (v 5 1) ∧ sf σ 154 34 = nI (v 5 2)
/-- what an hour of the reference may change -/
def HA (b : Nat) : Nat → Prop := fun c => c = b ∨ (167 ≤ c ∧ c ≤ 170)
def HF : Nat → Nat → Prop := fun c k => c = 154 ∧ 32 ≤ k ∧ k ≤ 34
def HJ : Nat → Prop := fun _ => False
theorem HA_n {b c : Nat} (hb : isY b) (h : c < 160 ∨ 170 < c ∨ (161 < c ∧ c < 167)) : ¬ HA b c := by unfold HA; unfold isY at hb; omega
theorem xY_ne {σ : xs} {b j i : Nat} {x : Int32} (h : ¬ i = j) : si (wI σ b j x) b i = si σ b i := by
  rw [si_wI, if_neg (fun q => h q.2)]
theorem y_comesTrue {l : xLa} {d : Nat} {σ : xs} {b k : Nat} {e : xe} {v : sv} (hb : isY b) (hk : k < eN e) (he : okE e) (hv : okV e v) (hS : SY σ b (eN e) v) (hT : TY σ v) (hg : ¬ v 3 k = 0) : TC l M_Y_comesTrue (d + 1) [.ref 154, .ref b, .int (nI k)] σ (fun r τ => r = none ∧ SY τ b (eN e) (rewV v k) ∧ TY τ (rewV v k) ∧ Fq (HA b) HF HJ σ τ) := by
  have hsh := xY_sh hb
  have h8 : eN e ≤ 8 := he.1.2.2.2.2.1
  have hk8 : k < 8 := by omega
  have v1 := hv.2.1
  have v2 := hv.2.2.1
  have v3 := hv.2.2.2.1
  obtain ⟨w1, w2, w3, w4⟩ := hv.2.2.2.2.2.2 k hk
  show T l M_Y_comesTrue (d + 1) 0 _ [] σ _
  refine tt_aload_n d_Y_comesTrue_0 rfl ?_
  refine tt_bipush (v := nI 34) d_Y_comesTrue_1 (by decide) ?_
  refine tn_iald d_Y_comesTrue_3 hsh (by decide) (by omega) hS.1.2.2.1 ?_
  refine tt_aload_n d_Y_comesTrue_4 rfl ?_
  refine tt_bipush (v := nI 25) d_Y_comesTrue_5 (by decide) ?_
  refine tt_iload_n d_Y_comesTrue_7 rfl ?_
  refine tn_iadd d_Y_comesTrue_8 ?_
  refine tn_iald d_Y_comesTrue_9 hsh (by decide) (by omega) ((hS.2 k hk).2.2.2.trans (if_neg hg)) ?_
  refine tn_ic_lt (t := 17) (by omega) (by omega) d_Y_comesTrue_10 (by decide) (fun c_10 => ?_) (fun c_10 => ?_)
  · refine tt_iconst (v := nI 0) d_Y_comesTrue_17 (by decide) ?_
    refine tt_istore_n d_Y_comesTrue_18 (by decide) rfl ?_
    refine tt_iload_n d_Y_comesTrue_19 rfl ?_
    refine tt_if_eq (t := 84) d_Y_comesTrue_20 (by decide) (fun c_20 => ?_) (fun c_20 => absurd rfl c_20)
    refine tt_aload_n d_Y_comesTrue_84 rfl ?_
    refine tt_bipush (v := nI 36) d_Y_comesTrue_85 (by decide) ?_
    refine tt_sipush (v := nI 999) d_Y_comesTrue_87 (by decide) ?_
    refine tt_aload_n d_Y_comesTrue_90 rfl ?_
    refine tt_bipush (v := nI 36) d_Y_comesTrue_91 (by decide) ?_
    refine tn_iald d_Y_comesTrue_93 hsh (by decide) (by omega) hS.1.2.2.2.2.1 ?_
    refine tt_iconst (v := nI 1) d_Y_comesTrue_94 (by decide) ?_
    refine tn_iadd d_Y_comesTrue_95 ?_
    refine tn_min (by omega) (by omega) d_Y_comesTrue_96 rfl (Nat.le_of_ble_eq_true rfl) ?_
    refine tn_iast d_Y_comesTrue_99 hsh (by decide) (by omega) ?_
    refine tt_aload_n d_Y_comesTrue_100 rfl ?_
    refine tt_bipush (v := nI 9) d_Y_comesTrue_101 (by decide) ?_
    refine tt_iload_n d_Y_comesTrue_103 rfl ?_
    refine tn_iadd d_Y_comesTrue_104 ?_
    refine tt_iconst (v := nI 0) d_Y_comesTrue_105 (by decide) ?_
    refine tn_iast d_Y_comesTrue_106 hsh (by decide) (by omega) ?_
    refine tt_aload_n d_Y_comesTrue_107 rfl ?_
    refine tt_dup d_Y_comesTrue_108 rfl ?_
    refine tn_get d_Y_comesTrue_109 rfl rfl (by decide) rfl (show sf _ 154 33 = nI (v 5 1) from hT.2.1) ?_
    refine tt_iconst (v := nI 1) d_Y_comesTrue_112 (by decide) ?_
    refine tn_iadd d_Y_comesTrue_113 ?_
    refine tt_putI d_Y_comesTrue_114 rfl rfl (by decide) rfl (xpok_int rfl) rfl ?_
    refine tt_aload_n d_Y_comesTrue_117 rfl ?_
    refine tt_bipush (v := nI 17) d_Y_comesTrue_118 (by decide) ?_
    refine tt_iload_n d_Y_comesTrue_120 rfl ?_
    refine tn_iadd d_Y_comesTrue_121 ?_
    refine tt_iconst (v := (-1)) d_Y_comesTrue_122 (by decide) ?_
    refine tn_iast d_Y_comesTrue_123 hsh (by decide) (by omega) ?_
    refine tt_aload_n d_Y_comesTrue_124 rfl ?_
    refine tt_bipush (v := nI 25) d_Y_comesTrue_125 (by decide) ?_
    refine tt_iload_n d_Y_comesTrue_127 rfl ?_
    refine tn_iadd d_Y_comesTrue_128 ?_
    refine tt_iconst (v := (-1)) d_Y_comesTrue_129 (by decide) ?_
    refine tn_iast d_Y_comesTrue_130 hsh (by decide) (by omega) ?_
    refine tt_vret rfl d_Y_comesTrue_131 ?_
    have hS6 := SY_3 (SY_o (τ := wF (wI (wI σ b 36 (nI (min 999 (v 0 3 + 1)))) b (9 + k) (nI 0)) 154 33 (nI (v 5 1 + 1))) (SY_5 (k := 4) (x := v 5 4 ||| 2 ^ k) (SY_5 (k := 1) (x := v 5 1 + 1) (SY_2 (x := 0) (SY_03 (x := min 999 (v 0 3 + 1)) hS h8) hk8 h8))) rfl) hk8 h8
    rw [show rewV v k = _ from if_neg (by omega)]
    exact ⟨rfl, hS6, ⟨hT.1, rfl, hT.2.2⟩, ((((Fq.wI (Or.inl rfl)).tr (Fq.wI (Or.inl rfl))).tr (Fq.wF (by unfold HF; omega))).tr (Fq.wI (Or.inl rfl))).tr (Fq.wI (Or.inl rfl))⟩
  · refine tt_iconst (v := nI 1) d_Y_comesTrue_13 (by decide) ?_
    refine tt_goto (t := 18) d_Y_comesTrue_14 (by decide) ?_
    refine tt_istore_n d_Y_comesTrue_18 (by decide) rfl ?_
    refine tt_iload_n d_Y_comesTrue_19 rfl ?_
    refine tt_if_eq (t := 84) d_Y_comesTrue_20 (by decide) (fun c_20 => absurd c_20 (by decide)) (fun c_20 => ?_)
    refine tt_aload_n d_Y_comesTrue_23 rfl ?_
    refine tt_bipush (v := nI 34) d_Y_comesTrue_24 (by decide) ?_
    refine tt_dup2 d_Y_comesTrue_26 rfl rfl ?_
    refine tn_iald d_Y_comesTrue_27 hsh (by decide) (by omega) hS.1.2.2.1 ?_
    refine tt_aload_n d_Y_comesTrue_28 rfl ?_
    refine tt_bipush (v := nI 25) d_Y_comesTrue_29 (by decide) ?_
    refine tt_iload_n d_Y_comesTrue_31 rfl ?_
    refine tn_iadd d_Y_comesTrue_32 ?_
    refine tn_iald d_Y_comesTrue_33 hsh (by decide) (by omega) ((hS.2 k hk).2.2.2.trans (if_neg hg)) ?_
    refine tn_isub (by omega) d_Y_comesTrue_34 ?_
    refine tn_iast d_Y_comesTrue_35 hsh (by decide) (by omega) ?_
    refine tt_aload_n d_Y_comesTrue_36 rfl ?_
    refine tt_bipush (v := nI 35) d_Y_comesTrue_37 (by decide) ?_
    refine tt_sipush (v := nI 999) d_Y_comesTrue_39 (by decide) ?_
    refine tt_aload_n d_Y_comesTrue_42 rfl ?_
    refine tt_bipush (v := nI 35) d_Y_comesTrue_43 (by decide) ?_
    refine tn_iald d_Y_comesTrue_45 hsh (by decide) (by omega) (show si _ b _ = nI (v 0 2) by (repeat rw [xY_ne (by omega)]); exact hS.1.2.2.2.1) ?_
    refine tt_iconst (v := nI 1) d_Y_comesTrue_46 (by decide) ?_
    refine tn_iadd d_Y_comesTrue_47 ?_
    refine tn_min (by omega) (by omega) d_Y_comesTrue_48 rfl (Nat.le_of_ble_eq_true rfl) ?_
    refine tn_iast d_Y_comesTrue_51 hsh (by decide) (by omega) ?_
    refine tt_aload_n d_Y_comesTrue_52 rfl ?_
    refine tt_bipush (v := nI 9) d_Y_comesTrue_53 (by decide) ?_
    refine tt_iload_n d_Y_comesTrue_55 rfl ?_
    refine tn_iadd d_Y_comesTrue_56 ?_
    refine tt_bipush (v := nI 9) d_Y_comesTrue_57 (by decide) ?_
    refine tt_aload_n d_Y_comesTrue_59 rfl ?_
    refine tt_bipush (v := nI 9) d_Y_comesTrue_60 (by decide) ?_
    refine tt_iload_n d_Y_comesTrue_62 rfl ?_
    refine tn_iadd d_Y_comesTrue_63 ?_
    refine tn_iald d_Y_comesTrue_64 hsh (by decide) (by omega) (show si _ b _ = nI (v 2 k) by (repeat rw [xY_ne (by omega)]); exact (hS.2 k hk).2.1) ?_
    refine tt_iconst (v := nI 1) d_Y_comesTrue_65 (by decide) ?_
    refine tn_iadd d_Y_comesTrue_66 ?_
    refine tn_min (by omega) (by omega) d_Y_comesTrue_67 rfl (Nat.le_of_ble_eq_true rfl) ?_
    refine tn_iast d_Y_comesTrue_70 hsh (by decide) (by omega) ?_
    refine tt_aload_n d_Y_comesTrue_71 rfl ?_
    refine tt_dup d_Y_comesTrue_72 rfl ?_
    refine tn_get d_Y_comesTrue_73 rfl rfl (by decide) rfl (show sf _ 154 32 = nI (v 5 0) from hT.1) ?_
    refine tt_iconst (v := nI 1) d_Y_comesTrue_76 (by decide) ?_
    refine tn_iadd d_Y_comesTrue_77 ?_
    refine tt_putI d_Y_comesTrue_78 rfl rfl (by decide) rfl (xpok_int rfl) rfl ?_
    refine tt_goto (t := 117) d_Y_comesTrue_81 (by decide) ?_
    refine tt_aload_n d_Y_comesTrue_117 rfl ?_
    refine tt_bipush (v := nI 17) d_Y_comesTrue_118 (by decide) ?_
    refine tt_iload_n d_Y_comesTrue_120 rfl ?_
    refine tn_iadd d_Y_comesTrue_121 ?_
    refine tt_iconst (v := (-1)) d_Y_comesTrue_122 (by decide) ?_
    refine tn_iast d_Y_comesTrue_123 hsh (by decide) (by omega) ?_
    refine tt_aload_n d_Y_comesTrue_124 rfl ?_
    refine tt_bipush (v := nI 25) d_Y_comesTrue_125 (by decide) ?_
    refine tt_iload_n d_Y_comesTrue_127 rfl ?_
    refine tn_iadd d_Y_comesTrue_128 ?_
    refine tt_iconst (v := (-1)) d_Y_comesTrue_129 (by decide) ?_
    refine tn_iast d_Y_comesTrue_130 hsh (by decide) (by omega) ?_
    refine tt_vret rfl d_Y_comesTrue_131 ?_
    have hS6 := SY_3 (SY_o (τ := wF (wI (wI (wI σ b 34 (nI (v 0 1 - v 4 k))) b 35 (nI (min 999 (v 0 2 + 1)))) b (9 + k) (nI (min 9 (v 2 k + 1)))) 154 32 (nI (v 5 0 + 1))) (SY_5 (k := 3) (x := v 5 3 ||| 2 ^ k) (SY_5 (k := 0) (x := v 5 0 + 1) (SY_2 (x := min 9 (v 2 k + 1)) (SY_02 (x := min 999 (v 0 2 + 1)) (SY_01 (x := v 0 1 - v 4 k) hS h8) h8) hk8 h8))) rfl) hk8 h8
    rw [show rewV v k = _ from if_pos c_10]
    exact ⟨rfl, hS6, ⟨rfl, hT.2.1, hT.2.2⟩, (((((Fq.wI (Or.inl rfl)).tr (Fq.wI (Or.inl rfl))).tr (Fq.wI (Or.inl rfl))).tr (Fq.wF (by unfold HF; omega))).tr (Fq.wI (Or.inl rfl))).tr (Fq.wI (Or.inl rfl))⟩

