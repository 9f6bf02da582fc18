/-- the lines that the model has read -/
def LnM (σ : St) (m : Nat) (L : Nat → Nat → Int) : Prop := m ≤ 12 ∧ ∀ l, l < m → σ.2.1 106 (72 + l) = L 0 l - 256 ∧ σ.2.1 107 (72 + l) = L 1 l ∧ σ.2.1 108 (72 + l) = L 2 l ∧ σ.2.1 109 (72 + l) = L 3 l
/-- what the reading of a WAY may write -/
def Fw (σ τ : St) : Prop := Fe [22, 23, 24, 25, 34, 35, 37, 38, 39] [106, 107, 108, 109, 110, 111, 112] σ τ ∧ ∀ r, 106 ≤ r → r ≤ 109 → ∀ j, j < 72 → τ.2.1 r j = σ.2.1 r j
theorem Fw.rf {σ : St} : Fw σ σ := ⟨Fe.rf, fun _ _ _ _ _ => rfl⟩
theorem Fw.tr {σ τ ρ : St} (h : Fw σ τ) (h2 : Fw τ ρ) : Fw σ ρ := ⟨h.1.tr h2.1, fun r a b j c => (h2.2 r a b j c).trans (h.2 r a b j c)⟩
theorem Fw.sta {σ τ : St} (h : Fw σ τ) (hS : Sta σ) : Sta τ := h.1.sta hS
theorem Fe.w {fs L : List Nat} {σ τ : St} (h : Fe fs L σ τ) (h1 : ∀ r, r ∈ fs → r ∈ [22, 23, 24, 25, 34, 35, 37, 38, 39] := by decide) (h2 : ∀ r, r ∈ L → r ∈ [110, 111, 112] := by decide) : Fw σ τ := by
  refine ⟨h.mo h1 (fun r hr => ?_), fun r a b j _ => h.a r j ?_⟩
  · have := h2 r hr
    simp at this ⊢
    omega
  · intro q
    rcases List.mem_cons.mp q with e | e
    · omega
    · have := h2 r e
      simp at this
      omega
theorem Fw.up {σ : St} (r j : Nat) (x : Int) (hr : 106 ≤ r ∧ r ≤ 109) (hj : 72 ≤ j) : Fw σ (upI σ r j x) := by
  refine ⟨Fe.rf.ua (by simp; omega) (by omega) j x (by omega), fun r' _ _ j' h => ?_⟩
  rw [up_if, if_neg (by omega)]
theorem LnM.fe {fs L' : List Nat} {σ ρ : St} {m : Nat} {L : Nat → Nat → Int} (h : LnM σ m L) (hF : Fe fs L' σ ρ) (h2 : ∀ r, r ∈ 94 :: L' → r ≠ 106 ∧ r ≠ 107 ∧ r ≠ 108 ∧ r ≠ 109 := by decide) : LnM ρ m L := ⟨h.1, fun l hl => by rw [hF.a 106 _ (fun q => (h2 _ q).1 rfl), hF.a 107 _ (fun q => (h2 _ q).2.1 rfl), hF.a 108 _ (fun q => (h2 _ q).2.2.1 rfl), hF.a 109 _ (fun q => (h2 _ q).2.2.2 rfl)]; exact h.2 l hl⟩
theorem LnM.up {σ : St} {m : Nat} {L : Nat → Nat → Int} (h : LnM σ m L) (r j : Nat) (x : Int) (hj : 72 + m ≤ j) : LnM (upI σ r j x) m L := by
  refine ⟨h.1, fun l hl => ?_⟩
  simp only [up_if]
  rw [if_neg (by omega), if_neg (by omega), if_neg (by omega), if_neg (by omega)]
  exact h.2 l hl
theorem Md.up {B : Nat → Int} {n : Nat} {σ : St} {s : PS} (h : Md B n σ s) (r j : Nat) (x : Int) (hr : 106 ≤ r ∧ r ≤ 109) : Md B n (upI σ r j x) s := by
  refine h.fm (fs := []) (L := [r]) (Fe.rf.ua (by simp) (by omega) j x (by omega)) (fun j q => by cases q) (fun r' q => ?_)
  simp at q
  omega
theorem fn_ex (B : Nat → Int) (n : Nat) : ∃ N, N ≤ n ∧ Fn (tK B n) N := by
  have : ∀ f i, n + 1 - i ≤ f → tFine B n i → ∃ N, N ≤ n ∧ Fn (tK B n) N := by
    intro f
    induction f with
    | zero =>
      intro i h hf
      have := tFine_b hf
      omega
    | succ f ih =>
      intro i h hf
      have hb := tFine_b hf
      by_cases hc : tK B n i = 0 ∨ tK B n i = 1
      · exact ⟨i, hb, hc, hf⟩
      · refine ih (i + 1) (by omega) (fun k hk => ?_)
        by_cases he : k = i
        · subst he
          exact ⟨fun q => hc (Or.inl q), fun q => hc (Or.inr q)⟩
        · exact hf k (by omega)
  exact this (n + 1) 0 (by omega) (fun k hk => absurd hk (Nat.not_lt_zero k))
theorem body_n {F : Nat} {K V : Nat → Int} {s : PS} (h : kd K s ≠ 258) : bodyS F K V s = s := by unfold bodyS; rw [if_neg h]
theorem body_y {F : Nat} {K V : Nat → Int} {s : PS} (h : kd K s = 258) : bodyS F K V s = eitherS F K (claimS F K V 8) (stepS s) := by unfold bodyS; rw [if_pos h]
def RetL (B : Nat → Int) (n : Nat) (X : WS) (z : Int) (ro : Option AV) (ρ : St) : Prop := (X.1.1 = 0 ∧ ro = some (vI z) ∧ Md B n ρ X.1 ∧ LnM ρ X.2.1 X.2.2 ∧ ρ.2.1 94 35 = 0) ∨ (X.1.1 ≠ 0 ∧ ro = some (vI (-1)) ∧ ρ.2.1 94 38 = X.1.1 ∧ ρ.2.1 94 39 = tP B n X.1.2.1)
theorem line_bad {F : Nat} {K V : Nat → Int} {w : WS} (h1 : kd K w.1 = 256 ∨ kd K w.1 = 257) (h2 : ¬ 12 ≤ w.2.1) (h3 : kd K (bodyS F K V (sumS F K V (stepS w.1))) ≠ 59) : (lineS F K V w).1 = blameS 1 (bodyS F K V (sumS F K V (stepS w.1))) := by
  unfold lineS
  rw [if_pos h1, if_neg h2, if_neg h3]
theorem n_line {G : Gt} {d : Nat} {σ : St} (hd : 8 ≤ d) {B : Nat → Int} {n N F : Nat} {w : WS} (hS : Sta σ) (hby : byB B n) (hN : Fn (tK B n) N) (hNn : N ≤ 400) (hFF : F = 400) (hM : Md B n σ w.1) (h0 : w.1.1 = 0) (hI : Inv N 0 w.1) (hL : LnM σ w.2.1 w.2.2) (hm : w.2.1 < 12) (hk : tK B n w.1.2.1 = 256 ∨ tK B n w.1.2.1 = 257) (h35 : σ.2.1 94 35 = 0)  : AM mX12_readLine G d 0 0 [vR 94, vI (72 + (w.2.1 : Int))] σ (fun ro ρ => RetL B n (lineS F (tK B n) (tV B n) w) 0 ro ρ ∧ Fw σ ρ) := by
  refine AM.intro (by decide +kernel) (by simp [nLg]) (Nat.le_of_ble_eq_true rfl) (fun hO => ?_)
  show AW _ _ _ _ _ _ 0 [some (vR 94), some (vI (72 + (w.2.1 : Int)))] [] σ
  have hc := hM.2.2.2.1.cs
  have hk0 := kd0 (K := tK B n) h0
  have e72 : (72 + (w.2.1 : Int)).toNat = 72 + w.2.1 := by omega
  have hvl : σ.2.1 94 25 = kd (tK B n) w.1 - 256 := by rw [hk0]; omega
  refine AW_aload_n dX12_readLine_0 rfl ?_
  refine AW_getR (a := 106) dX12_readLine_1 gfX12_56 (hS.cel rfl) (hS.rf rfl) ?_
  refine AW_iload_n dX12_readLine_4 rfl ?_
  refine AW_aload_n dX12_readLine_5 rfl ?_
  refine AW_getI dX12_readLine_6 gfX12_231 (hS.cel rfl) ?_
  refine AW_iast dX12_readLine_9 (hS.cel rfl) (by omega) (by omega) ?_
  rw [e72, hvl]
  have hF1 : Fw σ (upI σ 106 (72 + w.2.1) (kd (tK B n) w.1 - 256)) := Fw.up _ _ _ (by decide) (by omega)
  have hM1 := hM.up 106 (72 + w.2.1) (kd (tK B n) w.1 - 256) (by decide)
  have hL1 := hL.up 106 (72 + w.2.1) (kd (tK B n) w.1 - 256) (by omega)
  have hS1 := hF1.sta hS
  have g1 : (upI σ 106 (72 + w.2.1) (kd (tK B n) w.1 - 256)).2.1 106 (72 + w.2.1) = (kd (tK B n) w.1 - 256) := up_at _ _ _ _
  have o1 : (upI σ 106 (72 + w.2.1) (kd (tK B n) w.1 - 256)).2.1 94 35 = 0 := by rw [up_r _ _ _ _ (by decide)]; exact h35
  generalize upI σ 106 (72 + w.2.1) (kd (tK B n) w.1 - 256) = τ1 at hF1 hM1 hL1 hS1 g1 o1 ⊢
  refine AW_aload_n dX12_readLine_10 rfl ?_
  refine AW_callV0 (d' := d - 1) dX12_readLine_11 (Or.inl lkX12_262) mfX12_reads (hS1.cel rfl) ⟨_, rfl, rfl⟩ (n_mreads (by omega) hS1 hby hM1 (by omega)) (by omega) (Nat.le_of_ble_eq_true rfl) ?_
  rintro _ ρ2 ⟨rfl, hM2, hG2⟩ -
  have hS2 := hG2.sta hS1
  have hI2 := hI.step hN (by omega) (by omega)
  have h02 : (stepS w.1).1 = 0 := h0
  refine AW_aload_n dX12_readLine_14 rfl ?_
  refine AW_getR (a := 107) dX12_readLine_15 gfX12_59 (hS2.cel rfl) (hS2.rf rfl) ?_
  refine AW_iload_n dX12_readLine_18 rfl ?_
  refine AW_aload_n dX12_readLine_19 rfl ?_
  refine AW_getI dX12_readLine_20 gfX12_252 (hS2.cel rfl) ?_
  refine AW_iast dX12_readLine_23 (hS2.cel rfl) (by omega) (by omega) ?_
  rw [e72, hM2.2.2.2.2.2.1]
  have gg2 := (hG2.a 106 (72 + w.2.1)).trans g1
  have hF3 : Fw ρ2 (upI ρ2 107 (72 + w.2.1) ((stepS w.1).2.2.1 : Int)) := Fw.up _ _ _ (by decide) (by omega)
  have hM3 := hM2.up 107 (72 + w.2.1) ((stepS w.1).2.2.1 : Int) (by decide)
  have hL3 := (hL1.fe hG2).up 107 (72 + w.2.1) ((stepS w.1).2.2.1 : Int) (by omega)
  have hS3 := hF3.sta hS2
  have g3 : (upI ρ2 107 (72 + w.2.1) ((stepS w.1).2.2.1 : Int)).2.1 107 (72 + w.2.1) = ((stepS w.1).2.2.1 : Int) := up_at _ _ _ _
  have o3 : (upI ρ2 107 (72 + w.2.1) ((stepS w.1).2.2.1 : Int)).2.1 94 35 = 0 := by rw [up_r _ _ _ _ (by decide), hG2.f 35]; exact o1
  have g31 : (upI ρ2 107 (72 + w.2.1) ((stepS w.1).2.2.1 : Int)).2.1 106 (72 + w.2.1) = kd (tK B n) w.1 - 256 := by rw [up_r _ _ _ _ (by decide)]; exact gg2
  generalize upI ρ2 107 (72 + w.2.1) ((stepS w.1).2.2.1 : Int) = τ3 at hF3 hM3 hL3 hS3 g3 o3 g31 ⊢
  refine AW_aload_n dX12_readLine_24 rfl ?_
  refine AW_callV0 (d' := d - 1) dX12_readLine_25 (Or.inl lkX12_275) mfX12_readSum (hS3.cel rfl) ⟨_, rfl, rfl⟩ (n_sum (by omega) hS3 hby hN hNn hM3 h02 (hI2.mono (by omega)) hFF) (by omega) (Nat.le_of_ble_eq_true rfl) ?_
  rintro _ ρ4 ⟨hret4, hG4⟩ -
  obtain ⟨z4, rfl, hz4⟩ := hret4.z
  have hS4 := hG4.sta hS3
  have hI4 := hI2.sum (F := F) (tV B n) hN
  refine AW_iconst dX12_readLine_28 ?_
  refine AW_icmp_ne (tgt := 34) dX12_readLine_29 (by decide) (fun c_29 => ?_) (fun c_29 => ?_)
  · skip
    have hy4 := hz4.elim id (fun q => absurd q.1 c_29)
    refine AW_aload_n dX12_readLine_34 rfl ?_
    refine AW_getR (a := 108) dX12_readLine_35 gfX12_62 (hS4.cel rfl) (hS4.rf rfl) ?_
    refine AW_iload_n dX12_readLine_38 rfl ?_
    refine AW_aload_n dX12_readLine_39 rfl ?_
    refine AW_getI dX12_readLine_40 gfX12_252 (hS4.cel rfl) ?_
    refine AW_iast dX12_readLine_43 (hS4.cel rfl) (by omega) (by omega) ?_
    rw [e72, hy4.2.2.2.2.2.2.2.1]
    have g41 := (hG4.a 106 (72 + w.2.1)).trans g31
    have g42 := (hG4.a 107 (72 + w.2.1)).trans g3
    have hF5 : Fw ρ4 (upI ρ4 108 (72 + w.2.1) ((sumS F (tK B n) (tV B n) (stepS w.1)).2.2.1 : Int)) := Fw.up _ _ _ (by decide) (by omega)
    have hM5 := hy4.2.2.up 108 (72 + w.2.1) ((sumS F (tK B n) (tV B n) (stepS w.1)).2.2.1 : Int) (by decide)
    have hL5 := (hL3.fe hG4).up 108 (72 + w.2.1) ((sumS F (tK B n) (tV B n) (stepS w.1)).2.2.1 : Int) (by omega)
    have hS5 := hF5.sta hS4
    have g5 : (upI ρ4 108 (72 + w.2.1) ((sumS F (tK B n) (tV B n) (stepS w.1)).2.2.1 : Int)).2.1 108 (72 + w.2.1) = ((sumS F (tK B n) (tV B n) (stepS w.1)).2.2.1 : Int) := up_at _ _ _ _
    have o5 : (upI ρ4 108 (72 + w.2.1) ((sumS F (tK B n) (tV B n) (stepS w.1)).2.2.1 : Int)).2.1 94 35 = 0 := by rw [up_r _ _ _ _ (by decide), hG4.f 35]; exact o3
    have g51 : (upI ρ4 108 (72 + w.2.1) ((sumS F (tK B n) (tV B n) (stepS w.1)).2.2.1 : Int)).2.1 106 (72 + w.2.1) = kd (tK B n) w.1 - 256 := by rw [up_r _ _ _ _ (by decide)]; exact g41
    have g52 : (upI ρ4 108 (72 + w.2.1) ((sumS F (tK B n) (tV B n) (stepS w.1)).2.2.1 : Int)).2.1 107 (72 + w.2.1) = ((stepS w.1).2.2.1 : Int) := by rw [up_r _ _ _ _ (by decide)]; exact g42
    generalize upI ρ4 108 (72 + w.2.1) ((sumS F (tK B n) (tV B n) (stepS w.1)).2.2.1 : Int) = τ5 at hF5 hM5 hL5 hS5 g5 o5 g51 g52 ⊢
    have hk5 := kd0 (K := tK B n) hy4.2.1
    have hW5 : Fw σ τ5 := (((hF1.tr hG2.w).tr hF3).tr hG4.w).tr hF5
    refine AW_aload_n dX12_readLine_44 rfl ?_
    refine AW_iconst dX12_readLine_45 ?_
    refine AW_callV1 (d' := d - 1) dX12_readLine_46 (Or.inl lkX12_284) mfX12_isWord (hS5.cel rfl) ⟨_, rfl, rfl⟩ (n_isWord hS5 hM5 2 (by decide)) (by omega) (Nat.le_of_ble_eq_true rfl) ?_
    rintro _ _ ⟨e_, rfl⟩ -
    rw [e_]
    clear e_
    refine AW_if_eq (tgt := 66) dX12_readLine_49 (by decide) (fun c_49 => ?_) (fun c_49 => ?_)
    · skip
      replace c_49 := bz0 c_49
      have hbe := body_n (F := F) (V := tV B n) (s := (sumS F (tK B n) (tV B n) (stepS w.1))) (by rw [hk5]; omega)
      have hMb : Md B n τ5 (bodyS F (tK B n) (tV B n) (sumS F (tK B n) (tV B n) (stepS w.1))) := by rw [hbe]; exact hM5
      have hb0 : (bodyS F (tK B n) (tV B n) (sumS F (tK B n) (tV B n) (stepS w.1))).1 = 0 := by rw [hbe]; exact hy4.2.1
      have hSb := hS5
      have hLb := hL5
      have ob := o5
      have gb1 := g51
      have gb2 := g52
      have gb3 := g5
      have hWb := hW5
      refine AW_aload_n dX12_readLine_66 rfl ?_
      refine AW_getR (a := 109) dX12_readLine_67 gfX12_65 (hSb.cel rfl) (hSb.rf rfl) ?_
      refine AW_iload_n dX12_readLine_70 rfl ?_
      refine AW_aload_n dX12_readLine_71 rfl ?_
      refine AW_getI dX12_readLine_72 gfX12_252 (hSb.cel rfl) ?_
      refine AW_iast dX12_readLine_75 (hSb.cel rfl) (by omega) (by omega) ?_
      rw [e72, hMb.2.2.2.2.2.1]
      have hF8 : Fw τ5 (upI τ5 109 (72 + w.2.1) ((bodyS F (tK B n) (tV B n) (sumS F (tK B n) (tV B n) (stepS w.1))).2.2.1 : Int)) := Fw.up _ _ _ (by decide) (by omega)
      have hM8 := hMb.up 109 (72 + w.2.1) ((bodyS F (tK B n) (tV B n) (sumS F (tK B n) (tV B n) (stepS w.1))).2.2.1 : Int) (by decide)
      have hL8 := hLb.up 109 (72 + w.2.1) ((bodyS F (tK B n) (tV B n) (sumS F (tK B n) (tV B n) (stepS w.1))).2.2.1 : Int) (by omega)
      have hS8 := hF8.sta hSb
      have g8 : (upI τ5 109 (72 + w.2.1) ((bodyS F (tK B n) (tV B n) (sumS F (tK B n) (tV B n) (stepS w.1))).2.2.1 : Int)).2.1 109 (72 + w.2.1) = ((bodyS F (tK B n) (tV B n) (sumS F (tK B n) (tV B n) (stepS w.1))).2.2.1 : Int) := up_at _ _ _ _
      have o8 : (upI τ5 109 (72 + w.2.1) ((bodyS F (tK B n) (tV B n) (sumS F (tK B n) (tV B n) (stepS w.1))).2.2.1 : Int)).2.1 94 35 = 0 := by rw [up_r _ _ _ _ (by decide)]; exact ob
      have g81 : (upI τ5 109 (72 + w.2.1) ((bodyS F (tK B n) (tV B n) (sumS F (tK B n) (tV B n) (stepS w.1))).2.2.1 : Int)).2.1 106 (72 + w.2.1) = kd (tK B n) w.1 - 256 := by rw [up_r _ _ _ _ (by decide)]; exact gb1
      have g82 : (upI τ5 109 (72 + w.2.1) ((bodyS F (tK B n) (tV B n) (sumS F (tK B n) (tV B n) (stepS w.1))).2.2.1 : Int)).2.1 107 (72 + w.2.1) = ((stepS w.1).2.2.1 : Int) := by rw [up_r _ _ _ _ (by decide)]; exact gb2
      have g83 : (upI τ5 109 (72 + w.2.1) ((bodyS F (tK B n) (tV B n) (sumS F (tK B n) (tV B n) (stepS w.1))).2.2.1 : Int)).2.1 108 (72 + w.2.1) = ((sumS F (tK B n) (tV B n) (stepS w.1)).2.2.1 : Int) := by rw [up_r _ _ _ _ (by decide)]; exact gb3
      generalize upI τ5 109 (72 + w.2.1) ((bodyS F (tK B n) (tV B n) (sumS F (tK B n) (tV B n) (stepS w.1))).2.2.1 : Int) = τ8 at hF8 hM8 hL8 hS8 g8 o8 g81 g82 g83 ⊢
      have hkb := kd0 (K := tK B n) hb0
      have hcsb := hM8.2.2.2.1.cs
      refine AW_aload_n dX12_readLine_76 rfl ?_
      refine AW_bipush dX12_readLine_77 ?_
      refine AW_callV1 (d' := d - 1) dX12_readLine_79 (Or.inl lkX12_269) mfX12_isSign (hS8.cel rfl) ⟨_, rfl, rfl⟩ (n_isSign hS8 hM8 59 (by decide)) (by omega) (Nat.le_of_ble_eq_true rfl) ?_
      rintro _ _ ⟨e_, rfl⟩ -
      rw [e_]
      clear e_
      refine AW_if_ne (tgt := 91) dX12_readLine_82 (by decide) (fun c_82 => ?_) (fun c_82 => ?_)
      · skip
        replace c_82 := bz1 c_82
        refine AW_aload_n dX12_readLine_91 rfl ?_
        refine AW_callV0 (d' := d - 1) dX12_readLine_92 (Or.inl lkX12_262) mfX12_reads (hS8.cel rfl) ⟨_, rfl, rfl⟩ (n_mreads (by omega) hS8 hby hM8 (by omega)) (by omega) (Nat.le_of_ble_eq_true rfl) ?_
        rintro _ ρ9 ⟨rfl, hM9, hG9⟩ -
        refine AW_iconst dX12_readLine_95 ?_
        refine AW_iret dX12_readLine_96 rfl ?_
        have hc59 : kd (tK B n) (bodyS F (tK B n) (tV B n) (sumS F (tK B n) (tV B n) (stepS w.1))) = 59 := by rw [hkb]; assumption
        have e : (lineS F (tK B n) (tV B n) w) = (stepS (bodyS F (tK B n) (tV B n) (sumS F (tK B n) (tV B n) (stepS w.1))), w.2.1 + 1, fun c l => if l = w.2.1 then ln4 (kd (tK B n) w.1) w.1.2.2.1 (sumS F (tK B n) (tV B n) (stepS w.1)).2.2.1 (bodyS F (tK B n) (tV B n) (sumS F (tK B n) (tV B n) (stepS w.1))).2.2.1 c else w.2.2 c l) := by
          unfold lineS
          rw [if_pos (by rw [hk0]; exact hk), if_neg (by omega), if_pos hc59]
        rw [e]
        refine ⟨Or.inl ⟨hb0, rfl, hM9, ⟨by show w.2.1 + 1 ≤ 12; omega, fun l hl => ?_⟩, (hG9.f 35).trans o8⟩, (hWb.tr hF8).tr hG9.w⟩
        have hl2 : l < w.2.1 + 1 := hl
        show _ = (if l = w.2.1 then kd (tK B n) w.1 else w.2.2 0 l) - 256 ∧ _ = (if l = w.2.1 then (w.1.2.2.1 : Int) else w.2.2 1 l) ∧ _ = (if l = w.2.1 then ((sumS F (tK B n) (tV B n) (stepS w.1)).2.2.1 : Int) else w.2.2 2 l) ∧ _ = (if l = w.2.1 then ((bodyS F (tK B n) (tV B n) (sumS F (tK B n) (tV B n) (stepS w.1))).2.2.1 : Int) else w.2.2 3 l)
        rw [hG9.a 106 _, hG9.a 107 _, hG9.a 108 _, hG9.a 109 _]
        by_cases hc2 : l = w.2.1
        · subst hc2
          rw [if_pos rfl, if_pos rfl, if_pos rfl, if_pos rfl]
          exact ⟨g81, g82, g83, g8⟩
        · rw [if_neg hc2, if_neg hc2, if_neg hc2, if_neg hc2]
          exact hL8.2 l (by omega)
      · skip
        replace c_82 := bz0 c_82
        refine AW_aload_n dX12_readLine_85 rfl ?_
        refine AW_iconst dX12_readLine_86 ?_
        refine AW_callV1 (d' := d - 1) dX12_readLine_87 (Or.inl lkX12_255) mfX12_fails (hS8.cel rfl) ⟨_, rfl, rfl⟩ (n_fails hS8 1) (by omega) (Nat.le_of_ble_eq_true rfl) ?_
        rintro _ ρ9 ⟨rfl, q1, q2, q3⟩ -
        refine AW_iret dX12_readLine_90 rfl ?_
        have hlb := line_bad (F := F) (V := tV B n) (w := w) (by rw [hk0]; exact hk) (by omega) (by rw [hkb]; assumption)
        have hbl : blameS 1 (bodyS F (tK B n) (tV B n) (sumS F (tK B n) (tV B n) (stepS w.1))) = (1, (bodyS F (tK B n) (tV B n) (sumS F (tK B n) (tV B n) (stepS w.1))).2) := by
          unfold blameS
          rw [if_pos hb0]
        rw [hbl] at hlb
        exact ⟨Or.inr ⟨by rw [hlb]; exact (by decide : (1 : Int) ≠ 0), rfl, by rw [hlb]; exact q1, by rw [hlb, q2, hM8.2.2.1]⟩, (hWb.tr hF8).tr q3.w⟩
    · skip
      replace c_49 := bz1 c_49
      refine AW_aload_n dX12_readLine_52 rfl ?_
      refine AW_callV0 (d' := d - 1) dX12_readLine_53 (Or.inl lkX12_262) mfX12_reads (hS5.cel rfl) ⟨_, rfl, rfl⟩ (n_mreads (by omega) hS5 hby hM5 (by omega)) (by omega) (Nat.le_of_ble_eq_true rfl) ?_
      rintro _ ρ6 ⟨rfl, hM6, hG6⟩ -
      have hS6 := hG6.sta hS5
      have hI6 := hI4.step hN (by omega) (by omega)
      have hi6 : (stepS (sumS F (tK B n) (tV B n) (stepS w.1))).2.1 = (sumS F (tK B n) (tV B n) (stepS w.1)).2.1 + 1 := rfl
      refine AW_aload_n dX12_readLine_56 rfl ?_
      refine AW_callV0 (d' := d - 1) dX12_readLine_57 (Or.inl lkX12_296) mfX12_readAny (hS6.cel rfl) ⟨_, rfl, rfl⟩ (n_any (by omega) hS6 hby hN hNn hFF hM6 hy4.2.1 (hI6.mono (by omega)) ((hG6.f 35).trans o5) (by omega)) (by omega) (Nat.le_of_ble_eq_true rfl) ?_
      rintro _ ρ7 ⟨hret7, ho7, hG7⟩ -
      rw [← body_y (F := F) (V := tV B n) (s := (sumS F (tK B n) (tV B n) (stepS w.1))) (by rw [hk5]; omega)] at hret7 ho7
      obtain ⟨z7, rfl, hz7⟩ := hret7.z
      have hS7 := hG7.sta hS6
      refine AW_iconst dX12_readLine_60 ?_
      refine AW_icmp_ne (tgt := 66) dX12_readLine_61 (by decide) (fun c_61 => ?_) (fun c_61 => ?_)
      · skip
        have hy7 := hz7.elim id (fun q => absurd q.1 c_61)
        have hMb := hy7.2.2
        have hb0 := hy7.2.1
        have hSb := hS7
        have hLb := (hL5.fe hG6).fe hG7
        have ob := ho7 hb0
        have gb1 := ((hG7.a 106 (72 + w.2.1)).trans (hG6.a 106 _)).trans g51
        have gb2 := ((hG7.a 107 (72 + w.2.1)).trans (hG6.a 107 _)).trans g52
        have gb3 := ((hG7.a 108 (72 + w.2.1)).trans (hG6.a 108 _)).trans g5
        have hWb := (hW5.tr hG6.w).tr hG7.w
        refine AW_aload_n dX12_readLine_66 rfl ?_
        refine AW_getR (a := 109) dX12_readLine_67 gfX12_65 (hSb.cel rfl) (hSb.rf rfl) ?_
        refine AW_iload_n dX12_readLine_70 rfl ?_
        refine AW_aload_n dX12_readLine_71 rfl ?_
        refine AW_getI dX12_readLine_72 gfX12_252 (hSb.cel rfl) ?_
        refine AW_iast dX12_readLine_75 (hSb.cel rfl) (by omega) (by omega) ?_
        rw [e72, hMb.2.2.2.2.2.1]
        have hF8 : Fw ρ7 (upI ρ7 109 (72 + w.2.1) ((bodyS F (tK B n) (tV B n) (sumS F (tK B n) (tV B n) (stepS w.1))).2.2.1 : Int)) := Fw.up _ _ _ (by decide) (by omega)
        have hM8 := hMb.up 109 (72 + w.2.1) ((bodyS F (tK B n) (tV B n) (sumS F (tK B n) (tV B n) (stepS w.1))).2.2.1 : Int) (by decide)
        have hL8 := hLb.up 109 (72 + w.2.1) ((bodyS F (tK B n) (tV B n) (sumS F (tK B n) (tV B n) (stepS w.1))).2.2.1 : Int) (by omega)
        have hS8 := hF8.sta hSb
        have g8 : (upI ρ7 109 (72 + w.2.1) ((bodyS F (tK B n) (tV B n) (sumS F (tK B n) (tV B n) (stepS w.1))).2.2.1 : Int)).2.1 109 (72 + w.2.1) = ((bodyS F (tK B n) (tV B n) (sumS F (tK B n) (tV B n) (stepS w.1))).2.2.1 : Int) := up_at _ _ _ _
        have o8 : (upI ρ7 109 (72 + w.2.1) ((bodyS F (tK B n) (tV B n) (sumS F (tK B n) (tV B n) (stepS w.1))).2.2.1 : Int)).2.1 94 35 = 0 := by rw [up_r _ _ _ _ (by decide)]; exact ob
        have g81 : (upI ρ7 109 (72 + w.2.1) ((bodyS F (tK B n) (tV B n) (sumS F (tK B n) (tV B n) (stepS w.1))).2.2.1 : Int)).2.1 106 (72 + w.2.1) = kd (tK B n) w.1 - 256 := by rw [up_r _ _ _ _ (by decide)]; exact gb1
        have g82 : (upI ρ7 109 (72 + w.2.1) ((bodyS F (tK B n) (tV B n) (sumS F (tK B n) (tV B n) (stepS w.1))).2.2.1 : Int)).2.1 107 (72 + w.2.1) = ((stepS w.1).2.2.1 : Int) := by rw [up_r _ _ _ _ (by decide)]; exact gb2
        have g83 : (upI ρ7 109 (72 + w.2.1) ((bodyS F (tK B n) (tV B n) (sumS F (tK B n) (tV B n) (stepS w.1))).2.2.1 : Int)).2.1 108 (72 + w.2.1) = ((sumS F (tK B n) (tV B n) (stepS w.1)).2.2.1 : Int) := by rw [up_r _ _ _ _ (by decide)]; exact gb3
        generalize upI ρ7 109 (72 + w.2.1) ((bodyS F (tK B n) (tV B n) (sumS F (tK B n) (tV B n) (stepS w.1))).2.2.1 : Int) = τ8 at hF8 hM8 hL8 hS8 g8 o8 g81 g82 g83 ⊢
        have hkb := kd0 (K := tK B n) hb0
        have hcsb := hM8.2.2.2.1.cs
        refine AW_aload_n dX12_readLine_76 rfl ?_
        refine AW_bipush dX12_readLine_77 ?_
        refine AW_callV1 (d' := d - 1) dX12_readLine_79 (Or.inl lkX12_269) mfX12_isSign (hS8.cel rfl) ⟨_, rfl, rfl⟩ (n_isSign hS8 hM8 59 (by decide)) (by omega) (Nat.le_of_ble_eq_true rfl) ?_
        rintro _ _ ⟨e_, rfl⟩ -
        rw [e_]
        clear e_
        refine AW_if_ne (tgt := 91) dX12_readLine_82 (by decide) (fun c_82 => ?_) (fun c_82 => ?_)
        · skip
          replace c_82 := bz1 c_82
          refine AW_aload_n dX12_readLine_91 rfl ?_
          refine AW_callV0 (d' := d - 1) dX12_readLine_92 (Or.inl lkX12_262) mfX12_reads (hS8.cel rfl) ⟨_, rfl, rfl⟩ (n_mreads (by omega) hS8 hby hM8 (by omega)) (by omega) (Nat.le_of_ble_eq_true rfl) ?_
          rintro _ ρ9 ⟨rfl, hM9, hG9⟩ -
          refine AW_iconst dX12_readLine_95 ?_
          refine AW_iret dX12_readLine_96 rfl ?_
          have hc59 : kd (tK B n) (bodyS F (tK B n) (tV B n) (sumS F (tK B n) (tV B n) (stepS w.1))) = 59 := by rw [hkb]; assumption
          have e : (lineS F (tK B n) (tV B n) w) = (stepS (bodyS F (tK B n) (tV B n) (sumS F (tK B n) (tV B n) (stepS w.1))), w.2.1 + 1, fun c l => if l = w.2.1 then ln4 (kd (tK B n) w.1) w.1.2.2.1 (sumS F (tK B n) (tV B n) (stepS w.1)).2.2.1 (bodyS F (tK B n) (tV B n) (sumS F (tK B n) (tV B n) (stepS w.1))).2.2.1 c else w.2.2 c l) := by
            unfold lineS
            rw [if_pos (by rw [hk0]; exact hk), if_neg (by omega), if_pos hc59]
          rw [e]
          refine ⟨Or.inl ⟨hb0, rfl, hM9, ⟨by show w.2.1 + 1 ≤ 12; omega, fun l hl => ?_⟩, (hG9.f 35).trans o8⟩, (hWb.tr hF8).tr hG9.w⟩
          have hl2 : l < w.2.1 + 1 := hl
          show _ = (if l = w.2.1 then kd (tK B n) w.1 else w.2.2 0 l) - 256 ∧ _ = (if l = w.2.1 then (w.1.2.2.1 : Int) else w.2.2 1 l) ∧ _ = (if l = w.2.1 then ((sumS F (tK B n) (tV B n) (stepS w.1)).2.2.1 : Int) else w.2.2 2 l) ∧ _ = (if l = w.2.1 then ((bodyS F (tK B n) (tV B n) (sumS F (tK B n) (tV B n) (stepS w.1))).2.2.1 : Int) else w.2.2 3 l)
          rw [hG9.a 106 _, hG9.a 107 _, hG9.a 108 _, hG9.a 109 _]
          by_cases hc2 : l = w.2.1
          · subst hc2
            rw [if_pos rfl, if_pos rfl, if_pos rfl, if_pos rfl]
            exact ⟨g81, g82, g83, g8⟩
          · rw [if_neg hc2, if_neg hc2, if_neg hc2, if_neg hc2]
            exact hL8.2 l (by omega)
        · skip
          replace c_82 := bz0 c_82
          refine AW_aload_n dX12_readLine_85 rfl ?_
          refine AW_iconst dX12_readLine_86 ?_
          refine AW_callV1 (d' := d - 1) dX12_readLine_87 (Or.inl lkX12_255) mfX12_fails (hS8.cel rfl) ⟨_, rfl, rfl⟩ (n_fails hS8 1) (by omega) (Nat.le_of_ble_eq_true rfl) ?_
          rintro _ ρ9 ⟨rfl, q1, q2, q3⟩ -
          refine AW_iret dX12_readLine_90 rfl ?_
          have hlb := line_bad (F := F) (V := tV B n) (w := w) (by rw [hk0]; exact hk) (by omega) (by rw [hkb]; assumption)
          have hbl : blameS 1 (bodyS F (tK B n) (tV B n) (sumS F (tK B n) (tV B n) (stepS w.1))) = (1, (bodyS F (tK B n) (tV B n) (sumS F (tK B n) (tV B n) (stepS w.1))).2) := by
            unfold blameS
            rw [if_pos hb0]
          rw [hbl] at hlb
          exact ⟨Or.inr ⟨by rw [hlb]; exact (by decide : (1 : Int) ≠ 0), rfl, by rw [hlb]; exact q1, by rw [hlb, q2, hM8.2.2.1]⟩, (hWb.tr hF8).tr q3.w⟩
      · skip
        have hy7 := hz7.elim (fun q => absurd (q.1.symm.trans c_61) (by decide)) id
        refine AW_iconst dX12_readLine_64 ?_
        refine AW_iret dX12_readLine_65 rfl ?_
        have hlb := line_bad (F := F) (V := tV B n) (w := w) (by rw [hk0]; exact hk) (by omega) (by rw [kd_f hy7.2.1]; omega)
        have hbl : blameS 1 (bodyS F (tK B n) (tV B n) (sumS F (tK B n) (tV B n) (stepS w.1))) = (bodyS F (tK B n) (tV B n) (sumS F (tK B n) (tV B n) (stepS w.1))) := by
          unfold blameS
          rw [if_neg hy7.2.1]
        rw [hbl] at hlb
        exact ⟨Or.inr ⟨by rw [hlb]; exact hy7.2.1, rfl, by rw [hlb]; exact hy7.2.2.1, by rw [hlb]; exact hy7.2.2.2⟩, (hW5.tr hG6.w).tr hG7.w⟩
  · skip
    have hy4 := hz4.elim (fun q => absurd (q.1.symm.trans c_29) (by decide)) id
    refine AW_iconst dX12_readLine_32 ?_
    refine AW_iret dX12_readLine_33 rfl ?_
    have hbe := body_n (F := F) (K := tK B n) (V := tV B n) (s := (sumS F (tK B n) (tV B n) (stepS w.1))) (by rw [kd_f hy4.2.1]; decide)
    have hlb := line_bad (F := F) (V := tV B n) (w := w) (by rw [hk0]; exact hk) (by omega) (by rw [hbe, kd_f hy4.2.1]; omega)
    have hbl : blameS 1 (bodyS F (tK B n) (tV B n) (sumS F (tK B n) (tV B n) (stepS w.1))) = (bodyS F (tK B n) (tV B n) (sumS F (tK B n) (tV B n) (stepS w.1))) := by
      unfold blameS
      rw [if_neg (by rw [hbe]; exact hy4.2.1)]
    rw [hbl] at hlb
    rw [hbe] at hlb
    exact ⟨Or.inr ⟨by rw [hlb]; exact hy4.2.1, rfl, by rw [hlb]; exact hy4.2.2.1, by rw [hlb]; exact hy4.2.2.2⟩, ((hF1.tr hG2.w).tr hF3).tr hG4.w⟩
theorem wayL_f {F : Nat} {K V : Nat → Int} {w : WS} (h : w.1.1 ≠ 0) (f : Nat) : wayL F K V f w = w := by
  cases f with
  | zero => rfl
  | succ f => rw [wayL_s, if_pos (Or.inr h)]
theorem wayL_e {F : Nat} {K V : Nat → Int} {w : WS} (h : kd K w.1 = 0) (f : Nat) : wayL F K V f w = w := by
  cases f with
  | zero => rfl
  | succ f => rw [wayL_s, if_pos (Or.inl h)]
theorem line_m {F : Nat} {K V : Nat → Int} {w : WS} (h : (lineS F K V w).1.1 = 0) (h1 : kd K w.1 = 256 ∨ kd K w.1 = 257) (h2 : ¬ 12 ≤ w.2.1) : (lineS F K V w).2.1 = w.2.1 + 1 := by
  unfold lineS at *
  rw [if_pos h1, if_neg h2] at *
  split
  · rfl
  · rename_i hc
    exfalso
    rw [if_neg hc] at h
    unfold blameS at h
    split at h
    · exact absurd h (by decide : ¬ (1 : Int) = 0)
    · rename_i hh
      exact hh h
theorem ln_way {G : Gt} {d : Nat} {σ : St} {B : Nat → Int} {n N F : Nat} {T : WS} (hd : 9 ≤ d) (hS0 : Sta σ) (hby : byB B n) (hN : Fn (tK B n) N) (hNn : N ≤ 400) (hFF : F = 400) : ∀ (nn : Nat) (f : Nat) (w : WS) (τ : St), f < nn → w.2.1 + f = 13 → w.1.1 = 0 → Md B n τ w.1 → Inv N 0 w.1 → LnM τ w.2.1 w.2.2 → τ.2.1 94 35 = 0 → wayL F (tK B n) (tV B n) f w = T → Fw σ τ →  AW mX12_readWay G d 0 0 (mq G (fun ro ρ => RetL B n T (T.2.1 : Int) ro ρ ∧ Fw σ ρ)) 21 [some (vR 94), some (vI (w.2.1 : Int))] [] τ := by
  intro nn
  induction nn with
  | zero => intros; omega
  | succ nn ih =>
    intro f w τ hn hf h0 hM hI hL h35 hT hF
    have hS := hF.sta hS0
    have hk0 := kd0 (K := tK B n) h0
    have hcs := hM.2.2.2.1.cs
    have h12 := hL.1
    obtain ⟨f1, rfl⟩ : ∃ f1, f = f1 + 1 := ⟨f - 1, by omega⟩
    refine AW_aload_n dX12_readWay_21 rfl ?_
    refine AW_iconst dX12_readWay_22 ?_
    refine AW_callV1 (d' := d - 1) dX12_readWay_23 (Or.inl lkX12_284) mfX12_isWord (hS.cel rfl) ⟨_, rfl, rfl⟩ (n_isWord hS hM 0 (by decide)) (by omega) (Nat.le_of_ble_eq_true rfl) ?_
    rintro _ _ ⟨e_, rfl⟩ -
    rw [e_]
    clear e_
    refine AW_if_ne (tgt := 37) dX12_readWay_26 (by decide) (fun c_26 => ?_) (fun c_26 => ?_)
    · skip
      replace c_26 := bz1 c_26
      refine AW_iload_n dX12_readWay_37 rfl ?_
      refine AW_bipush dX12_readWay_38 ?_
      refine AW_icmp_ne (tgt := 49) dX12_readWay_40 (by decide) (fun c_40 => ?_) (fun c_40 => ?_)
      · skip
        refine AW_aload_n dX12_readWay_49 rfl ?_
        refine AW_bipush dX12_readWay_50 ?_
        refine AW_iload_n dX12_readWay_52 rfl ?_
        refine AW_iaddE dX12_readWay_53 (by omega) (by omega) ?_
        refine AW_callV1 (d' := d - 1) dX12_readWay_54 (Or.inl lkX12_299) mfX12_readLine (hS.cel rfl) ⟨_, rfl, rfl⟩ (n_line (by omega) hS hby hN hNn hFF hM h0 hI hL (by omega) (by omega) h35) (by omega) (Nat.le_of_ble_eq_true rfl) ?_
        rintro ro_ ρ1 ⟨hret, hG1⟩ -
        have hI1 := line_inv (F := F) (V := tV B n) hN hI h12
        rw [wayL_s, if_neg (fun q => q.elim (fun q => by omega) (fun q => q h0))] at hT
        obtain ⟨z1, rfl, hz1⟩ : ∃ z : Int, ro_ = some (vI z) ∧ ((z = 0 ∧ (lineS F (tK B n) (tV B n) w).1.1 = 0 ∧ Md B n ρ1 (lineS F (tK B n) (tV B n) w).1 ∧ LnM ρ1 (lineS F (tK B n) (tV B n) w).2.1 (lineS F (tK B n) (tV B n) w).2.2 ∧ ρ1.2.1 94 35 = 0) ∨ (z = -1 ∧ (lineS F (tK B n) (tV B n) w).1.1 ≠ 0 ∧ ρ1.2.1 94 38 = (lineS F (tK B n) (tV B n) w).1.1 ∧ ρ1.2.1 94 39 = tP B n (lineS F (tK B n) (tV B n) w).1.2.1)) := by
          rcases hret with ⟨a, b, c⟩ | ⟨a, b, c⟩
          · exact ⟨0, b, Or.inl ⟨rfl, a, c⟩⟩
          · exact ⟨-1, b, Or.inr ⟨rfl, a, c⟩⟩
        refine AW_iconst dX12_readWay_57 ?_
        refine AW_icmp_ne (tgt := 63) dX12_readWay_58 (by decide) (fun c_58 => ?_) (fun c_58 => ?_)
        · skip
          have hy1 := hz1.elim id (fun q => absurd q.1 c_58)
          refine AW_iload_n dX12_readWay_63 rfl ?_
          refine AW_iconst dX12_readWay_64 ?_
          refine AW_iaddE dX12_readWay_65 (by omega) (by omega) ?_
          refine AW_istore1 dX12_readWay_66 ?_
          refine AW_goto (tgt := 21) dX12_readWay_67 (by decide) ?_
          have hlm := line_m hy1.2.1 (by rw [hk0]; omega) (by omega)
          rw [show (w.2.1 : Int) + 1 = ((lineS F (tK B n) (tV B n) w).2.1 : Int) by rw [hlm]; omega]
          exact ih f1 _ ρ1 (by omega) (by rw [hlm]; omega) hy1.2.1 hy1.2.2.1 hI1.1 hy1.2.2.2.1 hy1.2.2.2.2 hT (hF.tr hG1)
        · skip
          have hy1 := hz1.elim (fun q => absurd (q.1.symm.trans c_58) (by decide)) id
          refine AW_iconst dX12_readWay_61 ?_
          refine AW_iret dX12_readWay_62 rfl ?_
          rw [wayL_f hy1.2.1] at hT
          rw [← hT]
          exact ⟨Or.inr ⟨hy1.2.1, rfl, hy1.2.2.1, hy1.2.2.2⟩, hF.tr hG1⟩
      · skip
        refine AW_aload_n dX12_readWay_43 rfl ?_
        refine AW_iconst dX12_readWay_44 ?_
        refine AW_callV1 (d' := d - 1) dX12_readWay_45 (Or.inl lkX12_255) mfX12_fails (hS.cel rfl) ⟨_, rfl, rfl⟩ (n_fails hS 3) (by omega) (Nat.le_of_ble_eq_true rfl) ?_
        rintro _ ρ1 ⟨rfl, q1, q2, q3⟩ -
        refine AW_iret dX12_readWay_48 rfl ?_
        have e : lineS F (tK B n) (tV B n) w = ((3, w.1.2), w.2) := by
          unfold lineS blameS
          rw [if_pos (by rw [hk0]; omega), if_pos (by omega), if_pos h0]
        rw [wayL_s, if_neg (fun q => q.elim (fun q => by omega) (fun q => q h0)), e, wayL_f (show ((3, w.1.2), w.2).1.1 ≠ (0 : Int) from (by decide : (3 : Int) ≠ 0))] at hT
        rw [← hT]
        exact ⟨Or.inr ⟨(by decide : (3 : Int) ≠ 0), rfl, q1, by rw [q2, hM.2.2.1]⟩, hF.tr q3.w⟩
    · skip
      replace c_26 := bz0 c_26
      refine AW_aload_n dX12_readWay_29 rfl ?_
      refine AW_iconst dX12_readWay_30 ?_
      refine AW_callV1 (d' := d - 1) dX12_readWay_31 (Or.inl lkX12_284) mfX12_isWord (hS.cel rfl) ⟨_, rfl, rfl⟩ (n_isWord hS hM 1 (by decide)) (by omega) (Nat.le_of_ble_eq_true rfl) ?_
      rintro _ _ ⟨e_, rfl⟩ -
      rw [e_]
      clear e_
      refine AW_if_eq (tgt := 70) dX12_readWay_34 (by decide) (fun c_34 => ?_) (fun c_34 => ?_)
      · skip
        replace c_34 := bz0 c_34
        refine AW_aload_n dX12_readWay_70 rfl ?_
        refine AW_getI dX12_readWay_71 gfX12_228 (hS.cel rfl) ?_
        refine AW_if_ne (tgt := 81) dX12_readWay_74 (by decide) (fun c_74 => ?_) (fun c_74 => ?_)
        · skip
          refine AW_aload_n dX12_readWay_81 rfl ?_
          refine AW_iconst dX12_readWay_82 ?_
          refine AW_callV1 (d' := d - 1) dX12_readWay_83 (Or.inl lkX12_255) mfX12_fails (hS.cel rfl) ⟨_, rfl, rfl⟩ (n_fails hS 1) (by omega) (Nat.le_of_ble_eq_true rfl) ?_
          rintro _ ρ1 ⟨rfl, q1, q2, q3⟩ -
          refine AW_iret dX12_readWay_86 rfl ?_
          first
          | (have hke : kd (tK B n) w.1 = 0 := by rw [hk0]; omega
             rw [wayL_e hke] at hT
             subst hT
             exact ⟨Or.inl ⟨h0, rfl, hM, hL, h35⟩, hF⟩)
          | (have e : lineS F (tK B n) (tV B n) w = ((1, w.1.2), w.2) := by
               unfold lineS blameS
               rw [if_neg (by rw [hk0]; omega), if_pos h0]
             rw [wayL_s, if_neg (fun q => q.elim (fun q => by omega) (fun q => q h0)), e, wayL_f (show ((1, w.1.2), w.2).1.1 ≠ (0 : Int) from (by decide : (1 : Int) ≠ 0))] at hT
             rw [← hT]
             exact ⟨Or.inr ⟨(by decide : (1 : Int) ≠ 0), rfl, q1, by rw [q2, hM.2.2.1]⟩, hF.tr q3.w⟩)
        · skip
          refine AW_iload_n dX12_readWay_77 rfl ?_
          refine AW_goto (tgt := 86) dX12_readWay_78 (by decide) ?_
          refine AW_iret dX12_readWay_86 rfl ?_
          first
          | (have hke : kd (tK B n) w.1 = 0 := by rw [hk0]; omega
             rw [wayL_e hke] at hT
             subst hT
             exact ⟨Or.inl ⟨h0, rfl, hM, hL, h35⟩, hF⟩)
          | (have e : lineS F (tK B n) (tV B n) w = ((1, w.1.2), w.2) := by
               unfold lineS blameS
               rw [if_neg (by rw [hk0]; omega), if_pos h0]
             rw [wayL_s, if_neg (fun q => q.elim (fun q => by omega) (fun q => q h0)), e, wayL_f (show ((1, w.1.2), w.2).1.1 ≠ (0 : Int) from (by decide : (1 : Int) ≠ 0))] at hT
             rw [← hT]
             exact ⟨Or.inr ⟨(by decide : (1 : Int) ≠ 0), rfl, q1, by rw [q2, hM.2.2.1]⟩, hF.tr q3.w⟩)
      · skip
        replace c_34 := bz1 c_34
        refine AW_iload_n dX12_readWay_37 rfl ?_
        refine AW_bipush dX12_readWay_38 ?_
        refine AW_icmp_ne (tgt := 49) dX12_readWay_40 (by decide) (fun c_40 => ?_) (fun c_40 => ?_)
        · skip
          refine AW_aload_n dX12_readWay_49 rfl ?_
          refine AW_bipush dX12_readWay_50 ?_
          refine AW_iload_n dX12_readWay_52 rfl ?_
          refine AW_iaddE dX12_readWay_53 (by omega) (by omega) ?_
          refine AW_callV1 (d' := d - 1) dX12_readWay_54 (Or.inl lkX12_299) mfX12_readLine (hS.cel rfl) ⟨_, rfl, rfl⟩ (n_line (by omega) hS hby hN hNn hFF hM h0 hI hL (by omega) (by omega) h35) (by omega) (Nat.le_of_ble_eq_true rfl) ?_
          rintro ro_ ρ1 ⟨hret, hG1⟩ -
          have hI1 := line_inv (F := F) (V := tV B n) hN hI h12
          rw [wayL_s, if_neg (fun q => q.elim (fun q => by omega) (fun q => q h0))] at hT
          obtain ⟨z1, rfl, hz1⟩ : ∃ z : Int, ro_ = some (vI z) ∧ ((z = 0 ∧ (lineS F (tK B n) (tV B n) w).1.1 = 0 ∧ Md B n ρ1 (lineS F (tK B n) (tV B n) w).1 ∧ LnM ρ1 (lineS F (tK B n) (tV B n) w).2.1 (lineS F (tK B n) (tV B n) w).2.2 ∧ ρ1.2.1 94 35 = 0) ∨ (z = -1 ∧ (lineS F (tK B n) (tV B n) w).1.1 ≠ 0 ∧ ρ1.2.1 94 38 = (lineS F (tK B n) (tV B n) w).1.1 ∧ ρ1.2.1 94 39 = tP B n (lineS F (tK B n) (tV B n) w).1.2.1)) := by
            rcases hret with ⟨a, b, c⟩ | ⟨a, b, c⟩
            · exact ⟨0, b, Or.inl ⟨rfl, a, c⟩⟩
            · exact ⟨-1, b, Or.inr ⟨rfl, a, c⟩⟩
          refine AW_iconst dX12_readWay_57 ?_
          refine AW_icmp_ne (tgt := 63) dX12_readWay_58 (by decide) (fun c_58 => ?_) (fun c_58 => ?_)
          · skip
            have hy1 := hz1.elim id (fun q => absurd q.1 c_58)
            refine AW_iload_n dX12_readWay_63 rfl ?_
            refine AW_iconst dX12_readWay_64 ?_
            refine AW_iaddE dX12_readWay_65 (by omega) (by omega) ?_
            refine AW_istore1 dX12_readWay_66 ?_
            refine AW_goto (tgt := 21) dX12_readWay_67 (by decide) ?_
            have hlm := line_m hy1.2.1 (by rw [hk0]; omega) (by omega)
            rw [show (w.2.1 : Int) + 1 = ((lineS F (tK B n) (tV B n) w).2.1 : Int) by rw [hlm]; omega]
            exact ih f1 _ ρ1 (by omega) (by rw [hlm]; omega) hy1.2.1 hy1.2.2.1 hI1.1 hy1.2.2.2.1 hy1.2.2.2.2 hT (hF.tr hG1)
          · skip
            have hy1 := hz1.elim (fun q => absurd (q.1.symm.trans c_58) (by decide)) id
            refine AW_iconst dX12_readWay_61 ?_
            refine AW_iret dX12_readWay_62 rfl ?_
            rw [wayL_f hy1.2.1] at hT
            rw [← hT]
            exact ⟨Or.inr ⟨hy1.2.1, rfl, hy1.2.2.1, hy1.2.2.2⟩, hF.tr hG1⟩
        · skip
          refine AW_aload_n dX12_readWay_43 rfl ?_
          refine AW_iconst dX12_readWay_44 ?_
          refine AW_callV1 (d' := d - 1) dX12_readWay_45 (Or.inl lkX12_255) mfX12_fails (hS.cel rfl) ⟨_, rfl, rfl⟩ (n_fails hS 3) (by omega) (Nat.le_of_ble_eq_true rfl) ?_
          rintro _ ρ1 ⟨rfl, q1, q2, q3⟩ -
          refine AW_iret dX12_readWay_48 rfl ?_
          have e : lineS F (tK B n) (tV B n) w = ((3, w.1.2), w.2) := by
            unfold lineS blameS
            rw [if_pos (by rw [hk0]; omega), if_pos (by omega), if_pos h0]
          rw [wayL_s, if_neg (fun q => q.elim (fun q => by omega) (fun q => q h0)), e, wayL_f (show ((3, w.1.2), w.2).1.1 ≠ (0 : Int) from (by decide : (3 : Int) ≠ 0))] at hT
          rw [← hT]
          exact ⟨Or.inr ⟨(by decide : (3 : Int) ≠ 0), rfl, q1, by rw [q2, hM.2.2.1]⟩, hF.tr q3.w⟩
theorem n_way {G : Gt} {d : Nat} {σ : St} (hd : 9 ≤ d) {B : Nat → Int} {n F : Nat} (hS : Sta σ) (hby : byB B n) (hFF : F = 400) (hT : tpM n B σ) (hw : wdM σ)  : AM mX12_readWay G d 0 0 [vR 94] σ (fun ro ρ => RetL B n (wayOf F B n) ((wayOf F B n).2.1 : Int) ro ρ ∧ Fw σ ρ) := by
  refine AM.intro (by decide +kernel) (by simp [nLg]) (Nat.le_of_ble_eq_true rfl) (fun hO => ?_)
  show AW _ _ _ _ _ _ 0 [some (vR 94), none] [] σ
  refine AW_iconst dX12_readWay_0 ?_
  refine AW_istore1 dX12_readWay_1 ?_
  refine AW_aload_n dX12_readWay_2 rfl ?_
  refine AW_iconst dX12_readWay_3 ?_
  refine AW_putI dX12_readWay_4 (Or.inl pfX12_218) (hS.cel rfl) ?_
  refine AW_aload_n dX12_readWay_7 rfl ?_
  refine AW_iconst dX12_readWay_8 ?_
  refine AW_putI dX12_readWay_9 (Or.inl pfX12_252) (hS.cel rfl) ?_
  refine AW_aload_n dX12_readWay_12 rfl ?_
  refine AW_iconst dX12_readWay_13 ?_
  refine AW_putI dX12_readWay_14 (Or.inl pfX12_281) (hS.cel rfl) ?_
  have hF1 : Fe [22, 34, 35] [] σ (upI (upI (upI σ 94 22 0) 94 34 0) 94 35 0) := ((Fe.rf.uf (by decide) _).uf (by decide) _).uf (by decide) _
  have hS1 := hF1.sta hS
  have hT1 := hT.fm hF1.1
  have hw1 := hw.fm hF1.1
  have h22 : (upI (upI (upI σ 94 22 0) 94 34 0) 94 35 0).2.1 94 22 = ((0 : Nat) : Int) := by rw [up_j _ _ _ (by decide), up_j _ _ _ (by decide), up_at]; rfl
  have h34 : (upI (upI (upI σ 94 22 0) 94 34 0) 94 35 0).2.1 94 34 = 0 := by rw [up_j _ _ _ (by decide), up_at]
  have h35 : (upI (upI (upI σ 94 22 0) 94 34 0) 94 35 0).2.1 94 35 = 0 := up_at _ _ _ _
  generalize upI (upI (upI σ 94 22 0) 94 34 0) 94 35 0 = σ1 at hF1 hS1 hT1 hw1 h22 h34 h35 ⊢
  refine AW_aload_n dX12_readWay_17 rfl ?_
  refine AW_callV0 (d' := d - 1) dX12_readWay_18 (Or.inl lkX12_262) mfX12_reads (hS1.cel rfl) ⟨_, rfl, rfl⟩ (n_reads (by omega) hS1 hT1 hw1 hby 0 (Nat.zero_le _) h22) (by omega) (Nat.le_of_ble_eq_true rfl) ?_
  rintro _ ρ2 ⟨rfl, q2, q3, q4, q5⟩ -
  obtain ⟨N, hNn, hN⟩ := fn_ex B n
  have h400 := hT.2.1
  have hM2 : Md B n ρ2 ws0.1 := ⟨hT1.fm q5, hw1.fm q5, q2, q3, q4, (q5.f 34).trans h34, fun k hk => absurd hk (Nat.not_lt_zero k)⟩
  exact ln_way (F := F) hd hS hby hN (by omega) hFF 14 13 ws0 ρ2 (by omega) rfl rfl hM2 ⟨Nat.zero_le _, fun _ => Nat.le_refl _⟩ ⟨Nat.zero_le _, fun l hl => absurd hl (Nat.not_lt_zero l)⟩ ((q5.f 35).trans h35) rfl (hF1.w.tr q5.e.w)
