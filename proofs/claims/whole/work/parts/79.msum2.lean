theorem unit_f {K V : Nat → Int} {s : PS} (h : s.1 ≠ 0) : unitS K V s = s := by
  unfold unitS blameS
  rw [kd_f h, if_neg (by decide), if_neg (by decide), if_neg h]
theorem sumL_f {K V : Nat → Int} {s : PS} (h : s.1 ≠ 0) (f : Nat) (w : Int) : (sumL K V f w s).1 = s.1 ∧ (sumL K V f w s).2.1 = s.2.1 := by
  cases f with
  | zero => exact ⟨rfl, rfl⟩
  | succ f =>
    rw [sumL_s, kd_f h, if_neg (by decide), if_neg (by decide), if_neg (by decide), if_neg (by decide)]
    split <;> exact ⟨rfl, rfl⟩
theorem sumS_f {F : Nat} {K V : Nat → Int} {s : PS} (h : s.1 ≠ 0) : (sumS F K V s).1 = s.1 ∧ (sumS F K V s).2.1 = s.2.1 := by
  unfold sumS
  rw [unit_f h]
  exact sumL_f h F 0
theorem cmpS_f {K : Nat → Int} {s : PS} (h : s.1 ≠ 0) : cmpS K s = s := by
  unfold cmpS blameS
  rw [kd_f h, if_neg (by decide), if_neg h]
theorem sumL_w {K V : Nat → Int} {s : PS} (h1 : kd K s ≠ 42) (h2 : kd K s ≠ 47) (f : Nat) {w : Int} (hw : w ≠ 0) : sumL K V (f + 1) w s = sumL K V (f + 1) 0 (putS w s) := by
  rw [sumL_s, sumL_s, kd_put, if_neg h1, if_neg h2, if_neg h1, if_neg h2, if_neg hw, if_pos rfl]
theorem sumL_stop {K V : Nat → Int} {s : PS} (h1 : kd K s ≠ 42) (h2 : kd K s ≠ 47) (h3 : kd K s ≠ 43) (h4 : kd K s ≠ 45) (f : Nat) : sumL K V (f + 1) 0 s = s := by
  rw [sumL_s, if_neg h1, if_neg h2, if_neg h3, if_neg h4, if_pos rfl]
theorem prod_i (K V : Nat → Int) : ∀ (g : Nat) (s : PS), s.2.1 ≤ (prodL K V g s).2.1 := by
  intro g
  induction g with
  | zero => intro s; exact Nat.le_refl _
  | succ g ih =>
    intro s
    rw [prodL_s]
    split
    · have h1 := ih (putS (-10) (unitS K V (stepS s)))
      have h2 := unit_i K V (stepS s)
      have h3 : (putS (-10) (unitS K V (stepS s))).2.1 = (unitS K V (stepS s)).2.1 := rfl
      have h4 : (stepS s).2.1 = s.2.1 + 1 := rfl
      omega
    · split
      · have h1 := ih (putS (-11) (divS K V (stepS s)))
        have h2 := div_i K V (stepS s)
        have h3 : (putS (-11) (divS K V (stepS s))).2.1 = (divS K V (stepS s)).2.1 := rfl
        have h4 : (stepS s).2.1 = s.2.1 + 1 := rfl
        omega
      · exact Nat.le_refl _
theorem ln_sum {G : Gt} {d : Nat} {σ : St} {B : Nat → Int} {n N F : Nat} {T : PS} (hd : 5 ≤ d) (hS0 : Sta σ) (hby : byB B n) (hN : Fn (tK B n) N) (hNn : N ≤ 400) (hFF : F = 400) : ∀ (nn : Nat) (f : Nat) (s : PS) (x1 : Option AV) (τ : St), (N - s.2.1) < nn → s.1 = 0 → Md B n τ s → Inv N 0 s → N + 1 ≤ f + s.2.1 → sumL (tK B n) (tV B n) f 0 s = T → kd (tK B n) s ≠ 42 → kd (tK B n) s ≠ 47 → Fe [22, 23, 24, 25, 34, 38, 39] [110, 111] σ τ →  AW mX12_readSum G d 0 0 (mq G (fun ro ρ => Ret B n T ro ρ ∧ Fe [22, 23, 24, 25, 34, 38, 39] [110, 111] σ ρ)) 10 [some (vR 94), x1] [] τ := by
  intro nn
  induction nn with
  | zero => intros; omega
  | succ nn ih =>
    intro f s x1 τ hn h0 hM hI hg hT h42 h47 hF
    have hS := hF.sta hS0
    have hk0 := kd0 (K := tK B n) h0
    have hin := hI.1
    have hcs := hM.2.2.2.1.cs
    obtain ⟨f1, rfl⟩ : ∃ f1, f = f1 + 1 := ⟨f - 1, by omega⟩
    refine AW_aload_n dX12_readSum_10 rfl ?_
    refine AW_bipush dX12_readSum_11 ?_
    refine AW_callV1 (d' := d - 1) dX12_readSum_13 (Or.inl lkX12_269) mfX12_isSign (hS.cel rfl) ⟨_, rfl, rfl⟩ (n_isSign hS hM 43 (by decide)) (by omega) (Nat.le_of_ble_eq_true rfl) ?_
    rintro _ _ ⟨e_, rfl⟩ -
    rw [e_]
    clear e_
    refine AW_if_ne (tgt := 28) dX12_readSum_16 (by decide) (fun c_16 => ?_) (fun c_16 => ?_)
    · skip
      replace c_16 := bz1 c_16
      refine AW_aload_n dX12_readSum_28 rfl ?_
      refine AW_getI dX12_readSum_29 gfX12_231 (hS.cel rfl) ?_
      refine AW_bipush dX12_readSum_32 ?_
      refine AW_icmp_ne (tgt := 41) dX12_readSum_34 (by decide) (fun c_34 => ?_) (fun c_34 => ?_)
      · skip
        refine AW_iconst dX12_readSum_41 ?_
        refine AW_istore1 dX12_readSum_42 ?_
        refine AW_aload_n dX12_readSum_43 rfl ?_
        refine AW_callV0 (d' := d - 1) dX12_readSum_44 (Or.inl lkX12_262) mfX12_reads (hS.cel rfl) ⟨_, rfl, rfl⟩ (n_mreads (by omega) hS hby hM (by omega)) (by omega) (Nat.le_of_ble_eq_true rfl) ?_
        rintro _ ρ2 ⟨rfl, hM2, hG2⟩ -
        have hS2 := hG2.sta hS
        have hI2 := hI.step hN (by omega) (by omega)
        have h02 : (stepS s).1 = 0 := h0
        have hi2 : (stepS s).2.1 = s.2.1 + 1 := rfl
        have hin2 := hI2.1
        refine AW_aload_n dX12_readSum_47 rfl ?_
        refine AW_callV0 (d' := d - 1) dX12_readSum_48 (Or.inl lkX12_272) mfX12_readProduct (hS2.cel rfl) ⟨_, rfl, rfl⟩ (n_prod (g := F) (by omega) hS2 hby hN hNn hM2 h02 (hI2.mono (by omega)) (by omega)) (by omega) (Nat.le_of_ble_eq_true rfl) ?_
        rintro _ ρ3 ⟨hret3, hG3⟩ -
        obtain ⟨z3, rfl, hz3⟩ := hret3.z
        have hS3 := hG3.sta hS2
        have hI3a := (hI2.unit (tV B n) hN)
        have hI3 := Inv.prodLp (tV B n) hN F _ _ hI3a
        have hui := unit_i (tK B n) (tV B n) (stepS s)
        obtain ⟨f2, g1, g2, g3, g4⟩ := sum_prod (V := tV B n) hN F f1 (-9) (unitS (tK B n) (tV B n) (stepS s)) (hI3a.mono (by omega)) (by omega) (by omega)
        have hTw : T = sumL (tK B n) (tV B n) f2 (-9) (prodL (tK B n) (tV B n) F (unitS (tK B n) (tV B n) (stepS s))) := by
          rw [← g2, ← hT, sumL_s, if_neg h42, if_neg h47]
          first | (rw [if_pos (by omega), if_pos rfl]; done) | (rw [if_neg (by omega), if_pos (by omega), if_pos rfl]; done)
        refine AW_iconst dX12_readSum_51 ?_
        refine AW_icmp_ne (tgt := 57) dX12_readSum_52 (by decide) (fun c_52 => ?_) (fun c_52 => ?_)
        · skip
          have hy3 := hz3.elim id (fun q => absurd q.1 c_52)
          refine AW_aload_n dX12_readSum_57 rfl ?_
          refine AW_iload_n dX12_readSum_58 rfl ?_
          refine AW_iconst dX12_readSum_59 ?_
          refine AW_callV2 (d' := d - 1) dX12_readSum_60 (Or.inl lkX12_258) mfX12_emits (hS3.cel rfl) ⟨_, rfl, rfl⟩ (n_emits hS3 hy3.2.2 (-9) _ _ (hI3.lt hNn hy3.2.1) (by decide) (by decide)) (by omega) (Nat.le_of_ble_eq_true rfl) ?_
          rintro _ ρ4 ⟨rfl, hM4, hG4⟩ -
          refine AW_goto (tgt := 10) dX12_readSum_63 (by decide) ?_
          have hfz : ∃ f3, f2 = f3 + 1 := ⟨f2 - 1, by have := hI3.1; omega⟩
          obtain ⟨f3, rfl⟩ := hfz
          rw [sumL_w g3 g4 f3 (by decide)] at hTw
          have hpi : s.2.1 + 1 ≤ (prodL (tK B n) (tV B n) F (unitS (tK B n) (tV B n) (stepS s))).2.1 := by
            have := prod_i (tK B n) (tV B n) F (unitS (tK B n) (tV B n) (stepS s))
            omega
          exact ih (f3 + 1) (putS (-9) (prodL (tK B n) (tV B n) F (unitS (tK B n) (tV B n) (stepS s)))) _ ρ4 (by show N - (prodL _ _ _ _).2.1 < nn; omega) hy3.2.1 hM4 (hI3.put _) (by show N + 1 ≤ f3 + 1 + (prodL _ _ _ _).2.1; omega) hTw.symm (by rw [kd_put]; exact g3) (by rw [kd_put]; exact g4) (((hF.tr (hG2.mo (by decide) (by decide))).tr (hG3.mo (by decide) (by decide))).tr (hG4.mo (by decide) (by decide)))
        · skip
          have hy3 := hz3.elim (fun q => absurd (q.1.symm.trans c_52) (by decide)) id
          refine AW_iconst dX12_readSum_55 ?_
          refine AW_iret dX12_readSum_56 rfl ?_
          have hq := sumL_f (K := tK B n) (V := tV B n) hy3.2.1 f2 (-9)
          rw [← hTw] at hq
          exact ⟨Or.inr ⟨by rw [hq.1]; exact hy3.2.1, rfl, by rw [hq.1]; exact hy3.2.2.1, by rw [hq.2]; exact hy3.2.2.2⟩, (hF.tr (hG2.mo (by decide) (by decide))).tr (hG3.mo (by decide) (by decide))⟩
      · skip
        refine AW_iconst dX12_readSum_37 ?_
        refine AW_goto (tgt := 42) dX12_readSum_38 (by decide) ?_
        refine AW_istore1 dX12_readSum_42 ?_
        refine AW_aload_n dX12_readSum_43 rfl ?_
        refine AW_callV0 (d' := d - 1) dX12_readSum_44 (Or.inl lkX12_262) mfX12_reads (hS.cel rfl) ⟨_, rfl, rfl⟩ (n_mreads (by omega) hS hby hM (by omega)) (by omega) (Nat.le_of_ble_eq_true rfl) ?_
        rintro _ ρ2 ⟨rfl, hM2, hG2⟩ -
        have hS2 := hG2.sta hS
        have hI2 := hI.step hN (by omega) (by omega)
        have h02 : (stepS s).1 = 0 := h0
        have hi2 : (stepS s).2.1 = s.2.1 + 1 := rfl
        have hin2 := hI2.1
        refine AW_aload_n dX12_readSum_47 rfl ?_
        refine AW_callV0 (d' := d - 1) dX12_readSum_48 (Or.inl lkX12_272) mfX12_readProduct (hS2.cel rfl) ⟨_, rfl, rfl⟩ (n_prod (g := F) (by omega) hS2 hby hN hNn hM2 h02 (hI2.mono (by omega)) (by omega)) (by omega) (Nat.le_of_ble_eq_true rfl) ?_
        rintro _ ρ3 ⟨hret3, hG3⟩ -
        obtain ⟨z3, rfl, hz3⟩ := hret3.z
        have hS3 := hG3.sta hS2
        have hI3a := (hI2.unit (tV B n) hN)
        have hI3 := Inv.prodLp (tV B n) hN F _ _ hI3a
        have hui := unit_i (tK B n) (tV B n) (stepS s)
        obtain ⟨f2, g1, g2, g3, g4⟩ := sum_prod (V := tV B n) hN F f1 (-8) (unitS (tK B n) (tV B n) (stepS s)) (hI3a.mono (by omega)) (by omega) (by omega)
        have hTw : T = sumL (tK B n) (tV B n) f2 (-8) (prodL (tK B n) (tV B n) F (unitS (tK B n) (tV B n) (stepS s))) := by
          rw [← g2, ← hT, sumL_s, if_neg h42, if_neg h47]
          first | (rw [if_pos (by omega), if_pos rfl]; done) | (rw [if_neg (by omega), if_pos (by omega), if_pos rfl]; done)
        refine AW_iconst dX12_readSum_51 ?_
        refine AW_icmp_ne (tgt := 57) dX12_readSum_52 (by decide) (fun c_52 => ?_) (fun c_52 => ?_)
        · skip
          have hy3 := hz3.elim id (fun q => absurd q.1 c_52)
          refine AW_aload_n dX12_readSum_57 rfl ?_
          refine AW_iload_n dX12_readSum_58 rfl ?_
          refine AW_iconst dX12_readSum_59 ?_
          refine AW_callV2 (d' := d - 1) dX12_readSum_60 (Or.inl lkX12_258) mfX12_emits (hS3.cel rfl) ⟨_, rfl, rfl⟩ (n_emits hS3 hy3.2.2 (-8) _ _ (hI3.lt hNn hy3.2.1) (by decide) (by decide)) (by omega) (Nat.le_of_ble_eq_true rfl) ?_
          rintro _ ρ4 ⟨rfl, hM4, hG4⟩ -
          refine AW_goto (tgt := 10) dX12_readSum_63 (by decide) ?_
          have hfz : ∃ f3, f2 = f3 + 1 := ⟨f2 - 1, by have := hI3.1; omega⟩
          obtain ⟨f3, rfl⟩ := hfz
          rw [sumL_w g3 g4 f3 (by decide)] at hTw
          have hpi : s.2.1 + 1 ≤ (prodL (tK B n) (tV B n) F (unitS (tK B n) (tV B n) (stepS s))).2.1 := by
            have := prod_i (tK B n) (tV B n) F (unitS (tK B n) (tV B n) (stepS s))
            omega
          exact ih (f3 + 1) (putS (-8) (prodL (tK B n) (tV B n) F (unitS (tK B n) (tV B n) (stepS s)))) _ ρ4 (by show N - (prodL _ _ _ _).2.1 < nn; omega) hy3.2.1 hM4 (hI3.put _) (by show N + 1 ≤ f3 + 1 + (prodL _ _ _ _).2.1; omega) hTw.symm (by rw [kd_put]; exact g3) (by rw [kd_put]; exact g4) (((hF.tr (hG2.mo (by decide) (by decide))).tr (hG3.mo (by decide) (by decide))).tr (hG4.mo (by decide) (by decide)))
        · skip
          have hy3 := hz3.elim (fun q => absurd (q.1.symm.trans c_52) (by decide)) id
          refine AW_iconst dX12_readSum_55 ?_
          refine AW_iret dX12_readSum_56 rfl ?_
          have hq := sumL_f (K := tK B n) (V := tV B n) hy3.2.1 f2 (-8)
          rw [← hTw] at hq
          exact ⟨Or.inr ⟨by rw [hq.1]; exact hy3.2.1, rfl, by rw [hq.1]; exact hy3.2.2.1, by rw [hq.2]; exact hy3.2.2.2⟩, (hF.tr (hG2.mo (by decide) (by decide))).tr (hG3.mo (by decide) (by decide))⟩
    · skip
      replace c_16 := bz0 c_16
      refine AW_aload_n dX12_readSum_19 rfl ?_
      refine AW_bipush dX12_readSum_20 ?_
      refine AW_callV1 (d' := d - 1) dX12_readSum_22 (Or.inl lkX12_269) mfX12_isSign (hS.cel rfl) ⟨_, rfl, rfl⟩ (n_isSign hS hM 45 (by decide)) (by omega) (Nat.le_of_ble_eq_true rfl) ?_
      rintro _ _ ⟨e_, rfl⟩ -
      rw [e_]
      clear e_
      refine AW_if_eq (tgt := 66) dX12_readSum_25 (by decide) (fun c_25 => ?_) (fun c_25 => ?_)
      · skip
        replace c_25 := bz0 c_25
        refine AW_iconst dX12_readSum_66 ?_
        refine AW_iret dX12_readSum_67 rfl ?_
        rw [sumL_stop h42 h47 (by omega) (by omega)] at hT
        rw [← hT]
        exact ⟨Or.inl ⟨h0, rfl, hM⟩, hF⟩
      · skip
        replace c_25 := bz1 c_25
        refine AW_aload_n dX12_readSum_28 rfl ?_
        refine AW_getI dX12_readSum_29 gfX12_231 (hS.cel rfl) ?_
        refine AW_bipush dX12_readSum_32 ?_
        refine AW_icmp_ne (tgt := 41) dX12_readSum_34 (by decide) (fun c_34 => ?_) (fun c_34 => ?_)
        · skip
          refine AW_iconst dX12_readSum_41 ?_
          refine AW_istore1 dX12_readSum_42 ?_
          refine AW_aload_n dX12_readSum_43 rfl ?_
          refine AW_callV0 (d' := d - 1) dX12_readSum_44 (Or.inl lkX12_262) mfX12_reads (hS.cel rfl) ⟨_, rfl, rfl⟩ (n_mreads (by omega) hS hby hM (by omega)) (by omega) (Nat.le_of_ble_eq_true rfl) ?_
          rintro _ ρ2 ⟨rfl, hM2, hG2⟩ -
          have hS2 := hG2.sta hS
          have hI2 := hI.step hN (by omega) (by omega)
          have h02 : (stepS s).1 = 0 := h0
          have hi2 : (stepS s).2.1 = s.2.1 + 1 := rfl
          have hin2 := hI2.1
          refine AW_aload_n dX12_readSum_47 rfl ?_
          refine AW_callV0 (d' := d - 1) dX12_readSum_48 (Or.inl lkX12_272) mfX12_readProduct (hS2.cel rfl) ⟨_, rfl, rfl⟩ (n_prod (g := F) (by omega) hS2 hby hN hNn hM2 h02 (hI2.mono (by omega)) (by omega)) (by omega) (Nat.le_of_ble_eq_true rfl) ?_
          rintro _ ρ3 ⟨hret3, hG3⟩ -
          obtain ⟨z3, rfl, hz3⟩ := hret3.z
          have hS3 := hG3.sta hS2
          have hI3a := (hI2.unit (tV B n) hN)
          have hI3 := Inv.prodLp (tV B n) hN F _ _ hI3a
          have hui := unit_i (tK B n) (tV B n) (stepS s)
          obtain ⟨f2, g1, g2, g3, g4⟩ := sum_prod (V := tV B n) hN F f1 (-9) (unitS (tK B n) (tV B n) (stepS s)) (hI3a.mono (by omega)) (by omega) (by omega)
          have hTw : T = sumL (tK B n) (tV B n) f2 (-9) (prodL (tK B n) (tV B n) F (unitS (tK B n) (tV B n) (stepS s))) := by
            rw [← g2, ← hT, sumL_s, if_neg h42, if_neg h47]
            first | (rw [if_pos (by omega), if_pos rfl]; done) | (rw [if_neg (by omega), if_pos (by omega), if_pos rfl]; done)
          refine AW_iconst dX12_readSum_51 ?_
          refine AW_icmp_ne (tgt := 57) dX12_readSum_52 (by decide) (fun c_52 => ?_) (fun c_52 => ?_)
          · skip
            have hy3 := hz3.elim id (fun q => absurd q.1 c_52)
            refine AW_aload_n dX12_readSum_57 rfl ?_
            refine AW_iload_n dX12_readSum_58 rfl ?_
            refine AW_iconst dX12_readSum_59 ?_
            refine AW_callV2 (d' := d - 1) dX12_readSum_60 (Or.inl lkX12_258) mfX12_emits (hS3.cel rfl) ⟨_, rfl, rfl⟩ (n_emits hS3 hy3.2.2 (-9) _ _ (hI3.lt hNn hy3.2.1) (by decide) (by decide)) (by omega) (Nat.le_of_ble_eq_true rfl) ?_
            rintro _ ρ4 ⟨rfl, hM4, hG4⟩ -
            refine AW_goto (tgt := 10) dX12_readSum_63 (by decide) ?_
            have hfz : ∃ f3, f2 = f3 + 1 := ⟨f2 - 1, by have := hI3.1; omega⟩
            obtain ⟨f3, rfl⟩ := hfz
            rw [sumL_w g3 g4 f3 (by decide)] at hTw
            have hpi : s.2.1 + 1 ≤ (prodL (tK B n) (tV B n) F (unitS (tK B n) (tV B n) (stepS s))).2.1 := by
              have := prod_i (tK B n) (tV B n) F (unitS (tK B n) (tV B n) (stepS s))
              omega
            exact ih (f3 + 1) (putS (-9) (prodL (tK B n) (tV B n) F (unitS (tK B n) (tV B n) (stepS s)))) _ ρ4 (by show N - (prodL _ _ _ _).2.1 < nn; omega) hy3.2.1 hM4 (hI3.put _) (by show N + 1 ≤ f3 + 1 + (prodL _ _ _ _).2.1; omega) hTw.symm (by rw [kd_put]; exact g3) (by rw [kd_put]; exact g4) (((hF.tr (hG2.mo (by decide) (by decide))).tr (hG3.mo (by decide) (by decide))).tr (hG4.mo (by decide) (by decide)))
          · skip
            have hy3 := hz3.elim (fun q => absurd (q.1.symm.trans c_52) (by decide)) id
            refine AW_iconst dX12_readSum_55 ?_
            refine AW_iret dX12_readSum_56 rfl ?_
            have hq := sumL_f (K := tK B n) (V := tV B n) hy3.2.1 f2 (-9)
            rw [← hTw] at hq
            exact ⟨Or.inr ⟨by rw [hq.1]; exact hy3.2.1, rfl, by rw [hq.1]; exact hy3.2.2.1, by rw [hq.2]; exact hy3.2.2.2⟩, (hF.tr (hG2.mo (by decide) (by decide))).tr (hG3.mo (by decide) (by decide))⟩
        · skip
          refine AW_iconst dX12_readSum_37 ?_
          refine AW_goto (tgt := 42) dX12_readSum_38 (by decide) ?_
          refine AW_istore1 dX12_readSum_42 ?_
          refine AW_aload_n dX12_readSum_43 rfl ?_
          refine AW_callV0 (d' := d - 1) dX12_readSum_44 (Or.inl lkX12_262) mfX12_reads (hS.cel rfl) ⟨_, rfl, rfl⟩ (n_mreads (by omega) hS hby hM (by omega)) (by omega) (Nat.le_of_ble_eq_true rfl) ?_
          rintro _ ρ2 ⟨rfl, hM2, hG2⟩ -
          have hS2 := hG2.sta hS
          have hI2 := hI.step hN (by omega) (by omega)
          have h02 : (stepS s).1 = 0 := h0
          have hi2 : (stepS s).2.1 = s.2.1 + 1 := rfl
          have hin2 := hI2.1
          refine AW_aload_n dX12_readSum_47 rfl ?_
          refine AW_callV0 (d' := d - 1) dX12_readSum_48 (Or.inl lkX12_272) mfX12_readProduct (hS2.cel rfl) ⟨_, rfl, rfl⟩ (n_prod (g := F) (by omega) hS2 hby hN hNn hM2 h02 (hI2.mono (by omega)) (by omega)) (by omega) (Nat.le_of_ble_eq_true rfl) ?_
          rintro _ ρ3 ⟨hret3, hG3⟩ -
          obtain ⟨z3, rfl, hz3⟩ := hret3.z
          have hS3 := hG3.sta hS2
          have hI3a := (hI2.unit (tV B n) hN)
          have hI3 := Inv.prodLp (tV B n) hN F _ _ hI3a
          have hui := unit_i (tK B n) (tV B n) (stepS s)
          obtain ⟨f2, g1, g2, g3, g4⟩ := sum_prod (V := tV B n) hN F f1 (-8) (unitS (tK B n) (tV B n) (stepS s)) (hI3a.mono (by omega)) (by omega) (by omega)
          have hTw : T = sumL (tK B n) (tV B n) f2 (-8) (prodL (tK B n) (tV B n) F (unitS (tK B n) (tV B n) (stepS s))) := by
            rw [← g2, ← hT, sumL_s, if_neg h42, if_neg h47]
            first | (rw [if_pos (by omega), if_pos rfl]; done) | (rw [if_neg (by omega), if_pos (by omega), if_pos rfl]; done)
          refine AW_iconst dX12_readSum_51 ?_
          refine AW_icmp_ne (tgt := 57) dX12_readSum_52 (by decide) (fun c_52 => ?_) (fun c_52 => ?_)
          · skip
            have hy3 := hz3.elim id (fun q => absurd q.1 c_52)
            refine AW_aload_n dX12_readSum_57 rfl ?_
            refine AW_iload_n dX12_readSum_58 rfl ?_
            refine AW_iconst dX12_readSum_59 ?_
            refine AW_callV2 (d' := d - 1) dX12_readSum_60 (Or.inl lkX12_258) mfX12_emits (hS3.cel rfl) ⟨_, rfl, rfl⟩ (n_emits hS3 hy3.2.2 (-8) _ _ (hI3.lt hNn hy3.2.1) (by decide) (by decide)) (by omega) (Nat.le_of_ble_eq_true rfl) ?_
            rintro _ ρ4 ⟨rfl, hM4, hG4⟩ -
            refine AW_goto (tgt := 10) dX12_readSum_63 (by decide) ?_
            have hfz : ∃ f3, f2 = f3 + 1 := ⟨f2 - 1, by have := hI3.1; omega⟩
            obtain ⟨f3, rfl⟩ := hfz
            rw [sumL_w g3 g4 f3 (by decide)] at hTw
            have hpi : s.2.1 + 1 ≤ (prodL (tK B n) (tV B n) F (unitS (tK B n) (tV B n) (stepS s))).2.1 := by
              have := prod_i (tK B n) (tV B n) F (unitS (tK B n) (tV B n) (stepS s))
              omega
            exact ih (f3 + 1) (putS (-8) (prodL (tK B n) (tV B n) F (unitS (tK B n) (tV B n) (stepS s)))) _ ρ4 (by show N - (prodL _ _ _ _).2.1 < nn; omega) hy3.2.1 hM4 (hI3.put _) (by show N + 1 ≤ f3 + 1 + (prodL _ _ _ _).2.1; omega) hTw.symm (by rw [kd_put]; exact g3) (by rw [kd_put]; exact g4) (((hF.tr (hG2.mo (by decide) (by decide))).tr (hG3.mo (by decide) (by decide))).tr (hG4.mo (by decide) (by decide)))
          · skip
            have hy3 := hz3.elim (fun q => absurd (q.1.symm.trans c_52) (by decide)) id
            refine AW_iconst dX12_readSum_55 ?_
            refine AW_iret dX12_readSum_56 rfl ?_
            have hq := sumL_f (K := tK B n) (V := tV B n) hy3.2.1 f2 (-8)
            rw [← hTw] at hq
            exact ⟨Or.inr ⟨by rw [hq.1]; exact hy3.2.1, rfl, by rw [hq.1]; exact hy3.2.2.1, by rw [hq.2]; exact hy3.2.2.2⟩, (hF.tr (hG2.mo (by decide) (by decide))).tr (hG3.mo (by decide) (by decide))⟩
theorem n_sum {G : Gt} {d : Nat} {σ : St} (hd : 5 ≤ d) {B : Nat → Int} {n N : Nat} {s : PS} (hS : Sta σ) (hby : byB B n) (hN : Fn (tK B n) N) (hNn : N ≤ 400) (hM : Md B n σ s) (h0 : s.1 = 0) (hI : Inv N 0 s) {F : Nat} (hFF : F = 400)  : AM mX12_readSum G d 0 0 [vR 94] σ (fun ro ρ => Ret B n (sumS F (tK B n) (tV B n) s) ro ρ ∧ Fe [22, 23, 24, 25, 34, 38, 39] [110, 111] σ ρ) := by
  refine AM.intro (by decide +kernel) (by simp [nLg]) (Nat.le_of_ble_eq_true rfl) (fun hO => ?_)
  show AW _ _ _ _ _ _ 0 [some (vR 94), none] [] σ
  refine AW_aload_n dX12_readSum_0 rfl ?_
  refine AW_callV0 (d' := d - 1) dX12_readSum_1 (Or.inl lkX12_272) mfX12_readProduct (hS.cel rfl) ⟨_, rfl, rfl⟩ (n_prod (g := F) (by omega) hS hby hN hNn hM h0 hI (by omega)) (by omega) (Nat.le_of_ble_eq_true rfl) ?_
  rintro _ ρ1 ⟨hret1, hG1⟩ -
  obtain ⟨z1, rfl, hz1⟩ := hret1.z
  have hS1 := hG1.sta hS
  have hI1a := hI.unit (tV B n) hN
  have hI1 := Inv.prodLp (tV B n) hN F _ _ hI1a
  refine AW_iconst dX12_readSum_4 ?_
  refine AW_icmp_ne (tgt := 10) dX12_readSum_5 (by decide) (fun c_5 => ?_) (fun c_5 => ?_)
  · skip
    have hy1 := hz1.elim id (fun q => absurd q.1 c_5)
    have hu0 : (unitS (tK B n) (tV B n) s).1 = 0 := by
      rcases Classical.em ((unitS (tK B n) (tV B n) s).1 = 0) with h | h
      · exact h
      · have := hy1.2.1
        rw [prodL_f h] at this
        exact absurd this h
    have hui := unit_0 hu0 h0
    obtain ⟨f2, g1, g2, g3, g4⟩ := sum_prod (V := tV B n) hN F F 0 (unitS (tK B n) (tV B n) s) hI1a (by omega) (by omega)
    exact ln_sum (F := F) hd hS hby hN hNn hFF (N + 1) f2 _ none ρ1 (by omega) hy1.2.1 hy1.2.2 hI1 g1 g2.symm g3 g4 hG1
  · skip
    have hy1 := hz1.elim (fun q => absurd (q.1.symm.trans c_5) (by decide)) id
    refine AW_iconst dX12_readSum_8 ?_
    refine AW_iret dX12_readSum_9 rfl ?_
    have hu0 : (unitS (tK B n) (tV B n) s).1 ≠ 0 ∧ prodL (tK B n) (tV B n) F (unitS (tK B n) (tV B n) s) = unitS (tK B n) (tV B n) s ∨ (unitS (tK B n) (tV B n) s).1 = 0 := by
      rcases Classical.em ((unitS (tK B n) (tV B n) s).1 = 0) with h | h
      · exact Or.inr h
      · exact Or.inl ⟨h, prodL_f h F⟩
    have hq : (sumS F (tK B n) (tV B n) s).1 = (prodL (tK B n) (tV B n) F (unitS (tK B n) (tV B n) s)).1 ∧ (sumS F (tK B n) (tV B n) s).2.1 = (prodL (tK B n) (tV B n) F (unitS (tK B n) (tV B n) s)).2.1 := by
      rcases hu0 with ⟨h, e⟩ | h
      · rw [e]
        exact sumL_f h F 0
      · have hui := unit_0 h h0
        obtain ⟨f2, g1, g2, g3, g4⟩ := sum_prod (V := tV B n) hN F F 0 (unitS (tK B n) (tV B n) s) hI1a (by omega) (by omega)
        unfold sumS
        rw [g2]
        exact sumL_f hy1.2.1 f2 0
    exact ⟨Or.inr ⟨by rw [hq.1]; exact hy1.2.1, rfl, by rw [hq.1]; exact hy1.2.2.1, by rw [hq.2]; exact hy1.2.2.2⟩, hG1⟩
theorem n_cmp {G : Gt} {d : Nat} {σ : St} (hd : 6 ≤ d) {B : Nat → Int} {n N : Nat} {s : PS} (hS : Sta σ) (hby : byB B n) (hN : Fn (tK B n) N) (hNn : N ≤ 400) (hM : Md B n σ s) (h0 : s.1 = 0) (hI : Inv N 0 s) {F : Nat} (hFF : F = 400)  : AM mX12_readCompared G d 0 0 [vR 94] σ (fun ro ρ => Ret B n (comS F (tK B n) (tV B n) s) ro ρ ∧ Fe [22, 23, 24, 25, 34, 38, 39] [110, 111] σ ρ) := by
  refine AM.intro (by decide +kernel) (by simp [nLg]) (Nat.le_of_ble_eq_true rfl) (fun hO => ?_)
  show AW _ _ _ _ _ _ 0 [some (vR 94), none] [] σ
  refine AW_aload_n dX12_readCompared_0 rfl ?_
  refine AW_callV0 (d' := d - 1) dX12_readCompared_1 (Or.inl lkX12_275) mfX12_readSum (hS.cel rfl) ⟨_, rfl, rfl⟩ (n_sum (by omega) hS hby hN hNn hM h0 hI hFF) (by omega) (Nat.le_of_ble_eq_true rfl) ?_
  rintro _ ρ1 ⟨hret1, hG1⟩ -
  obtain ⟨z1, rfl, hz1⟩ := hret1.z
  have hS1 := hG1.sta hS
  have hI1 := hI.sum (F := F) (tV B n) hN
  refine AW_iconst dX12_readCompared_4 ?_
  refine AW_icmp_ne (tgt := 10) dX12_readCompared_5 (by decide) (fun c_5 => ?_) (fun c_5 => ?_)
  · skip
    have hy1 := hz1.elim id (fun q => absurd q.1 c_5)
    have hk1 := kd0 (K := tK B n) hy1.2.1
    have hcs := hy1.2.2.2.2.2.1.cs
    refine AW_aload_n dX12_readCompared_10 rfl ?_
    refine AW_bipush dX12_readCompared_11 ?_
    refine AW_callV1 (d' := d - 1) dX12_readCompared_13 (Or.inl lkX12_269) mfX12_isSign (hS1.cel rfl) ⟨_, rfl, rfl⟩ (n_isSign hS1 hy1.2.2 60 (by decide)) (by omega) (Nat.le_of_ble_eq_true rfl) ?_
    rintro _ _ ⟨e_, rfl⟩ -
    rw [e_]
    clear e_
    refine AW_if_ne (tgt := 43) dX12_readCompared_16 (by decide) (fun c_16 => ?_) (fun c_16 => ?_)
    · skip
      replace c_16 := bz1 c_16
      refine AW_aload_n dX12_readCompared_43 rfl ?_
      refine AW_getI dX12_readCompared_44 gfX12_231 (hS1.cel rfl) ?_
      refine AW_bipush dX12_readCompared_47 ?_
      refine AW_icmp_ne (tgt := 57) dX12_readCompared_49 (by decide) (fun c_49 => ?_) (fun c_49 => ?_)
      · skip
        refine AW_aload_n dX12_readCompared_57 rfl ?_
        refine AW_getI dX12_readCompared_58 gfX12_231 (hS1.cel rfl) ?_
        refine AW_bipush dX12_readCompared_61 ?_
        refine AW_icmp_ne (tgt := 71) dX12_readCompared_63 (by decide) (fun c_63 => ?_) (fun c_63 => ?_)
        · skip
          refine AW_bipush dX12_readCompared_71 ?_
          refine AW_istore1 dX12_readCompared_73 ?_
          refine AW_aload_n dX12_readCompared_74 rfl ?_
          refine AW_callV0 (d' := d - 1) dX12_readCompared_75 (Or.inl lkX12_262) mfX12_reads (hS1.cel rfl) ⟨_, rfl, rfl⟩ (n_mreads (by omega) hS1 hby hy1.2.2 (by omega)) (by omega) (Nat.le_of_ble_eq_true rfl) ?_
          rintro _ ρ2 ⟨rfl, hM2, hG2⟩ -
          have hS2 := hG2.sta hS1
          have hI2 := cmp_inv (F := F) (tV B n) hN hI
          have ec : cmpS (tK B n) (sumS F (tK B n) (tV B n) s) = stepS (sumS F (tK B n) (tV B n) s) := by
            unfold cmpS
            rw [if_pos (by omega)]
          refine AW_aload_n dX12_readCompared_78 rfl ?_
          refine AW_callV0 (d' := d - 1) dX12_readCompared_79 (Or.inl lkX12_275) mfX12_readSum (hS2.cel rfl) ⟨_, rfl, rfl⟩ (n_sum (s := stepS (sumS F (tK B n) (tV B n) s)) (by omega) hS2 hby hN hNn hM2 hy1.2.1 (by rw [← ec]; exact hI2.mono (by omega)) hFF) (by omega) (Nat.le_of_ble_eq_true rfl) ?_
          rintro _ ρ3 ⟨hret3, hG3⟩ -
          obtain ⟨z3, rfl, hz3⟩ := hret3.z
          have hS3 := hG3.sta hS2
          rw [← ec] at hz3
          have hI3 := hI2.sum (F := F) (tV B n) hN
          refine AW_iconst dX12_readCompared_82 ?_
          refine AW_icmp_ne (tgt := 88) dX12_readCompared_83 (by decide) (fun c_83 => ?_) (fun c_83 => ?_)
          · skip
            have hy3 := hz3.elim id (fun q => absurd q.1 c_83)
            have ej : joint (kd (tK B n) (sumS F (tK B n) (tV B n) s)) = (if tK B n (sumS F (tK B n) (tV B n) s).2.1 = 60 then -12 else if tK B n (sumS F (tK B n) (tV B n) s).2.1 = 61 then -13 else -14) := by
              unfold joint
              rw [hk1]
            first
            | rw [if_pos (by omega)] at ej
            | rw [if_neg (by omega), if_pos (by omega)] at ej
            | rw [if_neg (by omega), if_neg (by omega)] at ej
            refine AW_aload_n dX12_readCompared_88 rfl ?_
            refine AW_iload_n dX12_readCompared_89 rfl ?_
            refine AW_iconst dX12_readCompared_90 ?_
            refine AW_callV2 (d' := d - 1) dX12_readCompared_91 (Or.inl lkX12_258) mfX12_emits (hS3.cel rfl) ⟨_, rfl, rfl⟩ (n_emits hS3 hy3.2.2 (joint (kd (tK B n) (sumS F (tK B n) (tV B n) s))) _ _ (hI3.lt hNn hy3.2.1) (by first | (rw [ej]; decide) | (exfalso; omega)) (by first | (rw [ej]; decide) | (exfalso; omega))) (by omega) (Nat.le_of_ble_eq_true rfl) ?_
            rintro _ ρ4 ⟨rfl, hM4, hG4⟩ -
            refine AW_iconst dX12_readCompared_94 ?_
            refine AW_iret dX12_readCompared_95 rfl ?_
            exact ⟨Or.inl ⟨hy3.2.1, rfl, hM4⟩, ((hG1.tr (hG2.mo (by decide) (by decide))).tr hG3).tr (hG4.mo (by decide) (by decide))⟩
          · skip
            have hy3 := hz3.elim (fun q => absurd (q.1.symm.trans c_83) (by decide)) id
            refine AW_iconst dX12_readCompared_86 ?_
            refine AW_iret dX12_readCompared_87 rfl ?_
            exact ⟨Or.inr ⟨hy3.2.1, rfl, hy3.2.2.1, hy3.2.2.2⟩, (hG1.tr (hG2.mo (by decide) (by decide))).tr hG3⟩
        · skip
          refine AW_bipush dX12_readCompared_66 ?_
          refine AW_goto (tgt := 73) dX12_readCompared_68 (by decide) ?_
          refine AW_istore1 dX12_readCompared_73 ?_
          refine AW_aload_n dX12_readCompared_74 rfl ?_
          refine AW_callV0 (d' := d - 1) dX12_readCompared_75 (Or.inl lkX12_262) mfX12_reads (hS1.cel rfl) ⟨_, rfl, rfl⟩ (n_mreads (by omega) hS1 hby hy1.2.2 (by omega)) (by omega) (Nat.le_of_ble_eq_true rfl) ?_
          rintro _ ρ2 ⟨rfl, hM2, hG2⟩ -
          have hS2 := hG2.sta hS1
          have hI2 := cmp_inv (F := F) (tV B n) hN hI
          have ec : cmpS (tK B n) (sumS F (tK B n) (tV B n) s) = stepS (sumS F (tK B n) (tV B n) s) := by
            unfold cmpS
            rw [if_pos (by omega)]
          refine AW_aload_n dX12_readCompared_78 rfl ?_
          refine AW_callV0 (d' := d - 1) dX12_readCompared_79 (Or.inl lkX12_275) mfX12_readSum (hS2.cel rfl) ⟨_, rfl, rfl⟩ (n_sum (s := stepS (sumS F (tK B n) (tV B n) s)) (by omega) hS2 hby hN hNn hM2 hy1.2.1 (by rw [← ec]; exact hI2.mono (by omega)) hFF) (by omega) (Nat.le_of_ble_eq_true rfl) ?_
          rintro _ ρ3 ⟨hret3, hG3⟩ -
          obtain ⟨z3, rfl, hz3⟩ := hret3.z
          have hS3 := hG3.sta hS2
          rw [← ec] at hz3
          have hI3 := hI2.sum (F := F) (tV B n) hN
          refine AW_iconst dX12_readCompared_82 ?_
          refine AW_icmp_ne (tgt := 88) dX12_readCompared_83 (by decide) (fun c_83 => ?_) (fun c_83 => ?_)
          · skip
            have hy3 := hz3.elim id (fun q => absurd q.1 c_83)
            have ej : joint (kd (tK B n) (sumS F (tK B n) (tV B n) s)) = (if tK B n (sumS F (tK B n) (tV B n) s).2.1 = 60 then -12 else if tK B n (sumS F (tK B n) (tV B n) s).2.1 = 61 then -13 else -14) := by
              unfold joint
              rw [hk1]
            first
            | rw [if_pos (by omega)] at ej
            | rw [if_neg (by omega), if_pos (by omega)] at ej
            | rw [if_neg (by omega), if_neg (by omega)] at ej
            refine AW_aload_n dX12_readCompared_88 rfl ?_
            refine AW_iload_n dX12_readCompared_89 rfl ?_
            refine AW_iconst dX12_readCompared_90 ?_
            refine AW_callV2 (d' := d - 1) dX12_readCompared_91 (Or.inl lkX12_258) mfX12_emits (hS3.cel rfl) ⟨_, rfl, rfl⟩ (n_emits hS3 hy3.2.2 (joint (kd (tK B n) (sumS F (tK B n) (tV B n) s))) _ _ (hI3.lt hNn hy3.2.1) (by first | (rw [ej]; decide) | (exfalso; omega)) (by first | (rw [ej]; decide) | (exfalso; omega))) (by omega) (Nat.le_of_ble_eq_true rfl) ?_
            rintro _ ρ4 ⟨rfl, hM4, hG4⟩ -
            refine AW_iconst dX12_readCompared_94 ?_
            refine AW_iret dX12_readCompared_95 rfl ?_
            exact ⟨Or.inl ⟨hy3.2.1, rfl, hM4⟩, ((hG1.tr (hG2.mo (by decide) (by decide))).tr hG3).tr (hG4.mo (by decide) (by decide))⟩
          · skip
            have hy3 := hz3.elim (fun q => absurd (q.1.symm.trans c_83) (by decide)) id
            refine AW_iconst dX12_readCompared_86 ?_
            refine AW_iret dX12_readCompared_87 rfl ?_
            exact ⟨Or.inr ⟨hy3.2.1, rfl, hy3.2.2.1, hy3.2.2.2⟩, (hG1.tr (hG2.mo (by decide) (by decide))).tr hG3⟩
      · skip
        refine AW_bipush dX12_readCompared_52 ?_
        refine AW_goto (tgt := 73) dX12_readCompared_54 (by decide) ?_
        refine AW_istore1 dX12_readCompared_73 ?_
        refine AW_aload_n dX12_readCompared_74 rfl ?_
        refine AW_callV0 (d' := d - 1) dX12_readCompared_75 (Or.inl lkX12_262) mfX12_reads (hS1.cel rfl) ⟨_, rfl, rfl⟩ (n_mreads (by omega) hS1 hby hy1.2.2 (by omega)) (by omega) (Nat.le_of_ble_eq_true rfl) ?_
        rintro _ ρ2 ⟨rfl, hM2, hG2⟩ -
        have hS2 := hG2.sta hS1
        have hI2 := cmp_inv (F := F) (tV B n) hN hI
        have ec : cmpS (tK B n) (sumS F (tK B n) (tV B n) s) = stepS (sumS F (tK B n) (tV B n) s) := by
          unfold cmpS
          rw [if_pos (by omega)]
        refine AW_aload_n dX12_readCompared_78 rfl ?_
        refine AW_callV0 (d' := d - 1) dX12_readCompared_79 (Or.inl lkX12_275) mfX12_readSum (hS2.cel rfl) ⟨_, rfl, rfl⟩ (n_sum (s := stepS (sumS F (tK B n) (tV B n) s)) (by omega) hS2 hby hN hNn hM2 hy1.2.1 (by rw [← ec]; exact hI2.mono (by omega)) hFF) (by omega) (Nat.le_of_ble_eq_true rfl) ?_
        rintro _ ρ3 ⟨hret3, hG3⟩ -
        obtain ⟨z3, rfl, hz3⟩ := hret3.z
        have hS3 := hG3.sta hS2
        rw [← ec] at hz3
        have hI3 := hI2.sum (F := F) (tV B n) hN
        refine AW_iconst dX12_readCompared_82 ?_
        refine AW_icmp_ne (tgt := 88) dX12_readCompared_83 (by decide) (fun c_83 => ?_) (fun c_83 => ?_)
        · skip
          have hy3 := hz3.elim id (fun q => absurd q.1 c_83)
          have ej : joint (kd (tK B n) (sumS F (tK B n) (tV B n) s)) = (if tK B n (sumS F (tK B n) (tV B n) s).2.1 = 60 then -12 else if tK B n (sumS F (tK B n) (tV B n) s).2.1 = 61 then -13 else -14) := by
            unfold joint
            rw [hk1]
          first
          | rw [if_pos (by omega)] at ej
          | rw [if_neg (by omega), if_pos (by omega)] at ej
          | rw [if_neg (by omega), if_neg (by omega)] at ej
          refine AW_aload_n dX12_readCompared_88 rfl ?_
          refine AW_iload_n dX12_readCompared_89 rfl ?_
          refine AW_iconst dX12_readCompared_90 ?_
          refine AW_callV2 (d' := d - 1) dX12_readCompared_91 (Or.inl lkX12_258) mfX12_emits (hS3.cel rfl) ⟨_, rfl, rfl⟩ (n_emits hS3 hy3.2.2 (joint (kd (tK B n) (sumS F (tK B n) (tV B n) s))) _ _ (hI3.lt hNn hy3.2.1) (by first | (rw [ej]; decide) | (exfalso; omega)) (by first | (rw [ej]; decide) | (exfalso; omega))) (by omega) (Nat.le_of_ble_eq_true rfl) ?_
          rintro _ ρ4 ⟨rfl, hM4, hG4⟩ -
          refine AW_iconst dX12_readCompared_94 ?_
          refine AW_iret dX12_readCompared_95 rfl ?_
          exact ⟨Or.inl ⟨hy3.2.1, rfl, hM4⟩, ((hG1.tr (hG2.mo (by decide) (by decide))).tr hG3).tr (hG4.mo (by decide) (by decide))⟩
        · skip
          have hy3 := hz3.elim (fun q => absurd (q.1.symm.trans c_83) (by decide)) id
          refine AW_iconst dX12_readCompared_86 ?_
          refine AW_iret dX12_readCompared_87 rfl ?_
          exact ⟨Or.inr ⟨hy3.2.1, rfl, hy3.2.2.1, hy3.2.2.2⟩, (hG1.tr (hG2.mo (by decide) (by decide))).tr hG3⟩
    · skip
      replace c_16 := bz0 c_16
      refine AW_aload_n dX12_readCompared_19 rfl ?_
      refine AW_bipush dX12_readCompared_20 ?_
      refine AW_callV1 (d' := d - 1) dX12_readCompared_22 (Or.inl lkX12_269) mfX12_isSign (hS1.cel rfl) ⟨_, rfl, rfl⟩ (n_isSign hS1 hy1.2.2 61 (by decide)) (by omega) (Nat.le_of_ble_eq_true rfl) ?_
      rintro _ _ ⟨e_, rfl⟩ -
      rw [e_]
      clear e_
      refine AW_if_ne (tgt := 43) dX12_readCompared_25 (by decide) (fun c_25 => ?_) (fun c_25 => ?_)
      · skip
        replace c_25 := bz1 c_25
        refine AW_aload_n dX12_readCompared_43 rfl ?_
        refine AW_getI dX12_readCompared_44 gfX12_231 (hS1.cel rfl) ?_
        refine AW_bipush dX12_readCompared_47 ?_
        refine AW_icmp_ne (tgt := 57) dX12_readCompared_49 (by decide) (fun c_49 => ?_) (fun c_49 => ?_)
        · skip
          refine AW_aload_n dX12_readCompared_57 rfl ?_
          refine AW_getI dX12_readCompared_58 gfX12_231 (hS1.cel rfl) ?_
          refine AW_bipush dX12_readCompared_61 ?_
          refine AW_icmp_ne (tgt := 71) dX12_readCompared_63 (by decide) (fun c_63 => ?_) (fun c_63 => ?_)
          · skip
            refine AW_bipush dX12_readCompared_71 ?_
            refine AW_istore1 dX12_readCompared_73 ?_
            refine AW_aload_n dX12_readCompared_74 rfl ?_
            refine AW_callV0 (d' := d - 1) dX12_readCompared_75 (Or.inl lkX12_262) mfX12_reads (hS1.cel rfl) ⟨_, rfl, rfl⟩ (n_mreads (by omega) hS1 hby hy1.2.2 (by omega)) (by omega) (Nat.le_of_ble_eq_true rfl) ?_
            rintro _ ρ2 ⟨rfl, hM2, hG2⟩ -
            have hS2 := hG2.sta hS1
            have hI2 := cmp_inv (F := F) (tV B n) hN hI
            have ec : cmpS (tK B n) (sumS F (tK B n) (tV B n) s) = stepS (sumS F (tK B n) (tV B n) s) := by
              unfold cmpS
              rw [if_pos (by omega)]
            refine AW_aload_n dX12_readCompared_78 rfl ?_
            refine AW_callV0 (d' := d - 1) dX12_readCompared_79 (Or.inl lkX12_275) mfX12_readSum (hS2.cel rfl) ⟨_, rfl, rfl⟩ (n_sum (s := stepS (sumS F (tK B n) (tV B n) s)) (by omega) hS2 hby hN hNn hM2 hy1.2.1 (by rw [← ec]; exact hI2.mono (by omega)) hFF) (by omega) (Nat.le_of_ble_eq_true rfl) ?_
            rintro _ ρ3 ⟨hret3, hG3⟩ -
            obtain ⟨z3, rfl, hz3⟩ := hret3.z
            have hS3 := hG3.sta hS2
            rw [← ec] at hz3
            have hI3 := hI2.sum (F := F) (tV B n) hN
            refine AW_iconst dX12_readCompared_82 ?_
            refine AW_icmp_ne (tgt := 88) dX12_readCompared_83 (by decide) (fun c_83 => ?_) (fun c_83 => ?_)
            · skip
              have hy3 := hz3.elim id (fun q => absurd q.1 c_83)
              have ej : joint (kd (tK B n) (sumS F (tK B n) (tV B n) s)) = (if tK B n (sumS F (tK B n) (tV B n) s).2.1 = 60 then -12 else if tK B n (sumS F (tK B n) (tV B n) s).2.1 = 61 then -13 else -14) := by
                unfold joint
                rw [hk1]
              first
              | rw [if_pos (by omega)] at ej
              | rw [if_neg (by omega), if_pos (by omega)] at ej
              | rw [if_neg (by omega), if_neg (by omega)] at ej
              refine AW_aload_n dX12_readCompared_88 rfl ?_
              refine AW_iload_n dX12_readCompared_89 rfl ?_
              refine AW_iconst dX12_readCompared_90 ?_
              refine AW_callV2 (d' := d - 1) dX12_readCompared_91 (Or.inl lkX12_258) mfX12_emits (hS3.cel rfl) ⟨_, rfl, rfl⟩ (n_emits hS3 hy3.2.2 (joint (kd (tK B n) (sumS F (tK B n) (tV B n) s))) _ _ (hI3.lt hNn hy3.2.1) (by first | (rw [ej]; decide) | (exfalso; omega)) (by first | (rw [ej]; decide) | (exfalso; omega))) (by omega) (Nat.le_of_ble_eq_true rfl) ?_
              rintro _ ρ4 ⟨rfl, hM4, hG4⟩ -
              refine AW_iconst dX12_readCompared_94 ?_
              refine AW_iret dX12_readCompared_95 rfl ?_
              exact ⟨Or.inl ⟨hy3.2.1, rfl, hM4⟩, ((hG1.tr (hG2.mo (by decide) (by decide))).tr hG3).tr (hG4.mo (by decide) (by decide))⟩
            · skip
              have hy3 := hz3.elim (fun q => absurd (q.1.symm.trans c_83) (by decide)) id
              refine AW_iconst dX12_readCompared_86 ?_
              refine AW_iret dX12_readCompared_87 rfl ?_
              exact ⟨Or.inr ⟨hy3.2.1, rfl, hy3.2.2.1, hy3.2.2.2⟩, (hG1.tr (hG2.mo (by decide) (by decide))).tr hG3⟩
          · skip
            refine AW_bipush dX12_readCompared_66 ?_
            refine AW_goto (tgt := 73) dX12_readCompared_68 (by decide) ?_
            refine AW_istore1 dX12_readCompared_73 ?_
            refine AW_aload_n dX12_readCompared_74 rfl ?_
            refine AW_callV0 (d' := d - 1) dX12_readCompared_75 (Or.inl lkX12_262) mfX12_reads (hS1.cel rfl) ⟨_, rfl, rfl⟩ (n_mreads (by omega) hS1 hby hy1.2.2 (by omega)) (by omega) (Nat.le_of_ble_eq_true rfl) ?_
            rintro _ ρ2 ⟨rfl, hM2, hG2⟩ -
            have hS2 := hG2.sta hS1
            have hI2 := cmp_inv (F := F) (tV B n) hN hI
            have ec : cmpS (tK B n) (sumS F (tK B n) (tV B n) s) = stepS (sumS F (tK B n) (tV B n) s) := by
              unfold cmpS
              rw [if_pos (by omega)]
            refine AW_aload_n dX12_readCompared_78 rfl ?_
            refine AW_callV0 (d' := d - 1) dX12_readCompared_79 (Or.inl lkX12_275) mfX12_readSum (hS2.cel rfl) ⟨_, rfl, rfl⟩ (n_sum (s := stepS (sumS F (tK B n) (tV B n) s)) (by omega) hS2 hby hN hNn hM2 hy1.2.1 (by rw [← ec]; exact hI2.mono (by omega)) hFF) (by omega) (Nat.le_of_ble_eq_true rfl) ?_
            rintro _ ρ3 ⟨hret3, hG3⟩ -
            obtain ⟨z3, rfl, hz3⟩ := hret3.z
            have hS3 := hG3.sta hS2
            rw [← ec] at hz3
            have hI3 := hI2.sum (F := F) (tV B n) hN
            refine AW_iconst dX12_readCompared_82 ?_
            refine AW_icmp_ne (tgt := 88) dX12_readCompared_83 (by decide) (fun c_83 => ?_) (fun c_83 => ?_)
            · skip
              have hy3 := hz3.elim id (fun q => absurd q.1 c_83)
              have ej : joint (kd (tK B n) (sumS F (tK B n) (tV B n) s)) = (if tK B n (sumS F (tK B n) (tV B n) s).2.1 = 60 then -12 else if tK B n (sumS F (tK B n) (tV B n) s).2.1 = 61 then -13 else -14) := by
                unfold joint
                rw [hk1]
              first
              | rw [if_pos (by omega)] at ej
              | rw [if_neg (by omega), if_pos (by omega)] at ej
              | rw [if_neg (by omega), if_neg (by omega)] at ej
              refine AW_aload_n dX12_readCompared_88 rfl ?_
              refine AW_iload_n dX12_readCompared_89 rfl ?_
              refine AW_iconst dX12_readCompared_90 ?_
              refine AW_callV2 (d' := d - 1) dX12_readCompared_91 (Or.inl lkX12_258) mfX12_emits (hS3.cel rfl) ⟨_, rfl, rfl⟩ (n_emits hS3 hy3.2.2 (joint (kd (tK B n) (sumS F (tK B n) (tV B n) s))) _ _ (hI3.lt hNn hy3.2.1) (by first | (rw [ej]; decide) | (exfalso; omega)) (by first | (rw [ej]; decide) | (exfalso; omega))) (by omega) (Nat.le_of_ble_eq_true rfl) ?_
              rintro _ ρ4 ⟨rfl, hM4, hG4⟩ -
              refine AW_iconst dX12_readCompared_94 ?_
              refine AW_iret dX12_readCompared_95 rfl ?_
              exact ⟨Or.inl ⟨hy3.2.1, rfl, hM4⟩, ((hG1.tr (hG2.mo (by decide) (by decide))).tr hG3).tr (hG4.mo (by decide) (by decide))⟩
            · skip
              have hy3 := hz3.elim (fun q => absurd (q.1.symm.trans c_83) (by decide)) id
              refine AW_iconst dX12_readCompared_86 ?_
              refine AW_iret dX12_readCompared_87 rfl ?_
              exact ⟨Or.inr ⟨hy3.2.1, rfl, hy3.2.2.1, hy3.2.2.2⟩, (hG1.tr (hG2.mo (by decide) (by decide))).tr hG3⟩
        · skip
          refine AW_bipush dX12_readCompared_52 ?_
          refine AW_goto (tgt := 73) dX12_readCompared_54 (by decide) ?_
          refine AW_istore1 dX12_readCompared_73 ?_
          refine AW_aload_n dX12_readCompared_74 rfl ?_
          refine AW_callV0 (d' := d - 1) dX12_readCompared_75 (Or.inl lkX12_262) mfX12_reads (hS1.cel rfl) ⟨_, rfl, rfl⟩ (n_mreads (by omega) hS1 hby hy1.2.2 (by omega)) (by omega) (Nat.le_of_ble_eq_true rfl) ?_
          rintro _ ρ2 ⟨rfl, hM2, hG2⟩ -
          have hS2 := hG2.sta hS1
          have hI2 := cmp_inv (F := F) (tV B n) hN hI
          have ec : cmpS (tK B n) (sumS F (tK B n) (tV B n) s) = stepS (sumS F (tK B n) (tV B n) s) := by
            unfold cmpS
            rw [if_pos (by omega)]
          refine AW_aload_n dX12_readCompared_78 rfl ?_
          refine AW_callV0 (d' := d - 1) dX12_readCompared_79 (Or.inl lkX12_275) mfX12_readSum (hS2.cel rfl) ⟨_, rfl, rfl⟩ (n_sum (s := stepS (sumS F (tK B n) (tV B n) s)) (by omega) hS2 hby hN hNn hM2 hy1.2.1 (by rw [← ec]; exact hI2.mono (by omega)) hFF) (by omega) (Nat.le_of_ble_eq_true rfl) ?_
          rintro _ ρ3 ⟨hret3, hG3⟩ -
          obtain ⟨z3, rfl, hz3⟩ := hret3.z
          have hS3 := hG3.sta hS2
          rw [← ec] at hz3
          have hI3 := hI2.sum (F := F) (tV B n) hN
          refine AW_iconst dX12_readCompared_82 ?_
          refine AW_icmp_ne (tgt := 88) dX12_readCompared_83 (by decide) (fun c_83 => ?_) (fun c_83 => ?_)
          · skip
            have hy3 := hz3.elim id (fun q => absurd q.1 c_83)
            have ej : joint (kd (tK B n) (sumS F (tK B n) (tV B n) s)) = (if tK B n (sumS F (tK B n) (tV B n) s).2.1 = 60 then -12 else if tK B n (sumS F (tK B n) (tV B n) s).2.1 = 61 then -13 else -14) := by
              unfold joint
              rw [hk1]
            first
            | rw [if_pos (by omega)] at ej
            | rw [if_neg (by omega), if_pos (by omega)] at ej
            | rw [if_neg (by omega), if_neg (by omega)] at ej
            refine AW_aload_n dX12_readCompared_88 rfl ?_
            refine AW_iload_n dX12_readCompared_89 rfl ?_
            refine AW_iconst dX12_readCompared_90 ?_
            refine AW_callV2 (d' := d - 1) dX12_readCompared_91 (Or.inl lkX12_258) mfX12_emits (hS3.cel rfl) ⟨_, rfl, rfl⟩ (n_emits hS3 hy3.2.2 (joint (kd (tK B n) (sumS F (tK B n) (tV B n) s))) _ _ (hI3.lt hNn hy3.2.1) (by first | (rw [ej]; decide) | (exfalso; omega)) (by first | (rw [ej]; decide) | (exfalso; omega))) (by omega) (Nat.le_of_ble_eq_true rfl) ?_
            rintro _ ρ4 ⟨rfl, hM4, hG4⟩ -
            refine AW_iconst dX12_readCompared_94 ?_
            refine AW_iret dX12_readCompared_95 rfl ?_
            exact ⟨Or.inl ⟨hy3.2.1, rfl, hM4⟩, ((hG1.tr (hG2.mo (by decide) (by decide))).tr hG3).tr (hG4.mo (by decide) (by decide))⟩
          · skip
            have hy3 := hz3.elim (fun q => absurd (q.1.symm.trans c_83) (by decide)) id
            refine AW_iconst dX12_readCompared_86 ?_
            refine AW_iret dX12_readCompared_87 rfl ?_
            exact ⟨Or.inr ⟨hy3.2.1, rfl, hy3.2.2.1, hy3.2.2.2⟩, (hG1.tr (hG2.mo (by decide) (by decide))).tr hG3⟩
      · skip
        replace c_25 := bz0 c_25
        refine AW_aload_n dX12_readCompared_28 rfl ?_
        refine AW_bipush dX12_readCompared_29 ?_
        refine AW_callV1 (d' := d - 1) dX12_readCompared_31 (Or.inl lkX12_269) mfX12_isSign (hS1.cel rfl) ⟨_, rfl, rfl⟩ (n_isSign hS1 hy1.2.2 62 (by decide)) (by omega) (Nat.le_of_ble_eq_true rfl) ?_
        rintro _ _ ⟨e_, rfl⟩ -
        rw [e_]
        clear e_
        refine AW_if_ne (tgt := 43) dX12_readCompared_34 (by decide) (fun c_34 => ?_) (fun c_34 => ?_)
        · skip
          replace c_34 := bz1 c_34
          refine AW_aload_n dX12_readCompared_43 rfl ?_
          refine AW_getI dX12_readCompared_44 gfX12_231 (hS1.cel rfl) ?_
          refine AW_bipush dX12_readCompared_47 ?_
          refine AW_icmp_ne (tgt := 57) dX12_readCompared_49 (by decide) (fun c_49 => ?_) (fun c_49 => ?_)
          · skip
            refine AW_aload_n dX12_readCompared_57 rfl ?_
            refine AW_getI dX12_readCompared_58 gfX12_231 (hS1.cel rfl) ?_
            refine AW_bipush dX12_readCompared_61 ?_
            refine AW_icmp_ne (tgt := 71) dX12_readCompared_63 (by decide) (fun c_63 => ?_) (fun c_63 => ?_)
            · skip
              refine AW_bipush dX12_readCompared_71 ?_
              refine AW_istore1 dX12_readCompared_73 ?_
              refine AW_aload_n dX12_readCompared_74 rfl ?_
              refine AW_callV0 (d' := d - 1) dX12_readCompared_75 (Or.inl lkX12_262) mfX12_reads (hS1.cel rfl) ⟨_, rfl, rfl⟩ (n_mreads (by omega) hS1 hby hy1.2.2 (by omega)) (by omega) (Nat.le_of_ble_eq_true rfl) ?_
              rintro _ ρ2 ⟨rfl, hM2, hG2⟩ -
              have hS2 := hG2.sta hS1
              have hI2 := cmp_inv (F := F) (tV B n) hN hI
              have ec : cmpS (tK B n) (sumS F (tK B n) (tV B n) s) = stepS (sumS F (tK B n) (tV B n) s) := by
                unfold cmpS
                rw [if_pos (by omega)]
              refine AW_aload_n dX12_readCompared_78 rfl ?_
              refine AW_callV0 (d' := d - 1) dX12_readCompared_79 (Or.inl lkX12_275) mfX12_readSum (hS2.cel rfl) ⟨_, rfl, rfl⟩ (n_sum (s := stepS (sumS F (tK B n) (tV B n) s)) (by omega) hS2 hby hN hNn hM2 hy1.2.1 (by rw [← ec]; exact hI2.mono (by omega)) hFF) (by omega) (Nat.le_of_ble_eq_true rfl) ?_
              rintro _ ρ3 ⟨hret3, hG3⟩ -
              obtain ⟨z3, rfl, hz3⟩ := hret3.z
              have hS3 := hG3.sta hS2
              rw [← ec] at hz3
              have hI3 := hI2.sum (F := F) (tV B n) hN
              refine AW_iconst dX12_readCompared_82 ?_
              refine AW_icmp_ne (tgt := 88) dX12_readCompared_83 (by decide) (fun c_83 => ?_) (fun c_83 => ?_)
              · skip
                have hy3 := hz3.elim id (fun q => absurd q.1 c_83)
                have ej : joint (kd (tK B n) (sumS F (tK B n) (tV B n) s)) = (if tK B n (sumS F (tK B n) (tV B n) s).2.1 = 60 then -12 else if tK B n (sumS F (tK B n) (tV B n) s).2.1 = 61 then -13 else -14) := by
                  unfold joint
                  rw [hk1]
                first
                | rw [if_pos (by omega)] at ej
                | rw [if_neg (by omega), if_pos (by omega)] at ej
                | rw [if_neg (by omega), if_neg (by omega)] at ej
                refine AW_aload_n dX12_readCompared_88 rfl ?_
                refine AW_iload_n dX12_readCompared_89 rfl ?_
                refine AW_iconst dX12_readCompared_90 ?_
                refine AW_callV2 (d' := d - 1) dX12_readCompared_91 (Or.inl lkX12_258) mfX12_emits (hS3.cel rfl) ⟨_, rfl, rfl⟩ (n_emits hS3 hy3.2.2 (joint (kd (tK B n) (sumS F (tK B n) (tV B n) s))) _ _ (hI3.lt hNn hy3.2.1) (by first | (rw [ej]; decide) | (exfalso; omega)) (by first | (rw [ej]; decide) | (exfalso; omega))) (by omega) (Nat.le_of_ble_eq_true rfl) ?_
                rintro _ ρ4 ⟨rfl, hM4, hG4⟩ -
                refine AW_iconst dX12_readCompared_94 ?_
                refine AW_iret dX12_readCompared_95 rfl ?_
                exact ⟨Or.inl ⟨hy3.2.1, rfl, hM4⟩, ((hG1.tr (hG2.mo (by decide) (by decide))).tr hG3).tr (hG4.mo (by decide) (by decide))⟩
              · skip
                have hy3 := hz3.elim (fun q => absurd (q.1.symm.trans c_83) (by decide)) id
                refine AW_iconst dX12_readCompared_86 ?_
                refine AW_iret dX12_readCompared_87 rfl ?_
                exact ⟨Or.inr ⟨hy3.2.1, rfl, hy3.2.2.1, hy3.2.2.2⟩, (hG1.tr (hG2.mo (by decide) (by decide))).tr hG3⟩
            · skip
              refine AW_bipush dX12_readCompared_66 ?_
              refine AW_goto (tgt := 73) dX12_readCompared_68 (by decide) ?_
              refine AW_istore1 dX12_readCompared_73 ?_
              refine AW_aload_n dX12_readCompared_74 rfl ?_
              refine AW_callV0 (d' := d - 1) dX12_readCompared_75 (Or.inl lkX12_262) mfX12_reads (hS1.cel rfl) ⟨_, rfl, rfl⟩ (n_mreads (by omega) hS1 hby hy1.2.2 (by omega)) (by omega) (Nat.le_of_ble_eq_true rfl) ?_
              rintro _ ρ2 ⟨rfl, hM2, hG2⟩ -
              have hS2 := hG2.sta hS1
              have hI2 := cmp_inv (F := F) (tV B n) hN hI
              have ec : cmpS (tK B n) (sumS F (tK B n) (tV B n) s) = stepS (sumS F (tK B n) (tV B n) s) := by
                unfold cmpS
                rw [if_pos (by omega)]
              refine AW_aload_n dX12_readCompared_78 rfl ?_
              refine AW_callV0 (d' := d - 1) dX12_readCompared_79 (Or.inl lkX12_275) mfX12_readSum (hS2.cel rfl) ⟨_, rfl, rfl⟩ (n_sum (s := stepS (sumS F (tK B n) (tV B n) s)) (by omega) hS2 hby hN hNn hM2 hy1.2.1 (by rw [← ec]; exact hI2.mono (by omega)) hFF) (by omega) (Nat.le_of_ble_eq_true rfl) ?_
              rintro _ ρ3 ⟨hret3, hG3⟩ -
              obtain ⟨z3, rfl, hz3⟩ := hret3.z
              have hS3 := hG3.sta hS2
              rw [← ec] at hz3
              have hI3 := hI2.sum (F := F) (tV B n) hN
              refine AW_iconst dX12_readCompared_82 ?_
              refine AW_icmp_ne (tgt := 88) dX12_readCompared_83 (by decide) (fun c_83 => ?_) (fun c_83 => ?_)
              · skip
                have hy3 := hz3.elim id (fun q => absurd q.1 c_83)
                have ej : joint (kd (tK B n) (sumS F (tK B n) (tV B n) s)) = (if tK B n (sumS F (tK B n) (tV B n) s).2.1 = 60 then -12 else if tK B n (sumS F (tK B n) (tV B n) s).2.1 = 61 then -13 else -14) := by
                  unfold joint
                  rw [hk1]
                first
                | rw [if_pos (by omega)] at ej
                | rw [if_neg (by omega), if_pos (by omega)] at ej
                | rw [if_neg (by omega), if_neg (by omega)] at ej
                refine AW_aload_n dX12_readCompared_88 rfl ?_
                refine AW_iload_n dX12_readCompared_89 rfl ?_
                refine AW_iconst dX12_readCompared_90 ?_
                refine AW_callV2 (d' := d - 1) dX12_readCompared_91 (Or.inl lkX12_258) mfX12_emits (hS3.cel rfl) ⟨_, rfl, rfl⟩ (n_emits hS3 hy3.2.2 (joint (kd (tK B n) (sumS F (tK B n) (tV B n) s))) _ _ (hI3.lt hNn hy3.2.1) (by first | (rw [ej]; decide) | (exfalso; omega)) (by first | (rw [ej]; decide) | (exfalso; omega))) (by omega) (Nat.le_of_ble_eq_true rfl) ?_
                rintro _ ρ4 ⟨rfl, hM4, hG4⟩ -
                refine AW_iconst dX12_readCompared_94 ?_
                refine AW_iret dX12_readCompared_95 rfl ?_
                exact ⟨Or.inl ⟨hy3.2.1, rfl, hM4⟩, ((hG1.tr (hG2.mo (by decide) (by decide))).tr hG3).tr (hG4.mo (by decide) (by decide))⟩
              · skip
                have hy3 := hz3.elim (fun q => absurd (q.1.symm.trans c_83) (by decide)) id
                refine AW_iconst dX12_readCompared_86 ?_
                refine AW_iret dX12_readCompared_87 rfl ?_
                exact ⟨Or.inr ⟨hy3.2.1, rfl, hy3.2.2.1, hy3.2.2.2⟩, (hG1.tr (hG2.mo (by decide) (by decide))).tr hG3⟩
          · skip
            refine AW_bipush dX12_readCompared_52 ?_
            refine AW_goto (tgt := 73) dX12_readCompared_54 (by decide) ?_
            refine AW_istore1 dX12_readCompared_73 ?_
            refine AW_aload_n dX12_readCompared_74 rfl ?_
            refine AW_callV0 (d' := d - 1) dX12_readCompared_75 (Or.inl lkX12_262) mfX12_reads (hS1.cel rfl) ⟨_, rfl, rfl⟩ (n_mreads (by omega) hS1 hby hy1.2.2 (by omega)) (by omega) (Nat.le_of_ble_eq_true rfl) ?_
            rintro _ ρ2 ⟨rfl, hM2, hG2⟩ -
            have hS2 := hG2.sta hS1
            have hI2 := cmp_inv (F := F) (tV B n) hN hI
            have ec : cmpS (tK B n) (sumS F (tK B n) (tV B n) s) = stepS (sumS F (tK B n) (tV B n) s) := by
              unfold cmpS
              rw [if_pos (by omega)]
            refine AW_aload_n dX12_readCompared_78 rfl ?_
            refine AW_callV0 (d' := d - 1) dX12_readCompared_79 (Or.inl lkX12_275) mfX12_readSum (hS2.cel rfl) ⟨_, rfl, rfl⟩ (n_sum (s := stepS (sumS F (tK B n) (tV B n) s)) (by omega) hS2 hby hN hNn hM2 hy1.2.1 (by rw [← ec]; exact hI2.mono (by omega)) hFF) (by omega) (Nat.le_of_ble_eq_true rfl) ?_
            rintro _ ρ3 ⟨hret3, hG3⟩ -
            obtain ⟨z3, rfl, hz3⟩ := hret3.z
            have hS3 := hG3.sta hS2
            rw [← ec] at hz3
            have hI3 := hI2.sum (F := F) (tV B n) hN
            refine AW_iconst dX12_readCompared_82 ?_
            refine AW_icmp_ne (tgt := 88) dX12_readCompared_83 (by decide) (fun c_83 => ?_) (fun c_83 => ?_)
            · skip
              have hy3 := hz3.elim id (fun q => absurd q.1 c_83)
              have ej : joint (kd (tK B n) (sumS F (tK B n) (tV B n) s)) = (if tK B n (sumS F (tK B n) (tV B n) s).2.1 = 60 then -12 else if tK B n (sumS F (tK B n) (tV B n) s).2.1 = 61 then -13 else -14) := by
                unfold joint
                rw [hk1]
              first
              | rw [if_pos (by omega)] at ej
              | rw [if_neg (by omega), if_pos (by omega)] at ej
              | rw [if_neg (by omega), if_neg (by omega)] at ej
              refine AW_aload_n dX12_readCompared_88 rfl ?_
              refine AW_iload_n dX12_readCompared_89 rfl ?_
              refine AW_iconst dX12_readCompared_90 ?_
              refine AW_callV2 (d' := d - 1) dX12_readCompared_91 (Or.inl lkX12_258) mfX12_emits (hS3.cel rfl) ⟨_, rfl, rfl⟩ (n_emits hS3 hy3.2.2 (joint (kd (tK B n) (sumS F (tK B n) (tV B n) s))) _ _ (hI3.lt hNn hy3.2.1) (by first | (rw [ej]; decide) | (exfalso; omega)) (by first | (rw [ej]; decide) | (exfalso; omega))) (by omega) (Nat.le_of_ble_eq_true rfl) ?_
              rintro _ ρ4 ⟨rfl, hM4, hG4⟩ -
              refine AW_iconst dX12_readCompared_94 ?_
              refine AW_iret dX12_readCompared_95 rfl ?_
              exact ⟨Or.inl ⟨hy3.2.1, rfl, hM4⟩, ((hG1.tr (hG2.mo (by decide) (by decide))).tr hG3).tr (hG4.mo (by decide) (by decide))⟩
            · skip
              have hy3 := hz3.elim (fun q => absurd (q.1.symm.trans c_83) (by decide)) id
              refine AW_iconst dX12_readCompared_86 ?_
              refine AW_iret dX12_readCompared_87 rfl ?_
              exact ⟨Or.inr ⟨hy3.2.1, rfl, hy3.2.2.1, hy3.2.2.2⟩, (hG1.tr (hG2.mo (by decide) (by decide))).tr hG3⟩
        · skip
          replace c_34 := bz0 c_34
          refine AW_aload_n dX12_readCompared_37 rfl ?_
          refine AW_iconst dX12_readCompared_38 ?_
          refine AW_callV1 (d' := d - 1) dX12_readCompared_39 (Or.inl lkX12_255) mfX12_fails (hS1.cel rfl) ⟨_, rfl, rfl⟩ (n_fails hS1 1) (by omega) (Nat.le_of_ble_eq_true rfl) ?_
          rintro _ ρ2 ⟨rfl, q1, q2, q3⟩ -
          refine AW_iret dX12_readCompared_42 rfl ?_
          have e1 : cmpS (tK B n) (sumS F (tK B n) (tV B n) s) = (1, (sumS F (tK B n) (tV B n) s).2) := by
            unfold cmpS blameS
            rw [if_neg (by omega), if_pos hy1.2.1]
          have e2 := sumS_f (F := F) (K := tK B n) (V := tV B n) (s := (1, (sumS F (tK B n) (tV B n) s).2)) (by decide : (1 : Int) ≠ 0)
          have e3 : (comS F (tK B n) (tV B n) s).1 = 1 := by
            unfold comS
            rw [e1]
            exact e2.1
          have e4 : (comS F (tK B n) (tV B n) s).2.1 = (sumS F (tK B n) (tV B n) s).2.1 := by
            unfold comS
            rw [e1]
            exact e2.2
          exact ⟨Or.inr ⟨by rw [e3]; decide, rfl, by rw [e3]; exact q1, by rw [e4, q2, hy1.2.2.2.2.1]⟩, hG1.tr (q3.mo (by decide) (by decide))⟩
  · skip
    have hy1 := hz1.elim (fun q => absurd (q.1.symm.trans c_5) (by decide)) id
    refine AW_iconst dX12_readCompared_8 ?_
    refine AW_iret dX12_readCompared_9 rfl ?_
    have e1 : cmpS (tK B n) (sumS F (tK B n) (tV B n) s) = sumS F (tK B n) (tV B n) s := cmpS_f hy1.2.1
    have e2 := sumS_f (F := F) (K := tK B n) (V := tV B n) hy1.2.1
    have e3 : (comS F (tK B n) (tV B n) s).1 = (sumS F (tK B n) (tV B n) s).1 := by
      unfold comS
      rw [e1]
      exact e2.1
    have e4 : (comS F (tK B n) (tV B n) s).2.1 = (sumS F (tK B n) (tV B n) s).2.1 := by
      unfold comS
      rw [e1]
      exact e2.2
    exact ⟨Or.inr ⟨by rw [e3]; exact hy1.2.1, rfl, by rw [e3]; exact hy1.2.2.1, by rw [e4]; exact hy1.2.2.2⟩, hG1⟩
