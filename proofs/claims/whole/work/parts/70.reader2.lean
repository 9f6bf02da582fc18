theorem sumL_0 (K V : Nat → Int) (w : Int) (s : PS) : sumL K V 0 w s = s := rfl
theorem sumL_s (K V : Nat → Int) (f : Nat) (w : Int) (s : PS) : sumL K V (f + 1) w s = (if kd K s = 42 then sumL K V f w (putS (-10) (unitS K V (stepS s)))
    else if kd K s = 47 then sumL K V f w (putS (-11) (divS K V (stepS s)))
    else if kd K s = 43 then sumL K V f (-8) (unitS K V (stepS (if w = 0 then s else putS w s)))
    else if kd K s = 45 then sumL K V f (-9) (unitS K V (stepS (if w = 0 then s else putS w s)))
    else (if w = 0 then s else putS w s)) := rfl
theorem l_rsum {G : Gt} {d : Nat} {σ : St} {B : Nat → Int} {n N : Nat} (hN : Fn (tK B n) N) (hNn : N ≤ 400) (hd : 3 ≤ d) (hS0 : Sta σ) : ∀ (nn : Nat) (i f : Nat) (w : Int) (s : PS) (τ : St), f < nn → i + f = 400 → Rd B n N τ s → Inv N (0 + (if w = 0 then 0 else 1)) s → Fq σ τ →  AW mX7_readSum G d 0 0 (mq G (fun ro ρ => ro = none ∧ Rd B n N ρ (sumL (tK B n) (tV B n) f w s) ∧ Fq σ ρ)) 8 [some (vR 34), some (vI w), some (vI (i : Int))] [] τ := by
  intro nn
  induction nn with
  | zero => intros; omega
  | succ nn ih =>
    intro i f w s τ hn hf hR hI hF
    have hS := hF.sta hS0
    cases f with
    | zero =>
      refine AW_iload_n dX7_readSum_8 rfl ?_
      refine AW_sipush dX7_readSum_9 ?_
      refine AW_icmp_ge (tgt := 135) dX7_readSum_12 (by decide) (fun _ => ?_) (fun c => absurd c (by omega))
      refine AW_vret dX7_readSum_135 rfl ?_
      exact ⟨rfl, hR, hF⟩
    | succ f =>
    rw [sumL_s]
    refine AW_iload_n dX7_readSum_8 rfl ?_
    refine AW_sipush dX7_readSum_9 ?_
    refine AW_icmp_ge (tgt := 135) dX7_readSum_12 (by decide) (fun c_12 => ?_) (fun c_12 => ?_)
    · skip
      exact absurd c_12 (by omega)
    · skip
      refine AW_aload_n dX7_readSum_15 rfl ?_
      refine AW_getI dX7_readSum_16 gfX7_47 (hS.cel rfl) ?_
      refine AW_bipush dX7_readSum_19 ?_
      refine AW_icmp_ne (tgt := 44) dX7_readSum_21 (by decide) (fun c_21 => ?_) (fun c_21 => ?_)
      · skip
        rw [hR.tok] at c_21
        refine AW_aload_n dX7_readSum_44 rfl ?_
        refine AW_getI dX7_readSum_45 gfX7_47 (hS.cel rfl) ?_
        refine AW_bipush dX7_readSum_48 ?_
        refine AW_icmp_ne (tgt := 73) dX7_readSum_50 (by decide) (fun c_50 => ?_) (fun c_50 => ?_)
        · skip
          rw [hR.tok] at c_50
          refine AW_iload_n dX7_readSum_73 rfl ?_
          refine AW_if_eq (tgt := 85) dX7_readSum_74 (by decide) (fun c_74 => ?_) (fun c_74 => ?_)
          · skip
            have hRw : Rd B n N τ (if w = 0 then s else putS w s) := by rw [if_pos c_74]; exact hR
            have hSw := hS
            have hQw := hF
            refine AW_aload_n dX7_readSum_85 rfl ?_
            refine AW_getI dX7_readSum_86 gfX7_47 (hSw.cel rfl) ?_
            refine AW_bipush dX7_readSum_89 ?_
            refine AW_icmp_eq (tgt := 104) dX7_readSum_91 (by decide) (fun c_91 => ?_) (fun c_91 => ?_)
            · skip
              rw [hRw.tok, kd_wput] at c_91
              refine AW_aload_n dX7_readSum_104 rfl ?_
              refine AW_getI dX7_readSum_105 gfX7_47 (hSw.cel rfl) ?_
              refine AW_bipush dX7_readSum_108 ?_
              refine AW_icmp_ne (tgt := 118) dX7_readSum_110 (by decide) (fun c_110 => ?_) (fun c_110 => ?_)
              · skip
                rw [hRw.tok, kd_wput] at c_110
                refine AW_bipush dX7_readSum_118 ?_
                refine AW_istore1 dX7_readSum_120 ?_
                refine AW_aload_n dX7_readSum_121 rfl ?_
                refine AW_callV0 (d' := d - 1) dX7_readSum_122 (Or.inl lkX7_64) mfX7_step (hSw.cel rfl) ⟨_, rfl, rfl⟩ (k_step hSw hN hNn hRw (Inv.wput (K := tK B n) hI).1 (by rw [kd_wput]; omega) (by rw [kd_wput]; omega)) (by omega) (Nat.le_of_ble_eq_true rfl) ?_
                rintro _ ρ1 ⟨rfl, hR1, hG1⟩ -
                have hS1 := hG1.sta hSw
                have hI1 := (Inv.wput (K := tK B n) hI).step hN (by rw [kd_wput]; omega) (by rw [kd_wput]; omega)
                refine AW_aload_n dX7_readSum_125 rfl ?_
                refine AW_callV0 (d' := d - 1) dX7_readSum_126 (Or.inl lkX7_88) mfX7_readUnit (hS1.cel rfl) ⟨_, rfl, rfl⟩ (k_unit (by omega) hS1 hN hNn hR1 (hI1.mono (by omega))) (by omega) (Nat.le_of_ble_eq_true rfl) ?_
                rintro _ ρ2 ⟨rfl, hR2, hG2⟩ -
                have hS2 := hG2.sta hS1
                have hI2 := hI1.unit (tV B n) hN
                have hQ2 : Fq σ ρ2 := (hQw.tr hG1).tr hG2
                refine AW_iincE2 dX7_readSum_129 (by omega) (by omega) ?_
                refine AW_goto (tgt := 8) dX7_readSum_132 (by decide) ?_
                rw [show (i : Int) + 1 = ((i + 1 : Nat) : Int) by omega]
                first
                | (rw [if_pos c_21]
                   exact ih (i + 1) f w _ ρ3 (by omega) (by omega) hR3 hI3 hQ3)
                | (rw [if_neg c_21, if_pos c_50]
                   exact ih (i + 1) f w _ ρ3 (by omega) (by omega) hR3 hI3 hQ3)
                | (rw [if_neg c_21, if_neg c_50, if_pos c_110]
                   exact ih (i + 1) f _ _ ρ2 (by omega) (by omega) hR2 hI2 hQ2)
                | (rw [if_neg c_21, if_neg c_50, if_neg c_110, if_pos c_100]
                   exact ih (i + 1) f _ _ ρ2 (by omega) (by omega) hR2 hI2 hQ2)
                | (exfalso; omega)
              · skip
                rw [hRw.tok, kd_wput] at c_110
                refine AW_bipush dX7_readSum_113 ?_
                refine AW_goto (tgt := 120) dX7_readSum_115 (by decide) ?_
                refine AW_istore1 dX7_readSum_120 ?_
                refine AW_aload_n dX7_readSum_121 rfl ?_
                refine AW_callV0 (d' := d - 1) dX7_readSum_122 (Or.inl lkX7_64) mfX7_step (hSw.cel rfl) ⟨_, rfl, rfl⟩ (k_step hSw hN hNn hRw (Inv.wput (K := tK B n) hI).1 (by rw [kd_wput]; omega) (by rw [kd_wput]; omega)) (by omega) (Nat.le_of_ble_eq_true rfl) ?_
                rintro _ ρ1 ⟨rfl, hR1, hG1⟩ -
                have hS1 := hG1.sta hSw
                have hI1 := (Inv.wput (K := tK B n) hI).step hN (by rw [kd_wput]; omega) (by rw [kd_wput]; omega)
                refine AW_aload_n dX7_readSum_125 rfl ?_
                refine AW_callV0 (d' := d - 1) dX7_readSum_126 (Or.inl lkX7_88) mfX7_readUnit (hS1.cel rfl) ⟨_, rfl, rfl⟩ (k_unit (by omega) hS1 hN hNn hR1 (hI1.mono (by omega))) (by omega) (Nat.le_of_ble_eq_true rfl) ?_
                rintro _ ρ2 ⟨rfl, hR2, hG2⟩ -
                have hS2 := hG2.sta hS1
                have hI2 := hI1.unit (tV B n) hN
                have hQ2 : Fq σ ρ2 := (hQw.tr hG1).tr hG2
                refine AW_iincE2 dX7_readSum_129 (by omega) (by omega) ?_
                refine AW_goto (tgt := 8) dX7_readSum_132 (by decide) ?_
                rw [show (i : Int) + 1 = ((i + 1 : Nat) : Int) by omega]
                first
                | (rw [if_pos c_21]
                   exact ih (i + 1) f w _ ρ3 (by omega) (by omega) hR3 hI3 hQ3)
                | (rw [if_neg c_21, if_pos c_50]
                   exact ih (i + 1) f w _ ρ3 (by omega) (by omega) hR3 hI3 hQ3)
                | (rw [if_neg c_21, if_neg c_50, if_pos c_110]
                   exact ih (i + 1) f _ _ ρ2 (by omega) (by omega) hR2 hI2 hQ2)
                | (rw [if_neg c_21, if_neg c_50, if_neg c_110, if_pos c_100]
                   exact ih (i + 1) f _ _ ρ2 (by omega) (by omega) hR2 hI2 hQ2)
                | (exfalso; omega)
            · skip
              rw [hRw.tok, kd_wput] at c_91
              refine AW_aload_n dX7_readSum_94 rfl ?_
              refine AW_getI dX7_readSum_95 gfX7_47 (hSw.cel rfl) ?_
              refine AW_bipush dX7_readSum_98 ?_
              refine AW_icmp_eq (tgt := 104) dX7_readSum_100 (by decide) (fun c_100 => ?_) (fun c_100 => ?_)
              · skip
                rw [hRw.tok, kd_wput] at c_100
                refine AW_aload_n dX7_readSum_104 rfl ?_
                refine AW_getI dX7_readSum_105 gfX7_47 (hSw.cel rfl) ?_
                refine AW_bipush dX7_readSum_108 ?_
                refine AW_icmp_ne (tgt := 118) dX7_readSum_110 (by decide) (fun c_110 => ?_) (fun c_110 => ?_)
                · skip
                  rw [hRw.tok, kd_wput] at c_110
                  refine AW_bipush dX7_readSum_118 ?_
                  refine AW_istore1 dX7_readSum_120 ?_
                  refine AW_aload_n dX7_readSum_121 rfl ?_
                  refine AW_callV0 (d' := d - 1) dX7_readSum_122 (Or.inl lkX7_64) mfX7_step (hSw.cel rfl) ⟨_, rfl, rfl⟩ (k_step hSw hN hNn hRw (Inv.wput (K := tK B n) hI).1 (by rw [kd_wput]; omega) (by rw [kd_wput]; omega)) (by omega) (Nat.le_of_ble_eq_true rfl) ?_
                  rintro _ ρ1 ⟨rfl, hR1, hG1⟩ -
                  have hS1 := hG1.sta hSw
                  have hI1 := (Inv.wput (K := tK B n) hI).step hN (by rw [kd_wput]; omega) (by rw [kd_wput]; omega)
                  refine AW_aload_n dX7_readSum_125 rfl ?_
                  refine AW_callV0 (d' := d - 1) dX7_readSum_126 (Or.inl lkX7_88) mfX7_readUnit (hS1.cel rfl) ⟨_, rfl, rfl⟩ (k_unit (by omega) hS1 hN hNn hR1 (hI1.mono (by omega))) (by omega) (Nat.le_of_ble_eq_true rfl) ?_
                  rintro _ ρ2 ⟨rfl, hR2, hG2⟩ -
                  have hS2 := hG2.sta hS1
                  have hI2 := hI1.unit (tV B n) hN
                  have hQ2 : Fq σ ρ2 := (hQw.tr hG1).tr hG2
                  refine AW_iincE2 dX7_readSum_129 (by omega) (by omega) ?_
                  refine AW_goto (tgt := 8) dX7_readSum_132 (by decide) ?_
                  rw [show (i : Int) + 1 = ((i + 1 : Nat) : Int) by omega]
                  first
                  | (rw [if_pos c_21]
                     exact ih (i + 1) f w _ ρ3 (by omega) (by omega) hR3 hI3 hQ3)
                  | (rw [if_neg c_21, if_pos c_50]
                     exact ih (i + 1) f w _ ρ3 (by omega) (by omega) hR3 hI3 hQ3)
                  | (rw [if_neg c_21, if_neg c_50, if_pos c_110]
                     exact ih (i + 1) f _ _ ρ2 (by omega) (by omega) hR2 hI2 hQ2)
                  | (rw [if_neg c_21, if_neg c_50, if_neg c_110, if_pos c_100]
                     exact ih (i + 1) f _ _ ρ2 (by omega) (by omega) hR2 hI2 hQ2)
                  | (exfalso; omega)
                · skip
                  rw [hRw.tok, kd_wput] at c_110
                  refine AW_bipush dX7_readSum_113 ?_
                  refine AW_goto (tgt := 120) dX7_readSum_115 (by decide) ?_
                  refine AW_istore1 dX7_readSum_120 ?_
                  refine AW_aload_n dX7_readSum_121 rfl ?_
                  refine AW_callV0 (d' := d - 1) dX7_readSum_122 (Or.inl lkX7_64) mfX7_step (hSw.cel rfl) ⟨_, rfl, rfl⟩ (k_step hSw hN hNn hRw (Inv.wput (K := tK B n) hI).1 (by rw [kd_wput]; omega) (by rw [kd_wput]; omega)) (by omega) (Nat.le_of_ble_eq_true rfl) ?_
                  rintro _ ρ1 ⟨rfl, hR1, hG1⟩ -
                  have hS1 := hG1.sta hSw
                  have hI1 := (Inv.wput (K := tK B n) hI).step hN (by rw [kd_wput]; omega) (by rw [kd_wput]; omega)
                  refine AW_aload_n dX7_readSum_125 rfl ?_
                  refine AW_callV0 (d' := d - 1) dX7_readSum_126 (Or.inl lkX7_88) mfX7_readUnit (hS1.cel rfl) ⟨_, rfl, rfl⟩ (k_unit (by omega) hS1 hN hNn hR1 (hI1.mono (by omega))) (by omega) (Nat.le_of_ble_eq_true rfl) ?_
                  rintro _ ρ2 ⟨rfl, hR2, hG2⟩ -
                  have hS2 := hG2.sta hS1
                  have hI2 := hI1.unit (tV B n) hN
                  have hQ2 : Fq σ ρ2 := (hQw.tr hG1).tr hG2
                  refine AW_iincE2 dX7_readSum_129 (by omega) (by omega) ?_
                  refine AW_goto (tgt := 8) dX7_readSum_132 (by decide) ?_
                  rw [show (i : Int) + 1 = ((i + 1 : Nat) : Int) by omega]
                  first
                  | (rw [if_pos c_21]
                     exact ih (i + 1) f w _ ρ3 (by omega) (by omega) hR3 hI3 hQ3)
                  | (rw [if_neg c_21, if_pos c_50]
                     exact ih (i + 1) f w _ ρ3 (by omega) (by omega) hR3 hI3 hQ3)
                  | (rw [if_neg c_21, if_neg c_50, if_pos c_110]
                     exact ih (i + 1) f _ _ ρ2 (by omega) (by omega) hR2 hI2 hQ2)
                  | (rw [if_neg c_21, if_neg c_50, if_neg c_110, if_pos c_100]
                     exact ih (i + 1) f _ _ ρ2 (by omega) (by omega) hR2 hI2 hQ2)
                  | (exfalso; omega)
              · skip
                rw [hRw.tok, kd_wput] at c_100
                refine AW_vret dX7_readSum_103 rfl ?_
                rw [if_neg c_21, if_neg c_50, if_neg c_91, if_neg c_100]
                exact ⟨rfl, hRw, hQw⟩
          · skip
            refine AW_aload_n dX7_readSum_77 rfl ?_
            refine AW_getR (a := 35) dX7_readSum_78 gfX7_12 (hS.cel rfl) (hS.rf rfl) ?_
            refine AW_iload_n dX7_readSum_81 rfl ?_
            refine AW_callV1 (d' := d - 1) dX7_readSum_82 (Or.inl lkX7_82) mfX10_put (hS.cel rfl) ⟨_, rfl, rfl⟩ (k_wput hS hN hNn hR (fun h0 => Inv.lt (p := 0) (by rw [if_neg c_74] at hI; exact hI) hNn h0) w) (by omega) (Nat.le_of_ble_eq_true rfl) ?_
            rintro _ ρw ⟨rfl, hRw0, hGw⟩ -
            have hSw := hGw.sta hS
            have hQw := hF.tr hGw
            have hRw : Rd B n N ρw (if w = 0 then s else putS w s) := by rw [if_neg c_74]; exact hRw0
            refine AW_aload_n dX7_readSum_85 rfl ?_
            refine AW_getI dX7_readSum_86 gfX7_47 (hSw.cel rfl) ?_
            refine AW_bipush dX7_readSum_89 ?_
            refine AW_icmp_eq (tgt := 104) dX7_readSum_91 (by decide) (fun c_91 => ?_) (fun c_91 => ?_)
            · skip
              rw [hRw.tok, kd_wput] at c_91
              refine AW_aload_n dX7_readSum_104 rfl ?_
              refine AW_getI dX7_readSum_105 gfX7_47 (hSw.cel rfl) ?_
              refine AW_bipush dX7_readSum_108 ?_
              refine AW_icmp_ne (tgt := 118) dX7_readSum_110 (by decide) (fun c_110 => ?_) (fun c_110 => ?_)
              · skip
                rw [hRw.tok, kd_wput] at c_110
                refine AW_bipush dX7_readSum_118 ?_
                refine AW_istore1 dX7_readSum_120 ?_
                refine AW_aload_n dX7_readSum_121 rfl ?_
                refine AW_callV0 (d' := d - 1) dX7_readSum_122 (Or.inl lkX7_64) mfX7_step (hSw.cel rfl) ⟨_, rfl, rfl⟩ (k_step hSw hN hNn hRw (Inv.wput (K := tK B n) hI).1 (by rw [kd_wput]; omega) (by rw [kd_wput]; omega)) (by omega) (Nat.le_of_ble_eq_true rfl) ?_
                rintro _ ρ1 ⟨rfl, hR1, hG1⟩ -
                have hS1 := hG1.sta hSw
                have hI1 := (Inv.wput (K := tK B n) hI).step hN (by rw [kd_wput]; omega) (by rw [kd_wput]; omega)
                refine AW_aload_n dX7_readSum_125 rfl ?_
                refine AW_callV0 (d' := d - 1) dX7_readSum_126 (Or.inl lkX7_88) mfX7_readUnit (hS1.cel rfl) ⟨_, rfl, rfl⟩ (k_unit (by omega) hS1 hN hNn hR1 (hI1.mono (by omega))) (by omega) (Nat.le_of_ble_eq_true rfl) ?_
                rintro _ ρ2 ⟨rfl, hR2, hG2⟩ -
                have hS2 := hG2.sta hS1
                have hI2 := hI1.unit (tV B n) hN
                have hQ2 : Fq σ ρ2 := (hQw.tr hG1).tr hG2
                refine AW_iincE2 dX7_readSum_129 (by omega) (by omega) ?_
                refine AW_goto (tgt := 8) dX7_readSum_132 (by decide) ?_
                rw [show (i : Int) + 1 = ((i + 1 : Nat) : Int) by omega]
                first
                | (rw [if_pos c_21]
                   exact ih (i + 1) f w _ ρ3 (by omega) (by omega) hR3 hI3 hQ3)
                | (rw [if_neg c_21, if_pos c_50]
                   exact ih (i + 1) f w _ ρ3 (by omega) (by omega) hR3 hI3 hQ3)
                | (rw [if_neg c_21, if_neg c_50, if_pos c_110]
                   exact ih (i + 1) f _ _ ρ2 (by omega) (by omega) hR2 hI2 hQ2)
                | (rw [if_neg c_21, if_neg c_50, if_neg c_110, if_pos c_100]
                   exact ih (i + 1) f _ _ ρ2 (by omega) (by omega) hR2 hI2 hQ2)
                | (exfalso; omega)
              · skip
                rw [hRw.tok, kd_wput] at c_110
                refine AW_bipush dX7_readSum_113 ?_
                refine AW_goto (tgt := 120) dX7_readSum_115 (by decide) ?_
                refine AW_istore1 dX7_readSum_120 ?_
                refine AW_aload_n dX7_readSum_121 rfl ?_
                refine AW_callV0 (d' := d - 1) dX7_readSum_122 (Or.inl lkX7_64) mfX7_step (hSw.cel rfl) ⟨_, rfl, rfl⟩ (k_step hSw hN hNn hRw (Inv.wput (K := tK B n) hI).1 (by rw [kd_wput]; omega) (by rw [kd_wput]; omega)) (by omega) (Nat.le_of_ble_eq_true rfl) ?_
                rintro _ ρ1 ⟨rfl, hR1, hG1⟩ -
                have hS1 := hG1.sta hSw
                have hI1 := (Inv.wput (K := tK B n) hI).step hN (by rw [kd_wput]; omega) (by rw [kd_wput]; omega)
                refine AW_aload_n dX7_readSum_125 rfl ?_
                refine AW_callV0 (d' := d - 1) dX7_readSum_126 (Or.inl lkX7_88) mfX7_readUnit (hS1.cel rfl) ⟨_, rfl, rfl⟩ (k_unit (by omega) hS1 hN hNn hR1 (hI1.mono (by omega))) (by omega) (Nat.le_of_ble_eq_true rfl) ?_
                rintro _ ρ2 ⟨rfl, hR2, hG2⟩ -
                have hS2 := hG2.sta hS1
                have hI2 := hI1.unit (tV B n) hN
                have hQ2 : Fq σ ρ2 := (hQw.tr hG1).tr hG2
                refine AW_iincE2 dX7_readSum_129 (by omega) (by omega) ?_
                refine AW_goto (tgt := 8) dX7_readSum_132 (by decide) ?_
                rw [show (i : Int) + 1 = ((i + 1 : Nat) : Int) by omega]
                first
                | (rw [if_pos c_21]
                   exact ih (i + 1) f w _ ρ3 (by omega) (by omega) hR3 hI3 hQ3)
                | (rw [if_neg c_21, if_pos c_50]
                   exact ih (i + 1) f w _ ρ3 (by omega) (by omega) hR3 hI3 hQ3)
                | (rw [if_neg c_21, if_neg c_50, if_pos c_110]
                   exact ih (i + 1) f _ _ ρ2 (by omega) (by omega) hR2 hI2 hQ2)
                | (rw [if_neg c_21, if_neg c_50, if_neg c_110, if_pos c_100]
                   exact ih (i + 1) f _ _ ρ2 (by omega) (by omega) hR2 hI2 hQ2)
                | (exfalso; omega)
            · skip
              rw [hRw.tok, kd_wput] at c_91
              refine AW_aload_n dX7_readSum_94 rfl ?_
              refine AW_getI dX7_readSum_95 gfX7_47 (hSw.cel rfl) ?_
              refine AW_bipush dX7_readSum_98 ?_
              refine AW_icmp_eq (tgt := 104) dX7_readSum_100 (by decide) (fun c_100 => ?_) (fun c_100 => ?_)
              · skip
                rw [hRw.tok, kd_wput] at c_100
                refine AW_aload_n dX7_readSum_104 rfl ?_
                refine AW_getI dX7_readSum_105 gfX7_47 (hSw.cel rfl) ?_
                refine AW_bipush dX7_readSum_108 ?_
                refine AW_icmp_ne (tgt := 118) dX7_readSum_110 (by decide) (fun c_110 => ?_) (fun c_110 => ?_)
                · skip
                  rw [hRw.tok, kd_wput] at c_110
                  refine AW_bipush dX7_readSum_118 ?_
                  refine AW_istore1 dX7_readSum_120 ?_
                  refine AW_aload_n dX7_readSum_121 rfl ?_
                  refine AW_callV0 (d' := d - 1) dX7_readSum_122 (Or.inl lkX7_64) mfX7_step (hSw.cel rfl) ⟨_, rfl, rfl⟩ (k_step hSw hN hNn hRw (Inv.wput (K := tK B n) hI).1 (by rw [kd_wput]; omega) (by rw [kd_wput]; omega)) (by omega) (Nat.le_of_ble_eq_true rfl) ?_
                  rintro _ ρ1 ⟨rfl, hR1, hG1⟩ -
                  have hS1 := hG1.sta hSw
                  have hI1 := (Inv.wput (K := tK B n) hI).step hN (by rw [kd_wput]; omega) (by rw [kd_wput]; omega)
                  refine AW_aload_n dX7_readSum_125 rfl ?_
                  refine AW_callV0 (d' := d - 1) dX7_readSum_126 (Or.inl lkX7_88) mfX7_readUnit (hS1.cel rfl) ⟨_, rfl, rfl⟩ (k_unit (by omega) hS1 hN hNn hR1 (hI1.mono (by omega))) (by omega) (Nat.le_of_ble_eq_true rfl) ?_
                  rintro _ ρ2 ⟨rfl, hR2, hG2⟩ -
                  have hS2 := hG2.sta hS1
                  have hI2 := hI1.unit (tV B n) hN
                  have hQ2 : Fq σ ρ2 := (hQw.tr hG1).tr hG2
                  refine AW_iincE2 dX7_readSum_129 (by omega) (by omega) ?_
                  refine AW_goto (tgt := 8) dX7_readSum_132 (by decide) ?_
                  rw [show (i : Int) + 1 = ((i + 1 : Nat) : Int) by omega]
                  first
                  | (rw [if_pos c_21]
                     exact ih (i + 1) f w _ ρ3 (by omega) (by omega) hR3 hI3 hQ3)
                  | (rw [if_neg c_21, if_pos c_50]
                     exact ih (i + 1) f w _ ρ3 (by omega) (by omega) hR3 hI3 hQ3)
                  | (rw [if_neg c_21, if_neg c_50, if_pos c_110]
                     exact ih (i + 1) f _ _ ρ2 (by omega) (by omega) hR2 hI2 hQ2)
                  | (rw [if_neg c_21, if_neg c_50, if_neg c_110, if_pos c_100]
                     exact ih (i + 1) f _ _ ρ2 (by omega) (by omega) hR2 hI2 hQ2)
                  | (exfalso; omega)
                · skip
                  rw [hRw.tok, kd_wput] at c_110
                  refine AW_bipush dX7_readSum_113 ?_
                  refine AW_goto (tgt := 120) dX7_readSum_115 (by decide) ?_
                  refine AW_istore1 dX7_readSum_120 ?_
                  refine AW_aload_n dX7_readSum_121 rfl ?_
                  refine AW_callV0 (d' := d - 1) dX7_readSum_122 (Or.inl lkX7_64) mfX7_step (hSw.cel rfl) ⟨_, rfl, rfl⟩ (k_step hSw hN hNn hRw (Inv.wput (K := tK B n) hI).1 (by rw [kd_wput]; omega) (by rw [kd_wput]; omega)) (by omega) (Nat.le_of_ble_eq_true rfl) ?_
                  rintro _ ρ1 ⟨rfl, hR1, hG1⟩ -
                  have hS1 := hG1.sta hSw
                  have hI1 := (Inv.wput (K := tK B n) hI).step hN (by rw [kd_wput]; omega) (by rw [kd_wput]; omega)
                  refine AW_aload_n dX7_readSum_125 rfl ?_
                  refine AW_callV0 (d' := d - 1) dX7_readSum_126 (Or.inl lkX7_88) mfX7_readUnit (hS1.cel rfl) ⟨_, rfl, rfl⟩ (k_unit (by omega) hS1 hN hNn hR1 (hI1.mono (by omega))) (by omega) (Nat.le_of_ble_eq_true rfl) ?_
                  rintro _ ρ2 ⟨rfl, hR2, hG2⟩ -
                  have hS2 := hG2.sta hS1
                  have hI2 := hI1.unit (tV B n) hN
                  have hQ2 : Fq σ ρ2 := (hQw.tr hG1).tr hG2
                  refine AW_iincE2 dX7_readSum_129 (by omega) (by omega) ?_
                  refine AW_goto (tgt := 8) dX7_readSum_132 (by decide) ?_
                  rw [show (i : Int) + 1 = ((i + 1 : Nat) : Int) by omega]
                  first
                  | (rw [if_pos c_21]
                     exact ih (i + 1) f w _ ρ3 (by omega) (by omega) hR3 hI3 hQ3)
                  | (rw [if_neg c_21, if_pos c_50]
                     exact ih (i + 1) f w _ ρ3 (by omega) (by omega) hR3 hI3 hQ3)
                  | (rw [if_neg c_21, if_neg c_50, if_pos c_110]
                     exact ih (i + 1) f _ _ ρ2 (by omega) (by omega) hR2 hI2 hQ2)
                  | (rw [if_neg c_21, if_neg c_50, if_neg c_110, if_pos c_100]
                     exact ih (i + 1) f _ _ ρ2 (by omega) (by omega) hR2 hI2 hQ2)
                  | (exfalso; omega)
              · skip
                rw [hRw.tok, kd_wput] at c_100
                refine AW_vret dX7_readSum_103 rfl ?_
                rw [if_neg c_21, if_neg c_50, if_neg c_91, if_neg c_100]
                exact ⟨rfl, hRw, hQw⟩
        · skip
          rw [hR.tok] at c_50
          refine AW_aload_n dX7_readSum_53 rfl ?_
          refine AW_callV0 (d' := d - 1) dX7_readSum_54 (Or.inl lkX7_64) mfX7_step (hS.cel rfl) ⟨_, rfl, rfl⟩ (k_step hS hN hNn hR hI.1 (by omega) (by omega)) (by omega) (Nat.le_of_ble_eq_true rfl) ?_
          rintro _ ρ1 ⟨rfl, hR1, hG1⟩ -
          have hS1 := hG1.sta hS
          have hI1 := hI.step hN (by omega) (by omega)
          refine AW_aload_n dX7_readSum_57 rfl ?_
          refine AW_callV0 (d' := d - 1) dX7_readSum_58 (Or.inl lkX7_91) mfX7_readDivisor (hS1.cel rfl) ⟨_, rfl, rfl⟩ (k_div (by omega) hS1 hN hNn hR1 (hI1.mono (by omega))) (by omega) (Nat.le_of_ble_eq_true rfl) ?_
          rintro _ ρ2 ⟨rfl, hR2, hG2⟩ -
          have hS2 := hG2.sta hS1
          have hI2 := hI1.div (tV B n) hN
          refine AW_aload_n dX7_readSum_61 rfl ?_
          refine AW_getR (a := 35) dX7_readSum_62 gfX7_12 (hS2.cel rfl) (hS2.rf rfl) ?_
          refine AW_bipush dX7_readSum_65 ?_
          refine AW_callV1 (d' := d - 1) dX7_readSum_67 (Or.inl lkX7_82) mfX10_put (hS2.cel rfl) ⟨_, rfl, rfl⟩ (k_wput hS2 hN hNn hR2 (fun h0 => hI2.lt hNn h0) _) (by omega) (Nat.le_of_ble_eq_true rfl) ?_
          rintro _ ρ3 ⟨rfl, hR3, hG3⟩ -
          have hQ3 : Fq σ ρ3 := ((hF.tr hG1).tr hG2).tr hG3
          have hI3 := hI2.put (-11)
          refine AW_goto (tgt := 129) dX7_readSum_70 (by decide) ?_
          refine AW_iincE2 dX7_readSum_129 (by omega) (by omega) ?_
          refine AW_goto (tgt := 8) dX7_readSum_132 (by decide) ?_
          rw [show (i : Int) + 1 = ((i + 1 : Nat) : Int) by omega]
          first
          | (rw [if_pos c_21]
             exact ih (i + 1) f w _ ρ3 (by omega) (by omega) hR3 hI3 hQ3)
          | (rw [if_neg c_21, if_pos c_50]
             exact ih (i + 1) f w _ ρ3 (by omega) (by omega) hR3 hI3 hQ3)
          | (rw [if_neg c_21, if_neg c_50, if_pos c_110]
             exact ih (i + 1) f _ _ ρ2 (by omega) (by omega) hR2 hI2 hQ2)
          | (rw [if_neg c_21, if_neg c_50, if_neg c_110, if_pos c_100]
             exact ih (i + 1) f _ _ ρ2 (by omega) (by omega) hR2 hI2 hQ2)
          | (exfalso; omega)
      · skip
        rw [hR.tok] at c_21
        refine AW_aload_n dX7_readSum_24 rfl ?_
        refine AW_callV0 (d' := d - 1) dX7_readSum_25 (Or.inl lkX7_64) mfX7_step (hS.cel rfl) ⟨_, rfl, rfl⟩ (k_step hS hN hNn hR hI.1 (by omega) (by omega)) (by omega) (Nat.le_of_ble_eq_true rfl) ?_
        rintro _ ρ1 ⟨rfl, hR1, hG1⟩ -
        have hS1 := hG1.sta hS
        have hI1 := hI.step hN (by omega) (by omega)
        refine AW_aload_n dX7_readSum_28 rfl ?_
        refine AW_callV0 (d' := d - 1) dX7_readSum_29 (Or.inl lkX7_88) mfX7_readUnit (hS1.cel rfl) ⟨_, rfl, rfl⟩ (k_unit (by omega) hS1 hN hNn hR1 (hI1.mono (by omega))) (by omega) (Nat.le_of_ble_eq_true rfl) ?_
        rintro _ ρ2 ⟨rfl, hR2, hG2⟩ -
        have hS2 := hG2.sta hS1
        have hI2 := hI1.unit (tV B n) hN
        refine AW_aload_n dX7_readSum_32 rfl ?_
        refine AW_getR (a := 35) dX7_readSum_33 gfX7_12 (hS2.cel rfl) (hS2.rf rfl) ?_
        refine AW_bipush dX7_readSum_36 ?_
        refine AW_callV1 (d' := d - 1) dX7_readSum_38 (Or.inl lkX7_82) mfX10_put (hS2.cel rfl) ⟨_, rfl, rfl⟩ (k_wput hS2 hN hNn hR2 (fun h0 => hI2.lt hNn h0) _) (by omega) (Nat.le_of_ble_eq_true rfl) ?_
        rintro _ ρ3 ⟨rfl, hR3, hG3⟩ -
        have hQ3 : Fq σ ρ3 := ((hF.tr hG1).tr hG2).tr hG3
        have hI3 := hI2.put (-10)
        refine AW_goto (tgt := 129) dX7_readSum_41 (by decide) ?_
        refine AW_iincE2 dX7_readSum_129 (by omega) (by omega) ?_
        refine AW_goto (tgt := 8) dX7_readSum_132 (by decide) ?_
        rw [show (i : Int) + 1 = ((i + 1 : Nat) : Int) by omega]
        first
        | (rw [if_pos c_21]
           exact ih (i + 1) f w _ ρ3 (by omega) (by omega) hR3 hI3 hQ3)
        | (rw [if_neg c_21, if_pos c_50]
           exact ih (i + 1) f w _ ρ3 (by omega) (by omega) hR3 hI3 hQ3)
        | (rw [if_neg c_21, if_neg c_50, if_pos c_110]
           exact ih (i + 1) f _ _ ρ2 (by omega) (by omega) hR2 hI2 hQ2)
        | (rw [if_neg c_21, if_neg c_50, if_neg c_110, if_pos c_100]
           exact ih (i + 1) f _ _ ρ2 (by omega) (by omega) hR2 hI2 hQ2)
        | (exfalso; omega)
theorem k_sum {G : Gt} {d : Nat} {σ : St} (hd : 3 ≤ d) {B : Nat → Int} {n N : Nat} {s : PS} (hS : Sta σ) (hN : Fn (tK B n) N) (hNn : N ≤ 400) (hR : Rd B n N σ s) {F : Nat} (hF : F = 400) (hI : Inv N 0 s)  : AM mX7_readSum G d 0 0 [vR 34] σ (fun ro ρ => ro = none ∧ Rd B n N ρ (sumS F (tK B n) (tV B n) s) ∧ Fq σ ρ) := by
  refine AM.intro (by decide +kernel) (by simp [nLg]) (Nat.le_of_ble_eq_true rfl) (fun hO => ?_)
  show AW _ _ _ _ _ _ 0 [some (vR 34), none, none] [] σ
  refine AW_iconst dX7_readSum_0 ?_
  refine AW_istore1 dX7_readSum_1 ?_
  refine AW_aload_n dX7_readSum_2 rfl ?_
  refine AW_callV0 (d' := d - 1) dX7_readSum_3 (Or.inl lkX7_88) mfX7_readUnit (hS.cel rfl) ⟨_, rfl, rfl⟩ (k_unit (by omega) hS hN hNn hR hI) (by omega) (Nat.le_of_ble_eq_true rfl) ?_
  rintro _ ρ1 ⟨rfl, hR1, hG1⟩ -
  have hS1 := hG1.sta hS
  have hQ1 : Fq σ ρ1 := hG1
  refine AW_iconst dX7_readSum_6 ?_
  refine AW_istore2 dX7_readSum_7 ?_
  exact l_rsum hN hNn hd hS (F + 1) 0 F 0 _ ρ1 (by omega) (by omega) hR1 (by rw [if_pos rfl]; exact hI.unit (tV B n) hN) hQ1
theorem k_cmp {G : Gt} {d : Nat} {σ : St} (hd : 1 ≤ d) {B : Nat → Int} {n N : Nat} {s : PS} (hS : Sta σ) (hN : Fn (tK B n) N) (hNn : N ≤ 400) (hR : Rd B n N σ s) (hi : s.2.1 ≤ N)  : AM mX7_comparison G d 0 0 [vR 34] σ (fun ro ρ => ro = some (vI (joint (kd (tK B n) s))) ∧ Rd B n N ρ (cmpS (tK B n) s) ∧ Fq σ ρ) := by
  refine AM.intro (by decide +kernel) (by simp [nLg]) (Nat.le_of_ble_eq_true rfl) (fun hO => ?_)
  show AW _ _ _ _ _ _ 0 [some (vR 34), none] [] σ
  refine AW_aload_n dX7_comparison_0 rfl ?_
  refine AW_getI dX7_comparison_1 gfX7_47 (hS.cel rfl) ?_
  refine AW_bipush dX7_comparison_4 ?_
  refine AW_icmp_ne (tgt := 14) dX7_comparison_6 (by decide) (fun c_6 => ?_) (fun c_6 => ?_)
  · skip
    rw [hR.tok] at c_6
    refine AW_aload_n dX7_comparison_14 rfl ?_
    refine AW_getI dX7_comparison_15 gfX7_47 (hS.cel rfl) ?_
    refine AW_bipush dX7_comparison_18 ?_
    refine AW_icmp_ne (tgt := 28) dX7_comparison_20 (by decide) (fun c_20 => ?_) (fun c_20 => ?_)
    · skip
      rw [hR.tok] at c_20
      refine AW_bipush dX7_comparison_28 ?_
      refine AW_istore1 dX7_comparison_30 ?_
      refine AW_aload_n dX7_comparison_31 rfl ?_
      refine AW_getI dX7_comparison_32 gfX7_47 (hS.cel rfl) ?_
      refine AW_bipush dX7_comparison_35 ?_
      refine AW_icmp_eq (tgt := 58) dX7_comparison_37 (by decide) (fun c_37 => ?_) (fun c_37 => ?_)
      · skip
        rw [hR.tok] at c_37
        refine AW_aload_n dX7_comparison_58 rfl ?_
        refine AW_callV0 (d' := d - 1) dX7_comparison_59 (Or.inl lkX7_64) mfX7_step (hS.cel rfl) ⟨_, rfl, rfl⟩ (k_step hS hN hNn hR hi (by omega) (by omega)) (by omega) (Nat.le_of_ble_eq_true rfl) ?_
        rintro _ ρ1 ⟨rfl, hR1, hG1⟩ -
        have hS1 := hG1.sta hS
        have hQ1 : Fq σ ρ1 := hG1
        refine AW_goto (tgt := 70) dX7_comparison_62 (by decide) ?_
        refine AW_iload_n dX7_comparison_70 rfl ?_
        refine AW_iret dX7_comparison_71 rfl ?_
        unfold joint cmpS
        first
        | (exfalso; omega; done)
        | (rw [if_pos (by omega), if_pos (by omega)]; exact ⟨rfl, hR1, hQ1⟩)
        | (rw [if_neg (by omega), if_pos (by omega), if_pos (by omega)]; exact ⟨rfl, hR1, hQ1⟩)
        | (rw [if_neg (by omega), if_neg (by omega), if_pos (by omega)]; exact ⟨rfl, hR1, hQ1⟩)
        | (rw [if_neg (by omega), if_neg (by omega), if_neg (by omega)]; exact ⟨rfl, hR1, hQ1⟩)
      · skip
        rw [hR.tok] at c_37
        refine AW_aload_n dX7_comparison_40 rfl ?_
        refine AW_getI dX7_comparison_41 gfX7_47 (hS.cel rfl) ?_
        refine AW_bipush dX7_comparison_44 ?_
        refine AW_icmp_eq (tgt := 58) dX7_comparison_46 (by decide) (fun c_46 => ?_) (fun c_46 => ?_)
        · skip
          rw [hR.tok] at c_46
          refine AW_aload_n dX7_comparison_58 rfl ?_
          refine AW_callV0 (d' := d - 1) dX7_comparison_59 (Or.inl lkX7_64) mfX7_step (hS.cel rfl) ⟨_, rfl, rfl⟩ (k_step hS hN hNn hR hi (by omega) (by omega)) (by omega) (Nat.le_of_ble_eq_true rfl) ?_
          rintro _ ρ1 ⟨rfl, hR1, hG1⟩ -
          have hS1 := hG1.sta hS
          have hQ1 : Fq σ ρ1 := hG1
          refine AW_goto (tgt := 70) dX7_comparison_62 (by decide) ?_
          refine AW_iload_n dX7_comparison_70 rfl ?_
          refine AW_iret dX7_comparison_71 rfl ?_
          unfold joint cmpS
          first
          | (exfalso; omega; done)
          | (rw [if_pos (by omega), if_pos (by omega)]; exact ⟨rfl, hR1, hQ1⟩)
          | (rw [if_neg (by omega), if_pos (by omega), if_pos (by omega)]; exact ⟨rfl, hR1, hQ1⟩)
          | (rw [if_neg (by omega), if_neg (by omega), if_pos (by omega)]; exact ⟨rfl, hR1, hQ1⟩)
          | (rw [if_neg (by omega), if_neg (by omega), if_neg (by omega)]; exact ⟨rfl, hR1, hQ1⟩)
        · skip
          rw [hR.tok] at c_46
          refine AW_aload_n dX7_comparison_49 rfl ?_
          refine AW_getI dX7_comparison_50 gfX7_47 (hS.cel rfl) ?_
          refine AW_bipush dX7_comparison_53 ?_
          refine AW_icmp_ne (tgt := 65) dX7_comparison_55 (by decide) (fun c_55 => ?_) (fun c_55 => ?_)
          · skip
            rw [hR.tok] at c_55
            refine AW_aload_n dX7_comparison_65 rfl ?_
            refine AW_iconst dX7_comparison_66 ?_
            refine AW_callV1 (d' := d - 1) dX7_comparison_67 (Or.inl lkX7_53) mfX7_blame (hS.cel rfl) ⟨_, rfl, rfl⟩ (k_blame hS hN hNn hR hi 1 (by decide)) (by omega) (Nat.le_of_ble_eq_true rfl) ?_
            rintro _ ρ1 ⟨rfl, hR1, hG1⟩ -
            have hS1 := hG1.sta hS
            have hQ1 : Fq σ ρ1 := hG1
            refine AW_iload_n dX7_comparison_70 rfl ?_
            refine AW_iret dX7_comparison_71 rfl ?_
            unfold joint cmpS
            first
            | (exfalso; omega; done)
            | (rw [if_pos (by omega), if_pos (by omega)]; exact ⟨rfl, hR1, hQ1⟩)
            | (rw [if_neg (by omega), if_pos (by omega), if_pos (by omega)]; exact ⟨rfl, hR1, hQ1⟩)
            | (rw [if_neg (by omega), if_neg (by omega), if_pos (by omega)]; exact ⟨rfl, hR1, hQ1⟩)
            | (rw [if_neg (by omega), if_neg (by omega), if_neg (by omega)]; exact ⟨rfl, hR1, hQ1⟩)
          · skip
            rw [hR.tok] at c_55
            refine AW_aload_n dX7_comparison_58 rfl ?_
            refine AW_callV0 (d' := d - 1) dX7_comparison_59 (Or.inl lkX7_64) mfX7_step (hS.cel rfl) ⟨_, rfl, rfl⟩ (k_step hS hN hNn hR hi (by omega) (by omega)) (by omega) (Nat.le_of_ble_eq_true rfl) ?_
            rintro _ ρ1 ⟨rfl, hR1, hG1⟩ -
            have hS1 := hG1.sta hS
            have hQ1 : Fq σ ρ1 := hG1
            refine AW_goto (tgt := 70) dX7_comparison_62 (by decide) ?_
            refine AW_iload_n dX7_comparison_70 rfl ?_
            refine AW_iret dX7_comparison_71 rfl ?_
            unfold joint cmpS
            first
            | (exfalso; omega; done)
            | (rw [if_pos (by omega), if_pos (by omega)]; exact ⟨rfl, hR1, hQ1⟩)
            | (rw [if_neg (by omega), if_pos (by omega), if_pos (by omega)]; exact ⟨rfl, hR1, hQ1⟩)
            | (rw [if_neg (by omega), if_neg (by omega), if_pos (by omega)]; exact ⟨rfl, hR1, hQ1⟩)
            | (rw [if_neg (by omega), if_neg (by omega), if_neg (by omega)]; exact ⟨rfl, hR1, hQ1⟩)
    · skip
      rw [hR.tok] at c_20
      refine AW_bipush dX7_comparison_23 ?_
      refine AW_goto (tgt := 30) dX7_comparison_25 (by decide) ?_
      refine AW_istore1 dX7_comparison_30 ?_
      refine AW_aload_n dX7_comparison_31 rfl ?_
      refine AW_getI dX7_comparison_32 gfX7_47 (hS.cel rfl) ?_
      refine AW_bipush dX7_comparison_35 ?_
      refine AW_icmp_eq (tgt := 58) dX7_comparison_37 (by decide) (fun c_37 => ?_) (fun c_37 => ?_)
      · skip
        rw [hR.tok] at c_37
        refine AW_aload_n dX7_comparison_58 rfl ?_
        refine AW_callV0 (d' := d - 1) dX7_comparison_59 (Or.inl lkX7_64) mfX7_step (hS.cel rfl) ⟨_, rfl, rfl⟩ (k_step hS hN hNn hR hi (by omega) (by omega)) (by omega) (Nat.le_of_ble_eq_true rfl) ?_
        rintro _ ρ1 ⟨rfl, hR1, hG1⟩ -
        have hS1 := hG1.sta hS
        have hQ1 : Fq σ ρ1 := hG1
        refine AW_goto (tgt := 70) dX7_comparison_62 (by decide) ?_
        refine AW_iload_n dX7_comparison_70 rfl ?_
        refine AW_iret dX7_comparison_71 rfl ?_
        unfold joint cmpS
        first
        | (exfalso; omega; done)
        | (rw [if_pos (by omega), if_pos (by omega)]; exact ⟨rfl, hR1, hQ1⟩)
        | (rw [if_neg (by omega), if_pos (by omega), if_pos (by omega)]; exact ⟨rfl, hR1, hQ1⟩)
        | (rw [if_neg (by omega), if_neg (by omega), if_pos (by omega)]; exact ⟨rfl, hR1, hQ1⟩)
        | (rw [if_neg (by omega), if_neg (by omega), if_neg (by omega)]; exact ⟨rfl, hR1, hQ1⟩)
      · skip
        rw [hR.tok] at c_37
        refine AW_aload_n dX7_comparison_40 rfl ?_
        refine AW_getI dX7_comparison_41 gfX7_47 (hS.cel rfl) ?_
        refine AW_bipush dX7_comparison_44 ?_
        refine AW_icmp_eq (tgt := 58) dX7_comparison_46 (by decide) (fun c_46 => ?_) (fun c_46 => ?_)
        · skip
          rw [hR.tok] at c_46
          refine AW_aload_n dX7_comparison_58 rfl ?_
          refine AW_callV0 (d' := d - 1) dX7_comparison_59 (Or.inl lkX7_64) mfX7_step (hS.cel rfl) ⟨_, rfl, rfl⟩ (k_step hS hN hNn hR hi (by omega) (by omega)) (by omega) (Nat.le_of_ble_eq_true rfl) ?_
          rintro _ ρ1 ⟨rfl, hR1, hG1⟩ -
          have hS1 := hG1.sta hS
          have hQ1 : Fq σ ρ1 := hG1
          refine AW_goto (tgt := 70) dX7_comparison_62 (by decide) ?_
          refine AW_iload_n dX7_comparison_70 rfl ?_
          refine AW_iret dX7_comparison_71 rfl ?_
          unfold joint cmpS
          first
          | (exfalso; omega; done)
          | (rw [if_pos (by omega), if_pos (by omega)]; exact ⟨rfl, hR1, hQ1⟩)
          | (rw [if_neg (by omega), if_pos (by omega), if_pos (by omega)]; exact ⟨rfl, hR1, hQ1⟩)
          | (rw [if_neg (by omega), if_neg (by omega), if_pos (by omega)]; exact ⟨rfl, hR1, hQ1⟩)
          | (rw [if_neg (by omega), if_neg (by omega), if_neg (by omega)]; exact ⟨rfl, hR1, hQ1⟩)
        · skip
          rw [hR.tok] at c_46
          refine AW_aload_n dX7_comparison_49 rfl ?_
          refine AW_getI dX7_comparison_50 gfX7_47 (hS.cel rfl) ?_
          refine AW_bipush dX7_comparison_53 ?_
          refine AW_icmp_ne (tgt := 65) dX7_comparison_55 (by decide) (fun c_55 => ?_) (fun c_55 => ?_)
          · skip
            rw [hR.tok] at c_55
            refine AW_aload_n dX7_comparison_65 rfl ?_
            refine AW_iconst dX7_comparison_66 ?_
            refine AW_callV1 (d' := d - 1) dX7_comparison_67 (Or.inl lkX7_53) mfX7_blame (hS.cel rfl) ⟨_, rfl, rfl⟩ (k_blame hS hN hNn hR hi 1 (by decide)) (by omega) (Nat.le_of_ble_eq_true rfl) ?_
            rintro _ ρ1 ⟨rfl, hR1, hG1⟩ -
            have hS1 := hG1.sta hS
            have hQ1 : Fq σ ρ1 := hG1
            refine AW_iload_n dX7_comparison_70 rfl ?_
            refine AW_iret dX7_comparison_71 rfl ?_
            unfold joint cmpS
            first
            | (exfalso; omega; done)
            | (rw [if_pos (by omega), if_pos (by omega)]; exact ⟨rfl, hR1, hQ1⟩)
            | (rw [if_neg (by omega), if_pos (by omega), if_pos (by omega)]; exact ⟨rfl, hR1, hQ1⟩)
            | (rw [if_neg (by omega), if_neg (by omega), if_pos (by omega)]; exact ⟨rfl, hR1, hQ1⟩)
            | (rw [if_neg (by omega), if_neg (by omega), if_neg (by omega)]; exact ⟨rfl, hR1, hQ1⟩)
          · skip
            rw [hR.tok] at c_55
            refine AW_aload_n dX7_comparison_58 rfl ?_
            refine AW_callV0 (d' := d - 1) dX7_comparison_59 (Or.inl lkX7_64) mfX7_step (hS.cel rfl) ⟨_, rfl, rfl⟩ (k_step hS hN hNn hR hi (by omega) (by omega)) (by omega) (Nat.le_of_ble_eq_true rfl) ?_
            rintro _ ρ1 ⟨rfl, hR1, hG1⟩ -
            have hS1 := hG1.sta hS
            have hQ1 : Fq σ ρ1 := hG1
            refine AW_goto (tgt := 70) dX7_comparison_62 (by decide) ?_
            refine AW_iload_n dX7_comparison_70 rfl ?_
            refine AW_iret dX7_comparison_71 rfl ?_
            unfold joint cmpS
            first
            | (exfalso; omega; done)
            | (rw [if_pos (by omega), if_pos (by omega)]; exact ⟨rfl, hR1, hQ1⟩)
            | (rw [if_neg (by omega), if_pos (by omega), if_pos (by omega)]; exact ⟨rfl, hR1, hQ1⟩)
            | (rw [if_neg (by omega), if_neg (by omega), if_pos (by omega)]; exact ⟨rfl, hR1, hQ1⟩)
            | (rw [if_neg (by omega), if_neg (by omega), if_neg (by omega)]; exact ⟨rfl, hR1, hQ1⟩)
  · skip
    rw [hR.tok] at c_6
    refine AW_bipush dX7_comparison_9 ?_
    refine AW_goto (tgt := 30) dX7_comparison_11 (by decide) ?_
    refine AW_istore1 dX7_comparison_30 ?_
    refine AW_aload_n dX7_comparison_31 rfl ?_
    refine AW_getI dX7_comparison_32 gfX7_47 (hS.cel rfl) ?_
    refine AW_bipush dX7_comparison_35 ?_
    refine AW_icmp_eq (tgt := 58) dX7_comparison_37 (by decide) (fun c_37 => ?_) (fun c_37 => ?_)
    · skip
      rw [hR.tok] at c_37
      refine AW_aload_n dX7_comparison_58 rfl ?_
      refine AW_callV0 (d' := d - 1) dX7_comparison_59 (Or.inl lkX7_64) mfX7_step (hS.cel rfl) ⟨_, rfl, rfl⟩ (k_step hS hN hNn hR hi (by omega) (by omega)) (by omega) (Nat.le_of_ble_eq_true rfl) ?_
      rintro _ ρ1 ⟨rfl, hR1, hG1⟩ -
      have hS1 := hG1.sta hS
      have hQ1 : Fq σ ρ1 := hG1
      refine AW_goto (tgt := 70) dX7_comparison_62 (by decide) ?_
      refine AW_iload_n dX7_comparison_70 rfl ?_
      refine AW_iret dX7_comparison_71 rfl ?_
      unfold joint cmpS
      first
      | (exfalso; omega; done)
      | (rw [if_pos (by omega), if_pos (by omega)]; exact ⟨rfl, hR1, hQ1⟩)
      | (rw [if_neg (by omega), if_pos (by omega), if_pos (by omega)]; exact ⟨rfl, hR1, hQ1⟩)
      | (rw [if_neg (by omega), if_neg (by omega), if_pos (by omega)]; exact ⟨rfl, hR1, hQ1⟩)
      | (rw [if_neg (by omega), if_neg (by omega), if_neg (by omega)]; exact ⟨rfl, hR1, hQ1⟩)
    · skip
      rw [hR.tok] at c_37
      refine AW_aload_n dX7_comparison_40 rfl ?_
      refine AW_getI dX7_comparison_41 gfX7_47 (hS.cel rfl) ?_
      refine AW_bipush dX7_comparison_44 ?_
      refine AW_icmp_eq (tgt := 58) dX7_comparison_46 (by decide) (fun c_46 => ?_) (fun c_46 => ?_)
      · skip
        rw [hR.tok] at c_46
        refine AW_aload_n dX7_comparison_58 rfl ?_
        refine AW_callV0 (d' := d - 1) dX7_comparison_59 (Or.inl lkX7_64) mfX7_step (hS.cel rfl) ⟨_, rfl, rfl⟩ (k_step hS hN hNn hR hi (by omega) (by omega)) (by omega) (Nat.le_of_ble_eq_true rfl) ?_
        rintro _ ρ1 ⟨rfl, hR1, hG1⟩ -
        have hS1 := hG1.sta hS
        have hQ1 : Fq σ ρ1 := hG1
        refine AW_goto (tgt := 70) dX7_comparison_62 (by decide) ?_
        refine AW_iload_n dX7_comparison_70 rfl ?_
        refine AW_iret dX7_comparison_71 rfl ?_
        unfold joint cmpS
        first
        | (exfalso; omega; done)
        | (rw [if_pos (by omega), if_pos (by omega)]; exact ⟨rfl, hR1, hQ1⟩)
        | (rw [if_neg (by omega), if_pos (by omega), if_pos (by omega)]; exact ⟨rfl, hR1, hQ1⟩)
        | (rw [if_neg (by omega), if_neg (by omega), if_pos (by omega)]; exact ⟨rfl, hR1, hQ1⟩)
        | (rw [if_neg (by omega), if_neg (by omega), if_neg (by omega)]; exact ⟨rfl, hR1, hQ1⟩)
      · skip
        rw [hR.tok] at c_46
        refine AW_aload_n dX7_comparison_49 rfl ?_
        refine AW_getI dX7_comparison_50 gfX7_47 (hS.cel rfl) ?_
        refine AW_bipush dX7_comparison_53 ?_
        refine AW_icmp_ne (tgt := 65) dX7_comparison_55 (by decide) (fun c_55 => ?_) (fun c_55 => ?_)
        · skip
          rw [hR.tok] at c_55
          refine AW_aload_n dX7_comparison_65 rfl ?_
          refine AW_iconst dX7_comparison_66 ?_
          refine AW_callV1 (d' := d - 1) dX7_comparison_67 (Or.inl lkX7_53) mfX7_blame (hS.cel rfl) ⟨_, rfl, rfl⟩ (k_blame hS hN hNn hR hi 1 (by decide)) (by omega) (Nat.le_of_ble_eq_true rfl) ?_
          rintro _ ρ1 ⟨rfl, hR1, hG1⟩ -
          have hS1 := hG1.sta hS
          have hQ1 : Fq σ ρ1 := hG1
          refine AW_iload_n dX7_comparison_70 rfl ?_
          refine AW_iret dX7_comparison_71 rfl ?_
          unfold joint cmpS
          first
          | (exfalso; omega; done)
          | (rw [if_pos (by omega), if_pos (by omega)]; exact ⟨rfl, hR1, hQ1⟩)
          | (rw [if_neg (by omega), if_pos (by omega), if_pos (by omega)]; exact ⟨rfl, hR1, hQ1⟩)
          | (rw [if_neg (by omega), if_neg (by omega), if_pos (by omega)]; exact ⟨rfl, hR1, hQ1⟩)
          | (rw [if_neg (by omega), if_neg (by omega), if_neg (by omega)]; exact ⟨rfl, hR1, hQ1⟩)
        · skip
          rw [hR.tok] at c_55
          refine AW_aload_n dX7_comparison_58 rfl ?_
          refine AW_callV0 (d' := d - 1) dX7_comparison_59 (Or.inl lkX7_64) mfX7_step (hS.cel rfl) ⟨_, rfl, rfl⟩ (k_step hS hN hNn hR hi (by omega) (by omega)) (by omega) (Nat.le_of_ble_eq_true rfl) ?_
          rintro _ ρ1 ⟨rfl, hR1, hG1⟩ -
          have hS1 := hG1.sta hS
          have hQ1 : Fq σ ρ1 := hG1
          refine AW_goto (tgt := 70) dX7_comparison_62 (by decide) ?_
          refine AW_iload_n dX7_comparison_70 rfl ?_
          refine AW_iret dX7_comparison_71 rfl ?_
          unfold joint cmpS
          first
          | (exfalso; omega; done)
          | (rw [if_pos (by omega), if_pos (by omega)]; exact ⟨rfl, hR1, hQ1⟩)
          | (rw [if_neg (by omega), if_pos (by omega), if_pos (by omega)]; exact ⟨rfl, hR1, hQ1⟩)
          | (rw [if_neg (by omega), if_neg (by omega), if_pos (by omega)]; exact ⟨rfl, hR1, hQ1⟩)
          | (rw [if_neg (by omega), if_neg (by omega), if_neg (by omega)]; exact ⟨rfl, hR1, hQ1⟩)
theorem eitherL_s (K : Nat → Int) (cl : PS → PS) (f : Nat) (w : Bool) (s : PS) : eitherL K cl (f + 1) w s = (if kd K s = 260 then eitherL K cl f w (putS (-15) (cl (stepS s)))
    else if kd K s = 259 then eitherL K cl f true (cl (stepS (if w then putS (-16) s else s)))
    else (if w then putS (-16) s else s)) := rfl
theorem l_ei {G : Gt} {d : Nat} {σ : St} {B : Nat → Int} {n N : Nat} (hN : Fn (tK B n) N) (hNn : N ≤ 400) {op : Int} {cl : PS → PS} (hd : 3 ≤ d) (hS0 : Sta σ) (hcl : ∀ (σ : St) (s : PS), Sta σ → Rd B n N σ s → Inv N 0 s → AM mX7_readClaim G (d - 1) 0 0 [vR 34, vI op] σ (fun ro ρ => ro = none ∧ Rd B n N ρ (cl s) ∧ Fq σ ρ)) (hcI : ∀ p s, Inv N p s → Inv N p (cl s)) : ∀ (nn : Nat) (i f : Nat) (w : Bool) (s : PS) (τ : St), f < nn → i + f = 400 → Rd B n N τ s → Inv N (0 + (if w then 1 else 0)) s → Fq σ τ →  AW mX7_readEither G d 0 0 (mq G (fun ro ρ => ro = none ∧ Rd B n N ρ (eitherL (tK B n) cl f w s) ∧ Fq σ ρ)) 9 [some (vR 34), some (vI op), some (vI (if w = true then 1 else 0)), some (vI (i : Int))] [] τ := by
  intro nn
  induction nn with
  | zero => intros; omega
  | succ nn ih =>
    intro i f w s τ hn hf hR hI hF
    have hS := hF.sta hS0
    cases f with
    | zero =>
      refine AW_iload_n dX7_readEither_9 rfl ?_
      refine AW_sipush dX7_readEither_10 ?_
      refine AW_icmp_ge (tgt := 88) dX7_readEither_13 (by decide) (fun _ => ?_) (fun c => absurd c (by omega))
      refine AW_vret dX7_readEither_88 rfl ?_
      exact ⟨rfl, hR, hF⟩
    | succ f =>
    rw [eitherL_s]
    refine AW_iload_n dX7_readEither_9 rfl ?_
    refine AW_sipush dX7_readEither_10 ?_
    refine AW_icmp_ge (tgt := 88) dX7_readEither_13 (by decide) (fun c_13 => ?_) (fun c_13 => ?_)
    · skip
      exact absurd c_13 (by omega)
    · skip
      refine AW_aload_n dX7_readEither_16 rfl ?_
      refine AW_getI dX7_readEither_17 gfX7_47 (hS.cel rfl) ?_
      refine AW_sipush dX7_readEither_20 ?_
      refine AW_icmp_ne (tgt := 47) dX7_readEither_23 (by decide) (fun c_23 => ?_) (fun c_23 => ?_)
      · skip
        rw [hR.tok] at c_23
        refine AW_iload_n dX7_readEither_47 rfl ?_
        refine AW_if_eq (tgt := 60) dX7_readEither_48 (by decide) (fun c_48 => ?_) (fun c_48 => ?_)
        · skip
          replace c_48 := bz0 c_48
          have hRw : Rd B n N τ (if w then putS (-16) s else s) := by rw [if_neg c_48]; exact hR
          have hSw := hS
          have hQw := hF
          refine AW_aload_n dX7_readEither_60 rfl ?_
          refine AW_getI dX7_readEither_61 gfX7_47 (hSw.cel rfl) ?_
          refine AW_sipush dX7_readEither_64 ?_
          refine AW_icmp_eq (tgt := 71) dX7_readEither_67 (by decide) (fun c_67 => ?_) (fun c_67 => ?_)
          · skip
            rw [hRw.tok, kd_bput] at c_67
            refine AW_iconst dX7_readEither_71 ?_
            refine AW_istore2 dX7_readEither_72 ?_
            refine AW_aload_n dX7_readEither_73 rfl ?_
            refine AW_callV0 (d' := d - 1) dX7_readEither_74 (Or.inl lkX7_64) mfX7_step (hSw.cel rfl) ⟨_, rfl, rfl⟩ (k_step hSw hN hNn hRw (Inv.bput hI).1 (by rw [kd_bput]; omega) (by rw [kd_bput]; omega)) (by omega) (Nat.le_of_ble_eq_true rfl) ?_
            rintro _ ρ1 ⟨rfl, hR1, hG1⟩ -
            have hS1 := hG1.sta hSw
            have hI1 := (Inv.bput hI).step hN (by rw [kd_bput]; omega) (by rw [kd_bput]; omega)
            refine AW_aload_n dX7_readEither_77 rfl ?_
            refine AW_iload_n dX7_readEither_78 rfl ?_
            refine AW_callV1 (d' := d - 1) dX7_readEither_79 (Or.inl lkX7_79) mfX7_readClaim (hS1.cel rfl) ⟨_, rfl, rfl⟩ (hcl _ _ hS1 hR1 (hI1.mono (by omega))) (by omega) (Nat.le_of_ble_eq_true rfl) ?_
            rintro _ ρ2 ⟨rfl, hR2, hG2⟩ -
            have hS2 := hG2.sta hS1
            have hI2 := hcI _ _ hI1
            have hQ2 : Fq σ ρ2 := (hQw.tr hG1).tr hG2
            refine AW_iincE3 dX7_readEither_82 (by omega) (by omega) ?_
            refine AW_goto (tgt := 9) dX7_readEither_85 (by decide) ?_
            rw [show (i : Int) + 1 = ((i + 1 : Nat) : Int) by omega]
            first
            | (rw [if_pos c_23]
               exact ih (i + 1) f w _ ρ3 (by omega) (by omega) hR3 hI3 hQ3)
            | (rw [if_neg c_23, if_pos c_67]
               exact ih (i + 1) f true _ ρ2 (by omega) (by omega) hR2 hI2 hQ2)
          · skip
            rw [hRw.tok, kd_bput] at c_67
            refine AW_vret dX7_readEither_70 rfl ?_
            rw [if_neg c_23, if_neg c_67]
            exact ⟨rfl, hRw, hQw⟩
        · skip
          replace c_48 := bz1 c_48
          refine AW_aload_n dX7_readEither_51 rfl ?_
          refine AW_getR (a := 35) dX7_readEither_52 gfX7_12 (hS.cel rfl) (hS.rf rfl) ?_
          refine AW_bipush dX7_readEither_55 ?_
          refine AW_callV1 (d' := d - 1) dX7_readEither_57 (Or.inl lkX7_82) mfX10_put (hS.cel rfl) ⟨_, rfl, rfl⟩ (k_wput hS hN hNn hR (fun h0 => Inv.lt (p := 0) (by rw [if_pos c_48] at hI; exact hI) hNn h0) _) (by omega) (Nat.le_of_ble_eq_true rfl) ?_
          rintro _ ρw ⟨rfl, hRw0, hGw⟩ -
          have hSw := hGw.sta hS
          have hQw := hF.tr hGw
          have hRw : Rd B n N ρw (if w then putS (-16) s else s) := by rw [if_pos c_48]; exact hRw0
          refine AW_aload_n dX7_readEither_60 rfl ?_
          refine AW_getI dX7_readEither_61 gfX7_47 (hSw.cel rfl) ?_
          refine AW_sipush dX7_readEither_64 ?_
          refine AW_icmp_eq (tgt := 71) dX7_readEither_67 (by decide) (fun c_67 => ?_) (fun c_67 => ?_)
          · skip
            rw [hRw.tok, kd_bput] at c_67
            refine AW_iconst dX7_readEither_71 ?_
            refine AW_istore2 dX7_readEither_72 ?_
            refine AW_aload_n dX7_readEither_73 rfl ?_
            refine AW_callV0 (d' := d - 1) dX7_readEither_74 (Or.inl lkX7_64) mfX7_step (hSw.cel rfl) ⟨_, rfl, rfl⟩ (k_step hSw hN hNn hRw (Inv.bput hI).1 (by rw [kd_bput]; omega) (by rw [kd_bput]; omega)) (by omega) (Nat.le_of_ble_eq_true rfl) ?_
            rintro _ ρ1 ⟨rfl, hR1, hG1⟩ -
            have hS1 := hG1.sta hSw
            have hI1 := (Inv.bput hI).step hN (by rw [kd_bput]; omega) (by rw [kd_bput]; omega)
            refine AW_aload_n dX7_readEither_77 rfl ?_
            refine AW_iload_n dX7_readEither_78 rfl ?_
            refine AW_callV1 (d' := d - 1) dX7_readEither_79 (Or.inl lkX7_79) mfX7_readClaim (hS1.cel rfl) ⟨_, rfl, rfl⟩ (hcl _ _ hS1 hR1 (hI1.mono (by omega))) (by omega) (Nat.le_of_ble_eq_true rfl) ?_
            rintro _ ρ2 ⟨rfl, hR2, hG2⟩ -
            have hS2 := hG2.sta hS1
            have hI2 := hcI _ _ hI1
            have hQ2 : Fq σ ρ2 := (hQw.tr hG1).tr hG2
            refine AW_iincE3 dX7_readEither_82 (by omega) (by omega) ?_
            refine AW_goto (tgt := 9) dX7_readEither_85 (by decide) ?_
            rw [show (i : Int) + 1 = ((i + 1 : Nat) : Int) by omega]
            first
            | (rw [if_pos c_23]
               exact ih (i + 1) f w _ ρ3 (by omega) (by omega) hR3 hI3 hQ3)
            | (rw [if_neg c_23, if_pos c_67]
               exact ih (i + 1) f true _ ρ2 (by omega) (by omega) hR2 hI2 hQ2)
          · skip
            rw [hRw.tok, kd_bput] at c_67
            refine AW_vret dX7_readEither_70 rfl ?_
            rw [if_neg c_23, if_neg c_67]
            exact ⟨rfl, hRw, hQw⟩
      · skip
        rw [hR.tok] at c_23
        refine AW_aload_n dX7_readEither_26 rfl ?_
        refine AW_callV0 (d' := d - 1) dX7_readEither_27 (Or.inl lkX7_64) mfX7_step (hS.cel rfl) ⟨_, rfl, rfl⟩ (k_step hS hN hNn hR hI.1 (by omega) (by omega)) (by omega) (Nat.le_of_ble_eq_true rfl) ?_
        rintro _ ρ1 ⟨rfl, hR1, hG1⟩ -
        have hS1 := hG1.sta hS
        have hI1 := hI.step hN (by omega) (by omega)
        refine AW_aload_n dX7_readEither_30 rfl ?_
        refine AW_iload_n dX7_readEither_31 rfl ?_
        refine AW_callV1 (d' := d - 1) dX7_readEither_32 (Or.inl lkX7_79) mfX7_readClaim (hS1.cel rfl) ⟨_, rfl, rfl⟩ (hcl _ _ hS1 hR1 (hI1.mono (by omega))) (by omega) (Nat.le_of_ble_eq_true rfl) ?_
        rintro _ ρ2 ⟨rfl, hR2, hG2⟩ -
        have hS2 := hG2.sta hS1
        have hI2 := hcI _ _ hI1
        refine AW_aload_n dX7_readEither_35 rfl ?_
        refine AW_getR (a := 35) dX7_readEither_36 gfX7_12 (hS2.cel rfl) (hS2.rf rfl) ?_
        refine AW_bipush dX7_readEither_39 ?_
        refine AW_callV1 (d' := d - 1) dX7_readEither_41 (Or.inl lkX7_82) mfX10_put (hS2.cel rfl) ⟨_, rfl, rfl⟩ (k_wput hS2 hN hNn hR2 (fun h0 => hI2.lt hNn h0) _) (by omega) (Nat.le_of_ble_eq_true rfl) ?_
        rintro _ ρ3 ⟨rfl, hR3, hG3⟩ -
        have hQ3 : Fq σ ρ3 := ((hF.tr hG1).tr hG2).tr hG3
        have hI3 := hI2.put (-15)
        refine AW_goto (tgt := 82) dX7_readEither_44 (by decide) ?_
        refine AW_iincE3 dX7_readEither_82 (by omega) (by omega) ?_
        refine AW_goto (tgt := 9) dX7_readEither_85 (by decide) ?_
        rw [show (i : Int) + 1 = ((i + 1 : Nat) : Int) by omega]
        first
        | (rw [if_pos c_23]
           exact ih (i + 1) f w _ ρ3 (by omega) (by omega) hR3 hI3 hQ3)
        | (rw [if_neg c_23, if_pos c_67]
           exact ih (i + 1) f true _ ρ2 (by omega) (by omega) hR2 hI2 hQ2)
theorem k_either {G : Gt} {d : Nat} {σ : St} (hd : 3 ≤ d) {B : Nat → Int} {n N : Nat} {s : PS} (hS : Sta σ) (hN : Fn (tK B n) N) (hNn : N ≤ 400) (hR : Rd B n N σ s) {F : Nat} (hF : F = 400) (hI : Inv N 0 s) {cl : PS → PS} (op : Int) (hcl : ∀ (σ : St) (s : PS), Sta σ → Rd B n N σ s → Inv N 0 s → AM mX7_readClaim G (d - 1) 0 0 [vR 34, vI op] σ (fun ro ρ => ro = none ∧ Rd B n N ρ (cl s) ∧ Fq σ ρ)) (hcI : ∀ p s, Inv N p s → Inv N p (cl s)) : AM mX7_readEither G d 0 0 [vR 34, vI op] σ (fun ro ρ => ro = none ∧ Rd B n N ρ (eitherS F (tK B n) cl s) ∧ Fq σ ρ) := by
  refine AM.intro (by decide +kernel) (by simp [nLg]) (Nat.le_of_ble_eq_true rfl) (fun hO => ?_)
  have i_op : -2147483648 ≤ op ∧ op < 2147483648 := hO (vI op) (by simp)
  show AW _ _ _ _ _ _ 0 [some (vR 34), some (vI op), none, none] [] σ
  refine AW_iconst dX7_readEither_0 ?_
  refine AW_istore2 dX7_readEither_1 ?_
  refine AW_aload_n dX7_readEither_2 rfl ?_
  refine AW_iload_n dX7_readEither_3 rfl ?_
  refine AW_callV1 (d' := d - 1) dX7_readEither_4 (Or.inl lkX7_79) mfX7_readClaim (hS.cel rfl) ⟨_, rfl, rfl⟩ (hcl _ _ hS hR hI) (by omega) (Nat.le_of_ble_eq_true rfl) ?_
  rintro _ ρ1 ⟨rfl, hR1, hG1⟩ -
  have hS1 := hG1.sta hS
  have hQ1 : Fq σ ρ1 := hG1
  refine AW_iconst dX7_readEither_7 ?_
  refine AW_istore3 dX7_readEither_8 ?_
  exact l_ei hN hNn hd hS hcl hcI (F + 1) 0 F false _ ρ1 (by omega) (by omega) hR1 (hcI _ _ hI) hQ1
theorem claimS_0 (F : Nat) (K V : Nat → Int) (s : PS) : claimS F K V 0 s = (if kd K s = 261 ∨ kd K s = 40 then blameS 3 s else comS F K V s) := rfl
theorem claimS_s (F : Nat) (K V : Nat → Int) (d : Nat) (s : PS) : claimS F K V (d + 1) s = (if kd K s = 261 then putS (-17) (claimS F K V d (stepS s)) else if kd K s = 40 then closeS K (eitherS F K (claimS F K V d) (stepS s)) else comS F K V s) := rfl
theorem cmp_inv {F : Nat} {K : Nat → Int} {N p : Nat} {s : PS} (V : Nat → Int) (hN : Fn K N) (h : Inv N p s) : Inv N (p + 1) (cmpS K (sumS F K V s)) := by
  have h1 := h.sum (F := F) V hN
  unfold cmpS
  split
  · exact h1.step hN (by omega) (by omega)
  · refine ⟨(h1.blame (k := 1) (by decide)).1, fun q => absurd q ?_⟩
    unfold blameS
    split
    · exact (by decide : ¬ (1 : Int) = 0)
    · assumption
theorem k_claim {G : Gt} {B : Nat → Int} {n N F : Nat} (hN : Fn (tK B n) N) (hNn : N ≤ 400) (hF : F = 400) : ∀ (dd : Nat) (d : Nat) (op : Int) (σ : St) (s : PS), 4 * dd + 4 ≤ d → op = 8 - (dd : Int) → dd ≤ 8 → Sta σ → Rd B n N σ s → Inv N 0 s → AM mX7_readClaim G d 0 0 [vR 34, vI op] σ (fun ro ρ => ro = none ∧ Rd B n N ρ (claimS F (tK B n) (tV B n) dd s) ∧ Fq σ ρ) := by
  intro dd
  induction dd with
  | zero =>
    intro d op σ s h1 h2 h3 hS hR hI
    refine AM.intro (by decide +kernel) (by simp [nLg]) (Nat.le_of_ble_eq_true rfl) (fun hO => ?_)
    show AW _ _ _ _ _ _ 0 [some (vR 34), some (vI op), none, none] [] σ
    rw [claimS_0]
    refine AW_aload_n dX7_readClaim_0 rfl ?_
    refine AW_getI dX7_readClaim_1 gfX7_47 (hS.cel rfl) ?_
    refine AW_sipush dX7_readClaim_4 ?_
    refine AW_icmp_ne (tgt := 14) dX7_readClaim_7 (by decide) (fun c_7 => ?_) (fun c_7 => ?_)
    · skip
      rw [hR.tok] at c_7
      refine AW_iconst dX7_readClaim_14 ?_
      refine AW_istore2 dX7_readClaim_15 ?_
      refine AW_iload_n dX7_readClaim_16 rfl ?_
      refine AW_if_ne (tgt := 51) dX7_readClaim_17 (by decide) (fun c_17 => absurd c_17 (by decide)) (fun _ => ?_)
      refine AW_aload_n dX7_readClaim_20 rfl ?_
      refine AW_getI dX7_readClaim_21 gfX7_47 (hS.cel rfl) ?_
      refine AW_bipush dX7_readClaim_24 ?_
      refine AW_icmp_eq (tgt := 51) dX7_readClaim_26 (by decide) (fun c_26 => ?_) (fun c_26 => ?_)
      · skip
        rw [hR.tok] at c_26
        refine AW_iload_n dX7_readClaim_51 rfl ?_
        refine AW_bipush dX7_readClaim_52 ?_
        refine AW_icmp_lt (tgt := 63) dX7_readClaim_54 (by decide) (fun c_54 => ?_) (fun c_54 => ?_)
        · skip
          exact absurd c_54 (by omega)
        · skip
          refine AW_aload_n dX7_readClaim_57 rfl ?_
          refine AW_iconst dX7_readClaim_58 ?_
          refine AW_callV1 (d' := d - 1) dX7_readClaim_59 (Or.inl lkX7_53) mfX7_blame (hS.cel rfl) ⟨_, rfl, rfl⟩ (k_blame hS hN hNn hR hI.1 3 (by decide)) (by omega) (Nat.le_of_ble_eq_true rfl) ?_
          rintro _ ρ1 ⟨rfl, hR1, hG1⟩ -
          have hS1 := hG1.sta hS
          have hQ1 : Fq σ ρ1 := hG1
          refine AW_vret dX7_readClaim_62 rfl ?_
          rw [if_pos (by omega)]
          exact ⟨rfl, hR1, hQ1⟩
      · skip
        rw [hR.tok] at c_26
        refine AW_aload_n dX7_readClaim_29 rfl ?_
        refine AW_callV0 (d' := d - 1) dX7_readClaim_30 (Or.inl lkX7_67) mfX7_readSum (hS.cel rfl) ⟨_, rfl, rfl⟩ (k_sum (by omega) hS hN hNn hR hF hI) (by omega) (Nat.le_of_ble_eq_true rfl) ?_
        rintro _ ρ1 ⟨rfl, hR1, hG1⟩ -
        have hS1 := hG1.sta hS
        have hQ1 : Fq σ ρ1 := hG1
        have hI1 := hI.sum (F := F) (tV B n) hN
        refine AW_aload_n dX7_readClaim_33 rfl ?_
        refine AW_callV0 (d' := d - 1) dX7_readClaim_34 (Or.inl lkX7_85) mfX7_comparison (hS1.cel rfl) ⟨_, rfl, rfl⟩ (k_cmp (by omega) hS1 hN hNn hR1 hI1.1) (by omega) (Nat.le_of_ble_eq_true rfl) ?_
        rintro _ ρ2 ⟨rfl, hR2, hG2⟩ -
        have hS2 := hG2.sta hS1
        have hQ2 : Fq σ ρ2 := hQ1.tr hG2
        have hI2 := cmp_inv (F := F) (tV B n) hN hI
        refine AW_istore3 dX7_readClaim_37 ?_
        refine AW_aload_n dX7_readClaim_38 rfl ?_
        refine AW_callV0 (d' := d - 1) dX7_readClaim_39 (Or.inl lkX7_67) mfX7_readSum (hS2.cel rfl) ⟨_, rfl, rfl⟩ (k_sum (by omega) hS2 hN hNn hR2 hF (hI2.mono (by omega))) (by omega) (Nat.le_of_ble_eq_true rfl) ?_
        rintro _ ρ3 ⟨rfl, hR3, hG3⟩ -
        have hS3 := hG3.sta hS2
        have hQ3 : Fq σ ρ3 := hQ2.tr hG3
        have hI3 := hI2.sum (F := F) (tV B n) hN
        refine AW_aload_n dX7_readClaim_42 rfl ?_
        refine AW_getR (a := 35) dX7_readClaim_43 gfX7_12 (hS3.cel rfl) (hS3.rf rfl) ?_
        refine AW_iload_n dX7_readClaim_46 rfl ?_
        refine AW_callV1 (d' := d - 1) dX7_readClaim_47 (Or.inl lkX7_82) mfX10_put (hS3.cel rfl) ⟨_, rfl, rfl⟩ (k_wput hS3 hN hNn hR3 (fun h0 => hI3.lt hNn h0) _) (by omega) (Nat.le_of_ble_eq_true rfl) ?_
        rintro _ ρ4 ⟨rfl, hR4, hG4⟩ -
        have hS4 := hG4.sta hS3
        have hQ4 : Fq σ ρ4 := hQ3.tr hG4
        refine AW_vret dX7_readClaim_50 rfl ?_
        rw [if_neg (by omega)]
        exact ⟨rfl, hR4, hQ4⟩
    · skip
      rw [hR.tok] at c_7
      refine AW_iconst dX7_readClaim_10 ?_
      refine AW_goto (tgt := 15) dX7_readClaim_11 (by decide) ?_
      refine AW_istore2 dX7_readClaim_15 ?_
      refine AW_iload_n dX7_readClaim_16 rfl ?_
      refine AW_if_ne (tgt := 51) dX7_readClaim_17 (by decide) (fun _ => ?_) (fun c_17 => absurd c_17 (by decide))
      refine AW_iload_n dX7_readClaim_51 rfl ?_
      refine AW_bipush dX7_readClaim_52 ?_
      refine AW_icmp_lt (tgt := 63) dX7_readClaim_54 (by decide) (fun c_54 => ?_) (fun c_54 => ?_)
      · skip
        exact absurd c_54 (by omega)
      · skip
        refine AW_aload_n dX7_readClaim_57 rfl ?_
        refine AW_iconst dX7_readClaim_58 ?_
        refine AW_callV1 (d' := d - 1) dX7_readClaim_59 (Or.inl lkX7_53) mfX7_blame (hS.cel rfl) ⟨_, rfl, rfl⟩ (k_blame hS hN hNn hR hI.1 3 (by decide)) (by omega) (Nat.le_of_ble_eq_true rfl) ?_
        rintro _ ρ1 ⟨rfl, hR1, hG1⟩ -
        have hS1 := hG1.sta hS
        have hQ1 : Fq σ ρ1 := hG1
        refine AW_vret dX7_readClaim_62 rfl ?_
        rw [if_pos (by omega)]
        exact ⟨rfl, hR1, hQ1⟩
  | succ dd ih0 =>
    intro d op σ s h1 h2 h3 hS hR hI
    refine AM.intro (by decide +kernel) (by simp [nLg]) (Nat.le_of_ble_eq_true rfl) (fun hO => ?_)
    show AW _ _ _ _ _ _ 0 [some (vR 34), some (vI op), none, none] [] σ
    rw [claimS_s]
    refine AW_aload_n dX7_readClaim_0 rfl ?_
    refine AW_getI dX7_readClaim_1 gfX7_47 (hS.cel rfl) ?_
    refine AW_sipush dX7_readClaim_4 ?_
    refine AW_icmp_ne (tgt := 14) dX7_readClaim_7 (by decide) (fun c_7 => ?_) (fun c_7 => ?_)
    · skip
      rw [hR.tok] at c_7
      refine AW_iconst dX7_readClaim_14 ?_
      refine AW_istore2 dX7_readClaim_15 ?_
      refine AW_iload_n dX7_readClaim_16 rfl ?_
      refine AW_if_ne (tgt := 51) dX7_readClaim_17 (by decide) (fun c_17 => absurd c_17 (by decide)) (fun _ => ?_)
      refine AW_aload_n dX7_readClaim_20 rfl ?_
      refine AW_getI dX7_readClaim_21 gfX7_47 (hS.cel rfl) ?_
      refine AW_bipush dX7_readClaim_24 ?_
      refine AW_icmp_eq (tgt := 51) dX7_readClaim_26 (by decide) (fun c_26 => ?_) (fun c_26 => ?_)
      · skip
        rw [hR.tok] at c_26
        refine AW_iload_n dX7_readClaim_51 rfl ?_
        refine AW_bipush dX7_readClaim_52 ?_
        refine AW_icmp_lt (tgt := 63) dX7_readClaim_54 (by decide) (fun c_54 => ?_) (fun c_54 => ?_)
        · skip
          refine AW_aload_n dX7_readClaim_63 rfl ?_
          refine AW_callV0 (d' := d - 1) dX7_readClaim_64 (Or.inl lkX7_64) mfX7_step (hS.cel rfl) ⟨_, rfl, rfl⟩ (k_step hS hN hNn hR hI.1 (by omega) (by omega)) (by omega) (Nat.le_of_ble_eq_true rfl) ?_
          rintro _ ρ1 ⟨rfl, hR1, hG1⟩ -
          have hS1 := hG1.sta hS
          have hQ1 : Fq σ ρ1 := hG1
          have hI1 := hI.step hN (by omega) (by omega)
          refine AW_iload_n dX7_readClaim_67 rfl ?_
          refine AW_if_eq (tgt := 88) dX7_readClaim_68 (by decide) (fun _ => ?_) (fun c_68 => absurd c_68 (by decide))
          refine AW_aload_n dX7_readClaim_88 rfl ?_
          refine AW_iload_n dX7_readClaim_89 rfl ?_
          refine AW_iconst dX7_readClaim_90 ?_
          refine AW_iaddE dX7_readClaim_91 (by omega) (by omega) ?_
          refine AW_callV1 (d' := d - 1) dX7_readClaim_92 (Or.inl lkX7_73) mfX7_readEither (hS1.cel rfl) ⟨_, rfl, rfl⟩ (k_either (by omega) hS1 hN hNn hR1 hF (hI1.mono (by omega)) _ (fun σ2 s2 q1 q2 q3 => ih0 _ _ σ2 s2 (by omega) (by omega) (by omega) q1 q2 q3) (Inv.claim (F := F) (tV B n) hN dd)) (by omega) (Nat.le_of_ble_eq_true rfl) ?_
          rintro _ ρ2 ⟨rfl, hR2, hG2⟩ -
          have hS2 := hG2.sta hS1
          have hQ2 : Fq σ ρ2 := hQ1.tr hG2
          have hI2 := Inv.either (F := F) hN (Inv.claim (F := F) (tV B n) hN dd) hI1
          refine AW_aload_n dX7_readClaim_95 rfl ?_
          refine AW_getI dX7_readClaim_96 gfX7_47 (hS2.cel rfl) ?_
          refine AW_bipush dX7_readClaim_99 ?_
          refine AW_icmp_ne (tgt := 111) dX7_readClaim_101 (by decide) (fun c_101 => ?_) (fun c_101 => ?_)
          · skip
            rw [hR2.tok] at c_101
            refine AW_aload_n dX7_readClaim_111 rfl ?_
            refine AW_iconst dX7_readClaim_112 ?_
            refine AW_callV1 (d' := d - 1) dX7_readClaim_113 (Or.inl lkX7_53) mfX7_blame (hS2.cel rfl) ⟨_, rfl, rfl⟩ (k_blame hS2 hN hNn hR2 hI2.1 1 (by decide)) (by omega) (Nat.le_of_ble_eq_true rfl) ?_
            rintro _ ρ3 ⟨rfl, hR3, hG3⟩ -
            have hS3 := hG3.sta hS2
            have hQ3 : Fq σ ρ3 := hQ2.tr hG3
            refine AW_vret dX7_readClaim_116 rfl ?_
            rw [if_neg (by omega), if_pos (by omega)]
            unfold closeS
            first | (rw [if_pos c_101]; exact ⟨rfl, hR3, hQ3⟩) | (rw [if_neg c_101]; exact ⟨rfl, hR3, hQ3⟩)
          · skip
            rw [hR2.tok] at c_101
            refine AW_aload_n dX7_readClaim_104 rfl ?_
            refine AW_callV0 (d' := d - 1) dX7_readClaim_105 (Or.inl lkX7_64) mfX7_step (hS2.cel rfl) ⟨_, rfl, rfl⟩ (k_step hS2 hN hNn hR2 hI2.1 (by omega) (by omega)) (by omega) (Nat.le_of_ble_eq_true rfl) ?_
            rintro _ ρ3 ⟨rfl, hR3, hG3⟩ -
            have hS3 := hG3.sta hS2
            have hQ3 : Fq σ ρ3 := hQ2.tr hG3
            refine AW_goto (tgt := 116) dX7_readClaim_108 (by decide) ?_
            refine AW_vret dX7_readClaim_116 rfl ?_
            rw [if_neg (by omega), if_pos (by omega)]
            unfold closeS
            first | (rw [if_pos c_101]; exact ⟨rfl, hR3, hQ3⟩) | (rw [if_neg c_101]; exact ⟨rfl, hR3, hQ3⟩)
        · skip
          exact absurd c_54 (by omega)
      · skip
        rw [hR.tok] at c_26
        refine AW_aload_n dX7_readClaim_29 rfl ?_
        refine AW_callV0 (d' := d - 1) dX7_readClaim_30 (Or.inl lkX7_67) mfX7_readSum (hS.cel rfl) ⟨_, rfl, rfl⟩ (k_sum (by omega) hS hN hNn hR hF hI) (by omega) (Nat.le_of_ble_eq_true rfl) ?_
        rintro _ ρ1 ⟨rfl, hR1, hG1⟩ -
        have hS1 := hG1.sta hS
        have hQ1 : Fq σ ρ1 := hG1
        have hI1 := hI.sum (F := F) (tV B n) hN
        refine AW_aload_n dX7_readClaim_33 rfl ?_
        refine AW_callV0 (d' := d - 1) dX7_readClaim_34 (Or.inl lkX7_85) mfX7_comparison (hS1.cel rfl) ⟨_, rfl, rfl⟩ (k_cmp (by omega) hS1 hN hNn hR1 hI1.1) (by omega) (Nat.le_of_ble_eq_true rfl) ?_
        rintro _ ρ2 ⟨rfl, hR2, hG2⟩ -
        have hS2 := hG2.sta hS1
        have hQ2 : Fq σ ρ2 := hQ1.tr hG2
        have hI2 := cmp_inv (F := F) (tV B n) hN hI
        refine AW_istore3 dX7_readClaim_37 ?_
        refine AW_aload_n dX7_readClaim_38 rfl ?_
        refine AW_callV0 (d' := d - 1) dX7_readClaim_39 (Or.inl lkX7_67) mfX7_readSum (hS2.cel rfl) ⟨_, rfl, rfl⟩ (k_sum (by omega) hS2 hN hNn hR2 hF (hI2.mono (by omega))) (by omega) (Nat.le_of_ble_eq_true rfl) ?_
        rintro _ ρ3 ⟨rfl, hR3, hG3⟩ -
        have hS3 := hG3.sta hS2
        have hQ3 : Fq σ ρ3 := hQ2.tr hG3
        have hI3 := hI2.sum (F := F) (tV B n) hN
        refine AW_aload_n dX7_readClaim_42 rfl ?_
        refine AW_getR (a := 35) dX7_readClaim_43 gfX7_12 (hS3.cel rfl) (hS3.rf rfl) ?_
        refine AW_iload_n dX7_readClaim_46 rfl ?_
        refine AW_callV1 (d' := d - 1) dX7_readClaim_47 (Or.inl lkX7_82) mfX10_put (hS3.cel rfl) ⟨_, rfl, rfl⟩ (k_wput hS3 hN hNn hR3 (fun h0 => hI3.lt hNn h0) _) (by omega) (Nat.le_of_ble_eq_true rfl) ?_
        rintro _ ρ4 ⟨rfl, hR4, hG4⟩ -
        have hS4 := hG4.sta hS3
        have hQ4 : Fq σ ρ4 := hQ3.tr hG4
        refine AW_vret dX7_readClaim_50 rfl ?_
        rw [if_neg (by omega), if_neg (by omega)]
        exact ⟨rfl, hR4, hQ4⟩
    · skip
      rw [hR.tok] at c_7
      refine AW_iconst dX7_readClaim_10 ?_
      refine AW_goto (tgt := 15) dX7_readClaim_11 (by decide) ?_
      refine AW_istore2 dX7_readClaim_15 ?_
      refine AW_iload_n dX7_readClaim_16 rfl ?_
      refine AW_if_ne (tgt := 51) dX7_readClaim_17 (by decide) (fun _ => ?_) (fun c_17 => absurd c_17 (by decide))
      refine AW_iload_n dX7_readClaim_51 rfl ?_
      refine AW_bipush dX7_readClaim_52 ?_
      refine AW_icmp_lt (tgt := 63) dX7_readClaim_54 (by decide) (fun c_54 => ?_) (fun c_54 => ?_)
      · skip
        refine AW_aload_n dX7_readClaim_63 rfl ?_
        refine AW_callV0 (d' := d - 1) dX7_readClaim_64 (Or.inl lkX7_64) mfX7_step (hS.cel rfl) ⟨_, rfl, rfl⟩ (k_step hS hN hNn hR hI.1 (by omega) (by omega)) (by omega) (Nat.le_of_ble_eq_true rfl) ?_
        rintro _ ρ1 ⟨rfl, hR1, hG1⟩ -
        have hS1 := hG1.sta hS
        have hQ1 : Fq σ ρ1 := hG1
        have hI1 := hI.step hN (by omega) (by omega)
        refine AW_iload_n dX7_readClaim_67 rfl ?_
        refine AW_if_eq (tgt := 88) dX7_readClaim_68 (by decide) (fun c_68 => absurd c_68 (by decide)) (fun _ => ?_)
        refine AW_aload_n dX7_readClaim_71 rfl ?_
        refine AW_iload_n dX7_readClaim_72 rfl ?_
        refine AW_iconst dX7_readClaim_73 ?_
        refine AW_iaddE dX7_readClaim_74 (by omega) (by omega) ?_
        refine AW_callV1 (d' := d - 1) dX7_readClaim_75 (Or.inl lkX7_79) mfX7_readClaim (hS1.cel rfl) ⟨_, rfl, rfl⟩ (ih0 _ _ ρ1 _ (by omega) (by omega) (by omega) hS1 hR1 (hI1.mono (by omega))) (by omega) (Nat.le_of_ble_eq_true rfl) ?_
        rintro _ ρ2 ⟨rfl, hR2, hG2⟩ -
        have hS2 := hG2.sta hS1
        have hQ2 : Fq σ ρ2 := hQ1.tr hG2
        have hI2 := Inv.claim (F := F) (tV B n) hN dd _ _ hI1
        refine AW_aload_n dX7_readClaim_78 rfl ?_
        refine AW_getR (a := 35) dX7_readClaim_79 gfX7_12 (hS2.cel rfl) (hS2.rf rfl) ?_
        refine AW_bipush dX7_readClaim_82 ?_
        refine AW_callV1 (d' := d - 1) dX7_readClaim_84 (Or.inl lkX7_82) mfX10_put (hS2.cel rfl) ⟨_, rfl, rfl⟩ (k_wput hS2 hN hNn hR2 (fun h0 => hI2.lt hNn h0) _) (by omega) (Nat.le_of_ble_eq_true rfl) ?_
        rintro _ ρ3 ⟨rfl, hR3, hG3⟩ -
        have hS3 := hG3.sta hS2
        have hQ3 : Fq σ ρ3 := hQ2.tr hG3
        refine AW_vret dX7_readClaim_87 rfl ?_
        rw [if_pos (by omega)]
        exact ⟨rfl, hR3, hQ3⟩
      · skip
        exact absurd c_54 (by omega)
