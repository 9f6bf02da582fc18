theorem ln_la {G : Gt} {d : Nat} {σ : St} {D : Mk} {Ws : Nat → Wy} {n : Nat} {W : Tw} (hd : 2 ≤ d) (hS0 : Sta σ) (hC0 : CtM D Ws σ) : ∀ (nn : Nat) (m i : Nat) (w : Tw) (x2 : Option AV) (τ : St), m < nn → i + m = n → WFP D n w.1 → TwM n w τ → Fm [58] [116, 118, 120, 122] σ τ → itr (lookS D) m i w = W →  AW mX12_looksAgain G d 0 0 (mq G (fun ro ρ => ro = none ∧ TwM n W ρ ∧ Fm [58] [116, 118, 120, 122] σ ρ)) 2 [some (vR 94), some (vI (i : Int)), x2] [] τ := by
  intro nn
  induction nn with
  | zero => intros; omega
  | succ nn ih =>
    intro m i w x2 τ hn hi hw hT hF hW2
    have hS := hF.sta hS0
    have hC := hC0.fm hF
    have hn40 := hw.1
    have h42 := hT.2.1
    have hW := hC0.2.1
    have h9 : τ.2.1 94 9 = D 4 4 := hC.1.2.2.2.2 4 (by decide)
    refine AW_iload_n dX12_looksAgain_2 rfl ?_
    refine AW_aload_n dX12_looksAgain_3 rfl ?_
    refine AW_getI dX12_looksAgain_4 gfX12_153 (hS.cel rfl) ?_
    refine AW_icmp_ge (tgt := 162) dX12_looksAgain_7 (by decide) (fun c_7 => ?_) (fun c_7 => ?_)
    · skip
      have hm : m = 0 := by omega
      subst hm
      rw [itr_0] at hW2
      subst hW2
      refine AW_vret dX12_looksAgain_162 rfl ?_
      exact ⟨rfl, hT, hF⟩
    · skip
      obtain ⟨m1, rfl⟩ : ∃ m1, m = m1 + 1 := ⟨m - 1, by omega⟩
      rw [itr_s] at hW2
      have i40 : i < 40 := by omega
      have hin : i < n := by omega
      refine AW_aload_n dX12_looksAgain_10 rfl ?_
      refine AW_getR (a := 113) dX12_looksAgain_11 gfX12_80 (hS.cel rfl) (hS.rf rfl) ?_
      refine AW_iload_n dX12_looksAgain_14 rfl ?_
      refine AW_iald dX12_looksAgain_15 (hS.cel rfl) (by omega) (by omega) ?_
      refine AW_if_ne (tgt := 156) dX12_looksAgain_16 (by decide) (fun c_16 => ?_) (fun c_16 => ?_)
      · skip
        rw [Int.toNat_natCast, hT.v0 i40] at c_16
        have hl0 : lookS D w i = w := by unfold lookS; rw [if_neg (fun q => c_16 q.1)]
        rw [hl0] at hW2
        have hT9 := hT
        have hF9 := hF
        refine AW_iincE1 dX12_looksAgain_156 (by omega) (by omega) ?_
        refine AW_goto (tgt := 2) dX12_looksAgain_159 (by decide) ?_
        rw [show (i : Int) + 1 = ((i + 1 : Nat) : Int) by omega]
        first
        | exact ih m1 (i + 1) w _ _ (by omega) (by omega) hw hT9 hF9 hW2
        | exact ih m1 (i + 1) (lkP w.1 i (w.1 3 i).toNat, w.2) _ _ (by omega) (by omega) hwk hT9 hF9 hW2
        | (rw [if_pos hor] at hW2
           have hT6 := hT5.uT 4 58 (wr (w.2.1 4 + 1))
           refine ih m1 (i + 1) (ptP (lkP w.1 i (w.1 3 i).toNat) i (w.1 3 i).toNat, setT w.2.1 4 (wr (w.2.1 4 + 1)), w.2.2) _ _ (by omega) (by omega) ((((hlkw.fre hin).fre ho.1).se hin 9 _).se ho.1 9 _) ?_ ((((((hF.tr hG1).tr (hG2.mo (by decide) (by decide))).tr (hG3.mo (by decide) (by decide))).tr hG4).tr hG5).uf (by decide) _) hW2
           unfold ptP
           rw [lk_f w.1 i (w.1 3 i).toNat 9 i (by decide), lk_f w.1 i (w.1 3 i).toNat 9 (w.1 3 i).toNat (by decide)]
           exact hT6)
      · skip
        rw [Int.toNat_natCast, hT.v0 i40] at c_16
        refine AW_aload_n dX12_looksAgain_19 rfl ?_
        refine AW_getR (a := 116) dX12_looksAgain_20 gfX12_89 (hS.cel rfl) (hS.rf rfl) ?_
        refine AW_iload_n dX12_looksAgain_23 rfl ?_
        refine AW_iald dX12_looksAgain_24 (hS.cel rfl) (by omega) (by omega) ?_
        refine AW_iconst dX12_looksAgain_25 ?_
        refine AW_icmp_eq (tgt := 156) dX12_looksAgain_26 (by decide) (fun c_26 => ?_) (fun c_26 => ?_)
        · skip
          rw [Int.toNat_natCast, hT.v3 i40] at c_26
          have hl0 : lookS D w i = w := by unfold lookS; rw [if_neg (fun q => q.2.1 c_26)]
          rw [hl0] at hW2
          have hT9 := hT
          have hF9 := hF
          refine AW_iincE1 dX12_looksAgain_156 (by omega) (by omega) ?_
          refine AW_goto (tgt := 2) dX12_looksAgain_159 (by decide) ?_
          rw [show (i : Int) + 1 = ((i + 1 : Nat) : Int) by omega]
          first
          | exact ih m1 (i + 1) w _ _ (by omega) (by omega) hw hT9 hF9 hW2
          | exact ih m1 (i + 1) (lkP w.1 i (w.1 3 i).toNat, w.2) _ _ (by omega) (by omega) hwk hT9 hF9 hW2
          | (rw [if_pos hor] at hW2
             have hT6 := hT5.uT 4 58 (wr (w.2.1 4 + 1))
             refine ih m1 (i + 1) (ptP (lkP w.1 i (w.1 3 i).toNat) i (w.1 3 i).toNat, setT w.2.1 4 (wr (w.2.1 4 + 1)), w.2.2) _ _ (by omega) (by omega) ((((hlkw.fre hin).fre ho.1).se hin 9 _).se ho.1 9 _) ?_ ((((((hF.tr hG1).tr (hG2.mo (by decide) (by decide))).tr (hG3.mo (by decide) (by decide))).tr hG4).tr hG5).uf (by decide) _) hW2
             unfold ptP
             rw [lk_f w.1 i (w.1 3 i).toNat 9 i (by decide), lk_f w.1 i (w.1 3 i).toNat 9 (w.1 3 i).toNat (by decide)]
             exact hT6)
        · skip
          rw [Int.toNat_natCast, hT.v3 i40] at c_26
          refine AW_aload_n dX12_looksAgain_29 rfl ?_
          refine AW_getR (a := 120) dX12_looksAgain_30 gfX12_101 (hS.cel rfl) (hS.rf rfl) ?_
          refine AW_iload_n dX12_looksAgain_33 rfl ?_
          refine AW_zald dX12_looksAgain_34 (hS.cel rfl) (by omega) (by omega) ?_
          refine AW_if_ne (tgt := 156) dX12_looksAgain_35 (by decide) (fun c_35 => ?_) (fun c_35 => ?_)
          · skip
            rw [Int.toNat_natCast, hT.v7 i40] at c_35
            have hl0 : lookS D w i = w := by unfold lookS; rw [if_neg (fun q => c_35 q.2.2.1)]
            rw [hl0] at hW2
            have hT9 := hT
            have hF9 := hF
            refine AW_iincE1 dX12_looksAgain_156 (by omega) (by omega) ?_
            refine AW_goto (tgt := 2) dX12_looksAgain_159 (by decide) ?_
            rw [show (i : Int) + 1 = ((i + 1 : Nat) : Int) by omega]
            first
            | exact ih m1 (i + 1) w _ _ (by omega) (by omega) hw hT9 hF9 hW2
            | exact ih m1 (i + 1) (lkP w.1 i (w.1 3 i).toNat, w.2) _ _ (by omega) (by omega) hwk hT9 hF9 hW2
            | (rw [if_pos hor] at hW2
               have hT6 := hT5.uT 4 58 (wr (w.2.1 4 + 1))
               refine ih m1 (i + 1) (ptP (lkP w.1 i (w.1 3 i).toNat) i (w.1 3 i).toNat, setT w.2.1 4 (wr (w.2.1 4 + 1)), w.2.2) _ _ (by omega) (by omega) ((((hlkw.fre hin).fre ho.1).se hin 9 _).se ho.1 9 _) ?_ ((((((hF.tr hG1).tr (hG2.mo (by decide) (by decide))).tr (hG3.mo (by decide) (by decide))).tr hG4).tr hG5).uf (by decide) _) hW2
               unfold ptP
               rw [lk_f w.1 i (w.1 3 i).toNat 9 i (by decide), lk_f w.1 i (w.1 3 i).toNat 9 (w.1 3 i).toNat (by decide)]
               exact hT6)
          · skip
            rw [Int.toNat_natCast, hT.v7 i40] at c_35
            refine AW_aload_n dX12_looksAgain_38 rfl ?_
            refine AW_getR (a := 118) dX12_looksAgain_39 gfX12_95 (hS.cel rfl) (hS.rf rfl) ?_
            refine AW_iload_n dX12_looksAgain_42 rfl ?_
            refine AW_iald dX12_looksAgain_43 (hS.cel rfl) (by omega) (by omega) ?_
            refine AW_aload_n dX12_looksAgain_44 rfl ?_
            refine AW_getI dX12_looksAgain_45 gfX12_32 (hS.cel rfl) ?_
            refine AW_icmp_ge (tgt := 54) dX12_looksAgain_48 (by decide) (fun c_48 => ?_) (fun c_48 => ?_)
            · skip
              rw [Int.toNat_natCast, hT.v5 i40, h9] at c_48
              have ho := own_lt hw hin c_26
              have hlk : lookS D w i = lkS D w i (w.1 3 i).toNat := by unfold lookS; rw [if_pos ⟨by omega, c_26, by omega, c_48⟩]
              rw [hlk] at hW2
              unfold lkS at hW2
              have hne : i ≠ (w.1 3 i).toNat := fun e => by have := ho.2.1; rw [← e] at this; omega
              have o40 : (w.1 3 i).toNat < 40 := by omega
              have hlkw : WFP D n (lkP w.1 i (w.1 3 i).toNat) := (hw.set hin (f := 7) (v := 1) (by decide) (fun q => absurd q (by decide)) (fun _ => Or.inr rfl)).set ho.1 (by decide) (fun q => absurd q (by decide)) (fun _ => Or.inr rfl)
              refine AW_aload_n dX12_looksAgain_54 rfl ?_
              refine AW_getR (a := 116) dX12_looksAgain_55 gfX12_89 (hS.cel rfl) (hS.rf rfl) ?_
              refine AW_iload_n dX12_looksAgain_58 rfl ?_
              refine AW_iald dX12_looksAgain_59 (hS.cel rfl) (by omega) (by omega) ?_
              rw [Int.toNat_natCast, hT.v3 i40, ho.2.2]
              refine AW_istore2 dX12_looksAgain_60 ?_
              refine AW_aload_n dX12_looksAgain_61 rfl ?_
              refine AW_getR (a := 120) dX12_looksAgain_62 gfX12_101 (hS.cel rfl) (hS.rf rfl) ?_
              refine AW_iload_n dX12_looksAgain_65 rfl ?_
              refine AW_iconst dX12_looksAgain_66 ?_
              refine AW_zast dX12_looksAgain_67 (hS.cel rfl) (by omega) (by omega) ?_
              rw [Int.toNat_natCast, aNz_1]
              refine AW_aload_n dX12_looksAgain_68 rfl ?_
              refine AW_getR (a := 120) dX12_looksAgain_69 gfX12_101 (hS.cel rfl) (hS.rf rfl) ?_
              refine AW_iload_n dX12_looksAgain_72 rfl ?_
              refine AW_iconst dX12_looksAgain_73 ?_
              refine AW_zast dX12_looksAgain_74 (hS.cel rfl) (by omega) (by omega) ?_
              rw [Int.toNat_natCast, aNz_1]
              have hT1 := (hT.uP (p := i) 7 120 1).uP (p := (w.1 3 i).toNat) 7 120 1
              have hG1 : Fm [58] [116, 118, 120, 122] τ (upI (upI τ 120 i 1) 120 (w.1 3 i).toNat 1) := (Fm.rf.ua (by decide) (by decide) _ _).ua (by decide) (by decide) _ _
              have hS1 := hG1.sta hS
              have hC1 := hC.fm hG1
              generalize upI (upI τ 120 i 1) 120 (w.1 3 i).toNat 1 = σ1 at hT1 hG1 hS1 hC1 ⊢
              replace hT1 : TwM n (lkP w.1 i (w.1 3 i).toNat, w.2.1, w.2.2) σ1 := hT1
              refine AW_aload_n dX12_looksAgain_75 rfl ?_
              refine AW_iload_n dX12_looksAgain_76 rfl ?_
              refine AW_iload_n dX12_looksAgain_77 rfl ?_
              refine AW_callV2 (d' := d - 1) dX12_looksAgain_78 (Or.inl lkX12_331) mfX12_worthFor (hS1.cel rfl) ⟨_, rfl, rfl⟩ (n_wf (w := (lkP w.1 i (w.1 3 i).toNat, w.2.1, w.2.2)) (by omega) hS1 hC1.1 hW hT1 hlkw hin ho.1) (by omega) (Nat.le_of_ble_eq_true rfl) ?_
              rintro _ _ ⟨e_, rfl⟩ -
              rw [e_]
              clear e_
              rw [show wf D (lkP w.1 i (w.1 3 i).toNat, w.2.1, w.2.2).1 i (w.1 3 i).toNat = wf D w.1 i (w.1 3 i).toNat from wf_lk _ _ _ _ _ _]
              refine AW_aload_n dX12_looksAgain_81 rfl ?_
              refine AW_getR (a := 119) dX12_looksAgain_82 gfX12_98 (hS1.cel rfl) (hS1.rf rfl) ?_
              refine AW_iload_n dX12_looksAgain_85 rfl ?_
              refine AW_iald dX12_looksAgain_86 (hS1.cel rfl) (by omega) (by omega) ?_
              refine AW_icmp_lt (tgt := 108) dX12_looksAgain_87 (by decide) (fun c_87 => ?_) (fun c_87 => ?_)
              · skip
                rw [Int.toNat_natCast, show σ1.2.1 119 i = w.1 6 i from (hT1.v6 i40).trans (lk_f w.1 i (w.1 3 i).toNat 6 i (by decide))] at c_87
                have hor : wf D w.1 i (w.1 3 i).toNat < w.1 6 i ∨ wf D w.1 (w.1 3 i).toNat i < w.1 6 (w.1 3 i).toNat := Or.inl c_87
                refine AW_aload_n dX12_looksAgain_108 rfl ?_
                refine AW_iload_n dX12_looksAgain_109 rfl ?_
                refine AW_callV1 (d' := d - 1) dX12_looksAgain_110 (Or.inl lkX12_334) mfX12_frees (hS1.cel rfl) ⟨_, rfl, rfl⟩ (n_frees hS1 hT1 i40) (by omega) (Nat.le_of_ble_eq_true rfl) ?_
                rintro _ ρ2 ⟨rfl, hT2, hG2⟩ -
                have hS2 := hG2.sta hS1
                have hC2 := hC1.fm hG2
                refine AW_aload_n dX12_looksAgain_113 rfl ?_
                refine AW_iload_n dX12_looksAgain_114 rfl ?_
                refine AW_callV1 (d' := d - 1) dX12_looksAgain_115 (Or.inl lkX12_334) mfX12_frees (hS2.cel rfl) ⟨_, rfl, rfl⟩ (n_frees hS2 hT2 o40) (by omega) (Nat.le_of_ble_eq_true rfl) ?_
                rintro _ ρ3 ⟨rfl, hT3, hG3⟩ -
                have hS3 := hG3.sta hS2
                have hC3 := hC2.fm hG3
                refine AW_aload_n dX12_looksAgain_118 rfl ?_
                refine AW_getR (a := 122) dX12_looksAgain_119 gfX12_108 (hS3.cel rfl) (hS3.rf rfl) ?_
                refine AW_iload_n dX12_looksAgain_122 rfl ?_
                refine AW_aload_n dX12_looksAgain_123 rfl ?_
                refine AW_getR (a := 122) dX12_looksAgain_124 gfX12_108 (hS3.cel rfl) (hS3.rf rfl) ?_
                refine AW_iload_n dX12_looksAgain_127 rfl ?_
                refine AW_iald dX12_looksAgain_128 (hS3.cel rfl) (by omega) (by omega) ?_
                refine AW_iconst dX12_looksAgain_129 ?_
                rw [Int.toNat_natCast, show ρ3.2.1 122 i = w.1 9 i from ((hT3.v9 i40).trans ((fre_f (freP (lkP w.1 i (w.1 3 i).toNat) i) (w.1 3 i).toNat 9 i (by decide) (by decide)).trans (fre_f (lkP w.1 i (w.1 3 i).toNat) i 9 i (by decide) (by decide)))).trans (lk_f w.1 i (w.1 3 i).toNat 9 i (by decide))]
                refine AW_iadd dX12_looksAgain_130 ?_
                refine AW_iast dX12_looksAgain_131 (hS3.cel rfl) (by omega) (by omega) ?_
                rw [Int.toNat_natCast]
                have hT4 := hT3.uP (p := i) 9 122 (wr (w.1 9 i + 1))
                have hG4 : Fm [58] [116, 118, 120, 122] ρ3 (upI ρ3 122 i (wr (w.1 9 i + 1))) := Fm.rf.ua (by decide) (by decide) _ _
                have hS4 := hG4.sta hS3
                have hC4 := hC3.fm hG4
                generalize upI ρ3 122 i (wr (w.1 9 i + 1)) = σ4 at hT4 hG4 hS4 hC4 ⊢
                refine AW_aload_n dX12_looksAgain_132 rfl ?_
                refine AW_getR (a := 122) dX12_looksAgain_133 gfX12_108 (hS4.cel rfl) (hS4.rf rfl) ?_
                refine AW_iload_n dX12_looksAgain_136 rfl ?_
                refine AW_aload_n dX12_looksAgain_137 rfl ?_
                refine AW_getR (a := 122) dX12_looksAgain_138 gfX12_108 (hS4.cel rfl) (hS4.rf rfl) ?_
                refine AW_iload_n dX12_looksAgain_141 rfl ?_
                refine AW_iald dX12_looksAgain_142 (hS4.cel rfl) (by omega) (by omega) ?_
                refine AW_iconst dX12_looksAgain_143 ?_
                rw [Int.toNat_natCast, show σ4.2.1 122 (w.1 3 i).toNat = w.1 9 (w.1 3 i).toNat from (hT4.v9 o40).trans (by
                  have := pt_9 (lkP w.1 i (w.1 3 i).toNat) hne
                  rw [lk_f w.1 i (w.1 3 i).toNat 9 i (by decide), lk_f w.1 i (w.1 3 i).toNat 9 (w.1 3 i).toNat (by decide)] at this
                  exact this)]
                refine AW_iadd dX12_looksAgain_144 ?_
                refine AW_iast dX12_looksAgain_145 (hS4.cel rfl) (by omega) (by omega) ?_
                rw [Int.toNat_natCast]
                have hT5 := hT4.uP (p := (w.1 3 i).toNat) 9 122 (wr (w.1 9 (w.1 3 i).toNat + 1))
                have hG5 : Fm [58] [116, 118, 120, 122] σ4 (upI σ4 122 (w.1 3 i).toNat (wr (w.1 9 (w.1 3 i).toNat + 1))) := Fm.rf.ua (by decide) (by decide) _ _
                have hS5 := hG5.sta hS4
                have hC5 := hC4.fm hG5
                generalize upI σ4 122 (w.1 3 i).toNat (wr (w.1 9 (w.1 3 i).toNat + 1)) = σ5 at hT5 hG5 hS5 hC5 ⊢
                refine AW_aload_n dX12_looksAgain_146 rfl ?_
                refine AW_aload_n dX12_looksAgain_147 rfl ?_
                refine AW_getI dX12_looksAgain_148 gfX12_337 (hS5.cel rfl) ?_
                refine AW_iconst dX12_looksAgain_151 ?_
                rw [show σ5.2.1 94 58 = w.2.1 4 from hT5.t4]
                refine AW_iadd dX12_looksAgain_152 ?_
                refine AW_putI dX12_looksAgain_153 (Or.inl pfX12_337) (hS5.cel rfl) ?_
                refine AW_iincE1 dX12_looksAgain_156 (by omega) (by omega) ?_
                refine AW_goto (tgt := 2) dX12_looksAgain_159 (by decide) ?_
                rw [show (i : Int) + 1 = ((i + 1 : Nat) : Int) by omega]
                first
                | exact ih m1 (i + 1) w _ _ (by omega) (by omega) hw hT9 hF9 hW2
                | exact ih m1 (i + 1) (lkP w.1 i (w.1 3 i).toNat, w.2) _ _ (by omega) (by omega) hwk hT9 hF9 hW2
                | (rw [if_pos hor] at hW2
                   have hT6 := hT5.uT 4 58 (wr (w.2.1 4 + 1))
                   refine ih m1 (i + 1) (ptP (lkP w.1 i (w.1 3 i).toNat) i (w.1 3 i).toNat, setT w.2.1 4 (wr (w.2.1 4 + 1)), w.2.2) _ _ (by omega) (by omega) ((((hlkw.fre hin).fre ho.1).se hin 9 _).se ho.1 9 _) ?_ ((((((hF.tr hG1).tr (hG2.mo (by decide) (by decide))).tr (hG3.mo (by decide) (by decide))).tr hG4).tr hG5).uf (by decide) _) hW2
                   unfold ptP
                   rw [lk_f w.1 i (w.1 3 i).toNat 9 i (by decide), lk_f w.1 i (w.1 3 i).toNat 9 (w.1 3 i).toNat (by decide)]
                   exact hT6)
              · skip
                rw [Int.toNat_natCast, show σ1.2.1 119 i = w.1 6 i from (hT1.v6 i40).trans (lk_f w.1 i (w.1 3 i).toNat 6 i (by decide))] at c_87
                refine AW_aload_n dX12_looksAgain_90 rfl ?_
                refine AW_iload_n dX12_looksAgain_91 rfl ?_
                refine AW_iload_n dX12_looksAgain_92 rfl ?_
                refine AW_callV2 (d' := d - 1) dX12_looksAgain_93 (Or.inl lkX12_331) mfX12_worthFor (hS1.cel rfl) ⟨_, rfl, rfl⟩ (n_wf (w := (lkP w.1 i (w.1 3 i).toNat, w.2.1, w.2.2)) (by omega) hS1 hC1.1 hW hT1 hlkw ho.1 hin) (by omega) (Nat.le_of_ble_eq_true rfl) ?_
                rintro _ _ ⟨e_, rfl⟩ -
                rw [e_]
                clear e_
                rw [show wf D (lkP w.1 i (w.1 3 i).toNat, w.2.1, w.2.2).1 (w.1 3 i).toNat i = wf D w.1 (w.1 3 i).toNat i from wf_lk _ _ _ _ _ _]
                refine AW_aload_n dX12_looksAgain_96 rfl ?_
                refine AW_getR (a := 119) dX12_looksAgain_97 gfX12_98 (hS1.cel rfl) (hS1.rf rfl) ?_
                refine AW_iload_n dX12_looksAgain_100 rfl ?_
                refine AW_iald dX12_looksAgain_101 (hS1.cel rfl) (by omega) (by omega) ?_
                refine AW_icmp_lt (tgt := 108) dX12_looksAgain_102 (by decide) (fun c_102 => ?_) (fun c_102 => ?_)
                · skip
                  rw [Int.toNat_natCast, show σ1.2.1 119 (w.1 3 i).toNat = w.1 6 (w.1 3 i).toNat from (hT1.v6 o40).trans (lk_f w.1 i (w.1 3 i).toNat 6 _ (by decide))] at c_102
                  have hor : wf D w.1 i (w.1 3 i).toNat < w.1 6 i ∨ wf D w.1 (w.1 3 i).toNat i < w.1 6 (w.1 3 i).toNat := Or.inr c_102
                  refine AW_aload_n dX12_looksAgain_108 rfl ?_
                  refine AW_iload_n dX12_looksAgain_109 rfl ?_
                  refine AW_callV1 (d' := d - 1) dX12_looksAgain_110 (Or.inl lkX12_334) mfX12_frees (hS1.cel rfl) ⟨_, rfl, rfl⟩ (n_frees hS1 hT1 i40) (by omega) (Nat.le_of_ble_eq_true rfl) ?_
                  rintro _ ρ2 ⟨rfl, hT2, hG2⟩ -
                  have hS2 := hG2.sta hS1
                  have hC2 := hC1.fm hG2
                  refine AW_aload_n dX12_looksAgain_113 rfl ?_
                  refine AW_iload_n dX12_looksAgain_114 rfl ?_
                  refine AW_callV1 (d' := d - 1) dX12_looksAgain_115 (Or.inl lkX12_334) mfX12_frees (hS2.cel rfl) ⟨_, rfl, rfl⟩ (n_frees hS2 hT2 o40) (by omega) (Nat.le_of_ble_eq_true rfl) ?_
                  rintro _ ρ3 ⟨rfl, hT3, hG3⟩ -
                  have hS3 := hG3.sta hS2
                  have hC3 := hC2.fm hG3
                  refine AW_aload_n dX12_looksAgain_118 rfl ?_
                  refine AW_getR (a := 122) dX12_looksAgain_119 gfX12_108 (hS3.cel rfl) (hS3.rf rfl) ?_
                  refine AW_iload_n dX12_looksAgain_122 rfl ?_
                  refine AW_aload_n dX12_looksAgain_123 rfl ?_
                  refine AW_getR (a := 122) dX12_looksAgain_124 gfX12_108 (hS3.cel rfl) (hS3.rf rfl) ?_
                  refine AW_iload_n dX12_looksAgain_127 rfl ?_
                  refine AW_iald dX12_looksAgain_128 (hS3.cel rfl) (by omega) (by omega) ?_
                  refine AW_iconst dX12_looksAgain_129 ?_
                  rw [Int.toNat_natCast, show ρ3.2.1 122 i = w.1 9 i from ((hT3.v9 i40).trans ((fre_f (freP (lkP w.1 i (w.1 3 i).toNat) i) (w.1 3 i).toNat 9 i (by decide) (by decide)).trans (fre_f (lkP w.1 i (w.1 3 i).toNat) i 9 i (by decide) (by decide)))).trans (lk_f w.1 i (w.1 3 i).toNat 9 i (by decide))]
                  refine AW_iadd dX12_looksAgain_130 ?_
                  refine AW_iast dX12_looksAgain_131 (hS3.cel rfl) (by omega) (by omega) ?_
                  rw [Int.toNat_natCast]
                  have hT4 := hT3.uP (p := i) 9 122 (wr (w.1 9 i + 1))
                  have hG4 : Fm [58] [116, 118, 120, 122] ρ3 (upI ρ3 122 i (wr (w.1 9 i + 1))) := Fm.rf.ua (by decide) (by decide) _ _
                  have hS4 := hG4.sta hS3
                  have hC4 := hC3.fm hG4
                  generalize upI ρ3 122 i (wr (w.1 9 i + 1)) = σ4 at hT4 hG4 hS4 hC4 ⊢
                  refine AW_aload_n dX12_looksAgain_132 rfl ?_
                  refine AW_getR (a := 122) dX12_looksAgain_133 gfX12_108 (hS4.cel rfl) (hS4.rf rfl) ?_
                  refine AW_iload_n dX12_looksAgain_136 rfl ?_
                  refine AW_aload_n dX12_looksAgain_137 rfl ?_
                  refine AW_getR (a := 122) dX12_looksAgain_138 gfX12_108 (hS4.cel rfl) (hS4.rf rfl) ?_
                  refine AW_iload_n dX12_looksAgain_141 rfl ?_
                  refine AW_iald dX12_looksAgain_142 (hS4.cel rfl) (by omega) (by omega) ?_
                  refine AW_iconst dX12_looksAgain_143 ?_
                  rw [Int.toNat_natCast, show σ4.2.1 122 (w.1 3 i).toNat = w.1 9 (w.1 3 i).toNat from (hT4.v9 o40).trans (by
                    have := pt_9 (lkP w.1 i (w.1 3 i).toNat) hne
                    rw [lk_f w.1 i (w.1 3 i).toNat 9 i (by decide), lk_f w.1 i (w.1 3 i).toNat 9 (w.1 3 i).toNat (by decide)] at this
                    exact this)]
                  refine AW_iadd dX12_looksAgain_144 ?_
                  refine AW_iast dX12_looksAgain_145 (hS4.cel rfl) (by omega) (by omega) ?_
                  rw [Int.toNat_natCast]
                  have hT5 := hT4.uP (p := (w.1 3 i).toNat) 9 122 (wr (w.1 9 (w.1 3 i).toNat + 1))
                  have hG5 : Fm [58] [116, 118, 120, 122] σ4 (upI σ4 122 (w.1 3 i).toNat (wr (w.1 9 (w.1 3 i).toNat + 1))) := Fm.rf.ua (by decide) (by decide) _ _
                  have hS5 := hG5.sta hS4
                  have hC5 := hC4.fm hG5
                  generalize upI σ4 122 (w.1 3 i).toNat (wr (w.1 9 (w.1 3 i).toNat + 1)) = σ5 at hT5 hG5 hS5 hC5 ⊢
                  refine AW_aload_n dX12_looksAgain_146 rfl ?_
                  refine AW_aload_n dX12_looksAgain_147 rfl ?_
                  refine AW_getI dX12_looksAgain_148 gfX12_337 (hS5.cel rfl) ?_
                  refine AW_iconst dX12_looksAgain_151 ?_
                  rw [show σ5.2.1 94 58 = w.2.1 4 from hT5.t4]
                  refine AW_iadd dX12_looksAgain_152 ?_
                  refine AW_putI dX12_looksAgain_153 (Or.inl pfX12_337) (hS5.cel rfl) ?_
                  refine AW_iincE1 dX12_looksAgain_156 (by omega) (by omega) ?_
                  refine AW_goto (tgt := 2) dX12_looksAgain_159 (by decide) ?_
                  rw [show (i : Int) + 1 = ((i + 1 : Nat) : Int) by omega]
                  first
                  | exact ih m1 (i + 1) w _ _ (by omega) (by omega) hw hT9 hF9 hW2
                  | exact ih m1 (i + 1) (lkP w.1 i (w.1 3 i).toNat, w.2) _ _ (by omega) (by omega) hwk hT9 hF9 hW2
                  | (rw [if_pos hor] at hW2
                     have hT6 := hT5.uT 4 58 (wr (w.2.1 4 + 1))
                     refine ih m1 (i + 1) (ptP (lkP w.1 i (w.1 3 i).toNat) i (w.1 3 i).toNat, setT w.2.1 4 (wr (w.2.1 4 + 1)), w.2.2) _ _ (by omega) (by omega) ((((hlkw.fre hin).fre ho.1).se hin 9 _).se ho.1 9 _) ?_ ((((((hF.tr hG1).tr (hG2.mo (by decide) (by decide))).tr (hG3.mo (by decide) (by decide))).tr hG4).tr hG5).uf (by decide) _) hW2
                     unfold ptP
                     rw [lk_f w.1 i (w.1 3 i).toNat 9 i (by decide), lk_f w.1 i (w.1 3 i).toNat 9 (w.1 3 i).toNat (by decide)]
                     exact hT6)
                · skip
                  rw [Int.toNat_natCast, show σ1.2.1 119 (w.1 3 i).toNat = w.1 6 (w.1 3 i).toNat from (hT1.v6 o40).trans (lk_f w.1 i (w.1 3 i).toNat 6 _ (by decide))] at c_102
                  rw [if_neg (by omega)] at hW2
                  have hT9 : TwM n (lkP w.1 i (w.1 3 i).toNat, w.2) σ1 := hT1
                  have hF9 := hF.tr hG1
                  have hwk := hlkw
                  refine AW_goto (tgt := 156) dX12_looksAgain_105 (by decide) ?_
                  refine AW_iincE1 dX12_looksAgain_156 (by omega) (by omega) ?_
                  refine AW_goto (tgt := 2) dX12_looksAgain_159 (by decide) ?_
                  rw [show (i : Int) + 1 = ((i + 1 : Nat) : Int) by omega]
                  first
                  | exact ih m1 (i + 1) w _ _ (by omega) (by omega) hw hT9 hF9 hW2
                  | exact ih m1 (i + 1) (lkP w.1 i (w.1 3 i).toNat, w.2) _ _ (by omega) (by omega) hwk hT9 hF9 hW2
                  | (rw [if_pos hor] at hW2
                     have hT6 := hT5.uT 4 58 (wr (w.2.1 4 + 1))
                     refine ih m1 (i + 1) (ptP (lkP w.1 i (w.1 3 i).toNat) i (w.1 3 i).toNat, setT w.2.1 4 (wr (w.2.1 4 + 1)), w.2.2) _ _ (by omega) (by omega) ((((hlkw.fre hin).fre ho.1).se hin 9 _).se ho.1 9 _) ?_ ((((((hF.tr hG1).tr (hG2.mo (by decide) (by decide))).tr (hG3.mo (by decide) (by decide))).tr hG4).tr hG5).uf (by decide) _) hW2
                     unfold ptP
                     rw [lk_f w.1 i (w.1 3 i).toNat 9 i (by decide), lk_f w.1 i (w.1 3 i).toNat 9 (w.1 3 i).toNat (by decide)]
                     exact hT6)
            · skip
              rw [Int.toNat_natCast, hT.v5 i40, h9] at c_48
              have hl0 : lookS D w i = w := by unfold lookS; rw [if_neg (fun q => c_48 q.2.2.2)]
              rw [hl0] at hW2
              have hT9 := hT
              have hF9 := hF
              refine AW_goto (tgt := 156) dX12_looksAgain_51 (by decide) ?_
              refine AW_iincE1 dX12_looksAgain_156 (by omega) (by omega) ?_
              refine AW_goto (tgt := 2) dX12_looksAgain_159 (by decide) ?_
              rw [show (i : Int) + 1 = ((i + 1 : Nat) : Int) by omega]
              first
              | exact ih m1 (i + 1) w _ _ (by omega) (by omega) hw hT9 hF9 hW2
              | exact ih m1 (i + 1) (lkP w.1 i (w.1 3 i).toNat, w.2) _ _ (by omega) (by omega) hwk hT9 hF9 hW2
              | (rw [if_pos hor] at hW2
                 have hT6 := hT5.uT 4 58 (wr (w.2.1 4 + 1))
                 refine ih m1 (i + 1) (ptP (lkP w.1 i (w.1 3 i).toNat) i (w.1 3 i).toNat, setT w.2.1 4 (wr (w.2.1 4 + 1)), w.2.2) _ _ (by omega) (by omega) ((((hlkw.fre hin).fre ho.1).se hin 9 _).se ho.1 9 _) ?_ ((((((hF.tr hG1).tr (hG2.mo (by decide) (by decide))).tr (hG3.mo (by decide) (by decide))).tr hG4).tr hG5).uf (by decide) _) hW2
                 unfold ptP
                 rw [lk_f w.1 i (w.1 3 i).toNat 9 i (by decide), lk_f w.1 i (w.1 3 i).toNat 9 (w.1 3 i).toNat (by decide)]
                 exact hT6)
theorem n_la {G : Gt} {d : Nat} {σ : St} (hd : 2 ≤ d) {D : Mk} {Ws : Nat → Wy} {n : Nat} {w : Tw} (hS : Sta σ) (hC : CtM D Ws σ) (hT : TwM n w σ) (hw : WFP D n w.1)  : AM mX12_looksAgain G d 0 0 [vR 94] σ (fun ro ρ => ro = none ∧ TwM n (itr (lookS D) n 0 w) ρ ∧ Fm [58] [116, 118, 120, 122] σ ρ) := by
  refine AM.intro (by decide +kernel) (by simp [nLg]) (Nat.le_of_ble_eq_true rfl) (fun hO => ?_)
  show AW _ _ _ _ _ _ 0 [some (vR 94), none, none] [] σ
  refine AW_iconst dX12_looksAgain_0 ?_
  refine AW_istore1 dX12_looksAgain_1 ?_
  exact ln_la hd hS hC (n + 1) n 0 w none σ (by omega) (by omega) hw hT Fm.rf rfl
theorem ln_gb2 {G : Gt} {d : Nat} {σ : St} {D : Mk} {Ws : Nat → Wy} {n : Nat} {W : Tw} (hd : 7 ≤ d) (hS0 : Sta σ) : ∀ (nn : Nat) (m i : Nat) (w : Tw) (τ : St), m < nn → i + m = n → WFP D n w.1 → 0 ≤ w.2.1 0 ∧ w.2.1 0 ≤ 99 → CtM D Ws τ → TwM n w τ → Fm [18, 53, 54, 55, 56, 57, 58, 61] [102, 113, 114, 115, 116, 117, 118, 119, 120, 121, 122, 123, 124] σ τ → itr ageS m i w = W →  AW mX12_goesBy G d 0 0 (mq G (fun ro ρ => ro = none ∧ TwM n (endW W) ρ ∧ CtM D Ws ρ ∧ Fm [18, 53, 54, 55, 56, 57, 58, 61] [102, 113, 114, 115, 116, 117, 118, 119, 120, 121, 122, 123, 124] σ ρ)) 46 [some (vR 94), some (vI (i : Int))] [] τ := by
  intro nn
  induction nn with
  | zero => intros; omega
  | succ nn ih =>
    intro m i w τ hn hi hw h99 hC hT hF hW2
    have hS := hF.sta hS0
    have hn40 := hw.1
    have h42 := hT.2.1
    refine AW_iload_n dX12_goesBy_46 rfl ?_
    refine AW_aload_n dX12_goesBy_47 rfl ?_
    refine AW_getI dX12_goesBy_48 gfX12_153 (hS.cel rfl) ?_
    refine AW_icmp_ge (tgt := 101) dX12_goesBy_51 (by decide) (fun c_51 => ?_) (fun c_51 => ?_)
    · skip
      have hm : m = 0 := by omega
      subst hm
      refine AW_aload_n dX12_goesBy_101 rfl ?_
      refine AW_aload_n dX12_goesBy_102 rfl ?_
      refine AW_getI dX12_goesBy_103 gfX12_314 (hS.cel rfl) ?_
      refine AW_iconst dX12_goesBy_106 ?_
      rw [hT.t0]
      refine AW_iadd dX12_goesBy_107 ?_
      refine AW_putI dX12_goesBy_108 (Or.inl pfX12_314) (hS.cel rfl) ?_
      refine AW_vret dX12_goesBy_111 rfl ?_
      rw [itr_0] at hW2
      subst hW2
      exact ⟨rfl, hT.uT 0 54 _, hC.fm (fs := [54]) (L := []) (Fm.rf.uf (by decide) _), hF.uf (by decide) _⟩
    · skip
      obtain ⟨m1, rfl⟩ : ∃ m1, m = m1 + 1 := ⟨m - 1, by omega⟩
      rw [itr_s] at hW2
      have i40 : i < 40 := by omega
      have hin : i < n := by omega
      refine AW_aload_n dX12_goesBy_54 rfl ?_
      refine AW_getR (a := 116) dX12_goesBy_55 gfX12_89 (hS.cel rfl) (hS.rf rfl) ?_
      refine AW_iload_n dX12_goesBy_58 rfl ?_
      refine AW_iald dX12_goesBy_59 (hS.cel rfl) (by omega) (by omega) ?_
      refine AW_iconst dX12_goesBy_60 ?_
      refine AW_icmp_ne (tgt := 81) dX12_goesBy_61 (by decide) (fun c_61 => ?_) (fun c_61 => ?_)
      · skip
        rw [Int.toNat_natCast, hT.v3 i40] at c_61
        rw [show ageS w i = (setP w.1 5 i (wr (w.1 5 i + 1)), w.2) by unfold ageS; rw [if_neg c_61]] at hW2
        refine AW_aload_n dX12_goesBy_81 rfl ?_
        refine AW_getR (a := 118) dX12_goesBy_82 gfX12_95 (hS.cel rfl) (hS.rf rfl) ?_
        refine AW_iload_n dX12_goesBy_85 rfl ?_
        refine AW_aload_n dX12_goesBy_86 rfl ?_
        refine AW_getR (a := 118) dX12_goesBy_87 gfX12_95 (hS.cel rfl) (hS.rf rfl) ?_
        refine AW_iload_n dX12_goesBy_90 rfl ?_
        refine AW_iald dX12_goesBy_91 (hS.cel rfl) (by omega) (by omega) ?_
        refine AW_iconst dX12_goesBy_92 ?_
        rw [Int.toNat_natCast, hT.v5 i40]
        refine AW_iadd dX12_goesBy_93 ?_
        refine AW_iast dX12_goesBy_94 (hS.cel rfl) (by omega) (by omega) ?_
        skip
        refine AW_iincE1 dX12_goesBy_95 (by omega) (by omega) ?_
        refine AW_goto (tgt := 46) dX12_goesBy_98 (by decide) ?_
        rw [show (i : Int) + 1 = ((i + 1 : Nat) : Int) by omega]
        first
        | exact ih m1 (i + 1) (setP w.1 4 i (wr (w.1 4 i + 1)), w.2) _ (by omega) (by omega) (hw.se hin 4 _) h99 (hC.fm (fs := []) (L := [117]) (Fm.rf.ua (by decide) (by decide) _ _)) (hT.uP 4 117 _) (hF.ua (by decide) (by decide) _ _) hW2
        | (rw [Int.toNat_natCast]; exact ih m1 (i + 1) (setP w.1 5 i (wr (w.1 5 i + 1)), w.2) _ (by omega) (by omega) (hw.se hin 5 _) h99 (hC.fm (fs := []) (L := [118]) (Fm.rf.ua (by decide) (by decide) _ _)) (hT.uP 5 118 _) (hF.ua (by decide) (by decide) _ _) hW2)
      · skip
        rw [Int.toNat_natCast, hT.v3 i40] at c_61
        rw [show ageS w i = (setP w.1 4 i (wr (w.1 4 i + 1)), w.2) by unfold ageS; rw [if_pos c_61]] at hW2
        refine AW_aload_n dX12_goesBy_64 rfl ?_
        refine AW_getR (a := 117) dX12_goesBy_65 gfX12_92 (hS.cel rfl) (hS.rf rfl) ?_
        refine AW_iload_n dX12_goesBy_68 rfl ?_
        refine AW_aload_n dX12_goesBy_69 rfl ?_
        refine AW_getR (a := 117) dX12_goesBy_70 gfX12_92 (hS.cel rfl) (hS.rf rfl) ?_
        refine AW_iload_n dX12_goesBy_73 rfl ?_
        refine AW_iald dX12_goesBy_74 (hS.cel rfl) (by omega) (by omega) ?_
        refine AW_iconst dX12_goesBy_75 ?_
        rw [Int.toNat_natCast, hT.v4 i40]
        refine AW_iadd dX12_goesBy_76 ?_
        refine AW_iast dX12_goesBy_77 (hS.cel rfl) (by omega) (by omega) ?_
        rw [Int.toNat_natCast]
        refine AW_goto (tgt := 95) dX12_goesBy_78 (by decide) ?_
        skip
        refine AW_iincE1 dX12_goesBy_95 (by omega) (by omega) ?_
        refine AW_goto (tgt := 46) dX12_goesBy_98 (by decide) ?_
        rw [show (i : Int) + 1 = ((i + 1 : Nat) : Int) by omega]
        first
        | exact ih m1 (i + 1) (setP w.1 4 i (wr (w.1 4 i + 1)), w.2) _ (by omega) (by omega) (hw.se hin 4 _) h99 (hC.fm (fs := []) (L := [117]) (Fm.rf.ua (by decide) (by decide) _ _)) (hT.uP 4 117 _) (hF.ua (by decide) (by decide) _ _) hW2
        | (rw [Int.toNat_natCast]; exact ih m1 (i + 1) (setP w.1 5 i (wr (w.1 5 i + 1)), w.2) _ (by omega) (by omega) (hw.se hin 5 _) h99 (hC.fm (fs := []) (L := [118]) (Fm.rf.ua (by decide) (by decide) _ _)) (hT.uP 5 118 _) (hF.ua (by decide) (by decide) _ _) hW2)
theorem ln_gb1 {G : Gt} {d : Nat} {σ : St} {D : Mk} {Ws : Nat → Wy} {n : Nat} {W : Tw} (hd : 7 ≤ d) (hS0 : Sta σ) : ∀ (nn : Nat) (m i : Nat) (w : Tw) (τ : St), m < nn → i + m = n → WFP D n w.1 → 0 ≤ w.2.1 0 ∧ w.2.1 0 ≤ 99 → CtM D Ws τ → TwM n w τ → Fm [18, 53, 54, 55, 56, 57, 58, 61] [102, 113, 114, 115, 116, 117, 118, 119, 120, 121, 122, 123, 124] σ τ → itr ageS n 0 (itr (outS D Ws n) m i w) = W →  AW mX12_goesBy G d 0 0 (mq G (fun ro ρ => ro = none ∧ TwM n (endW W) ρ ∧ CtM D Ws ρ ∧ Fm [18, 53, 54, 55, 56, 57, 58, 61] [102, 113, 114, 115, 116, 117, 118, 119, 120, 121, 122, 123, 124] σ ρ)) 6 [some (vR 94), some (vI (i : Int))] [] τ := by
  intro nn
  induction nn with
  | zero => intros; omega
  | succ nn ih =>
    intro m i w τ hn hi hw h99 hC hT hF hW2
    have hS := hF.sta hS0
    have hn40 := hw.1
    have h42 := hT.2.1
    refine AW_iload_n dX12_goesBy_6 rfl ?_
    refine AW_aload_n dX12_goesBy_7 rfl ?_
    refine AW_getI dX12_goesBy_8 gfX12_153 (hS.cel rfl) ?_
    refine AW_icmp_ge (tgt := 44) dX12_goesBy_11 (by decide) (fun c_11 => ?_) (fun c_11 => ?_)
    · skip
      have hm : m = 0 := by omega
      subst hm
      refine AW_iconst dX12_goesBy_44 ?_
      refine AW_istore1 dX12_goesBy_45 ?_
      rw [itr_0] at hW2
      exact ln_gb2 hd hS0 (n + 1) n 0 w τ (by omega) (by omega) hw h99 hC hT hF hW2
    · skip
      obtain ⟨m1, rfl⟩ : ∃ m1, m = m1 + 1 := ⟨m - 1, by omega⟩
      rw [itr_s] at hW2
      have i40 : i < 40 := by omega
      have hin : i < n := by omega
      refine AW_aload_n dX12_goesBy_14 rfl ?_
      refine AW_getR (a := 113) dX12_goesBy_15 gfX12_80 (hS.cel rfl) (hS.rf rfl) ?_
      refine AW_iload_n dX12_goesBy_18 rfl ?_
      refine AW_iald dX12_goesBy_19 (hS.cel rfl) (by omega) (by omega) ?_
      refine AW_if_ne (tgt := 38) dX12_goesBy_20 (by decide) (fun c_20 => ?_) (fun c_20 => ?_)
      · skip
        rw [Int.toNat_natCast, hT.v0 i40] at c_20
        have hT2 : TwM n (outS D Ws n w i) τ := by
          unfold outS
          rw [if_neg (fun q => c_20 q.1)]
          exact hT
        have hF2 := hF
        have hC2 := hC
        refine AW_iincE1 dX12_goesBy_38 (by omega) (by omega) ?_
        refine AW_goto (tgt := 6) dX12_goesBy_41 (by decide) ?_
        rw [show (i : Int) + 1 = ((i + 1 : Nat) : Int) by omega]
        exact ih m1 (i + 1) _ _ (by omega) (by omega) (hw.out hin) (by rw [out_t0]; exact h99) hC2 hT2 hF2 hW2
      · skip
        rw [Int.toNat_natCast, hT.v0 i40] at c_20
        refine AW_aload_n dX12_goesBy_23 rfl ?_
        refine AW_getR (a := 116) dX12_goesBy_24 gfX12_89 (hS.cel rfl) (hS.rf rfl) ?_
        refine AW_iload_n dX12_goesBy_27 rfl ?_
        refine AW_iald dX12_goesBy_28 (hS.cel rfl) (by omega) (by omega) ?_
        refine AW_iconst dX12_goesBy_29 ?_
        refine AW_icmp_ne (tgt := 38) dX12_goesBy_30 (by decide) (fun c_30 => ?_) (fun c_30 => ?_)
        · skip
          rw [Int.toNat_natCast, hT.v3 i40] at c_30
          have hT2 : TwM n (outS D Ws n w i) τ := by
            unfold outS
            rw [if_neg (fun q => c_30 q.2)]
            exact hT
          have hF2 := hF
          have hC2 := hC
          refine AW_iincE1 dX12_goesBy_38 (by omega) (by omega) ?_
          refine AW_goto (tgt := 6) dX12_goesBy_41 (by decide) ?_
          rw [show (i : Int) + 1 = ((i + 1 : Nat) : Int) by omega]
          exact ih m1 (i + 1) _ _ (by omega) (by omega) (hw.out hin) (by rw [out_t0]; exact h99) hC2 hT2 hF2 hW2
        · skip
          rw [Int.toNat_natCast, hT.v3 i40] at c_30
          refine AW_aload_n dX12_goesBy_33 rfl ?_
          refine AW_iload_n dX12_goesBy_34 rfl ?_
          refine AW_callV1 (d' := d - 1) dX12_goesBy_35 (Or.inl lkX12_368) mfX12_meeting (hS.cel rfl) ⟨_, rfl, rfl⟩ (n_meeting (by omega) hS hC hT hw hin h99 (by omega)) (by omega) (Nat.le_of_ble_eq_true rfl) ?_
          rintro _ ρ1 ⟨rfl, hT1, hC2, hF1⟩ -
          have hT2 : TwM n (outS D Ws n w i) ρ1 := by
            unfold outS
            rw [if_pos ⟨by omega, by omega⟩]
            exact hT1
          have hF2 := hF.tr hF1
          refine AW_iincE1 dX12_goesBy_38 (by omega) (by omega) ?_
          refine AW_goto (tgt := 6) dX12_goesBy_41 (by decide) ?_
          rw [show (i : Int) + 1 = ((i + 1 : Nat) : Int) by omega]
          exact ih m1 (i + 1) _ _ (by omega) (by omega) (hw.out hin) (by rw [out_t0]; exact h99) hC2 hT2 hF2 hW2
theorem n_gb {G : Gt} {d : Nat} {σ : St} (hd : 7 ≤ d) {D : Mk} {Ws : Nat → Wy} {n : Nat} {w : Tw} (hS : Sta σ) (hC : CtM D Ws σ) (hT : TwM n w σ) (hw : WFP D n w.1) (h99 : 0 ≤ w.2.1 0 ∧ w.2.1 0 ≤ 99)  : AM mX12_goesBy G d 0 0 [vR 94] σ (fun ro ρ => ro = none ∧ TwM n (weekS D Ws n w) ρ ∧ CtM D Ws ρ ∧ Fm [18, 53, 54, 55, 56, 57, 58, 61] [102, 113, 114, 115, 116, 117, 118, 119, 120, 121, 122, 123, 124] σ ρ) := by
  refine AM.intro (by decide +kernel) (by simp [nLg]) (Nat.le_of_ble_eq_true rfl) (fun hO => ?_)
  show AW _ _ _ _ _ _ 0 [some (vR 94), none] [] σ
  refine AW_aload_n dX12_goesBy_0 rfl ?_
  refine AW_callV0 (d' := d - 1) dX12_goesBy_1 (Or.inl lkX12_365) mfX12_looksAgain (hS.cel rfl) ⟨_, rfl, rfl⟩ (n_la (by omega) hS hC hT hw) (by omega) (Nat.le_of_ble_eq_true rfl) ?_
  rintro _ ρ1 ⟨rfl, hT1, hG1⟩ -
  have hS1 := hG1.sta hS
  have hC1 := hC.fm hG1
  refine AW_iconst dX12_goesBy_4 ?_
  refine AW_istore1 dX12_goesBy_5 ?_
  refine AW_mq (fun r τ q => ⟨q.1, q.2.1, q.2.2.1, (hG1.mo (by decide) (by decide)).tr q.2.2.2⟩) (ln_gb1 (W := itr ageS n 0 (itr (outS D Ws n) n 0 (itr (lookS D) n 0 w))) hd hS1 (n + 1) n 0 _ ρ1 (by omega) (by omega) (wfp_itr (fun w p h hp => h.look hp) n 0 w (by omega) hw) (by rw [itr_t0 (look_t0 D)]; exact h99) hC1 hT1 Fm.rf rfl)
