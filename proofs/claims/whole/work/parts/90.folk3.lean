theorem cl_P : Cond.classLink RX1 70 "NotYet$Person" ∈ lw_g := mem_g 969 (by decide +kernel) rfl
theorem wf_in {D : Mk} {n : Nat} {P : Pe} (hW : WFm D) (hw : WFP D n P) {p q : Nat} (hp : p < n) (hq : q < n) : 0 ≤ wf D P p q ∧ wf D P p q ≤ 999 := by
  obtain ⟨a1, a2, a3, a4, a5⟩ := hw.2.1 p hp
  obtain ⟨b1, b2, b3, b4, b5⟩ := hw.2.1 q hq
  have h1 := hW.1 (P 0 p).toNat (by omega)
  have h2 := hW.1 (P 0 q).toNat (by omega)
  exact wo_in hW (by omega) (by omega) (by omega)
theorem wf_lk (D : Mk) (P : Pe) (p q a b : Nat) : wf D (lkP P p q) a b = wf D P a b := by
  unfold wf lkP
  rw [setP_f _ _ _ _ (by decide), setP_f _ _ _ _ (by decide), setP_f _ _ _ _ (by decide), setP_f _ _ _ _ (by decide), setP_f _ _ _ _ (by decide), setP_f _ _ _ _ (by decide)]
theorem lk_f (P : Pe) (p q f a : Nat) (h : f ≠ 7) : lkP P p q f a = P f a := by
  unfold lkP
  rw [setP_f _ _ _ _ h, setP_f _ _ _ _ h]
theorem fre_f (P : Pe) (p f a : Nat) (h3 : f ≠ 3) (h5 : f ≠ 5) : freP P p f a = P f a := by
  unfold freP
  rw [setP_f _ _ _ _ h5, setP_f _ _ _ _ h3]
theorem l_meet3 {G : Gt} {d : Nat} {σ : St} {n : Nat} {pc : Nat → Nat} {w : Tw} {p q : Nat} {tp tq : Int} {x3 x4 x7 : Option AV} (hd : 1 ≤ d) (hS : Sta σ) (hT : TwC n pc w σ) (hp : p < n) (hq : q < n) : AW mX1_meet G d 0 0 (mq G (fun ro ρ => ro = none ∧ TwC n pc (pairS w p q tp tq) ρ ∧ Fz σ ρ)) 114 [some (vR 41), some (vR (pc p)), some (vR (pc q)), x3, x4, some (vI tp), some (vI tq), x7] [] σ := by
  refine AW_aload_n dX1_meet_114 rfl ?_
  refine AW_aload_n dX1_meet_115 rfl ?_
  refine AW_iload dX1_meet_116 rfl ?_
  refine AW_callV2 (d' := d - 1) dX1_meet_118 (Or.inl lkX1_163) mfX4_bind (hT.1.cel hp) ⟨_, rfl, rfl⟩ (k_bind (q := q) hT.1 hp tp) (by omega) (Nat.le_of_ble_eq_true rfl) ?_
  rintro _ _ ⟨rfl, rfl⟩ -
  obtain ⟨hT1, hF1⟩ := hT.bnd hp q tp
  have hS1 := hF1.sta hS
  generalize upI (upI (upI (upR σ (pc p) 4 (pc q)) (pc p) 6 0) (pc p) 7 tp) (pc p) 8 0 = σ1 at hT1 hF1 hS1 ⊢
  refine AW_aload_n dX1_meet_121 rfl ?_
  refine AW_aload_n dX1_meet_122 rfl ?_
  refine AW_iload dX1_meet_123 rfl ?_
  refine AW_callV2 (d' := d - 1) dX1_meet_125 (Or.inl lkX1_163) mfX4_bind (hT1.1.cel hq) ⟨_, rfl, rfl⟩ (k_bind (q := p) hT1.1 hq tq) (by omega) (Nat.le_of_ble_eq_true rfl) ?_
  rintro _ _ ⟨rfl, rfl⟩ -
  obtain ⟨hT2, hF2⟩ := hT1.bnd hq p tq
  have hS2 := hF2.sta hS1
  generalize upI (upI (upI (upR σ1 (pc q) 4 (pc p)) (pc q) 6 0) (pc q) 7 tq) (pc q) 8 0 = σ2 at hT2 hF2 hS2 ⊢
  refine AW_aload_n dX1_meet_128 rfl ?_
  refine AW_getR (a := 47) dX1_meet_129 gfX1_28 (hS2.cel rfl) (hS2.rf rfl) ?_
  refine AW_iconst dX1_meet_132 ?_
  refine AW_dup2 dX1_meet_133 ?_
  refine AW_ialdK 2 dX1_meet_134 (hS2.cel rfl) (by decide) ?_
  refine AW_iconst dX1_meet_135 ?_
  rw [hT2.2.1 2 (by decide)]
  refine AW_iadd dX1_meet_136 ?_
  refine AW_iastK 2 dX1_meet_137 (hS2.cel rfl) (by decide) ?_
  refine AW_vret dX1_meet_138 rfl ?_
  exact ⟨rfl, hT2.tal 2 _, (hF1.tr hF2).ul (by decide) _ _⟩
theorem k_meet {G : Gt} {d : Nat} {σ : St} (hd : 6 ≤ d) {D : Mk} {Ws : Nat → Wy} {n : Nat} {pc : Nat → Nat} {w : Tw} (hS : Sta σ) (hC : CtC D Ws σ) (hT : TwC n pc w σ) {p : Nat} (hw : WFP D n w.1) (hp : p < n) (h99 : 0 ≤ w.2.1 0 ∧ w.2.1 0 ≤ 99) {q : Nat} (hq : q < n) (h0 : w.1 0 p = 0) (h1 : w.1 0 q = 1)  : AM mX1_meet G d 0 0 [vR 41, vR (pc p), vR (pc q)] σ (fun ro ρ => ro = none ∧ TwC n pc (meetS D Ws w p q) ρ ∧ Fz σ ρ) := by
  refine AM.intro (by decide +kernel) (by simp [nLg]) (Nat.le_of_ble_eq_true rfl) (fun hO => ?_)
  show AW _ _ _ _ _ _ 0 [some (vR 41), some (vR (pc p)), some (vR (pc q)), none, none, none, none, none] [] σ
  have hw1 := wf_in hC.2.1 hw hp hq
  have hw2 := wf_in hC.2.1 hw hq hp
  have m99 : 0 ≤ (mtW D w).2.1 0 ∧ (mtW D w).2.1 0 ≤ 99 := by rw [mt_t0]; exact h99
  have e3 : (mtW D w).2.1 3 = w.2.1 3 := by
    show setT w.2.1 1 (wr (w.2.1 1 + 1)) 3 = _
    exact setT_o _ _ (by decide)
  refine AW_aload_n dX1_meet_0 rfl ?_
  refine AW_getR (a := 47) dX1_meet_1 gfX1_28 (hS.cel rfl) (hS.rf rfl) ?_
  refine AW_iconst dX1_meet_4 ?_
  refine AW_dup2 dX1_meet_5 ?_
  refine AW_ialdK 1 dX1_meet_6 (hS.cel rfl) (by decide) ?_
  refine AW_iconst dX1_meet_7 ?_
  rw [hT.2.1 1 (by decide)]
  refine AW_iadd dX1_meet_8 ?_
  refine AW_iastK 1 dX1_meet_9 (hS.cel rfl) (by decide) ?_
  have hT1 := hT.tal 1 (wr (w.2.1 1 + 1))
  have hF1 : Fz σ (upI σ 47 1 (wr (w.2.1 1 + 1))) := Fz.rf.ul (by decide) _ _
  have hS1 := hF1.sta hS
  have hC1 := hC.fz hF1 hS
  generalize upI σ 47 1 (wr (w.2.1 1 + 1)) = σ1 at hT1 hF1 hS1 hC1 ⊢
  refine AW_aload_n dX1_meet_10 rfl ?_
  refine AW_aload_n dX1_meet_11 rfl ?_
  refine AW_aload_n dX1_meet_12 rfl ?_
  refine AW_callV2 (d' := d - 1) dX1_meet_13 (Or.inl lkX1_112) mfX1_worthFor (hS1.cel rfl) ⟨_, rfl, rfl⟩ (k_worthFor (P := w.1) (by omega) hS1 hC1.1 hC1.2.1 hT1.1 hw hp hq (by rw [h0, h1]; rfl)) (by omega) (Nat.le_of_ble_eq_true rfl) ?_
  rintro _ _ ⟨e_, rfl⟩ -
  rw [e_]
  clear e_
  refine AW_aload_n dX1_meet_16 rfl ?_
  refine AW_callV0 (d' := d - 1) dX1_meet_17 (Or.inl lkX1_156) mfX1_error (hS1.cel rfl) ⟨_, rfl, rfl⟩ (k_error (by omega) hS1 hC1 hT1) (by omega) (Nat.le_of_ble_eq_true rfl) ?_
  rintro _ ρ2 ⟨rfl, hT2, hG2, hb2, hB2⟩ -
  have hS2 := hG2.sta hS1
  have hC2 := hC1.fz hG2.z hS1
  refine AW_iaddE dX1_meet_20 (by omega) (by omega) ?_
  refine AW_istore3 dX1_meet_21 ?_
  refine AW_aload_n dX1_meet_22 rfl ?_
  refine AW_aload_n dX1_meet_23 rfl ?_
  refine AW_aload_n dX1_meet_24 rfl ?_
  refine AW_callV2 (d' := d - 1) dX1_meet_25 (Or.inl lkX1_112) mfX1_worthFor (hS2.cel rfl) ⟨_, rfl, rfl⟩ (k_worthFor (P := w.1) (by omega) hS2 hC2.1 hC2.2.1 hT2.1 hw hq hp (by rw [h0, h1]; rfl)) (by omega) (Nat.le_of_ble_eq_true rfl) ?_
  rintro _ _ ⟨e_, rfl⟩ -
  rw [e_]
  clear e_
  refine AW_aload_n dX1_meet_28 rfl ?_
  refine AW_callV0 (d' := d - 1) dX1_meet_29 (Or.inl lkX1_156) mfX1_error (hS2.cel rfl) ⟨_, rfl, rfl⟩ (k_error (by omega) hS2 hC2 hT2) (by omega) (Nat.le_of_ble_eq_true rfl) ?_
  rintro _ ρ3 ⟨rfl, hT3, hG3, hb3, hB3⟩ -
  have hS3 := hG3.sta hS2
  have hC3 := hC2.fz hG3.z hS2
  replace hT3 : TwC n pc (mtW D w) ρ3 := hT3
  refine AW_iaddE dX1_meet_32 (by omega) (by omega) ?_
  refine AW_istore4 dX1_meet_33 ?_
  refine AW_aload_n dX1_meet_35 rfl ?_
  refine AW_aload_n dX1_meet_36 rfl ?_
  refine AW_callV1 (d' := d - 1) dX1_meet_37 (Or.inl lkX1_105) mfX1_takeOf (hS3.cel rfl) ⟨_, rfl, rfl⟩ (k_takeOf (by omega) hS3 hC3 hT3 hw hp m99) (by omega) (Nat.le_of_ble_eq_true rfl) ?_
  rintro _ ρ4 ⟨rfl, hG4⟩ -
  have hT4 := hT3.fr hG4
  have hS4 := hG4.sta hS3
  have hC4 := hC3.fz hG4.z hS3
  refine AW_istore5 dX1_meet_40 ?_
  refine AW_iload_n dX1_meet_42 rfl ?_
  refine AW_iload dX1_meet_43 rfl ?_
  refine AW_icmp_ge (tgt := 49) dX1_meet_45 (by decide) (fun c_45 => ?_) (fun c_45 => ?_)
  · skip
    have c45 : ¬ mtH D w p q < takeS D Ws (mtW D w) p := Int.not_lt.mpr c_45
    refine AW_aload_n dX1_meet_49 rfl ?_
    refine AW_aload_n dX1_meet_50 rfl ?_
    refine AW_callV1 (d' := d - 1) dX1_meet_51 (Or.inl lkX1_105) mfX1_takeOf (hS4.cel rfl) ⟨_, rfl, rfl⟩ (k_takeOf (by omega) hS4 hC4 hT4 hw hq m99) (by omega) (Nat.le_of_ble_eq_true rfl) ?_
    rintro _ ρ5 ⟨rfl, hG5⟩ -
    have hT5 := hT4.fr hG5
    have hS5 := hG5.sta hS4
    have hC5 := hC4.fz hG5.z hS4
    refine AW_istore6 dX1_meet_54 ?_
    refine AW_aload_n dX1_meet_56 rfl ?_
    refine AW_getR (a := orf pc (w.1 3 q)) dX1_meet_57 gfX1_95 (hT5.1.cel hq) (hT5.1.own hq) ?_
    refine AW_astore7 dX1_meet_60 ?_
    refine AW_aload dX1_meet_62 rfl ?_
    refine AW_ifnonnull (tgt := 75) dX1_meet_64 (by decide) (fun c_64 => ?_) (fun c_64 => ?_)
    · skip
      have hn3 : ¬ w.1 3 q = -1 := fun e => c_64 (by rw [e, orf_m])
      obtain ⟨_, eo, ho⟩ := hT5.1.o0 hw hq hn3
      replace ho : (w.1 3 q).toNat < n := ho
      have ho2 : w.1 0 (w.1 3 q).toNat = 1 - 1 := by rw [(own_lt hw hq hn3).2.1, h1]
      replace eo : orf pc (w.1 3 q) = pc (w.1 3 q).toNat := eo
      rw [eo]
      refine AW_aload_n dX1_meet_75 rfl ?_
      refine AW_aload_n dX1_meet_76 rfl ?_
      refine AW_aload dX1_meet_77 rfl ?_
      refine AW_iload dX1_meet_79 rfl ?_
      refine AW_callV3 (d' := d - 1) dX1_meet_81 (Or.inl lkX1_159) mfX1_isTempted (hS5.cel rfl) ⟨_, rfl, rfl⟩ (k_tempted (by omega) hS5 hC5 hT5 hw hq m99 ho (by show w.1 0 (w.1 3 q).toNat = 1 - w.1 0 q; rw [h1]; exact ho2) _) (by omega) (Nat.le_of_ble_eq_true rfl) ?_
      rintro _ ρ6 ⟨rfl, hG6⟩ -
      have hT6 := hT5.fr hG6
      have hS6 := hG6.sta hS5
      have hC6 := hC5.fz hG6.z hS5
      refine AW_if_ne (tgt := 88) dX1_meet_84 (by decide) (fun c_84 => ?_) (fun c_84 => ?_)
      · skip
        replace c_84 := bz1 c_84
        replace c_84 : temptB D Ws (mtW D w) q (w.1 3 q).toNat (mtS D w p q) = true := c_84
        refine AW_aload dX1_meet_88 rfl ?_
        refine AW_callV0 (d' := d - 1) dX1_meet_90 (Or.inl lkX1_143) mfX4_free (hT6.1.cel ho) ⟨_, rfl, rfl⟩ (k_free hT6.1 ho) (by omega) (Nat.le_of_ble_eq_true rfl) ?_
        rintro _ _ ⟨rfl, rfl⟩ -
        obtain ⟨hT7, hF7⟩ := hT6.fre ho
        have hS7 := hF7.sta hS6
        have hC7 := hC6.fz hF7 hS6
        generalize upI (upR ρ6 (pc (w.1 3 q).toNat) 4 0) (pc (w.1 3 q).toNat) 6 0 = σ7 at hT7 hF7 hS7 hC7 ⊢
        refine AW_aload dX1_meet_93 rfl ?_
        refine AW_dup dX1_meet_95 ?_
        refine AW_getI dX1_meet_96 gfX1_116 (hT7.1.cel ho) ?_
        refine AW_iconst dX1_meet_99 ?_
        have e8 : σ7.2.1 (pc (w.1 3 q).toNat) 9 = w.1 8 (w.1 3 q).toNat := (hT7.1.v8 ho).trans (fre_f w.1 (w.1 3 q).toNat 8 (w.1 3 q).toNat (by decide) (by decide))
        rw [e8]
        refine AW_iadd dX1_meet_100 ?_
        refine AW_putI dX1_meet_101 (Or.inr (Or.inr pfX1_116)) (hT7.1.cel ho) ?_
        have hT8 := hT7.uI ho 8 (wr (w.1 8 (w.1 3 q).toNat + 1))
        have hF8 : Fz σ7 (upI σ7 (pc (w.1 3 q).toNat) 9 (wr (w.1 8 (w.1 3 q).toNat + 1))) := Fz.rf.uI (hT7.1.cel ho) _ _
        have hS8 := hF8.sta hS7
        have hC8 := hC7.fz hF8 hS7
        generalize upI σ7 (pc (w.1 3 q).toNat) 9 (wr (w.1 8 (w.1 3 q).toNat + 1)) = σ8 at hT8 hF8 hS8 hC8 ⊢
        refine AW_aload_n dX1_meet_104 rfl ?_
        refine AW_getR (a := 47) dX1_meet_105 gfX1_28 (hS8.cel rfl) (hS8.rf rfl) ?_
        refine AW_iconst dX1_meet_108 ?_
        refine AW_dup2 dX1_meet_109 ?_
        refine AW_ialdK 3 dX1_meet_110 (hS8.cel rfl) (by decide) ?_
        refine AW_iconst dX1_meet_111 ?_
        rw [show σ8.2.1 47 3 = w.2.1 3 from (hT8.2.1 3 (by decide)).trans e3]
        refine AW_iadd dX1_meet_112 ?_
        refine AW_iastK 3 dX1_meet_113 (hS8.cel rfl) (by decide) ?_
        first
        | (refine AW_mq (fun r τ q => ⟨q.1, ?_, (((((hF1.tr hG2.z).tr hG3.z).tr hG4.z).tr hG5.z).tr q.2.2)⟩) (l_meet3 (by omega) hS5 hT5 hp hq)
           unfold meetS
           rw [if_neg c45, if_pos hn3, if_neg c71]
           exact q.2.1)
        | (have hT9 := hT8.tal 3 (wr (w.2.1 3 + 1))
           have hF9 : Fz σ8 (upI σ8 47 3 (wr (w.2.1 3 + 1))) := Fz.rf.ul (by decide) _ _
           have hS9 := hF9.sta hS8
           refine AW_mq (fun r τ q => ⟨q.1, ?_, ((((((((hF1.tr hG2.z).tr hG3.z).tr hG4.z).tr hG5.z).tr hG6.z).tr hF7).tr hF8).tr hF9).tr q.2.2⟩) (l_meet3 (by omega) hS9 hT9 hp hq)
           unfold meetS
           rw [if_neg c45, if_neg hn3, if_pos c_84]
           have q2 := q.2.1
           unfold leftS
           rw [e3]
           exact q2)
      · skip
        replace c_84 := bz0 c_84
        replace c_84 : ¬ temptB D Ws (mtW D w) q (w.1 3 q).toNat (mtS D w p q) = true := c_84
        refine AW_vret dX1_meet_87 rfl ?_
        unfold meetS
        rw [if_neg c45, if_neg hn3, if_neg c_84]
        exact ⟨rfl, hT6, ((((hF1.tr hG2.z).tr hG3.z).tr hG4.z).tr hG5.z).tr hG6.z⟩
    · skip
      have hn3 : w.1 3 q = -1 := hT5.1.o1 hw hq c_64
      refine AW_iload dX1_meet_67 rfl ?_
      refine AW_iload dX1_meet_69 rfl ?_
      refine AW_icmp_ge (tgt := 114) dX1_meet_71 (by decide) (fun c_71 => ?_) (fun c_71 => ?_)
      · skip
        have c71 : ¬ mtS D w p q < takeS D Ws (mtW D w) q := Int.not_lt.mpr c_71
        first
        | (refine AW_mq (fun r τ q => ⟨q.1, ?_, (((((hF1.tr hG2.z).tr hG3.z).tr hG4.z).tr hG5.z).tr q.2.2)⟩) (l_meet3 (by omega) hS5 hT5 hp hq)
           unfold meetS
           rw [if_neg c45, if_pos hn3, if_neg c71]
           exact q.2.1)
        | (have hT9 := hT8.tal 3 (wr (w.2.1 3 + 1))
           have hF9 : Fz σ8 (upI σ8 47 3 (wr (w.2.1 3 + 1))) := Fz.rf.ul (by decide) _ _
           have hS9 := hF9.sta hS8
           refine AW_mq (fun r τ q => ⟨q.1, ?_, ((((((((hF1.tr hG2.z).tr hG3.z).tr hG4.z).tr hG5.z).tr hG6.z).tr hF7).tr hF8).tr hF9).tr q.2.2⟩) (l_meet3 (by omega) hS9 hT9 hp hq)
           unfold meetS
           rw [if_neg c45, if_neg hn3, if_pos c_84]
           have q2 := q.2.1
           unfold leftS
           rw [e3]
           exact q2)
      · skip
        have c71 : mtS D w p q < takeS D Ws (mtW D w) q := Int.not_le.mp c_71
        refine AW_vret dX1_meet_74 rfl ?_
        unfold meetS
        rw [if_neg c45, if_pos hn3, if_pos c71]
        exact ⟨rfl, hT5, (((hF1.tr hG2.z).tr hG3.z).tr hG4.z).tr hG5.z⟩
  · skip
    have c45 : mtH D w p q < takeS D Ws (mtW D w) p := Int.not_le.mp c_45
    refine AW_vret dX1_meet_48 rfl ?_
    unfold meetS
    rw [if_pos c45]
    exact ⟨rfl, hT4, ((hF1.tr hG2.z).tr hG3.z).tr hG4.z⟩
