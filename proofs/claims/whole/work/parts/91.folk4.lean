def goR (D : Mk) (Ws : Nat → Wy) (w : Tw) (p : Nat) (T : Option Nat) : Tw := match T with
  | none => goW w
  | some q => meetS D Ws (goW w) p q
theorem goS_e (D : Mk) (Ws : Nat → Wy) (n : Nat) (w : Tw) (p : Nat) : goS D Ws n w p = if cntT D w.1 n = 0 then w else goR D Ws w p (pick D w.1 n 0 (drw (nxz w.2.2) (cntT D w.1 n : Int))) := rfl
theorem l_go2 {G : Gt} {d : Nat} {σ : St} {D : Mk} {Ws : Nat → Wy} {n : Nat} {pc : Nat → Nat} {w : Tw} {p : Nat} {b : Int} (hd : 7 ≤ d) (hS : Sta σ) (hC : CtC D Ws σ) (hw : WFP D n w.1) (hp : p < n) (h0 : w.1 0 p = 0) (h99 : 0 ≤ w.2.1 0 ∧ w.2.1 0 ≤ 99) (hb : b = if D 4 5 = 1 then 1 else 0) (hT : TwC n pc (goW w) σ) {T : Option Nat} {x3 : Option AV} : ∀ (nn : Nat) (m i : Nat) (k : Int) (x6 : Option AV), m < nn → i + m = n → 0 ≤ k → k ≤ 1000 → pick D w.1 m i k = T →  AW mX1_goOut G d 0 0 (mq G (fun ro ρ => ro = none ∧ TwC n pc (goR D Ws w p T) ρ ∧ Fz σ ρ)) 83 [some (vR 41), some (vR (pc p)), some (vI b), x3, some (vI k), some (vI (i : Int)), x6] [] σ := by
  intro nn
  induction nn with
  | zero => intros; omega
  | succ nn ih =>
    intro m i k x6 hn hi hk0 hk hT2
    have hn40 := hw.1
    refine AW_iload dX1_goOut_83 rfl ?_
    refine AW_aload_n dX1_goOut_85 rfl ?_
    refine AW_getR (a := 46) dX1_goOut_86 gfX1_25 (hS.cel rfl) (hS.rf rfl) ?_
    refine AW_callV0 (d' := d - 1) dX1_goOut_89 (Or.inl lkX1_47) mfJx4a65c_size_8abf5 (hS.cel rfl) ⟨_, rfl, rfl⟩ (k_ALsize (hS.cel rfl)) (by omega) (Nat.le_of_ble_eq_true rfl) ?_
    rintro _ _ ⟨e_, rfl⟩ -
    rw [e_]
    clear e_
    rw [hT.1.1.1]
    refine AW_icmp_ge (tgt := 140) dX1_goOut_92 (by decide) (fun c_92 => ?_) (fun c_92 => ?_)
    · skip
      have hm : m = 0 := by omega
      subst hm
      rw [pick_0] at hT2
      subst hT2
      refine AW_vret dX1_goOut_140 rfl ?_
      exact ⟨rfl, hT, Fz.rf⟩
    · skip
      obtain ⟨m1, rfl⟩ : ∃ m1, m = m1 + 1 := ⟨m - 1, by omega⟩
      rw [pick_s] at hT2
      obtain ⟨ea, N, e1, e2, e3, e4⟩ := hT.1.ls (show i < n by omega)
      refine AW_aload_n dX1_goOut_95 rfl ?_
      refine AW_getR (a := 46) dX1_goOut_96 gfX1_25 (hS.cel rfl) (hS.rf rfl) ?_
      refine AW_iload dX1_goOut_99 rfl ?_
      refine AW_callV1 (d' := d - 1) dX1_goOut_101 (Or.inl lkX1_59) mfJx4a65c_get_915e3 (hS.cel rfl) ⟨_, rfl, rfl⟩ (k_ALget (by omega) (hS.cel rfl) e1 e2 _ (by omega) (by omega) (by rw [hT.1.1.1]; omega)) (by omega) (Nat.le_of_ble_eq_true rfl) ?_
      rintro _ _ ⟨e_, rfl⟩ -
      rw [e_]
      clear e_
      rw [Int.toNat_natCast, e4 i (by omega)]
      refine AW_cast dX1_goOut_104 (hT.1.cel (show i < n by omega)) ⟨_, rfl, cl_P⟩ ?_
      refine AW_astore6 dX1_goOut_107 ?_
      refine AW_aload dX1_goOut_109 rfl ?_
      refine AW_iload_n dX1_goOut_111 rfl ?_
      refine AW_callS2 (d' := d - 1) dX1_goOut_112 lkX1_146 mfX1_isThere (k_isThere (P := w.1) (by omega) hT.1 hw (show i < n by omega) b hb) (by omega) (Nat.le_of_ble_eq_true rfl) ?_
      rintro _ _ ⟨e_, rfl⟩ -
      rw [e_]
      clear e_
      refine AW_if_eq (tgt := 134) dX1_goOut_115 (by decide) (fun c_115 => ?_) (fun c_115 => ?_)
      · skip
        replace c_115 := bz0 c_115
        rw [if_neg c_115] at hT2
        have hk2 := hk0
        refine AW_iincE5 dX1_goOut_134 (by omega) (by omega) ?_
        refine AW_goto (tgt := 83) dX1_goOut_137 (by decide) ?_
        rw [show (i : Int) + 1 = ((i + 1 : Nat) : Int) by omega]
        exact ih m1 (i + 1) _ _ (by omega) (by omega) hk2 (by omega) hT2
      · skip
        replace c_115 := bz1 c_115
        rw [if_pos c_115] at hT2
        refine AW_iload dX1_goOut_118 rfl ?_
        refine AW_if_ne (tgt := 131) dX1_goOut_120 (by decide) (fun c_120 => ?_) (fun c_120 => ?_)
        · skip
          rw [if_neg c_120] at hT2
          have hk2 : 0 ≤ k + -1 := by omega
          refine AW_iincE4 dX1_goOut_131 (by omega) (by omega) ?_
          refine AW_iincE5 dX1_goOut_134 (by omega) (by omega) ?_
          refine AW_goto (tgt := 83) dX1_goOut_137 (by decide) ?_
          rw [show (i : Int) + 1 = ((i + 1 : Nat) : Int) by omega]
          exact ih m1 (i + 1) _ _ (by omega) (by omega) hk2 (by omega) hT2
        · skip
          have c120 : k = 0 := by omega
          rw [if_pos c120] at hT2
          subst hT2
          refine AW_aload_n dX1_goOut_123 rfl ?_
          refine AW_aload_n dX1_goOut_124 rfl ?_
          refine AW_aload dX1_goOut_125 rfl ?_
          refine AW_callV2 (d' := d - 1) dX1_goOut_127 (Or.inl lkX1_153) mfX1_meet (hS.cel rfl) ⟨_, rfl, rfl⟩ (k_meet (w := goW w) (by omega) hS hC hT hw hp h99 (show i < n by omega) h0 c_115.1) (by omega) (Nat.le_of_ble_eq_true rfl) ?_
          rintro _ ρ1 ⟨rfl, hT1, hF1⟩ -
          refine AW_vret dX1_goOut_130 rfl ?_
          exact ⟨rfl, hT1, hF1⟩
theorem l_go1 {G : Gt} {d : Nat} {σ : St} {D : Mk} {Ws : Nat → Wy} {n : Nat} {pc : Nat → Nat} {w : Tw} {p : Nat} {b : Int} (hd : 7 ≤ d) (hS : Sta σ) (hC : CtC D Ws σ) (hw : WFP D n w.1) (hp : p < n) (h0 : w.1 0 p = 0) (h99 : 0 ≤ w.2.1 0 ∧ w.2.1 0 ≤ 99) (hb : b = if D 4 5 = 1 then 1 else 0) (hT : TwC n pc w σ) {x5 x6 : Option AV} : ∀ (nn : Nat) (m i : Nat), m < nn → i + m = n →  AW mX1_goOut G d 0 0 (mq G (fun ro ρ => ro = none ∧ TwC n pc (goS D Ws n w p) ρ ∧ Fz σ ρ)) 23 [some (vR 41), some (vR (pc p)), some (vI b), some (vI (cntT D w.1 i : Int)), some (vI (i : Int)), x5, x6] [] σ := by
  intro nn
  induction nn with
  | zero => intros; omega
  | succ nn ih =>
    intro m i hn hi
    have hn40 := hw.1
    have hcl := cntT_le D w.1 i
    refine AW_iload dX1_goOut_23 rfl ?_
    refine AW_aload_n dX1_goOut_25 rfl ?_
    refine AW_getR (a := 46) dX1_goOut_26 gfX1_25 (hS.cel rfl) (hS.rf rfl) ?_
    refine AW_callV0 (d' := d - 1) dX1_goOut_29 (Or.inl lkX1_47) mfJx4a65c_size_8abf5 (hS.cel rfl) ⟨_, rfl, rfl⟩ (k_ALsize (hS.cel rfl)) (by omega) (Nat.le_of_ble_eq_true rfl) ?_
    rintro _ _ ⟨e_, rfl⟩ -
    rw [e_]
    clear e_
    rw [hT.1.1.1]
    refine AW_icmp_ge (tgt := 68) dX1_goOut_32 (by decide) (fun c_32 => ?_) (fun c_32 => ?_)
    · skip
      have hm : i = n := by omega
      subst hm
      refine AW_iload_n dX1_goOut_68 rfl ?_
      refine AW_if_ne (tgt := 73) dX1_goOut_69 (by decide) (fun c_69 => ?_) (fun c_69 => ?_)
      · skip
        refine AW_aload_n dX1_goOut_73 rfl ?_
        refine AW_iload_n dX1_goOut_74 rfl ?_
        refine AW_callV1 (d' := d - 1) dX1_goOut_75 (Or.inl lkX1_150) mfX1_draw (hS.cel rfl) ⟨_, rfl, rfl⟩ (k_draw hS hT _ (by omega)) (by omega) (Nat.le_of_ble_eq_true rfl) ?_
        rintro _ ρ1 ⟨rfl, hT1, hG1⟩ -
        have hdr := drw_in (nxz w.2.2) (m := (cntT D w.1 i : Int)) (by omega)
        have hS1 := hG1.sta hS
        have hC1 := hC.fz hG1.z hS
        refine AW_istore4 dX1_goOut_78 ?_
        refine AW_iconst dX1_goOut_80 ?_
        refine AW_istore5 dX1_goOut_81 ?_
        rw [goS_e, if_neg (by omega)]
        exact AW_mq (fun r τ q => ⟨q.1, q.2.1, hG1.z.tr q.2.2⟩) (l_go2 hd hS1 hC1 hw hp h0 h99 hb hT1 (i + 1) i 0 _ _ (by omega) (by omega) hdr.1 (by omega) rfl)
      · skip
        refine AW_vret dX1_goOut_72 rfl ?_
        rw [goS_e, if_pos (by omega)]
        exact ⟨rfl, hT, Fz.rf⟩
    · skip
      obtain ⟨m1, rfl⟩ : ∃ m1, m = m1 + 1 := ⟨m - 1, by omega⟩
      obtain ⟨ea, N, e1, e2, e3, e4⟩ := hT.1.ls (show i < n by omega)
      refine AW_iload_n dX1_goOut_35 rfl ?_
      refine AW_aload_n dX1_goOut_36 rfl ?_
      refine AW_getR (a := 46) dX1_goOut_37 gfX1_25 (hS.cel rfl) (hS.rf rfl) ?_
      refine AW_iload dX1_goOut_40 rfl ?_
      refine AW_callV1 (d' := d - 1) dX1_goOut_42 (Or.inl lkX1_59) mfJx4a65c_get_915e3 (hS.cel rfl) ⟨_, rfl, rfl⟩ (k_ALget (by omega) (hS.cel rfl) e1 e2 _ (by omega) (by omega) (by rw [hT.1.1.1]; omega)) (by omega) (Nat.le_of_ble_eq_true rfl) ?_
      rintro _ _ ⟨e_, rfl⟩ -
      rw [e_]
      clear e_
      rw [Int.toNat_natCast, e4 i (by omega)]
      refine AW_cast dX1_goOut_45 (hT.1.cel (show i < n by omega)) ⟨_, rfl, cl_P⟩ ?_
      refine AW_iload_n dX1_goOut_48 rfl ?_
      refine AW_callS2 (d' := d - 1) dX1_goOut_49 lkX1_146 mfX1_isThere (k_isThere (by omega) hT.1 hw (show i < n by omega) b hb) (by omega) (Nat.le_of_ble_eq_true rfl) ?_
      rintro _ _ ⟨e_, rfl⟩ -
      rw [e_]
      clear e_
      refine AW_if_eq (tgt := 59) dX1_goOut_52 (by decide) (fun c_52 => ?_) (fun c_52 => ?_)
      · skip
        replace c_52 := bz0 c_52
        have hcs : (cntT D w.1 i : Int) + 0 = (cntT D w.1 (i + 1) : Int) := by rw [cntT_s, if_neg c_52]; omega
        refine AW_iconst dX1_goOut_59 ?_
        refine AW_iaddE dX1_goOut_60 (by omega) (by omega) ?_
        refine AW_istore3 dX1_goOut_61 ?_
        refine AW_iincE4 dX1_goOut_62 (by omega) (by omega) ?_
        refine AW_goto (tgt := 23) dX1_goOut_65 (by decide) ?_
        rw [show (i : Int) + 1 = ((i + 1 : Nat) : Int) by omega, hcs]
        exact ih m1 (i + 1) (by omega) (by omega)
      · skip
        replace c_52 := bz1 c_52
        have hcs : (cntT D w.1 i : Int) + 1 = (cntT D w.1 (i + 1) : Int) := by rw [cntT_s, if_pos c_52]; omega
        refine AW_iconst dX1_goOut_55 ?_
        refine AW_goto (tgt := 60) dX1_goOut_56 (by decide) ?_
        refine AW_iaddE dX1_goOut_60 (by omega) (by omega) ?_
        refine AW_istore3 dX1_goOut_61 ?_
        refine AW_iincE4 dX1_goOut_62 (by omega) (by omega) ?_
        refine AW_goto (tgt := 23) dX1_goOut_65 (by decide) ?_
        rw [show (i : Int) + 1 = ((i + 1 : Nat) : Int) by omega, hcs]
        exact ih m1 (i + 1) (by omega) (by omega)
theorem k_goOut {G : Gt} {d : Nat} {σ : St} (hd : 7 ≤ d) {D : Mk} {Ws : Nat → Wy} {n : Nat} {pc : Nat → Nat} {w : Tw} (hS : Sta σ) (hC : CtC D Ws σ) (hT : TwC n pc w σ) {p : Nat} (hw : WFP D n w.1) (hp : p < n) (h99 : 0 ≤ w.2.1 0 ∧ w.2.1 0 ≤ 99) (h0 : w.1 0 p = 0)  : AM mX1_goOut G d 0 0 [vR 41, vR (pc p)] σ (fun ro ρ => ro = none ∧ TwC n pc (goS D Ws n w p) ρ ∧ Fz σ ρ) := by
  refine AM.intro (by decide +kernel) (by simp [nLg]) (Nat.le_of_ble_eq_true rfl) (fun hO => ?_)
  show AW _ _ _ _ _ _ 0 [some (vR 41), some (vR (pc p)), none, none, none, none, none] [] σ
  refine AW_aload_n dX1_goOut_0 rfl ?_
  refine AW_getR (a := 17) dX1_goOut_1 gfX1_32 (hS.cel rfl) (hS.rf rfl) ?_
  refine AW_iconst dX1_goOut_4 ?_
  refine AW_callV1 (d' := d - 1) dX1_goOut_5 (Or.inl lkX1_136) mfX3_setting (hS.cel rfl) ⟨_, rfl, rfl⟩ (k_setK 5 (by decide) hS hC.1) (by omega) (Nat.le_of_ble_eq_true rfl) ?_
  rintro _ _ ⟨e_, rfl⟩ -
  rw [e_]
  clear e_
  refine AW_iconst dX1_goOut_8 ?_
  refine AW_icmp_ne (tgt := 16) dX1_goOut_9 (by decide) (fun c_9 => ?_) (fun c_9 => ?_)
  · skip
    have hb : (0 : Int) = if D 4 5 = 1 then 1 else 0 := by rw [if_neg c_9]
    refine AW_iconst dX1_goOut_16 ?_
    refine AW_istore2 dX1_goOut_17 ?_
    refine AW_iconst dX1_goOut_18 ?_
    refine AW_istore3 dX1_goOut_19 ?_
    refine AW_iconst dX1_goOut_20 ?_
    refine AW_istore4 dX1_goOut_21 ?_
    exact l_go1 hd hS hC hw hp h0 h99 hb hT (n + 1) n 0 (by omega) (by omega)
  · skip
    have hb : (1 : Int) = if D 4 5 = 1 then 1 else 0 := by rw [if_pos (by omega)]
    refine AW_iconst dX1_goOut_12 ?_
    refine AW_goto (tgt := 17) dX1_goOut_13 (by decide) ?_
    refine AW_istore2 dX1_goOut_17 ?_
    refine AW_iconst dX1_goOut_18 ?_
    refine AW_istore3 dX1_goOut_19 ?_
    refine AW_iconst dX1_goOut_20 ?_
    refine AW_istore4 dX1_goOut_21 ?_
    exact l_go1 hd hS hC hw hp h0 h99 hb hT (n + 1) n 0 (by omega) (by omega)
theorem pt_9 (P : Pe) {p q : Nat} (h : p ≠ q) : setP (freP (freP P p) q) 9 p (wr (P 9 p + 1)) 9 q = P 9 q := by
  rw [setP_p _ _ _ _ (Ne.symm h), fre_f _ _ _ _ (by decide) (by decide), fre_f _ _ _ _ (by decide) (by decide)]
theorem k_lookAgain {G : Gt} {d : Nat} {σ : St} (hd : 3 ≤ d) {D : Mk} {Ws : Nat → Wy} {n : Nat} {pc : Nat → Nat} {w : Tw} (hS : Sta σ) (hC : CtC D Ws σ) (hT : TwC n pc w σ) {p q : Nat} (hw : WFP D n w.1) (hp : p < n) (hq : q < n) (hs : w.1 0 q = 1 - w.1 0 p)  : AM mX1_lookAgain G d 0 0 [vR 41, vR (pc p), vR (pc q)] σ (fun ro ρ => ro = none ∧ TwC n pc (if lkC D w.1 p then lkS D w p q else w) ρ ∧ Fz σ ρ) := by
  refine AM.intro (by decide +kernel) (by simp [nLg]) (Nat.le_of_ble_eq_true rfl) (fun hO => ?_)
  show AW _ _ _ _ _ _ 0 [some (vR 41), some (vR (pc p)), some (vR (pc q))] [] σ
  have hne : p ≠ q := by
    intro e
    rw [e] at hs
    omega
  have hlkw : WFP D n (lkP w.1 p q) := (hw.set hp (f := 7) (v := 1) (by decide) (fun q => absurd q (by decide)) (fun _ => Or.inr rfl)).set hq (by decide) (fun q => absurd q (by decide)) (fun _ => Or.inr rfl)
  have hlks : lkP w.1 p q 0 q = 1 - lkP w.1 p q 0 p := by rw [lk_f _ _ _ _ _ (by decide), lk_f _ _ _ _ _ (by decide)]; exact hs
  refine AW_aload_n dX1_lookAgain_0 rfl ?_
  refine AW_getI dX1_lookAgain_1 gfX1_130 (hT.1.cel hp) ?_
  refine AW_if_ne (tgt := 22) dX1_lookAgain_4 (by decide) (fun c_4 => ?_) (fun c_4 => ?_)
  · skip
    rw [hT.1.v7 hp] at c_4
    have hno : ¬ lkC D w.1 p := fun q => c_4 q.1
    refine AW_vret dX1_lookAgain_22 rfl ?_
    rw [if_neg hno]
    exact ⟨rfl, hT, Fz.rf⟩
  · skip
    rw [hT.1.v7 hp] at c_4
    refine AW_aload_n dX1_lookAgain_7 rfl ?_
    refine AW_getI dX1_lookAgain_8 gfX1_102 (hT.1.cel hp) ?_
    refine AW_aload_n dX1_lookAgain_11 rfl ?_
    refine AW_getR (a := 17) dX1_lookAgain_12 gfX1_32 (hS.cel rfl) (hS.rf rfl) ?_
    refine AW_iconst dX1_lookAgain_15 ?_
    refine AW_callV1 (d' := d - 1) dX1_lookAgain_16 (Or.inl lkX1_136) mfX3_setting (hS.cel rfl) ⟨_, rfl, rfl⟩ (k_setK 4 (by decide) hS hC.1) (by omega) (Nat.le_of_ble_eq_true rfl) ?_
    rintro _ _ ⟨e_, rfl⟩ -
    rw [e_]
    clear e_
    refine AW_icmp_ge (tgt := 23) dX1_lookAgain_19 (by decide) (fun c_19 => ?_) (fun c_19 => ?_)
    · skip
      rw [hT.1.v5 hp] at c_19
      have hyes : lkC D w.1 p := ⟨by omega, c_19⟩
      refine AW_aload_n dX1_lookAgain_23 rfl ?_
      refine AW_iconst dX1_lookAgain_24 ?_
      refine AW_putZ dX1_lookAgain_25 (Or.inr (Or.inr pfX1_130)) (hT.1.cel hp) (by decide) ?_
      refine AW_aload_n dX1_lookAgain_28 rfl ?_
      refine AW_iconst dX1_lookAgain_29 ?_
      refine AW_putZ dX1_lookAgain_30 (Or.inr (Or.inr pfX1_130)) ((hT.1.uI hp 7 1).cel hq) (by decide) ?_
      have hT1 := (hT.uI hp 7 1).uI hq 7 1
      have hF1 : Fz σ (upI (upI σ (pc p) 8 1) (pc q) 8 1) := (Fz.rf.uI (hT.1.cel hp) _ _).uI ((hT.1.uI hp 7 1).cel hq) _ _
      have hS1 := hF1.sta hS
      have hC1 := hC.fz hF1 hS
      generalize upI (upI σ (pc p) 8 1) (pc q) 8 1 = σ1 at hT1 hF1 hS1 hC1 ⊢
      replace hT1 : TwC n pc (lkP w.1 p q, w.2.1, w.2.2) σ1 := hT1
      refine AW_aload_n dX1_lookAgain_33 rfl ?_
      refine AW_aload_n dX1_lookAgain_34 rfl ?_
      refine AW_aload_n dX1_lookAgain_35 rfl ?_
      refine AW_callV2 (d' := d - 1) dX1_lookAgain_36 (Or.inl lkX1_112) mfX1_worthFor (hS1.cel rfl) ⟨_, rfl, rfl⟩ (k_worthFor (P := lkP w.1 p q) (by omega) hS1 hC1.1 hC1.2.1 hT1.1 hlkw hp hq hlks) (by omega) (Nat.le_of_ble_eq_true rfl) ?_
      rintro _ _ ⟨e_, rfl⟩ -
      rw [e_]
      clear e_
      rw [wf_lk]
      refine AW_aload_n dX1_lookAgain_39 rfl ?_
      refine AW_getI dX1_lookAgain_40 gfX1_140 (hT1.1.cel hp) ?_
      refine AW_icmp_lt (tgt := 59) dX1_lookAgain_43 (by decide) (fun c_43 => ?_) (fun c_43 => ?_)
      · skip
        rw [show σ1.2.1 (pc p) 7 = w.1 6 p from (hT1.1.v6 hp).trans (lk_f w.1 p q 6 p (by decide))] at c_43
        have hor : wf D w.1 p q < w.1 6 p ∨ wf D w.1 q p < w.1 6 q := Or.inl c_43
        refine AW_aload_n dX1_lookAgain_59 rfl ?_
        refine AW_callV0 (d' := d - 1) dX1_lookAgain_60 (Or.inl lkX1_143) mfX4_free (hT1.1.cel hp) ⟨_, rfl, rfl⟩ (k_free hT1.1 hp) (by omega) (Nat.le_of_ble_eq_true rfl) ?_
        rintro _ _ ⟨rfl, rfl⟩ -
        obtain ⟨hT2, hF2⟩ := hT1.fre hp
        have hS2 := hF2.sta hS1
        have hC2 := hC1.fz hF2 hS1
        generalize upI (upR σ1 (pc p) 4 0) (pc p) 6 0 = σ2 at hT2 hF2 hS2 hC2 ⊢
        refine AW_aload_n dX1_lookAgain_63 rfl ?_
        refine AW_callV0 (d' := d - 1) dX1_lookAgain_64 (Or.inl lkX1_143) mfX4_free (hT2.1.cel hq) ⟨_, rfl, rfl⟩ (k_free hT2.1 hq) (by omega) (Nat.le_of_ble_eq_true rfl) ?_
        rintro _ _ ⟨rfl, rfl⟩ -
        obtain ⟨hT3, hF3⟩ := hT2.fre hq
        have hS3 := hF3.sta hS2
        have hC3 := hC2.fz hF3 hS2
        generalize upI (upR σ2 (pc q) 4 0) (pc q) 6 0 = σ3 at hT3 hF3 hS3 hC3 ⊢
        refine AW_aload_n dX1_lookAgain_67 rfl ?_
        refine AW_dup dX1_lookAgain_68 ?_
        refine AW_getI dX1_lookAgain_69 gfX1_119 (hT3.1.cel hp) ?_
        refine AW_iconst dX1_lookAgain_72 ?_
        have e9 : σ3.2.1 (pc p) 10 = w.1 9 p := ((hT3.1.v9 hp).trans ((fre_f (freP (lkP w.1 p q) p) q 9 p (by decide) (by decide)).trans (fre_f (lkP w.1 p q) p 9 p (by decide) (by decide)))).trans (lk_f w.1 p q 9 p (by decide))
        rw [e9]
        refine AW_iadd dX1_lookAgain_73 ?_
        refine AW_putI dX1_lookAgain_74 (Or.inr (Or.inr pfX1_119)) (hT3.1.cel hp) ?_
        have hT4 := hT3.uI hp 9 (wr (w.1 9 p + 1))
        have hF4 : Fz σ3 (upI σ3 (pc p) 10 (wr (w.1 9 p + 1))) := Fz.rf.uI (hT3.1.cel hp) _ _
        have hS4 := hF4.sta hS3
        have hC4 := hC3.fz hF4 hS3
        generalize upI σ3 (pc p) 10 (wr (w.1 9 p + 1)) = σ4 at hT4 hF4 hS4 hC4 ⊢
        refine AW_aload_n dX1_lookAgain_77 rfl ?_
        refine AW_dup dX1_lookAgain_78 ?_
        refine AW_getI dX1_lookAgain_79 gfX1_119 (hT4.1.cel hq) ?_
        refine AW_iconst dX1_lookAgain_82 ?_
        have e10 : σ4.2.1 (pc q) 10 = w.1 9 q := (hT4.1.v9 hq).trans (by
          have := pt_9 (lkP w.1 p q) hne
          rw [lk_f w.1 p q 9 p (by decide), lk_f w.1 p q 9 q (by decide)] at this
          exact this)
        rw [e10]
        refine AW_iadd dX1_lookAgain_83 ?_
        refine AW_putI dX1_lookAgain_84 (Or.inr (Or.inr pfX1_119)) (hT4.1.cel hq) ?_
        have hT5 := hT4.uI hq 9 (wr (w.1 9 q + 1))
        have hF5 : Fz σ4 (upI σ4 (pc q) 10 (wr (w.1 9 q + 1))) := Fz.rf.uI (hT4.1.cel hq) _ _
        have hS5 := hF5.sta hS4
        have hC5 := hC4.fz hF5 hS4
        generalize upI σ4 (pc q) 10 (wr (w.1 9 q + 1)) = σ5 at hT5 hF5 hS5 hC5 ⊢
        refine AW_aload_n dX1_lookAgain_87 rfl ?_
        refine AW_getR (a := 47) dX1_lookAgain_88 gfX1_28 (hS5.cel rfl) (hS5.rf rfl) ?_
        refine AW_iconst dX1_lookAgain_91 ?_
        refine AW_dup2 dX1_lookAgain_92 ?_
        refine AW_ialdK 4 dX1_lookAgain_93 (hS5.cel rfl) (by decide) ?_
        refine AW_iconst dX1_lookAgain_94 ?_
        rw [hT5.2.1 4 (by decide)]
        refine AW_iadd dX1_lookAgain_95 ?_
        refine AW_iastK 4 dX1_lookAgain_96 (hS5.cel rfl) (by decide) ?_
        refine AW_vret dX1_lookAgain_97 rfl ?_
        rw [if_pos hyes]
        unfold lkS
        first
        | (rw [if_neg hnor]; exact ⟨rfl, hT1, hF1⟩)
        | (rw [if_pos hor]
           refine ⟨rfl, ?_, (((((hF1.tr hF2).tr hF3).tr hF4).tr hF5).ul (by decide) _ _)⟩
           have h9 := hT5.tal 4 (wr (w.2.1 4 + 1))
           unfold ptP
           rw [lk_f w.1 p q 9 p (by decide), lk_f w.1 p q 9 q (by decide)]
           exact h9)
      · skip
        rw [show σ1.2.1 (pc p) 7 = w.1 6 p from (hT1.1.v6 hp).trans (lk_f w.1 p q 6 p (by decide))] at c_43
        refine AW_aload_n dX1_lookAgain_46 rfl ?_
        refine AW_aload_n dX1_lookAgain_47 rfl ?_
        refine AW_aload_n dX1_lookAgain_48 rfl ?_
        refine AW_callV2 (d' := d - 1) dX1_lookAgain_49 (Or.inl lkX1_112) mfX1_worthFor (hS1.cel rfl) ⟨_, rfl, rfl⟩ (k_worthFor (P := lkP w.1 p q) (by omega) hS1 hC1.1 hC1.2.1 hT1.1 hlkw hq hp (by omega)) (by omega) (Nat.le_of_ble_eq_true rfl) ?_
        rintro _ _ ⟨e_, rfl⟩ -
        rw [e_]
        clear e_
        rw [wf_lk]
        refine AW_aload_n dX1_lookAgain_52 rfl ?_
        refine AW_getI dX1_lookAgain_53 gfX1_140 (hT1.1.cel hq) ?_
        refine AW_icmp_ge (tgt := 97) dX1_lookAgain_56 (by decide) (fun c_56 => ?_) (fun c_56 => ?_)
        · skip
          rw [show σ1.2.1 (pc q) 7 = w.1 6 q from (hT1.1.v6 hq).trans (lk_f w.1 p q 6 q (by decide))] at c_56
          have hnor : ¬ (wf D w.1 p q < w.1 6 p ∨ wf D w.1 q p < w.1 6 q) := by omega
          refine AW_vret dX1_lookAgain_97 rfl ?_
          rw [if_pos hyes]
          unfold lkS
          first
          | (rw [if_neg hnor]; exact ⟨rfl, hT1, hF1⟩)
          | (rw [if_pos hor]
             refine ⟨rfl, ?_, (((((hF1.tr hF2).tr hF3).tr hF4).tr hF5).ul (by decide) _ _)⟩
             have h9 := hT5.tal 4 (wr (w.2.1 4 + 1))
             unfold ptP
             rw [lk_f w.1 p q 9 p (by decide), lk_f w.1 p q 9 q (by decide)]
             exact h9)
        · skip
          rw [show σ1.2.1 (pc q) 7 = w.1 6 q from (hT1.1.v6 hq).trans (lk_f w.1 p q 6 q (by decide))] at c_56
          have hor : wf D w.1 p q < w.1 6 p ∨ wf D w.1 q p < w.1 6 q := Or.inr (by omega)
          refine AW_aload_n dX1_lookAgain_59 rfl ?_
          refine AW_callV0 (d' := d - 1) dX1_lookAgain_60 (Or.inl lkX1_143) mfX4_free (hT1.1.cel hp) ⟨_, rfl, rfl⟩ (k_free hT1.1 hp) (by omega) (Nat.le_of_ble_eq_true rfl) ?_
          rintro _ _ ⟨rfl, rfl⟩ -
          obtain ⟨hT2, hF2⟩ := hT1.fre hp
          have hS2 := hF2.sta hS1
          have hC2 := hC1.fz hF2 hS1
          generalize upI (upR σ1 (pc p) 4 0) (pc p) 6 0 = σ2 at hT2 hF2 hS2 hC2 ⊢
          refine AW_aload_n dX1_lookAgain_63 rfl ?_
          refine AW_callV0 (d' := d - 1) dX1_lookAgain_64 (Or.inl lkX1_143) mfX4_free (hT2.1.cel hq) ⟨_, rfl, rfl⟩ (k_free hT2.1 hq) (by omega) (Nat.le_of_ble_eq_true rfl) ?_
          rintro _ _ ⟨rfl, rfl⟩ -
          obtain ⟨hT3, hF3⟩ := hT2.fre hq
          have hS3 := hF3.sta hS2
          have hC3 := hC2.fz hF3 hS2
          generalize upI (upR σ2 (pc q) 4 0) (pc q) 6 0 = σ3 at hT3 hF3 hS3 hC3 ⊢
          refine AW_aload_n dX1_lookAgain_67 rfl ?_
          refine AW_dup dX1_lookAgain_68 ?_
          refine AW_getI dX1_lookAgain_69 gfX1_119 (hT3.1.cel hp) ?_
          refine AW_iconst dX1_lookAgain_72 ?_
          have e9 : σ3.2.1 (pc p) 10 = w.1 9 p := ((hT3.1.v9 hp).trans ((fre_f (freP (lkP w.1 p q) p) q 9 p (by decide) (by decide)).trans (fre_f (lkP w.1 p q) p 9 p (by decide) (by decide)))).trans (lk_f w.1 p q 9 p (by decide))
          rw [e9]
          refine AW_iadd dX1_lookAgain_73 ?_
          refine AW_putI dX1_lookAgain_74 (Or.inr (Or.inr pfX1_119)) (hT3.1.cel hp) ?_
          have hT4 := hT3.uI hp 9 (wr (w.1 9 p + 1))
          have hF4 : Fz σ3 (upI σ3 (pc p) 10 (wr (w.1 9 p + 1))) := Fz.rf.uI (hT3.1.cel hp) _ _
          have hS4 := hF4.sta hS3
          have hC4 := hC3.fz hF4 hS3
          generalize upI σ3 (pc p) 10 (wr (w.1 9 p + 1)) = σ4 at hT4 hF4 hS4 hC4 ⊢
          refine AW_aload_n dX1_lookAgain_77 rfl ?_
          refine AW_dup dX1_lookAgain_78 ?_
          refine AW_getI dX1_lookAgain_79 gfX1_119 (hT4.1.cel hq) ?_
          refine AW_iconst dX1_lookAgain_82 ?_
          have e10 : σ4.2.1 (pc q) 10 = w.1 9 q := (hT4.1.v9 hq).trans (by
            have := pt_9 (lkP w.1 p q) hne
            rw [lk_f w.1 p q 9 p (by decide), lk_f w.1 p q 9 q (by decide)] at this
            exact this)
          rw [e10]
          refine AW_iadd dX1_lookAgain_83 ?_
          refine AW_putI dX1_lookAgain_84 (Or.inr (Or.inr pfX1_119)) (hT4.1.cel hq) ?_
          have hT5 := hT4.uI hq 9 (wr (w.1 9 q + 1))
          have hF5 : Fz σ4 (upI σ4 (pc q) 10 (wr (w.1 9 q + 1))) := Fz.rf.uI (hT4.1.cel hq) _ _
          have hS5 := hF5.sta hS4
          have hC5 := hC4.fz hF5 hS4
          generalize upI σ4 (pc q) 10 (wr (w.1 9 q + 1)) = σ5 at hT5 hF5 hS5 hC5 ⊢
          refine AW_aload_n dX1_lookAgain_87 rfl ?_
          refine AW_getR (a := 47) dX1_lookAgain_88 gfX1_28 (hS5.cel rfl) (hS5.rf rfl) ?_
          refine AW_iconst dX1_lookAgain_91 ?_
          refine AW_dup2 dX1_lookAgain_92 ?_
          refine AW_ialdK 4 dX1_lookAgain_93 (hS5.cel rfl) (by decide) ?_
          refine AW_iconst dX1_lookAgain_94 ?_
          rw [hT5.2.1 4 (by decide)]
          refine AW_iadd dX1_lookAgain_95 ?_
          refine AW_iastK 4 dX1_lookAgain_96 (hS5.cel rfl) (by decide) ?_
          refine AW_vret dX1_lookAgain_97 rfl ?_
          rw [if_pos hyes]
          unfold lkS
          first
          | (rw [if_neg hnor]; exact ⟨rfl, hT1, hF1⟩)
          | (rw [if_pos hor]
             refine ⟨rfl, ?_, (((((hF1.tr hF2).tr hF3).tr hF4).tr hF5).ul (by decide) _ _)⟩
             have h9 := hT5.tal 4 (wr (w.2.1 4 + 1))
             unfold ptP
             rw [lk_f w.1 p q 9 p (by decide), lk_f w.1 p q 9 q (by decide)]
             exact h9)
    · skip
      rw [hT.1.v5 hp] at c_19
      have hno : ¬ lkC D w.1 p := fun q => c_19 q.2
      refine AW_vret dX1_lookAgain_22 rfl ?_
      rw [if_neg hno]
      exact ⟨rfl, hT, Fz.rf⟩
