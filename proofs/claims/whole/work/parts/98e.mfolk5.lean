theorem ln_pm {G : Gt} {d : Nat} {σ : St} {D : Mk} {n : Nat} {w : Tw} (hS : Sta σ) (hT : TwM n w σ) (hw : WFP D n w.1) : ∀ (nn : Nat) (m i : Nat), m < nn → i + m = n →  AW mX12_pairMany G d 0 0 (mq G (fun ro ρ => ρ = σ ∧ ro = some (vI (prs w.1 n : Int)))) 4 [some (vR 94), some (vI (prs w.1 i : Int)), some (vI (i : Int))] [] σ := by
  intro nn
  induction nn with
  | zero => intros; omega
  | succ nn ih =>
    intro m i hn hi
    have hn40 := hw.1
    have hcl := prs_le w.1 i
    have h42 := hT.2.1
    refine AW_iload_n dX12_pairMany_4 rfl ?_
    refine AW_aload_n dX12_pairMany_5 rfl ?_
    refine AW_getI dX12_pairMany_6 gfX12_153 (hS.cel rfl) ?_
    refine AW_icmp_ge (tgt := 41) dX12_pairMany_9 (by decide) (fun c_9 => ?_) (fun c_9 => ?_)
    · skip
      have hm : i = n := by omega
      subst hm
      refine AW_iload_n dX12_pairMany_41 rfl ?_
      refine AW_iret dX12_pairMany_42 rfl ?_
      exact ⟨rfl, rfl⟩
    · skip
      obtain ⟨m1, rfl⟩ : ∃ m1, m = m1 + 1 := ⟨m - 1, by omega⟩
      have i40 : i < 40 := by omega
      refine AW_aload_n dX12_pairMany_12 rfl ?_
      refine AW_getR (a := 113) dX12_pairMany_13 gfX12_80 (hS.cel rfl) (hS.rf rfl) ?_
      refine AW_iload_n dX12_pairMany_16 rfl ?_
      refine AW_iald dX12_pairMany_17 (hS.cel rfl) (by omega) (by omega) ?_
      refine AW_if_ne (tgt := 35) dX12_pairMany_18 (by decide) (fun c_18 => ?_) (fun c_18 => ?_)
      · skip
        rw [Int.toNat_natCast, hT.v0 i40] at c_18
        have hcs : (prs w.1 i : Int) = (prs w.1 (i + 1) : Int) := by rw [prs_s, if_neg (fun q => c_18 q.1)]; omega
        refine AW_iincE2 dX12_pairMany_35 (by omega) (by omega) ?_
        refine AW_goto (tgt := 4) dX12_pairMany_38 (by decide) ?_
        rw [show (i : Int) + 1 = ((i + 1 : Nat) : Int) by omega, hcs]
        exact ih m1 (i + 1) (by omega) (by omega)
      · skip
        rw [Int.toNat_natCast, hT.v0 i40] at c_18
        refine AW_aload_n dX12_pairMany_21 rfl ?_
        refine AW_getR (a := 116) dX12_pairMany_22 gfX12_89 (hS.cel rfl) (hS.rf rfl) ?_
        refine AW_iload_n dX12_pairMany_25 rfl ?_
        refine AW_iald dX12_pairMany_26 (hS.cel rfl) (by omega) (by omega) ?_
        refine AW_iconst dX12_pairMany_27 ?_
        refine AW_icmp_eq (tgt := 35) dX12_pairMany_28 (by decide) (fun c_28 => ?_) (fun c_28 => ?_)
        · skip
          rw [Int.toNat_natCast, hT.v3 i40] at c_28
          have hcs : (prs w.1 i : Int) = (prs w.1 (i + 1) : Int) := by rw [prs_s, if_neg (fun q => q.2 c_28)]; omega
          refine AW_iincE2 dX12_pairMany_35 (by omega) (by omega) ?_
          refine AW_goto (tgt := 4) dX12_pairMany_38 (by decide) ?_
          rw [show (i : Int) + 1 = ((i + 1 : Nat) : Int) by omega, hcs]
          exact ih m1 (i + 1) (by omega) (by omega)
        · skip
          rw [Int.toNat_natCast, hT.v3 i40] at c_28
          have hcs : (prs w.1 i : Int) + 1 = (prs w.1 (i + 1) : Int) := by rw [prs_s, if_pos ⟨by omega, c_28⟩]; omega
          refine AW_iload_n dX12_pairMany_31 rfl ?_
          refine AW_iconst dX12_pairMany_32 ?_
          refine AW_iaddE dX12_pairMany_33 (by omega) (by omega) ?_
          refine AW_istore1 dX12_pairMany_34 ?_
          refine AW_iincE2 dX12_pairMany_35 (by omega) (by omega) ?_
          refine AW_goto (tgt := 4) dX12_pairMany_38 (by decide) ?_
          rw [show (i : Int) + 1 = ((i + 1 : Nat) : Int) by omega, hcs]
          exact ih m1 (i + 1) (by omega) (by omega)
theorem n_pm {G : Gt} {d : Nat} {σ : St}  {D : Mk} {n : Nat} {w : Tw} (hS : Sta σ) (hT : TwM n w σ) (hw : WFP D n w.1)  : AM mX12_pairMany G d 0 0 [vR 94] σ (fun ro ρ => ρ = σ ∧ ro = some (vI (prs w.1 n : Int))) := by
  refine AM.intro (by decide +kernel) (by simp [nLg]) (Nat.le_of_ble_eq_true rfl) (fun hO => ?_)
  show AW _ _ _ _ _ _ 0 [some (vR 94), none, none] [] σ
  refine AW_iconst dX12_pairMany_0 ?_
  refine AW_istore1 dX12_pairMany_1 ?_
  refine AW_iconst dX12_pairMany_2 ?_
  refine AW_istore2 dX12_pairMany_3 ?_
  exact ln_pm hS hT hw (n + 1) n 0 (by omega) (by omega)
theorem ln_wk {G : Gt} {d : Nat} {σ : St} {D : Mk} {Ws : Nat → Wy} {n : Nat} {W : Tw} {k : Nat} (hd : 8 ≤ d) (hS0 : Sta σ) (hk : k ≤ 20) : ∀ (nn : Nat) (m i : Nat) (w : Tw) (τ : St), m < nn → i + m = k → WFP D n w.1 → 0 ≤ w.2.1 0 ∧ w.2.1 0 + m ≤ 99 → CtM D Ws τ → TwM n w τ → Fm [18, 53, 54, 55, 56, 57, 58, 61] [102, 113, 114, 115, 116, 117, 118, 119, 120, 121, 122, 123, 124] σ τ → weeksS D Ws n m w = W →  AW mX12_weeks G d 0 0 (mq G (fun ro ρ => ro = some (vI (prs W.1 n : Int)) ∧ TwM n W ρ ∧ CtM D Ws ρ ∧ Fm [18, 53, 54, 55, 56, 57, 58, 61] [102, 113, 114, 115, 116, 117, 118, 119, 120, 121, 122, 123, 124] σ ρ)) 31 [some (vR 94), some (vI (k : Int)), some (vI (i : Int))] [] τ := by
  intro nn
  induction nn with
  | zero => intros; omega
  | succ nn ih =>
    intro m i w τ hn hi hw h99 hC hT hF hW
    have hS := hF.sta hS0
    refine AW_iload_n dX12_weeks_31 rfl ?_
    refine AW_iload_n dX12_weeks_32 rfl ?_
    refine AW_icmp_ge (tgt := 46) dX12_weeks_33 (by decide) (fun c_33 => ?_) (fun c_33 => ?_)
    · skip
      have hm : m = 0 := by omega
      subst hm
      rw [weeksS_0] at hW
      subst hW
      refine AW_aload_n dX12_weeks_46 rfl ?_
      refine AW_callV0 (d' := d - 1) dX12_weeks_47 (Or.inl lkX12_374) mfX12_pairMany (hS.cel rfl) ⟨_, rfl, rfl⟩ (n_pm hS hT hw) (by omega) (Nat.le_of_ble_eq_true rfl) ?_
      rintro _ _ ⟨rfl, rfl⟩ -
      refine AW_iret dX12_weeks_50 rfl ?_
      exact ⟨rfl, hT, hC, hF⟩
    · skip
      obtain ⟨m1, rfl⟩ : ∃ m1, m = m1 + 1 := ⟨m - 1, by omega⟩
      rw [weeksS_s] at hW
      refine AW_aload_n dX12_weeks_36 rfl ?_
      refine AW_callV0 (d' := d - 1) dX12_weeks_37 (Or.inl lkX12_371) mfX12_goesBy (hS.cel rfl) ⟨_, rfl, rfl⟩ (n_gb (by omega) hS hC hT hw (by omega)) (by omega) (Nat.le_of_ble_eq_true rfl) ?_
      rintro _ ρ1 ⟨rfl, hT1, hC1, hF1⟩ -
      refine AW_iincE2 dX12_weeks_40 (by omega) (by omega) ?_
      refine AW_goto (tgt := 31) dX12_weeks_43 (by decide) ?_
      rw [show (i : Int) + 1 = ((i + 1 : Nat) : Int) by omega]
      exact ih m1 (i + 1) _ ρ1 (by omega) (by omega) hw.week (by rw [week_t0, wr_id (by omega) (by omega)]; omega) hC1 hT1 (hF.tr hF1) hW
theorem m_weeks {G : Gt} {d : Nat} {σ : St} (hd : 8 ≤ d) {D : Mk} {Ws : Nat → Wy} {n : Nat} {w : Tw} (hS : Sta σ) (hC : CtM D Ws σ) (hT : TwM n w σ) (hw : WFP D n w.1) (h99 : 0 ≤ w.2.1 0 ∧ w.2.1 0 ≤ 99) (k : Int)  : AM mX12_weeks G d 0 0 [vR 94, vI k] σ (fun ro ρ => ∃ z : Int, ro = some (vI z) ∧ ((¬ ((1 ≤ k ∧ k ≤ 20) ∧ w.2.1 0 + k ≤ 99) ∧ z = -1 ∧ Fm [0] [] σ ρ) ∨ (((1 ≤ k ∧ k ≤ 20) ∧ w.2.1 0 + k ≤ 99) ∧ z = (prs (weeksS D Ws n k.toNat w).1 n : Int) ∧ TwM n (weeksS D Ws n k.toNat w) ρ ∧ CtM D Ws ρ ∧ Fm [0, 18, 53, 54, 55, 56, 57, 58, 61] [102, 113, 114, 115, 116, 117, 118, 119, 120, 121, 122, 123, 124] σ ρ))) := by
  refine AM.intro (by decide +kernel) (by simp [nLg]) (Nat.le_of_ble_eq_true rfl) (fun hO => ?_)
  have i_k : -2147483648 ≤ k ∧ k < 2147483648 := hO (vI k) (by simp)
  show AW _ _ _ _ _ _ 0 [some (vR 94), some (vI k), none] [] σ
  refine AW_aload_n dX12_weeks_0 rfl ?_
  refine AW_iconst dX12_weeks_1 ?_
  refine AW_putI dX12_weeks_2 (Or.inl pfX12_142) (hS.cel rfl) ?_
  have hF1 : Fm [0] [] σ (upI σ 94 0 0) := Fm.rf.uf (by decide) _
  have hS1 : Sta (upI σ 94 0 0) := hS
  have hT1 := hT.fm hF1
  have hC1 := hC.fm hF1
  generalize upI σ 94 0 0 = σ1 at hF1 hS1 hT1 hC1 ⊢
  refine AW_aload_n dX12_weeks_5 rfl ?_
  refine AW_iload_n dX12_weeks_6 rfl ?_
  refine AW_iconst dX12_weeks_7 ?_
  refine AW_bipush dX12_weeks_8 ?_
  refine AW_callV3 (d' := d - 1) dX12_weeks_10 (Or.inl lkX12_149) mfX12_isIn (hS1.cel rfl) ⟨_, rfl, rfl⟩ (n_isIn k 1 20) (by omega) (Nat.le_of_ble_eq_true rfl) ?_
  rintro _ _ ⟨e_, rfl⟩ -
  rw [e_]
  clear e_
  refine AW_if_eq (tgt := 27) dX12_weeks_13 (by decide) (fun c_13 => ?_) (fun c_13 => ?_)
  · skip
    replace c_13 := bz0 c_13
    refine AW_iconst dX12_weeks_27 ?_
    refine AW_iret dX12_weeks_28 rfl ?_
    exact ⟨-1, rfl, Or.inl ⟨by omega, rfl, hF1⟩⟩
  · skip
    replace c_13 := bz1 c_13
    refine AW_aload_n dX12_weeks_16 rfl ?_
    refine AW_getI dX12_weeks_17 gfX12_314 (hS1.cel rfl) ?_
    refine AW_iload_n dX12_weeks_20 rfl ?_
    refine AW_iaddE dX12_weeks_21 (by rw [hT1.t0]; omega) (by rw [hT1.t0]; omega) ?_
    refine AW_bipush dX12_weeks_22 ?_
    refine AW_icmp_le (tgt := 29) dX12_weeks_24 (by decide) (fun c_24 => ?_) (fun c_24 => ?_)
    · skip
      rw [hT1.t0] at c_24
      refine AW_iconst dX12_weeks_29 ?_
      refine AW_istore2 dX12_weeks_30 ?_
      obtain ⟨kn, rfl⟩ : ∃ kn : Nat, k = (kn : Int) := ⟨k.toNat, by omega⟩
      refine AW_mq (fun r τ q => ?_) (ln_wk (n := n) (W := weeksS D Ws n kn w) hd hS1 (show kn ≤ 20 by omega) (kn + 1) kn 0 w σ1 (by omega) (by omega) hw (by omega) hC1 hT1 Fm.rf rfl)
      obtain ⟨q1, q2, q3, q4⟩ := q
      exact ⟨_, q1, Or.inr ⟨by omega, rfl, q2, q3, (hF1.mo (by decide) (by decide)).tr (q4.mo (by decide) (by decide))⟩⟩
    · skip
      rw [hT1.t0] at c_24
      refine AW_iconst dX12_weeks_27 ?_
      refine AW_iret dX12_weeks_28 rfl ?_
      exact ⟨-1, rfl, Or.inl ⟨by omega, rfl, hF1⟩⟩
theorem n_isOne {G : Gt} {d : Nat} {σ : St}  {n : Nat} {w : Tw} (hS : Sta σ) (hT : TwM n w σ) (p : Int)  : AM mX12_isOne G d 0 0 [vR 94, vI p] σ (fun r τ => τ = σ ∧ r = some (vI (if 0 ≤ p ∧ p < n then 1 else 0))) := by
  refine AM.intro (by decide +kernel) (by simp [nLg]) (Nat.le_of_ble_eq_true rfl) (fun hO => ?_)
  have i_p : -2147483648 ≤ p ∧ p < 2147483648 := hO (vI p) (by simp)
  show AW _ _ _ _ _ _ 0 [some (vR 94), some (vI p)] [] σ
  have h42 := hT.2.1
  refine AW_iload_n dX12_isOne_0 rfl ?_
  refine AW_if_lt (tgt := 16) dX12_isOne_1 (by decide) (fun c_1 => ?_) (fun c_1 => ?_)
  · skip
    refine AW_iconst dX12_isOne_16 ?_
    refine AW_zret dX12_isOne_17 rfl (by decide) ?_
    refine ⟨rfl, ?_⟩
    first | rw [if_pos (by omega)] | rw [if_neg (by omega)]
  · skip
    refine AW_iload_n dX12_isOne_4 rfl ?_
    refine AW_aload_n dX12_isOne_5 rfl ?_
    refine AW_getI dX12_isOne_6 gfX12_153 (hS.cel rfl) ?_
    refine AW_icmp_ge (tgt := 16) dX12_isOne_9 (by decide) (fun c_9 => ?_) (fun c_9 => ?_)
    · skip
      refine AW_iconst dX12_isOne_16 ?_
      refine AW_zret dX12_isOne_17 rfl (by decide) ?_
      refine ⟨rfl, ?_⟩
      first | rw [if_pos (by omega)] | rw [if_neg (by omega)]
    · skip
      refine AW_iconst dX12_isOne_12 ?_
      refine AW_goto (tgt := 17) dX12_isOne_13 (by decide) ?_
      refine AW_zret dX12_isOne_17 rfl (by decide) ?_
      refine ⟨rfl, ?_⟩
      first | rw [if_pos (by omega)] | rw [if_neg (by omega)]
theorem m_one {G : Gt} {d : Nat} {σ : St} (hd : 6 ≤ d) {D : Mk} {Ws : Nat → Wy} {n : Nat} {w : Tw} (hS : Sta σ) (hC : CtM D Ws σ) (hT : TwM n w σ) (hw : WFP D n w.1) (h99 : 0 ≤ w.2.1 0 ∧ w.2.1 0 ≤ 99) (p what : Int)  : AM mX12_one G d 0 0 [vR 94, vI p, vI what] σ (fun ro ρ => ∃ z : Int, ro = some (vI z) ∧ ((¬ ((0 ≤ p ∧ p < n) ∧ 0 ≤ what ∧ what ≤ 7) ∧ z = -10000000 ∧ Fm [0] [] σ ρ) ∨ (((0 ≤ p ∧ p < n) ∧ 0 ≤ what ∧ what ≤ 7) ∧ z = aboutV D Ws w p.toNat what ∧ TwM n w ρ ∧ CtM D Ws ρ ∧ Fm [0, 18, 61] [102, 123, 124] σ ρ))) := by
  refine AM.intro (by decide +kernel) (by simp [nLg]) (Nat.le_of_ble_eq_true rfl) (fun hO => ?_)
  have i_p : -2147483648 ≤ p ∧ p < 2147483648 := hO (vI p) (by simp)
  have i_what : -2147483648 ≤ what ∧ what < 2147483648 := hO (vI what) (by simp)
  show AW _ _ _ _ _ _ 0 [some (vR 94), some (vI p), some (vI what), none] [] σ
  have hn40 := hw.1
  have hW := hC.2.1
  refine AW_aload_n dX12_one_0 rfl ?_
  refine AW_iconst dX12_one_1 ?_
  refine AW_putI dX12_one_2 (Or.inl pfX12_142) (hS.cel rfl) ?_
  have hF1 : Fm [0] [] σ (upI σ 94 0 0) := Fm.rf.uf (by decide) _
  have hS1 : Sta (upI σ 94 0 0) := hS
  have hT1 := hT.fm hF1
  have hC1 := hC.fm hF1
  generalize upI σ 94 0 0 = σ1 at hF1 hS1 hT1 hC1 ⊢
  refine AW_aload_n dX12_one_5 rfl ?_
  refine AW_iload_n dX12_one_6 rfl ?_
  refine AW_callV1 (d' := d - 1) dX12_one_7 (Or.inl lkX12_377) mfX12_isOne (hS1.cel rfl) ⟨_, rfl, rfl⟩ (n_isOne hS1 hT1 p) (by omega) (Nat.le_of_ble_eq_true rfl) ?_
  rintro _ _ ⟨e_, rfl⟩ -
  rw [e_]
  clear e_
  refine AW_if_eq (tgt := 24) dX12_one_10 (by decide) (fun c_10 => ?_) (fun c_10 => ?_)
  · skip
    replace c_10 := bz0 c_10
    refine AW_ldc (-10000000) dX12_one_24 ctX12_186 ?_
    refine AW_iret dX12_one_26 rfl ?_
    exact ⟨_, rfl, Or.inl ⟨by omega, rfl, hF1⟩⟩
  · skip
    replace c_10 := bz1 c_10
    refine AW_aload_n dX12_one_13 rfl ?_
    refine AW_iload_n dX12_one_14 rfl ?_
    refine AW_iconst dX12_one_15 ?_
    refine AW_bipush dX12_one_16 ?_
    refine AW_callV3 (d' := d - 1) dX12_one_18 (Or.inl lkX12_149) mfX12_isIn (hS1.cel rfl) ⟨_, rfl, rfl⟩ (n_isIn what 0 7) (by omega) (Nat.le_of_ble_eq_true rfl) ?_
    rintro _ _ ⟨e_, rfl⟩ -
    rw [e_]
    clear e_
    refine AW_if_ne (tgt := 27) dX12_one_21 (by decide) (fun c_21 => ?_) (fun c_21 => ?_)
    · skip
      replace c_21 := bz1 c_21
      obtain ⟨pn, rfl⟩ : ∃ pn : Nat, p = (pn : Int) := ⟨p.toNat, by omega⟩
      have p40 : pn < 40 := by omega
      have hpn : pn < n := by omega
      refine AW_iload_n dX12_one_27 rfl ?_
      refine AW_if_ne (tgt := 38) dX12_one_28 (by decide) (fun c_28 => ?_) (fun c_28 => ?_)
      · skip
        refine AW_iload_n dX12_one_38 rfl ?_
        refine AW_iconst dX12_one_39 ?_
        refine AW_icmp_ne (tgt := 50) dX12_one_40 (by decide) (fun c_40 => ?_) (fun c_40 => ?_)
        · skip
          refine AW_iload_n dX12_one_50 rfl ?_
          refine AW_iconst dX12_one_51 ?_
          refine AW_icmp_ne (tgt := 62) dX12_one_52 (by decide) (fun c_52 => ?_) (fun c_52 => ?_)
          · skip
            refine AW_iload_n dX12_one_62 rfl ?_
            refine AW_iconst dX12_one_63 ?_
            refine AW_icmp_ne (tgt := 74) dX12_one_64 (by decide) (fun c_64 => ?_) (fun c_64 => ?_)
            · skip
              refine AW_iload_n dX12_one_74 rfl ?_
              refine AW_iconst dX12_one_75 ?_
              refine AW_icmp_ne (tgt := 99) dX12_one_76 (by decide) (fun c_76 => ?_) (fun c_76 => ?_)
              · skip
                refine AW_iload_n dX12_one_99 rfl ?_
                refine AW_iconst dX12_one_100 ?_
                refine AW_icmp_ne (tgt := 130) dX12_one_101 (by decide) (fun c_101 => ?_) (fun c_101 => ?_)
                · skip
                  refine AW_iload_n dX12_one_130 rfl ?_
                  refine AW_bipush dX12_one_131 ?_
                  refine AW_icmp_ne (tgt := 145) dX12_one_133 (by decide) (fun c_133 => ?_) (fun c_133 => ?_)
                  · skip
                    refine AW_aload_n dX12_one_145 rfl ?_
                    refine AW_getR (a := 122) dX12_one_146 gfX12_108 (hS1.cel rfl) (hS1.rf rfl) ?_
                    refine AW_iload_n dX12_one_149 rfl ?_
                    refine AW_iald dX12_one_150 (hS1.cel rfl) (by omega) (by omega) ?_
                    refine AW_iret dX12_one_151 rfl ?_
                    first
                    | (refine ⟨_, rfl, Or.inr ⟨by omega, ?_, hT1, hC1, hF1.mo (by decide) (by decide)⟩⟩
                       (try rw [Int.toNat_natCast])
                       unfold aboutV
                       rw [if_neg (by omega), if_neg (by omega), if_neg (by omega), if_neg (by omega), if_neg (by omega), if_neg (by omega), if_pos (by omega)]
                       rw [hT1.v8 p40])
                    | (refine ⟨_, rfl, Or.inr ⟨by omega, ?_, hT1, hC1, hF1.mo (by decide) (by decide)⟩⟩
                       (try rw [Int.toNat_natCast])
                       unfold aboutV
                       rw [if_neg (by omega), if_neg (by omega), if_neg (by omega), if_neg (by omega), if_neg (by omega), if_neg (by omega), if_neg (by omega)]
                       rw [hT1.v9 p40])
                  · skip
                    refine AW_aload_n dX12_one_136 rfl ?_
                    refine AW_getR (a := 121) dX12_one_137 gfX12_105 (hS1.cel rfl) (hS1.rf rfl) ?_
                    refine AW_iload_n dX12_one_140 rfl ?_
                    refine AW_iald dX12_one_141 (hS1.cel rfl) (by omega) (by omega) ?_
                    refine AW_goto (tgt := 151) dX12_one_142 (by decide) ?_
                    refine AW_iret dX12_one_151 rfl ?_
                    first
                    | (refine ⟨_, rfl, Or.inr ⟨by omega, ?_, hT1, hC1, hF1.mo (by decide) (by decide)⟩⟩
                       (try rw [Int.toNat_natCast])
                       unfold aboutV
                       rw [if_neg (by omega), if_neg (by omega), if_neg (by omega), if_neg (by omega), if_neg (by omega), if_neg (by omega), if_pos (by omega)]
                       rw [hT1.v8 p40])
                    | (refine ⟨_, rfl, Or.inr ⟨by omega, ?_, hT1, hC1, hF1.mo (by decide) (by decide)⟩⟩
                       (try rw [Int.toNat_natCast])
                       unfold aboutV
                       rw [if_neg (by omega), if_neg (by omega), if_neg (by omega), if_neg (by omega), if_neg (by omega), if_neg (by omega), if_neg (by omega)]
                       rw [hT1.v9 p40])
                · skip
                  refine AW_aload_n dX12_one_104 rfl ?_
                  refine AW_getR (a := 116) dX12_one_105 gfX12_89 (hS1.cel rfl) (hS1.rf rfl) ?_
                  refine AW_iload_n dX12_one_108 rfl ?_
                  refine AW_iald dX12_one_109 (hS1.cel rfl) (by omega) (by omega) ?_
                  refine AW_iconst dX12_one_110 ?_
                  refine AW_icmp_ne (tgt := 118) dX12_one_111 (by decide) (fun c_111 => ?_) (fun c_111 => ?_)
                  · skip
                    rw [Int.toNat_natCast, hT1.v3 p40] at c_111
                    have ho := own_lt hw hpn c_111
                    refine AW_aload_n dX12_one_118 rfl ?_
                    refine AW_iload_n dX12_one_119 rfl ?_
                    refine AW_aload_n dX12_one_120 rfl ?_
                    refine AW_getR (a := 116) dX12_one_121 gfX12_89 (hS1.cel rfl) (hS1.rf rfl) ?_
                    refine AW_iload_n dX12_one_124 rfl ?_
                    refine AW_iald dX12_one_125 (hS1.cel rfl) (by omega) (by omega) ?_
                    rw [Int.toNat_natCast, hT1.v3 p40, ho.2.2]
                    refine AW_callV2 (d' := d - 1) dX12_one_126 (Or.inl lkX12_331) mfX12_worthFor (hS1.cel rfl) ⟨_, rfl, rfl⟩ (n_wf (by omega) hS1 hC1.1 hW hT1 hw hpn ho.1) (by omega) (Nat.le_of_ble_eq_true rfl) ?_
                    rintro _ _ ⟨e_, rfl⟩ -
                    rw [e_]
                    clear e_
                    refine AW_iret dX12_one_129 rfl ?_
                    refine ⟨_, rfl, Or.inr ⟨by omega, ?_, hT1, hC1, hF1.mo (by decide) (by decide)⟩⟩
                    (try rw [Int.toNat_natCast])
                    unfold aboutV
                    rw [if_neg (by omega), if_neg (by omega), if_neg (by omega), if_neg (by omega), if_neg (by omega), if_pos (by omega)]
                    first | (rw [if_pos (by omega)]; done) | (rw [if_neg c_111]; done)
                  · skip
                    rw [Int.toNat_natCast, hT1.v3 p40] at c_111
                    refine AW_iconst dX12_one_114 ?_
                    refine AW_goto (tgt := 129) dX12_one_115 (by decide) ?_
                    refine AW_iret dX12_one_129 rfl ?_
                    refine ⟨_, rfl, Or.inr ⟨by omega, ?_, hT1, hC1, hF1.mo (by decide) (by decide)⟩⟩
                    (try rw [Int.toNat_natCast])
                    unfold aboutV
                    rw [if_neg (by omega), if_neg (by omega), if_neg (by omega), if_neg (by omega), if_neg (by omega), if_pos (by omega)]
                    first | (rw [if_pos (by omega)]; done) | (rw [if_neg c_111]; done)
              · skip
                refine AW_aload_n dX12_one_79 rfl ?_
                refine AW_iload_n dX12_one_80 rfl ?_
                refine AW_iconst dX12_one_81 ?_
                refine AW_callV2 (d' := d - 1) dX12_one_82 (Or.inl lkX12_355) mfX12_saysOf (hS1.cel rfl) ⟨_, rfl, rfl⟩ (n_says1 (by omega) hS1 hC1 hT1 hw hpn h99) (by omega) (Nat.le_of_ble_eq_true rfl) ?_
                rintro _ ρ2 ⟨rfl, h61, hC2, hT2, hG2⟩ -
                have hS2 := hG2.sta hS1
                have hF2 : Fm [0, 18, 61] [102, 123, 124] σ ρ2 := (hF1.mo (by decide) (by decide)).tr (hG2.mo (by decide) (by decide))
                refine AW_istore3 dX12_one_85 ?_
                refine AW_aload_n dX12_one_86 rfl ?_
                refine AW_getI dX12_one_87 gfX12_320 (hS2.cel rfl) ?_
                refine AW_if_eq (tgt := 97) dX12_one_90 (by decide) (fun c_90 => ?_) (fun c_90 => ?_)
                · skip
                  rw [h61] at c_90
                  refine AW_iconst dX12_one_97 ?_
                  refine AW_iret dX12_one_98 rfl ?_
                  refine ⟨_, rfl, Or.inr ⟨by omega, ?_, hT2, hC2, hF2⟩⟩
                  (try rw [Int.toNat_natCast])
                  unfold aboutV
                  rw [if_neg (by omega), if_neg (by omega), if_neg (by omega), if_neg (by omega), if_pos (by omega)]
                  cases hs : sy D Ws w pn 257 with
                  | none => first | rfl | (rw [hs] at c_90; exact absurd rfl c_90)
                  | some v => first | rfl | (rw [hs] at c_90; exact absurd c_90 (show ¬ (1 : Int) = 0 by decide))
                · skip
                  rw [h61] at c_90
                  refine AW_iload_n dX12_one_93 rfl ?_
                  refine AW_goto (tgt := 98) dX12_one_94 (by decide) ?_
                  refine AW_iret dX12_one_98 rfl ?_
                  refine ⟨_, rfl, Or.inr ⟨by omega, ?_, hT2, hC2, hF2⟩⟩
                  (try rw [Int.toNat_natCast])
                  unfold aboutV
                  rw [if_neg (by omega), if_neg (by omega), if_neg (by omega), if_neg (by omega), if_pos (by omega)]
                  cases hs : sy D Ws w pn 257 with
                  | none => first | rfl | (rw [hs] at c_90; exact absurd rfl c_90)
                  | some v => first | rfl | (rw [hs] at c_90; exact absurd c_90 (show ¬ (1 : Int) = 0 by decide))
            · skip
              refine AW_aload_n dX12_one_67 rfl ?_
              refine AW_iload_n dX12_one_68 rfl ?_
              refine AW_iconst dX12_one_69 ?_
              refine AW_callV2 (d' := d - 1) dX12_one_70 (Or.inl lkX12_355) mfX12_saysOf (hS1.cel rfl) ⟨_, rfl, rfl⟩ (n_says0 (by omega) hS1 hC1 hT1 hw hpn h99) (by omega) (Nat.le_of_ble_eq_true rfl) ?_
              rintro _ ρ2 ⟨rfl, hC2, hT2, hG2⟩ -
              have hF2 : Fm [0, 18, 61] [102, 123, 124] σ ρ2 := (hF1.mo (by decide) (by decide)).tr (hG2.mo (by decide) (by decide))
              refine AW_iret dX12_one_73 rfl ?_
              refine ⟨_, rfl, Or.inr ⟨by omega, ?_, hT2, hC2, hF2⟩⟩
              (try rw [Int.toNat_natCast])
              unfold aboutV
              rw [if_neg (by omega), if_neg (by omega), if_neg (by omega), if_pos (by omega)]
              
          · skip
            refine AW_aload_n dX12_one_55 rfl ?_
            refine AW_getR (a := 118) dX12_one_56 gfX12_95 (hS1.cel rfl) (hS1.rf rfl) ?_
            refine AW_iload_n dX12_one_59 rfl ?_
            refine AW_iald dX12_one_60 (hS1.cel rfl) (by omega) (by omega) ?_
            refine AW_iret dX12_one_61 rfl ?_
            refine ⟨_, rfl, Or.inr ⟨by omega, ?_, hT1, hC1, hF1.mo (by decide) (by decide)⟩⟩
            (try rw [Int.toNat_natCast])
            unfold aboutV
            rw [if_neg (by omega), if_neg (by omega), if_pos (by omega)]
            rw [hT1.v5 p40]
        · skip
          refine AW_aload_n dX12_one_43 rfl ?_
          refine AW_getR (a := 117) dX12_one_44 gfX12_92 (hS1.cel rfl) (hS1.rf rfl) ?_
          refine AW_iload_n dX12_one_47 rfl ?_
          refine AW_iald dX12_one_48 (hS1.cel rfl) (by omega) (by omega) ?_
          refine AW_iret dX12_one_49 rfl ?_
          refine ⟨_, rfl, Or.inr ⟨by omega, ?_, hT1, hC1, hF1.mo (by decide) (by decide)⟩⟩
          (try rw [Int.toNat_natCast])
          unfold aboutV
          rw [if_neg (by omega), if_pos (by omega)]
          rw [hT1.v4 p40]
      · skip
        refine AW_aload_n dX12_one_31 rfl ?_
        refine AW_getR (a := 116) dX12_one_32 gfX12_89 (hS1.cel rfl) (hS1.rf rfl) ?_
        refine AW_iload_n dX12_one_35 rfl ?_
        refine AW_iald dX12_one_36 (hS1.cel rfl) (by omega) (by omega) ?_
        refine AW_iret dX12_one_37 rfl ?_
        refine ⟨_, rfl, Or.inr ⟨by omega, ?_, hT1, hC1, hF1.mo (by decide) (by decide)⟩⟩
        (try rw [Int.toNat_natCast])
        unfold aboutV
        rw [if_pos (by omega)]
        rw [hT1.v3 p40]
    · skip
      replace c_21 := bz0 c_21
      refine AW_ldc (-10000000) dX12_one_24 ctX12_186 ?_
      refine AW_iret dX12_one_26 rfl ?_
      exact ⟨_, rfl, Or.inl ⟨by omega, rfl, hF1⟩⟩
theorem ln_all {G : Gt} {d : Nat} {σ : St} {D : Mk} {n : Nat} {w : Tw} {side sort : Int} {what : Nat} (hS : Sta σ) (hT : TwM n w σ) (hw : WFP D n w.1) (hwh : what ≤ 3) : ∀ (nn : Nat) (m i : Nat), m < nn → i + m = n →  AW mX12_all G d 0 0 (mq G (fun ro ρ => ρ = σ ∧ ro = some (vI (allF w.1 side sort what n)))) 45 [some (vR 94), some (vI side), some (vI sort), some (vI (what : Int)), some (vI (allF w.1 side sort what i)), some (vI (i : Int))] [] σ := by
  intro nn
  induction nn with
  | zero => intros; omega
  | succ nn ih =>
    intro m i hn hi
    have hn40 := hw.1
    have h42 := hT.2.1
    have hb := fun h => allF_b w.1 side sort (what := what) h i
    refine AW_iload dX12_all_45 rfl ?_
    refine AW_aload_n dX12_all_47 rfl ?_
    refine AW_getI dX12_all_48 gfX12_153 (hS.cel rfl) ?_
    refine AW_icmp_ge (tgt := 159) dX12_all_51 (by decide) (fun c_51 => ?_) (fun c_51 => ?_)
    · skip
      have hm : i = n := by omega
      subst hm
      refine AW_iload dX12_all_159 rfl ?_
      refine AW_iret dX12_all_161 rfl ?_
      exact ⟨rfl, rfl⟩
    · skip
      obtain ⟨m1, rfl⟩ : ∃ m1, m = m1 + 1 := ⟨m - 1, by omega⟩
      have i40 : i < 40 := by omega
      refine AW_aload_n dX12_all_54 rfl ?_
      refine AW_getR (a := 113) dX12_all_55 gfX12_80 (hS.cel rfl) (hS.rf rfl) ?_
      refine AW_iload dX12_all_58 rfl ?_
      refine AW_iald dX12_all_60 (hS.cel rfl) (by omega) (by omega) ?_
      refine AW_iload_n dX12_all_61 rfl ?_
      refine AW_icmp_ne (tgt := 153) dX12_all_62 (by decide) (fun c_62 => ?_) (fun c_62 => ?_)
      · skip
        rw [Int.toNat_natCast, hT.v0 i40] at c_62
        have hse : ¬ sel w.1 side sort i := fun q => c_62 q.1
        refine AW_iincE5 dX12_all_153 (by omega) (by omega) ?_
        refine AW_goto (tgt := 45) dX12_all_156 (by decide) ?_
        rw [show (i : Int) + 1 = ((i + 1 : Nat) : Int) by omega]
        first
        | (exfalso; omega; done)
        | (rw [← allF_n hse what]; exact ih m1 (i + 1) (by omega) (by omega))
        | (rw [if_pos (by omega)] at hs; rw [← hs]; exact ih m1 (i + 1) (by omega) (by omega))
        | (rw [if_neg (by omega), if_pos (by omega), if_pos c_101] at hs; rw [← hs]; exact ih m1 (i + 1) (by omega) (by omega))
        | (rw [if_neg (by omega), if_pos (by omega), if_neg c_101, Int.add_zero] at hs; rw [← hs]; exact ih m1 (i + 1) (by omega) (by omega))
        | (rw [if_neg (by omega), if_neg (by omega), if_pos (by omega)] at hs; rw [← hs]; exact ih m1 (i + 1) (by omega) (by omega))
        | (rw [if_neg (by omega), if_neg (by omega), if_neg (by omega), if_pos (by omega)] at hs; rw [← hs]; exact ih m1 (i + 1) (by omega) (by omega))
        | (rw [if_neg (by omega), if_neg (by omega), if_neg (by omega), if_neg (by omega)] at hs; rw [← hs]; exact ih m1 (i + 1) (by omega) (by omega))
      · skip
        rw [Int.toNat_natCast, hT.v0 i40] at c_62
        refine AW_iload_n dX12_all_65 rfl ?_
        refine AW_iconst dX12_all_66 ?_
        refine AW_icmp_eq (tgt := 84) dX12_all_67 (by decide) (fun c_67 => ?_) (fun c_67 => ?_)
        · skip
          have hse : sel w.1 side sort i := ⟨by omega, Or.inl c_67⟩
          have hs := allF_s w.1 side sort what i
          rw [if_pos hse] at hs
          refine AW_iload_n dX12_all_84 rfl ?_
          refine AW_if_eq (tgt := 104) dX12_all_85 (by decide) (fun c_85 => ?_) (fun c_85 => ?_)
          · skip
            refine AW_iload dX12_all_104 rfl ?_
            refine AW_iconst dX12_all_106 ?_
            refine AW_iaddE dX12_all_107 (by have := hb (by omega); omega) (by have := hb (by omega); omega) ?_
            refine AW_istore4 dX12_all_108 ?_
            refine AW_iload_n dX12_all_110 rfl ?_
            refine AW_iconst dX12_all_111 ?_
            refine AW_icmp_ne (tgt := 127) dX12_all_112 (by decide) (fun c_112 => ?_) (fun c_112 => ?_)
            · skip
              refine AW_iload_n dX12_all_127 rfl ?_
              refine AW_iconst dX12_all_128 ?_
              refine AW_icmp_ne (tgt := 153) dX12_all_129 (by decide) (fun c_129 => ?_) (fun c_129 => ?_)
              · skip
                refine AW_iincE5 dX12_all_153 (by omega) (by omega) ?_
                refine AW_goto (tgt := 45) dX12_all_156 (by decide) ?_
                rw [show (i : Int) + 1 = ((i + 1 : Nat) : Int) by omega]
                first
                | (exfalso; omega; done)
                | (rw [← allF_n hse what]; exact ih m1 (i + 1) (by omega) (by omega))
                | (rw [if_pos (by omega)] at hs; rw [← hs]; exact ih m1 (i + 1) (by omega) (by omega))
                | (rw [if_neg (by omega), if_pos (by omega), if_pos c_101] at hs; rw [← hs]; exact ih m1 (i + 1) (by omega) (by omega))
                | (rw [if_neg (by omega), if_pos (by omega), if_neg c_101, Int.add_zero] at hs; rw [← hs]; exact ih m1 (i + 1) (by omega) (by omega))
                | (rw [if_neg (by omega), if_neg (by omega), if_pos (by omega)] at hs; rw [← hs]; exact ih m1 (i + 1) (by omega) (by omega))
                | (rw [if_neg (by omega), if_neg (by omega), if_neg (by omega), if_pos (by omega)] at hs; rw [← hs]; exact ih m1 (i + 1) (by omega) (by omega))
                | (rw [if_neg (by omega), if_neg (by omega), if_neg (by omega), if_neg (by omega)] at hs; rw [← hs]; exact ih m1 (i + 1) (by omega) (by omega))
              · skip
                first
                | (exfalso; omega; done)
                | ( skip
                    refine AW_aload_n dX12_all_132 rfl ?_
                    refine AW_getR (a := 117) dX12_all_133 gfX12_92 (hS.cel rfl) (hS.rf rfl) ?_
                    refine AW_iload dX12_all_136 rfl ?_
                    refine AW_iald dX12_all_138 (hS.cel rfl) (by omega) (by omega) ?_
                    refine AW_iload dX12_all_139 rfl ?_
                    refine AW_icmp_le (tgt := 153) dX12_all_141 (by decide) (fun c_141 => ?_) (fun c_141 => ?_)
                    · skip
                      rw [Int.toNat_natCast, hT.v4 i40] at c_141
                      refine AW_iincE5 dX12_all_153 (by omega) (by omega) ?_
                      refine AW_goto (tgt := 45) dX12_all_156 (by decide) ?_
                      rw [show (i : Int) + 1 = ((i + 1 : Nat) : Int) by omega]
                      first
                      | (exfalso; omega; done)
                      | (rw [← allF_n hse what]; exact ih m1 (i + 1) (by omega) (by omega))
                      | (rw [if_pos (by omega)] at hs; rw [← hs]; exact ih m1 (i + 1) (by omega) (by omega))
                      | (rw [if_neg (by omega), if_pos (by omega), if_pos c_101] at hs; rw [← hs]; exact ih m1 (i + 1) (by omega) (by omega))
                      | (rw [if_neg (by omega), if_pos (by omega), if_neg c_101, Int.add_zero] at hs; rw [← hs]; exact ih m1 (i + 1) (by omega) (by omega))
                      | (rw [if_neg (by omega), if_neg (by omega), if_pos (by omega)] at hs; rw [← hs]; exact ih m1 (i + 1) (by omega) (by omega))
                      | (rw [if_neg (by omega), if_neg (by omega), if_neg (by omega), if_pos (by omega)] at hs; rw [← hs]; exact ih m1 (i + 1) (by omega) (by omega))
                      | (rw [if_neg (by omega), if_neg (by omega), if_neg (by omega), if_neg (by omega)] at hs; rw [← hs]; exact ih m1 (i + 1) (by omega) (by omega))
                    · skip
                      rw [Int.toNat_natCast, hT.v4 i40] at c_141
                      refine AW_aload_n dX12_all_144 rfl ?_
                      refine AW_getR (a := 117) dX12_all_145 gfX12_92 (hS.cel rfl) (hS.rf rfl) ?_
                      refine AW_iload dX12_all_148 rfl ?_
                      refine AW_iald dX12_all_150 (hS.cel rfl) (by omega) (by omega) ?_
                      rw [Int.toNat_natCast, hT.v4 i40]
                      refine AW_istore4 dX12_all_151 ?_
                      refine AW_iincE5 dX12_all_153 (by omega) (by omega) ?_
                      refine AW_goto (tgt := 45) dX12_all_156 (by decide) ?_
                      rw [show (i : Int) + 1 = ((i + 1 : Nat) : Int) by omega]
                      first
                      | (exfalso; omega; done)
                      | (rw [← allF_n hse what]; exact ih m1 (i + 1) (by omega) (by omega))
                      | (rw [if_pos (by omega)] at hs; rw [← hs]; exact ih m1 (i + 1) (by omega) (by omega))
                      | (rw [if_neg (by omega), if_pos (by omega), if_pos c_101] at hs; rw [← hs]; exact ih m1 (i + 1) (by omega) (by omega))
                      | (rw [if_neg (by omega), if_pos (by omega), if_neg c_101, Int.add_zero] at hs; rw [← hs]; exact ih m1 (i + 1) (by omega) (by omega))
                      | (rw [if_neg (by omega), if_neg (by omega), if_pos (by omega)] at hs; rw [← hs]; exact ih m1 (i + 1) (by omega) (by omega))
                      | (rw [if_neg (by omega), if_neg (by omega), if_neg (by omega), if_pos (by omega)] at hs; rw [← hs]; exact ih m1 (i + 1) (by omega) (by omega))
                      | (rw [if_neg (by omega), if_neg (by omega), if_neg (by omega), if_neg (by omega)] at hs; rw [← hs]; exact ih m1 (i + 1) (by omega) (by omega)))
            · skip
              first
              | (exfalso; omega; done)
              | ( skip
                  refine AW_iload dX12_all_115 rfl ?_
                  refine AW_aload_n dX12_all_117 rfl ?_
                  refine AW_getR (a := 117) dX12_all_118 gfX12_92 (hS.cel rfl) (hS.rf rfl) ?_
                  refine AW_iload dX12_all_121 rfl ?_
                  refine AW_iald dX12_all_123 (hS.cel rfl) (by omega) (by omega) ?_
                  rw [Int.toNat_natCast, hT.v4 i40]
                  refine AW_iadd dX12_all_124 ?_
                  refine AW_istore4 dX12_all_125 ?_
                  refine AW_iload_n dX12_all_127 rfl ?_
                  refine AW_iconst dX12_all_128 ?_
                  refine AW_icmp_ne (tgt := 153) dX12_all_129 (by decide) (fun c_129 => ?_) (fun c_129 => ?_)
                  · skip
                    refine AW_iincE5 dX12_all_153 (by omega) (by omega) ?_
                    refine AW_goto (tgt := 45) dX12_all_156 (by decide) ?_
                    rw [show (i : Int) + 1 = ((i + 1 : Nat) : Int) by omega]
                    first
                    | (exfalso; omega; done)
                    | (rw [← allF_n hse what]; exact ih m1 (i + 1) (by omega) (by omega))
                    | (rw [if_pos (by omega)] at hs; rw [← hs]; exact ih m1 (i + 1) (by omega) (by omega))
                    | (rw [if_neg (by omega), if_pos (by omega), if_pos c_101] at hs; rw [← hs]; exact ih m1 (i + 1) (by omega) (by omega))
                    | (rw [if_neg (by omega), if_pos (by omega), if_neg c_101, Int.add_zero] at hs; rw [← hs]; exact ih m1 (i + 1) (by omega) (by omega))
                    | (rw [if_neg (by omega), if_neg (by omega), if_pos (by omega)] at hs; rw [← hs]; exact ih m1 (i + 1) (by omega) (by omega))
                    | (rw [if_neg (by omega), if_neg (by omega), if_neg (by omega), if_pos (by omega)] at hs; rw [← hs]; exact ih m1 (i + 1) (by omega) (by omega))
                    | (rw [if_neg (by omega), if_neg (by omega), if_neg (by omega), if_neg (by omega)] at hs; rw [← hs]; exact ih m1 (i + 1) (by omega) (by omega))
                  · skip
                    first
                    | (exfalso; omega; done)
                    | ( skip
                        refine AW_aload_n dX12_all_132 rfl ?_
                        refine AW_getR (a := 117) dX12_all_133 gfX12_92 (hS.cel rfl) (hS.rf rfl) ?_
                        refine AW_iload dX12_all_136 rfl ?_
                        refine AW_iald dX12_all_138 (hS.cel rfl) (by omega) (by omega) ?_
                        refine AW_iload dX12_all_139 rfl ?_
                        refine AW_icmp_le (tgt := 153) dX12_all_141 (by decide) (fun c_141 => ?_) (fun c_141 => ?_)
                        · skip
                          rw [Int.toNat_natCast, hT.v4 i40] at c_141
                          refine AW_iincE5 dX12_all_153 (by omega) (by omega) ?_
                          refine AW_goto (tgt := 45) dX12_all_156 (by decide) ?_
                          rw [show (i : Int) + 1 = ((i + 1 : Nat) : Int) by omega]
                          first
                          | (exfalso; omega; done)
                          | (rw [← allF_n hse what]; exact ih m1 (i + 1) (by omega) (by omega))
                          | (rw [if_pos (by omega)] at hs; rw [← hs]; exact ih m1 (i + 1) (by omega) (by omega))
                          | (rw [if_neg (by omega), if_pos (by omega), if_pos c_101] at hs; rw [← hs]; exact ih m1 (i + 1) (by omega) (by omega))
                          | (rw [if_neg (by omega), if_pos (by omega), if_neg c_101, Int.add_zero] at hs; rw [← hs]; exact ih m1 (i + 1) (by omega) (by omega))
                          | (rw [if_neg (by omega), if_neg (by omega), if_pos (by omega)] at hs; rw [← hs]; exact ih m1 (i + 1) (by omega) (by omega))
                          | (rw [if_neg (by omega), if_neg (by omega), if_neg (by omega), if_pos (by omega)] at hs; rw [← hs]; exact ih m1 (i + 1) (by omega) (by omega))
                          | (rw [if_neg (by omega), if_neg (by omega), if_neg (by omega), if_neg (by omega)] at hs; rw [← hs]; exact ih m1 (i + 1) (by omega) (by omega))
                        · skip
                          rw [Int.toNat_natCast, hT.v4 i40] at c_141
                          refine AW_aload_n dX12_all_144 rfl ?_
                          refine AW_getR (a := 117) dX12_all_145 gfX12_92 (hS.cel rfl) (hS.rf rfl) ?_
                          refine AW_iload dX12_all_148 rfl ?_
                          refine AW_iald dX12_all_150 (hS.cel rfl) (by omega) (by omega) ?_
                          rw [Int.toNat_natCast, hT.v4 i40]
                          refine AW_istore4 dX12_all_151 ?_
                          refine AW_iincE5 dX12_all_153 (by omega) (by omega) ?_
                          refine AW_goto (tgt := 45) dX12_all_156 (by decide) ?_
                          rw [show (i : Int) + 1 = ((i + 1 : Nat) : Int) by omega]
                          first
                          | (exfalso; omega; done)
                          | (rw [← allF_n hse what]; exact ih m1 (i + 1) (by omega) (by omega))
                          | (rw [if_pos (by omega)] at hs; rw [← hs]; exact ih m1 (i + 1) (by omega) (by omega))
                          | (rw [if_neg (by omega), if_pos (by omega), if_pos c_101] at hs; rw [← hs]; exact ih m1 (i + 1) (by omega) (by omega))
                          | (rw [if_neg (by omega), if_pos (by omega), if_neg c_101, Int.add_zero] at hs; rw [← hs]; exact ih m1 (i + 1) (by omega) (by omega))
                          | (rw [if_neg (by omega), if_neg (by omega), if_pos (by omega)] at hs; rw [← hs]; exact ih m1 (i + 1) (by omega) (by omega))
                          | (rw [if_neg (by omega), if_neg (by omega), if_neg (by omega), if_pos (by omega)] at hs; rw [← hs]; exact ih m1 (i + 1) (by omega) (by omega))
                          | (rw [if_neg (by omega), if_neg (by omega), if_neg (by omega), if_neg (by omega)] at hs; rw [← hs]; exact ih m1 (i + 1) (by omega) (by omega))))
          · skip
            refine AW_iload_n dX12_all_88 rfl ?_
            refine AW_iconst dX12_all_89 ?_
            refine AW_icmp_ne (tgt := 110) dX12_all_90 (by decide) (fun c_90 => ?_) (fun c_90 => ?_)
            · skip
              refine AW_iload_n dX12_all_110 rfl ?_
              refine AW_iconst dX12_all_111 ?_
              refine AW_icmp_ne (tgt := 127) dX12_all_112 (by decide) (fun c_112 => ?_) (fun c_112 => ?_)
              · skip
                refine AW_iload_n dX12_all_127 rfl ?_
                refine AW_iconst dX12_all_128 ?_
                refine AW_icmp_ne (tgt := 153) dX12_all_129 (by decide) (fun c_129 => ?_) (fun c_129 => ?_)
                · skip
                  refine AW_iincE5 dX12_all_153 (by omega) (by omega) ?_
                  refine AW_goto (tgt := 45) dX12_all_156 (by decide) ?_
                  rw [show (i : Int) + 1 = ((i + 1 : Nat) : Int) by omega]
                  first
                  | (exfalso; omega; done)
                  | (rw [← allF_n hse what]; exact ih m1 (i + 1) (by omega) (by omega))
                  | (rw [if_pos (by omega)] at hs; rw [← hs]; exact ih m1 (i + 1) (by omega) (by omega))
                  | (rw [if_neg (by omega), if_pos (by omega), if_pos c_101] at hs; rw [← hs]; exact ih m1 (i + 1) (by omega) (by omega))
                  | (rw [if_neg (by omega), if_pos (by omega), if_neg c_101, Int.add_zero] at hs; rw [← hs]; exact ih m1 (i + 1) (by omega) (by omega))
                  | (rw [if_neg (by omega), if_neg (by omega), if_pos (by omega)] at hs; rw [← hs]; exact ih m1 (i + 1) (by omega) (by omega))
                  | (rw [if_neg (by omega), if_neg (by omega), if_neg (by omega), if_pos (by omega)] at hs; rw [← hs]; exact ih m1 (i + 1) (by omega) (by omega))
                  | (rw [if_neg (by omega), if_neg (by omega), if_neg (by omega), if_neg (by omega)] at hs; rw [← hs]; exact ih m1 (i + 1) (by omega) (by omega))
                · skip
                  first
                  | (exfalso; omega; done)
                  | ( skip
                      refine AW_aload_n dX12_all_132 rfl ?_
                      refine AW_getR (a := 117) dX12_all_133 gfX12_92 (hS.cel rfl) (hS.rf rfl) ?_
                      refine AW_iload dX12_all_136 rfl ?_
                      refine AW_iald dX12_all_138 (hS.cel rfl) (by omega) (by omega) ?_
                      refine AW_iload dX12_all_139 rfl ?_
                      refine AW_icmp_le (tgt := 153) dX12_all_141 (by decide) (fun c_141 => ?_) (fun c_141 => ?_)
                      · skip
                        rw [Int.toNat_natCast, hT.v4 i40] at c_141
                        refine AW_iincE5 dX12_all_153 (by omega) (by omega) ?_
                        refine AW_goto (tgt := 45) dX12_all_156 (by decide) ?_
                        rw [show (i : Int) + 1 = ((i + 1 : Nat) : Int) by omega]
                        first
                        | (exfalso; omega; done)
                        | (rw [← allF_n hse what]; exact ih m1 (i + 1) (by omega) (by omega))
                        | (rw [if_pos (by omega)] at hs; rw [← hs]; exact ih m1 (i + 1) (by omega) (by omega))
                        | (rw [if_neg (by omega), if_pos (by omega), if_pos c_101] at hs; rw [← hs]; exact ih m1 (i + 1) (by omega) (by omega))
                        | (rw [if_neg (by omega), if_pos (by omega), if_neg c_101, Int.add_zero] at hs; rw [← hs]; exact ih m1 (i + 1) (by omega) (by omega))
                        | (rw [if_neg (by omega), if_neg (by omega), if_pos (by omega)] at hs; rw [← hs]; exact ih m1 (i + 1) (by omega) (by omega))
                        | (rw [if_neg (by omega), if_neg (by omega), if_neg (by omega), if_pos (by omega)] at hs; rw [← hs]; exact ih m1 (i + 1) (by omega) (by omega))
                        | (rw [if_neg (by omega), if_neg (by omega), if_neg (by omega), if_neg (by omega)] at hs; rw [← hs]; exact ih m1 (i + 1) (by omega) (by omega))
                      · skip
                        rw [Int.toNat_natCast, hT.v4 i40] at c_141
                        refine AW_aload_n dX12_all_144 rfl ?_
                        refine AW_getR (a := 117) dX12_all_145 gfX12_92 (hS.cel rfl) (hS.rf rfl) ?_
                        refine AW_iload dX12_all_148 rfl ?_
                        refine AW_iald dX12_all_150 (hS.cel rfl) (by omega) (by omega) ?_
                        rw [Int.toNat_natCast, hT.v4 i40]
                        refine AW_istore4 dX12_all_151 ?_
                        refine AW_iincE5 dX12_all_153 (by omega) (by omega) ?_
                        refine AW_goto (tgt := 45) dX12_all_156 (by decide) ?_
                        rw [show (i : Int) + 1 = ((i + 1 : Nat) : Int) by omega]
                        first
                        | (exfalso; omega; done)
                        | (rw [← allF_n hse what]; exact ih m1 (i + 1) (by omega) (by omega))
                        | (rw [if_pos (by omega)] at hs; rw [← hs]; exact ih m1 (i + 1) (by omega) (by omega))
                        | (rw [if_neg (by omega), if_pos (by omega), if_pos c_101] at hs; rw [← hs]; exact ih m1 (i + 1) (by omega) (by omega))
                        | (rw [if_neg (by omega), if_pos (by omega), if_neg c_101, Int.add_zero] at hs; rw [← hs]; exact ih m1 (i + 1) (by omega) (by omega))
                        | (rw [if_neg (by omega), if_neg (by omega), if_pos (by omega)] at hs; rw [← hs]; exact ih m1 (i + 1) (by omega) (by omega))
                        | (rw [if_neg (by omega), if_neg (by omega), if_neg (by omega), if_pos (by omega)] at hs; rw [← hs]; exact ih m1 (i + 1) (by omega) (by omega))
                        | (rw [if_neg (by omega), if_neg (by omega), if_neg (by omega), if_neg (by omega)] at hs; rw [← hs]; exact ih m1 (i + 1) (by omega) (by omega)))
              · skip
                first
                | (exfalso; omega; done)
                | ( skip
                    refine AW_iload dX12_all_115 rfl ?_
                    refine AW_aload_n dX12_all_117 rfl ?_
                    refine AW_getR (a := 117) dX12_all_118 gfX12_92 (hS.cel rfl) (hS.rf rfl) ?_
                    refine AW_iload dX12_all_121 rfl ?_
                    refine AW_iald dX12_all_123 (hS.cel rfl) (by omega) (by omega) ?_
                    rw [Int.toNat_natCast, hT.v4 i40]
                    refine AW_iadd dX12_all_124 ?_
                    refine AW_istore4 dX12_all_125 ?_
                    refine AW_iload_n dX12_all_127 rfl ?_
                    refine AW_iconst dX12_all_128 ?_
                    refine AW_icmp_ne (tgt := 153) dX12_all_129 (by decide) (fun c_129 => ?_) (fun c_129 => ?_)
                    · skip
                      refine AW_iincE5 dX12_all_153 (by omega) (by omega) ?_
                      refine AW_goto (tgt := 45) dX12_all_156 (by decide) ?_
                      rw [show (i : Int) + 1 = ((i + 1 : Nat) : Int) by omega]
                      first
                      | (exfalso; omega; done)
                      | (rw [← allF_n hse what]; exact ih m1 (i + 1) (by omega) (by omega))
                      | (rw [if_pos (by omega)] at hs; rw [← hs]; exact ih m1 (i + 1) (by omega) (by omega))
                      | (rw [if_neg (by omega), if_pos (by omega), if_pos c_101] at hs; rw [← hs]; exact ih m1 (i + 1) (by omega) (by omega))
                      | (rw [if_neg (by omega), if_pos (by omega), if_neg c_101, Int.add_zero] at hs; rw [← hs]; exact ih m1 (i + 1) (by omega) (by omega))
                      | (rw [if_neg (by omega), if_neg (by omega), if_pos (by omega)] at hs; rw [← hs]; exact ih m1 (i + 1) (by omega) (by omega))
                      | (rw [if_neg (by omega), if_neg (by omega), if_neg (by omega), if_pos (by omega)] at hs; rw [← hs]; exact ih m1 (i + 1) (by omega) (by omega))
                      | (rw [if_neg (by omega), if_neg (by omega), if_neg (by omega), if_neg (by omega)] at hs; rw [← hs]; exact ih m1 (i + 1) (by omega) (by omega))
                    · skip
                      first
                      | (exfalso; omega; done)
                      | ( skip
                          refine AW_aload_n dX12_all_132 rfl ?_
                          refine AW_getR (a := 117) dX12_all_133 gfX12_92 (hS.cel rfl) (hS.rf rfl) ?_
                          refine AW_iload dX12_all_136 rfl ?_
                          refine AW_iald dX12_all_138 (hS.cel rfl) (by omega) (by omega) ?_
                          refine AW_iload dX12_all_139 rfl ?_
                          refine AW_icmp_le (tgt := 153) dX12_all_141 (by decide) (fun c_141 => ?_) (fun c_141 => ?_)
                          · skip
                            rw [Int.toNat_natCast, hT.v4 i40] at c_141
                            refine AW_iincE5 dX12_all_153 (by omega) (by omega) ?_
                            refine AW_goto (tgt := 45) dX12_all_156 (by decide) ?_
                            rw [show (i : Int) + 1 = ((i + 1 : Nat) : Int) by omega]
                            first
                            | (exfalso; omega; done)
                            | (rw [← allF_n hse what]; exact ih m1 (i + 1) (by omega) (by omega))
                            | (rw [if_pos (by omega)] at hs; rw [← hs]; exact ih m1 (i + 1) (by omega) (by omega))
                            | (rw [if_neg (by omega), if_pos (by omega), if_pos c_101] at hs; rw [← hs]; exact ih m1 (i + 1) (by omega) (by omega))
                            | (rw [if_neg (by omega), if_pos (by omega), if_neg c_101, Int.add_zero] at hs; rw [← hs]; exact ih m1 (i + 1) (by omega) (by omega))
                            | (rw [if_neg (by omega), if_neg (by omega), if_pos (by omega)] at hs; rw [← hs]; exact ih m1 (i + 1) (by omega) (by omega))
                            | (rw [if_neg (by omega), if_neg (by omega), if_neg (by omega), if_pos (by omega)] at hs; rw [← hs]; exact ih m1 (i + 1) (by omega) (by omega))
                            | (rw [if_neg (by omega), if_neg (by omega), if_neg (by omega), if_neg (by omega)] at hs; rw [← hs]; exact ih m1 (i + 1) (by omega) (by omega))
                          · skip
                            rw [Int.toNat_natCast, hT.v4 i40] at c_141
                            refine AW_aload_n dX12_all_144 rfl ?_
                            refine AW_getR (a := 117) dX12_all_145 gfX12_92 (hS.cel rfl) (hS.rf rfl) ?_
                            refine AW_iload dX12_all_148 rfl ?_
                            refine AW_iald dX12_all_150 (hS.cel rfl) (by omega) (by omega) ?_
                            rw [Int.toNat_natCast, hT.v4 i40]
                            refine AW_istore4 dX12_all_151 ?_
                            refine AW_iincE5 dX12_all_153 (by omega) (by omega) ?_
                            refine AW_goto (tgt := 45) dX12_all_156 (by decide) ?_
                            rw [show (i : Int) + 1 = ((i + 1 : Nat) : Int) by omega]
                            first
                            | (exfalso; omega; done)
                            | (rw [← allF_n hse what]; exact ih m1 (i + 1) (by omega) (by omega))
                            | (rw [if_pos (by omega)] at hs; rw [← hs]; exact ih m1 (i + 1) (by omega) (by omega))
                            | (rw [if_neg (by omega), if_pos (by omega), if_pos c_101] at hs; rw [← hs]; exact ih m1 (i + 1) (by omega) (by omega))
                            | (rw [if_neg (by omega), if_pos (by omega), if_neg c_101, Int.add_zero] at hs; rw [← hs]; exact ih m1 (i + 1) (by omega) (by omega))
                            | (rw [if_neg (by omega), if_neg (by omega), if_pos (by omega)] at hs; rw [← hs]; exact ih m1 (i + 1) (by omega) (by omega))
                            | (rw [if_neg (by omega), if_neg (by omega), if_neg (by omega), if_pos (by omega)] at hs; rw [← hs]; exact ih m1 (i + 1) (by omega) (by omega))
                            | (rw [if_neg (by omega), if_neg (by omega), if_neg (by omega), if_neg (by omega)] at hs; rw [← hs]; exact ih m1 (i + 1) (by omega) (by omega))))
            · skip
              refine AW_aload_n dX12_all_93 rfl ?_
              refine AW_getR (a := 116) dX12_all_94 gfX12_89 (hS.cel rfl) (hS.rf rfl) ?_
              refine AW_iload dX12_all_97 rfl ?_
              refine AW_iald dX12_all_99 (hS.cel rfl) (by omega) (by omega) ?_
              refine AW_iconst dX12_all_100 ?_
              refine AW_icmp_ne (tgt := 110) dX12_all_101 (by decide) (fun c_101 => ?_) (fun c_101 => ?_)
              · skip
                rw [Int.toNat_natCast, hT.v3 i40] at c_101
                refine AW_iload_n dX12_all_110 rfl ?_
                refine AW_iconst dX12_all_111 ?_
                refine AW_icmp_ne (tgt := 127) dX12_all_112 (by decide) (fun c_112 => ?_) (fun c_112 => ?_)
                · skip
                  refine AW_iload_n dX12_all_127 rfl ?_
                  refine AW_iconst dX12_all_128 ?_
                  refine AW_icmp_ne (tgt := 153) dX12_all_129 (by decide) (fun c_129 => ?_) (fun c_129 => ?_)
                  · skip
                    refine AW_iincE5 dX12_all_153 (by omega) (by omega) ?_
                    refine AW_goto (tgt := 45) dX12_all_156 (by decide) ?_
                    rw [show (i : Int) + 1 = ((i + 1 : Nat) : Int) by omega]
                    first
                    | (exfalso; omega; done)
                    | (rw [← allF_n hse what]; exact ih m1 (i + 1) (by omega) (by omega))
                    | (rw [if_pos (by omega)] at hs; rw [← hs]; exact ih m1 (i + 1) (by omega) (by omega))
                    | (rw [if_neg (by omega), if_pos (by omega), if_pos c_101] at hs; rw [← hs]; exact ih m1 (i + 1) (by omega) (by omega))
                    | (rw [if_neg (by omega), if_pos (by omega), if_neg c_101, Int.add_zero] at hs; rw [← hs]; exact ih m1 (i + 1) (by omega) (by omega))
                    | (rw [if_neg (by omega), if_neg (by omega), if_pos (by omega)] at hs; rw [← hs]; exact ih m1 (i + 1) (by omega) (by omega))
                    | (rw [if_neg (by omega), if_neg (by omega), if_neg (by omega), if_pos (by omega)] at hs; rw [← hs]; exact ih m1 (i + 1) (by omega) (by omega))
                    | (rw [if_neg (by omega), if_neg (by omega), if_neg (by omega), if_neg (by omega)] at hs; rw [← hs]; exact ih m1 (i + 1) (by omega) (by omega))
                  · skip
                    first
                    | (exfalso; omega; done)
                    | ( skip
                        refine AW_aload_n dX12_all_132 rfl ?_
                        refine AW_getR (a := 117) dX12_all_133 gfX12_92 (hS.cel rfl) (hS.rf rfl) ?_
                        refine AW_iload dX12_all_136 rfl ?_
                        refine AW_iald dX12_all_138 (hS.cel rfl) (by omega) (by omega) ?_
                        refine AW_iload dX12_all_139 rfl ?_
                        refine AW_icmp_le (tgt := 153) dX12_all_141 (by decide) (fun c_141 => ?_) (fun c_141 => ?_)
                        · skip
                          rw [Int.toNat_natCast, hT.v4 i40] at c_141
                          refine AW_iincE5 dX12_all_153 (by omega) (by omega) ?_
                          refine AW_goto (tgt := 45) dX12_all_156 (by decide) ?_
                          rw [show (i : Int) + 1 = ((i + 1 : Nat) : Int) by omega]
                          first
                          | (exfalso; omega; done)
                          | (rw [← allF_n hse what]; exact ih m1 (i + 1) (by omega) (by omega))
                          | (rw [if_pos (by omega)] at hs; rw [← hs]; exact ih m1 (i + 1) (by omega) (by omega))
                          | (rw [if_neg (by omega), if_pos (by omega), if_pos c_101] at hs; rw [← hs]; exact ih m1 (i + 1) (by omega) (by omega))
                          | (rw [if_neg (by omega), if_pos (by omega), if_neg c_101, Int.add_zero] at hs; rw [← hs]; exact ih m1 (i + 1) (by omega) (by omega))
                          | (rw [if_neg (by omega), if_neg (by omega), if_pos (by omega)] at hs; rw [← hs]; exact ih m1 (i + 1) (by omega) (by omega))
                          | (rw [if_neg (by omega), if_neg (by omega), if_neg (by omega), if_pos (by omega)] at hs; rw [← hs]; exact ih m1 (i + 1) (by omega) (by omega))
                          | (rw [if_neg (by omega), if_neg (by omega), if_neg (by omega), if_neg (by omega)] at hs; rw [← hs]; exact ih m1 (i + 1) (by omega) (by omega))
                        · skip
                          rw [Int.toNat_natCast, hT.v4 i40] at c_141
                          refine AW_aload_n dX12_all_144 rfl ?_
                          refine AW_getR (a := 117) dX12_all_145 gfX12_92 (hS.cel rfl) (hS.rf rfl) ?_
                          refine AW_iload dX12_all_148 rfl ?_
                          refine AW_iald dX12_all_150 (hS.cel rfl) (by omega) (by omega) ?_
                          rw [Int.toNat_natCast, hT.v4 i40]
                          refine AW_istore4 dX12_all_151 ?_
                          refine AW_iincE5 dX12_all_153 (by omega) (by omega) ?_
                          refine AW_goto (tgt := 45) dX12_all_156 (by decide) ?_
                          rw [show (i : Int) + 1 = ((i + 1 : Nat) : Int) by omega]
                          first
                          | (exfalso; omega; done)
                          | (rw [← allF_n hse what]; exact ih m1 (i + 1) (by omega) (by omega))
                          | (rw [if_pos (by omega)] at hs; rw [← hs]; exact ih m1 (i + 1) (by omega) (by omega))
                          | (rw [if_neg (by omega), if_pos (by omega), if_pos c_101] at hs; rw [← hs]; exact ih m1 (i + 1) (by omega) (by omega))
                          | (rw [if_neg (by omega), if_pos (by omega), if_neg c_101, Int.add_zero] at hs; rw [← hs]; exact ih m1 (i + 1) (by omega) (by omega))
                          | (rw [if_neg (by omega), if_neg (by omega), if_pos (by omega)] at hs; rw [← hs]; exact ih m1 (i + 1) (by omega) (by omega))
                          | (rw [if_neg (by omega), if_neg (by omega), if_neg (by omega), if_pos (by omega)] at hs; rw [← hs]; exact ih m1 (i + 1) (by omega) (by omega))
                          | (rw [if_neg (by omega), if_neg (by omega), if_neg (by omega), if_neg (by omega)] at hs; rw [← hs]; exact ih m1 (i + 1) (by omega) (by omega)))
                · skip
                  first
                  | (exfalso; omega; done)
                  | ( skip
                      refine AW_iload dX12_all_115 rfl ?_
                      refine AW_aload_n dX12_all_117 rfl ?_
                      refine AW_getR (a := 117) dX12_all_118 gfX12_92 (hS.cel rfl) (hS.rf rfl) ?_
                      refine AW_iload dX12_all_121 rfl ?_
                      refine AW_iald dX12_all_123 (hS.cel rfl) (by omega) (by omega) ?_
                      rw [Int.toNat_natCast, hT.v4 i40]
                      refine AW_iadd dX12_all_124 ?_
                      refine AW_istore4 dX12_all_125 ?_
                      refine AW_iload_n dX12_all_127 rfl ?_
                      refine AW_iconst dX12_all_128 ?_
                      refine AW_icmp_ne (tgt := 153) dX12_all_129 (by decide) (fun c_129 => ?_) (fun c_129 => ?_)
                      · skip
                        refine AW_iincE5 dX12_all_153 (by omega) (by omega) ?_
                        refine AW_goto (tgt := 45) dX12_all_156 (by decide) ?_
                        rw [show (i : Int) + 1 = ((i + 1 : Nat) : Int) by omega]
                        first
                        | (exfalso; omega; done)
                        | (rw [← allF_n hse what]; exact ih m1 (i + 1) (by omega) (by omega))
                        | (rw [if_pos (by omega)] at hs; rw [← hs]; exact ih m1 (i + 1) (by omega) (by omega))
                        | (rw [if_neg (by omega), if_pos (by omega), if_pos c_101] at hs; rw [← hs]; exact ih m1 (i + 1) (by omega) (by omega))
                        | (rw [if_neg (by omega), if_pos (by omega), if_neg c_101, Int.add_zero] at hs; rw [← hs]; exact ih m1 (i + 1) (by omega) (by omega))
                        | (rw [if_neg (by omega), if_neg (by omega), if_pos (by omega)] at hs; rw [← hs]; exact ih m1 (i + 1) (by omega) (by omega))
                        | (rw [if_neg (by omega), if_neg (by omega), if_neg (by omega), if_pos (by omega)] at hs; rw [← hs]; exact ih m1 (i + 1) (by omega) (by omega))
                        | (rw [if_neg (by omega), if_neg (by omega), if_neg (by omega), if_neg (by omega)] at hs; rw [← hs]; exact ih m1 (i + 1) (by omega) (by omega))
                      · skip
                        first
                        | (exfalso; omega; done)
                        | ( skip
                            refine AW_aload_n dX12_all_132 rfl ?_
                            refine AW_getR (a := 117) dX12_all_133 gfX12_92 (hS.cel rfl) (hS.rf rfl) ?_
                            refine AW_iload dX12_all_136 rfl ?_
                            refine AW_iald dX12_all_138 (hS.cel rfl) (by omega) (by omega) ?_
                            refine AW_iload dX12_all_139 rfl ?_
                            refine AW_icmp_le (tgt := 153) dX12_all_141 (by decide) (fun c_141 => ?_) (fun c_141 => ?_)
                            · skip
                              rw [Int.toNat_natCast, hT.v4 i40] at c_141
                              refine AW_iincE5 dX12_all_153 (by omega) (by omega) ?_
                              refine AW_goto (tgt := 45) dX12_all_156 (by decide) ?_
                              rw [show (i : Int) + 1 = ((i + 1 : Nat) : Int) by omega]
                              first
                              | (exfalso; omega; done)
                              | (rw [← allF_n hse what]; exact ih m1 (i + 1) (by omega) (by omega))
                              | (rw [if_pos (by omega)] at hs; rw [← hs]; exact ih m1 (i + 1) (by omega) (by omega))
                              | (rw [if_neg (by omega), if_pos (by omega), if_pos c_101] at hs; rw [← hs]; exact ih m1 (i + 1) (by omega) (by omega))
                              | (rw [if_neg (by omega), if_pos (by omega), if_neg c_101, Int.add_zero] at hs; rw [← hs]; exact ih m1 (i + 1) (by omega) (by omega))
                              | (rw [if_neg (by omega), if_neg (by omega), if_pos (by omega)] at hs; rw [← hs]; exact ih m1 (i + 1) (by omega) (by omega))
                              | (rw [if_neg (by omega), if_neg (by omega), if_neg (by omega), if_pos (by omega)] at hs; rw [← hs]; exact ih m1 (i + 1) (by omega) (by omega))
                              | (rw [if_neg (by omega), if_neg (by omega), if_neg (by omega), if_neg (by omega)] at hs; rw [← hs]; exact ih m1 (i + 1) (by omega) (by omega))
                            · skip
                              rw [Int.toNat_natCast, hT.v4 i40] at c_141
                              refine AW_aload_n dX12_all_144 rfl ?_
                              refine AW_getR (a := 117) dX12_all_145 gfX12_92 (hS.cel rfl) (hS.rf rfl) ?_
                              refine AW_iload dX12_all_148 rfl ?_
                              refine AW_iald dX12_all_150 (hS.cel rfl) (by omega) (by omega) ?_
                              rw [Int.toNat_natCast, hT.v4 i40]
                              refine AW_istore4 dX12_all_151 ?_
                              refine AW_iincE5 dX12_all_153 (by omega) (by omega) ?_
                              refine AW_goto (tgt := 45) dX12_all_156 (by decide) ?_
                              rw [show (i : Int) + 1 = ((i + 1 : Nat) : Int) by omega]
                              first
                              | (exfalso; omega; done)
                              | (rw [← allF_n hse what]; exact ih m1 (i + 1) (by omega) (by omega))
                              | (rw [if_pos (by omega)] at hs; rw [← hs]; exact ih m1 (i + 1) (by omega) (by omega))
                              | (rw [if_neg (by omega), if_pos (by omega), if_pos c_101] at hs; rw [← hs]; exact ih m1 (i + 1) (by omega) (by omega))
                              | (rw [if_neg (by omega), if_pos (by omega), if_neg c_101, Int.add_zero] at hs; rw [← hs]; exact ih m1 (i + 1) (by omega) (by omega))
                              | (rw [if_neg (by omega), if_neg (by omega), if_pos (by omega)] at hs; rw [← hs]; exact ih m1 (i + 1) (by omega) (by omega))
                              | (rw [if_neg (by omega), if_neg (by omega), if_neg (by omega), if_pos (by omega)] at hs; rw [← hs]; exact ih m1 (i + 1) (by omega) (by omega))
                              | (rw [if_neg (by omega), if_neg (by omega), if_neg (by omega), if_neg (by omega)] at hs; rw [← hs]; exact ih m1 (i + 1) (by omega) (by omega))))
              · skip
                rw [Int.toNat_natCast, hT.v3 i40] at c_101
                refine AW_iload dX12_all_104 rfl ?_
                refine AW_iconst dX12_all_106 ?_
                refine AW_iaddE dX12_all_107 (by have := hb (by omega); omega) (by have := hb (by omega); omega) ?_
                refine AW_istore4 dX12_all_108 ?_
                refine AW_iload_n dX12_all_110 rfl ?_
                refine AW_iconst dX12_all_111 ?_
                refine AW_icmp_ne (tgt := 127) dX12_all_112 (by decide) (fun c_112 => ?_) (fun c_112 => ?_)
                · skip
                  refine AW_iload_n dX12_all_127 rfl ?_
                  refine AW_iconst dX12_all_128 ?_
                  refine AW_icmp_ne (tgt := 153) dX12_all_129 (by decide) (fun c_129 => ?_) (fun c_129 => ?_)
                  · skip
                    refine AW_iincE5 dX12_all_153 (by omega) (by omega) ?_
                    refine AW_goto (tgt := 45) dX12_all_156 (by decide) ?_
                    rw [show (i : Int) + 1 = ((i + 1 : Nat) : Int) by omega]
                    first
                    | (exfalso; omega; done)
                    | (rw [← allF_n hse what]; exact ih m1 (i + 1) (by omega) (by omega))
                    | (rw [if_pos (by omega)] at hs; rw [← hs]; exact ih m1 (i + 1) (by omega) (by omega))
                    | (rw [if_neg (by omega), if_pos (by omega), if_pos c_101] at hs; rw [← hs]; exact ih m1 (i + 1) (by omega) (by omega))
                    | (rw [if_neg (by omega), if_pos (by omega), if_neg c_101, Int.add_zero] at hs; rw [← hs]; exact ih m1 (i + 1) (by omega) (by omega))
                    | (rw [if_neg (by omega), if_neg (by omega), if_pos (by omega)] at hs; rw [← hs]; exact ih m1 (i + 1) (by omega) (by omega))
                    | (rw [if_neg (by omega), if_neg (by omega), if_neg (by omega), if_pos (by omega)] at hs; rw [← hs]; exact ih m1 (i + 1) (by omega) (by omega))
                    | (rw [if_neg (by omega), if_neg (by omega), if_neg (by omega), if_neg (by omega)] at hs; rw [← hs]; exact ih m1 (i + 1) (by omega) (by omega))
                  · skip
                    first
                    | (exfalso; omega; done)
                    | ( skip
                        refine AW_aload_n dX12_all_132 rfl ?_
                        refine AW_getR (a := 117) dX12_all_133 gfX12_92 (hS.cel rfl) (hS.rf rfl) ?_
                        refine AW_iload dX12_all_136 rfl ?_
                        refine AW_iald dX12_all_138 (hS.cel rfl) (by omega) (by omega) ?_
                        refine AW_iload dX12_all_139 rfl ?_
                        refine AW_icmp_le (tgt := 153) dX12_all_141 (by decide) (fun c_141 => ?_) (fun c_141 => ?_)
                        · skip
                          rw [Int.toNat_natCast, hT.v4 i40] at c_141
                          refine AW_iincE5 dX12_all_153 (by omega) (by omega) ?_
                          refine AW_goto (tgt := 45) dX12_all_156 (by decide) ?_
                          rw [show (i : Int) + 1 = ((i + 1 : Nat) : Int) by omega]
                          first
                          | (exfalso; omega; done)
                          | (rw [← allF_n hse what]; exact ih m1 (i + 1) (by omega) (by omega))
                          | (rw [if_pos (by omega)] at hs; rw [← hs]; exact ih m1 (i + 1) (by omega) (by omega))
                          | (rw [if_neg (by omega), if_pos (by omega), if_pos c_101] at hs; rw [← hs]; exact ih m1 (i + 1) (by omega) (by omega))
                          | (rw [if_neg (by omega), if_pos (by omega), if_neg c_101, Int.add_zero] at hs; rw [← hs]; exact ih m1 (i + 1) (by omega) (by omega))
                          | (rw [if_neg (by omega), if_neg (by omega), if_pos (by omega)] at hs; rw [← hs]; exact ih m1 (i + 1) (by omega) (by omega))
                          | (rw [if_neg (by omega), if_neg (by omega), if_neg (by omega), if_pos (by omega)] at hs; rw [← hs]; exact ih m1 (i + 1) (by omega) (by omega))
                          | (rw [if_neg (by omega), if_neg (by omega), if_neg (by omega), if_neg (by omega)] at hs; rw [← hs]; exact ih m1 (i + 1) (by omega) (by omega))
                        · skip
                          rw [Int.toNat_natCast, hT.v4 i40] at c_141
                          refine AW_aload_n dX12_all_144 rfl ?_
                          refine AW_getR (a := 117) dX12_all_145 gfX12_92 (hS.cel rfl) (hS.rf rfl) ?_
                          refine AW_iload dX12_all_148 rfl ?_
                          refine AW_iald dX12_all_150 (hS.cel rfl) (by omega) (by omega) ?_
                          rw [Int.toNat_natCast, hT.v4 i40]
                          refine AW_istore4 dX12_all_151 ?_
                          refine AW_iincE5 dX12_all_153 (by omega) (by omega) ?_
                          refine AW_goto (tgt := 45) dX12_all_156 (by decide) ?_
                          rw [show (i : Int) + 1 = ((i + 1 : Nat) : Int) by omega]
                          first
                          | (exfalso; omega; done)
                          | (rw [← allF_n hse what]; exact ih m1 (i + 1) (by omega) (by omega))
                          | (rw [if_pos (by omega)] at hs; rw [← hs]; exact ih m1 (i + 1) (by omega) (by omega))
                          | (rw [if_neg (by omega), if_pos (by omega), if_pos c_101] at hs; rw [← hs]; exact ih m1 (i + 1) (by omega) (by omega))
                          | (rw [if_neg (by omega), if_pos (by omega), if_neg c_101, Int.add_zero] at hs; rw [← hs]; exact ih m1 (i + 1) (by omega) (by omega))
                          | (rw [if_neg (by omega), if_neg (by omega), if_pos (by omega)] at hs; rw [← hs]; exact ih m1 (i + 1) (by omega) (by omega))
                          | (rw [if_neg (by omega), if_neg (by omega), if_neg (by omega), if_pos (by omega)] at hs; rw [← hs]; exact ih m1 (i + 1) (by omega) (by omega))
                          | (rw [if_neg (by omega), if_neg (by omega), if_neg (by omega), if_neg (by omega)] at hs; rw [← hs]; exact ih m1 (i + 1) (by omega) (by omega)))
                · skip
                  first
                  | (exfalso; omega; done)
                  | ( skip
                      refine AW_iload dX12_all_115 rfl ?_
                      refine AW_aload_n dX12_all_117 rfl ?_
                      refine AW_getR (a := 117) dX12_all_118 gfX12_92 (hS.cel rfl) (hS.rf rfl) ?_
                      refine AW_iload dX12_all_121 rfl ?_
                      refine AW_iald dX12_all_123 (hS.cel rfl) (by omega) (by omega) ?_
                      rw [Int.toNat_natCast, hT.v4 i40]
                      refine AW_iadd dX12_all_124 ?_
                      refine AW_istore4 dX12_all_125 ?_
                      refine AW_iload_n dX12_all_127 rfl ?_
                      refine AW_iconst dX12_all_128 ?_
                      refine AW_icmp_ne (tgt := 153) dX12_all_129 (by decide) (fun c_129 => ?_) (fun c_129 => ?_)
                      · skip
                        refine AW_iincE5 dX12_all_153 (by omega) (by omega) ?_
                        refine AW_goto (tgt := 45) dX12_all_156 (by decide) ?_
                        rw [show (i : Int) + 1 = ((i + 1 : Nat) : Int) by omega]
                        first
                        | (exfalso; omega; done)
                        | (rw [← allF_n hse what]; exact ih m1 (i + 1) (by omega) (by omega))
                        | (rw [if_pos (by omega)] at hs; rw [← hs]; exact ih m1 (i + 1) (by omega) (by omega))
                        | (rw [if_neg (by omega), if_pos (by omega), if_pos c_101] at hs; rw [← hs]; exact ih m1 (i + 1) (by omega) (by omega))
                        | (rw [if_neg (by omega), if_pos (by omega), if_neg c_101, Int.add_zero] at hs; rw [← hs]; exact ih m1 (i + 1) (by omega) (by omega))
                        | (rw [if_neg (by omega), if_neg (by omega), if_pos (by omega)] at hs; rw [← hs]; exact ih m1 (i + 1) (by omega) (by omega))
                        | (rw [if_neg (by omega), if_neg (by omega), if_neg (by omega), if_pos (by omega)] at hs; rw [← hs]; exact ih m1 (i + 1) (by omega) (by omega))
                        | (rw [if_neg (by omega), if_neg (by omega), if_neg (by omega), if_neg (by omega)] at hs; rw [← hs]; exact ih m1 (i + 1) (by omega) (by omega))
                      · skip
                        first
                        | (exfalso; omega; done)
                        | ( skip
                            refine AW_aload_n dX12_all_132 rfl ?_
                            refine AW_getR (a := 117) dX12_all_133 gfX12_92 (hS.cel rfl) (hS.rf rfl) ?_
                            refine AW_iload dX12_all_136 rfl ?_
                            refine AW_iald dX12_all_138 (hS.cel rfl) (by omega) (by omega) ?_
                            refine AW_iload dX12_all_139 rfl ?_
                            refine AW_icmp_le (tgt := 153) dX12_all_141 (by decide) (fun c_141 => ?_) (fun c_141 => ?_)
                            · skip
                              rw [Int.toNat_natCast, hT.v4 i40] at c_141
                              refine AW_iincE5 dX12_all_153 (by omega) (by omega) ?_
                              refine AW_goto (tgt := 45) dX12_all_156 (by decide) ?_
                              rw [show (i : Int) + 1 = ((i + 1 : Nat) : Int) by omega]
                              first
                              | (exfalso; omega; done)
                              | (rw [← allF_n hse what]; exact ih m1 (i + 1) (by omega) (by omega))
                              | (rw [if_pos (by omega)] at hs; rw [← hs]; exact ih m1 (i + 1) (by omega) (by omega))
                              | (rw [if_neg (by omega), if_pos (by omega), if_pos c_101] at hs; rw [← hs]; exact ih m1 (i + 1) (by omega) (by omega))
                              | (rw [if_neg (by omega), if_pos (by omega), if_neg c_101, Int.add_zero] at hs; rw [← hs]; exact ih m1 (i + 1) (by omega) (by omega))
                              | (rw [if_neg (by omega), if_neg (by omega), if_pos (by omega)] at hs; rw [← hs]; exact ih m1 (i + 1) (by omega) (by omega))
                              | (rw [if_neg (by omega), if_neg (by omega), if_neg (by omega), if_pos (by omega)] at hs; rw [← hs]; exact ih m1 (i + 1) (by omega) (by omega))
                              | (rw [if_neg (by omega), if_neg (by omega), if_neg (by omega), if_neg (by omega)] at hs; rw [← hs]; exact ih m1 (i + 1) (by omega) (by omega))
                            · skip
                              rw [Int.toNat_natCast, hT.v4 i40] at c_141
                              refine AW_aload_n dX12_all_144 rfl ?_
                              refine AW_getR (a := 117) dX12_all_145 gfX12_92 (hS.cel rfl) (hS.rf rfl) ?_
                              refine AW_iload dX12_all_148 rfl ?_
                              refine AW_iald dX12_all_150 (hS.cel rfl) (by omega) (by omega) ?_
                              rw [Int.toNat_natCast, hT.v4 i40]
                              refine AW_istore4 dX12_all_151 ?_
                              refine AW_iincE5 dX12_all_153 (by omega) (by omega) ?_
                              refine AW_goto (tgt := 45) dX12_all_156 (by decide) ?_
                              rw [show (i : Int) + 1 = ((i + 1 : Nat) : Int) by omega]
                              first
                              | (exfalso; omega; done)
                              | (rw [← allF_n hse what]; exact ih m1 (i + 1) (by omega) (by omega))
                              | (rw [if_pos (by omega)] at hs; rw [← hs]; exact ih m1 (i + 1) (by omega) (by omega))
                              | (rw [if_neg (by omega), if_pos (by omega), if_pos c_101] at hs; rw [← hs]; exact ih m1 (i + 1) (by omega) (by omega))
                              | (rw [if_neg (by omega), if_pos (by omega), if_neg c_101, Int.add_zero] at hs; rw [← hs]; exact ih m1 (i + 1) (by omega) (by omega))
                              | (rw [if_neg (by omega), if_neg (by omega), if_pos (by omega)] at hs; rw [← hs]; exact ih m1 (i + 1) (by omega) (by omega))
                              | (rw [if_neg (by omega), if_neg (by omega), if_neg (by omega), if_pos (by omega)] at hs; rw [← hs]; exact ih m1 (i + 1) (by omega) (by omega))
                              | (rw [if_neg (by omega), if_neg (by omega), if_neg (by omega), if_neg (by omega)] at hs; rw [← hs]; exact ih m1 (i + 1) (by omega) (by omega))))
        · skip
          refine AW_aload_n dX12_all_70 rfl ?_
          refine AW_getR (a := 114) dX12_all_71 gfX12_83 (hS.cel rfl) (hS.rf rfl) ?_
          refine AW_iload dX12_all_74 rfl ?_
          refine AW_iald dX12_all_76 (hS.cel rfl) (by omega) (by omega) ?_
          refine AW_iload_n dX12_all_77 rfl ?_
          refine AW_icmp_eq (tgt := 84) dX12_all_78 (by decide) (fun c_78 => ?_) (fun c_78 => ?_)
          · skip
            rw [Int.toNat_natCast, hT.v1 i40] at c_78
            have hse : sel w.1 side sort i := ⟨by omega, Or.inr (by omega)⟩
            have hs := allF_s w.1 side sort what i
            rw [if_pos hse] at hs
            refine AW_iload_n dX12_all_84 rfl ?_
            refine AW_if_eq (tgt := 104) dX12_all_85 (by decide) (fun c_85 => ?_) (fun c_85 => ?_)
            · skip
              refine AW_iload dX12_all_104 rfl ?_
              refine AW_iconst dX12_all_106 ?_
              refine AW_iaddE dX12_all_107 (by have := hb (by omega); omega) (by have := hb (by omega); omega) ?_
              refine AW_istore4 dX12_all_108 ?_
              refine AW_iload_n dX12_all_110 rfl ?_
              refine AW_iconst dX12_all_111 ?_
              refine AW_icmp_ne (tgt := 127) dX12_all_112 (by decide) (fun c_112 => ?_) (fun c_112 => ?_)
              · skip
                refine AW_iload_n dX12_all_127 rfl ?_
                refine AW_iconst dX12_all_128 ?_
                refine AW_icmp_ne (tgt := 153) dX12_all_129 (by decide) (fun c_129 => ?_) (fun c_129 => ?_)
                · skip
                  refine AW_iincE5 dX12_all_153 (by omega) (by omega) ?_
                  refine AW_goto (tgt := 45) dX12_all_156 (by decide) ?_
                  rw [show (i : Int) + 1 = ((i + 1 : Nat) : Int) by omega]
                  first
                  | (exfalso; omega; done)
                  | (rw [← allF_n hse what]; exact ih m1 (i + 1) (by omega) (by omega))
                  | (rw [if_pos (by omega)] at hs; rw [← hs]; exact ih m1 (i + 1) (by omega) (by omega))
                  | (rw [if_neg (by omega), if_pos (by omega), if_pos c_101] at hs; rw [← hs]; exact ih m1 (i + 1) (by omega) (by omega))
                  | (rw [if_neg (by omega), if_pos (by omega), if_neg c_101, Int.add_zero] at hs; rw [← hs]; exact ih m1 (i + 1) (by omega) (by omega))
                  | (rw [if_neg (by omega), if_neg (by omega), if_pos (by omega)] at hs; rw [← hs]; exact ih m1 (i + 1) (by omega) (by omega))
                  | (rw [if_neg (by omega), if_neg (by omega), if_neg (by omega), if_pos (by omega)] at hs; rw [← hs]; exact ih m1 (i + 1) (by omega) (by omega))
                  | (rw [if_neg (by omega), if_neg (by omega), if_neg (by omega), if_neg (by omega)] at hs; rw [← hs]; exact ih m1 (i + 1) (by omega) (by omega))
                · skip
                  first
                  | (exfalso; omega; done)
                  | ( skip
                      refine AW_aload_n dX12_all_132 rfl ?_
                      refine AW_getR (a := 117) dX12_all_133 gfX12_92 (hS.cel rfl) (hS.rf rfl) ?_
                      refine AW_iload dX12_all_136 rfl ?_
                      refine AW_iald dX12_all_138 (hS.cel rfl) (by omega) (by omega) ?_
                      refine AW_iload dX12_all_139 rfl ?_
                      refine AW_icmp_le (tgt := 153) dX12_all_141 (by decide) (fun c_141 => ?_) (fun c_141 => ?_)
                      · skip
                        rw [Int.toNat_natCast, hT.v4 i40] at c_141
                        refine AW_iincE5 dX12_all_153 (by omega) (by omega) ?_
                        refine AW_goto (tgt := 45) dX12_all_156 (by decide) ?_
                        rw [show (i : Int) + 1 = ((i + 1 : Nat) : Int) by omega]
                        first
                        | (exfalso; omega; done)
                        | (rw [← allF_n hse what]; exact ih m1 (i + 1) (by omega) (by omega))
                        | (rw [if_pos (by omega)] at hs; rw [← hs]; exact ih m1 (i + 1) (by omega) (by omega))
                        | (rw [if_neg (by omega), if_pos (by omega), if_pos c_101] at hs; rw [← hs]; exact ih m1 (i + 1) (by omega) (by omega))
                        | (rw [if_neg (by omega), if_pos (by omega), if_neg c_101, Int.add_zero] at hs; rw [← hs]; exact ih m1 (i + 1) (by omega) (by omega))
                        | (rw [if_neg (by omega), if_neg (by omega), if_pos (by omega)] at hs; rw [← hs]; exact ih m1 (i + 1) (by omega) (by omega))
                        | (rw [if_neg (by omega), if_neg (by omega), if_neg (by omega), if_pos (by omega)] at hs; rw [← hs]; exact ih m1 (i + 1) (by omega) (by omega))
                        | (rw [if_neg (by omega), if_neg (by omega), if_neg (by omega), if_neg (by omega)] at hs; rw [← hs]; exact ih m1 (i + 1) (by omega) (by omega))
                      · skip
                        rw [Int.toNat_natCast, hT.v4 i40] at c_141
                        refine AW_aload_n dX12_all_144 rfl ?_
                        refine AW_getR (a := 117) dX12_all_145 gfX12_92 (hS.cel rfl) (hS.rf rfl) ?_
                        refine AW_iload dX12_all_148 rfl ?_
                        refine AW_iald dX12_all_150 (hS.cel rfl) (by omega) (by omega) ?_
                        rw [Int.toNat_natCast, hT.v4 i40]
                        refine AW_istore4 dX12_all_151 ?_
                        refine AW_iincE5 dX12_all_153 (by omega) (by omega) ?_
                        refine AW_goto (tgt := 45) dX12_all_156 (by decide) ?_
                        rw [show (i : Int) + 1 = ((i + 1 : Nat) : Int) by omega]
                        first
                        | (exfalso; omega; done)
                        | (rw [← allF_n hse what]; exact ih m1 (i + 1) (by omega) (by omega))
                        | (rw [if_pos (by omega)] at hs; rw [← hs]; exact ih m1 (i + 1) (by omega) (by omega))
                        | (rw [if_neg (by omega), if_pos (by omega), if_pos c_101] at hs; rw [← hs]; exact ih m1 (i + 1) (by omega) (by omega))
                        | (rw [if_neg (by omega), if_pos (by omega), if_neg c_101, Int.add_zero] at hs; rw [← hs]; exact ih m1 (i + 1) (by omega) (by omega))
                        | (rw [if_neg (by omega), if_neg (by omega), if_pos (by omega)] at hs; rw [← hs]; exact ih m1 (i + 1) (by omega) (by omega))
                        | (rw [if_neg (by omega), if_neg (by omega), if_neg (by omega), if_pos (by omega)] at hs; rw [← hs]; exact ih m1 (i + 1) (by omega) (by omega))
                        | (rw [if_neg (by omega), if_neg (by omega), if_neg (by omega), if_neg (by omega)] at hs; rw [← hs]; exact ih m1 (i + 1) (by omega) (by omega)))
              · skip
                first
                | (exfalso; omega; done)
                | ( skip
                    refine AW_iload dX12_all_115 rfl ?_
                    refine AW_aload_n dX12_all_117 rfl ?_
                    refine AW_getR (a := 117) dX12_all_118 gfX12_92 (hS.cel rfl) (hS.rf rfl) ?_
                    refine AW_iload dX12_all_121 rfl ?_
                    refine AW_iald dX12_all_123 (hS.cel rfl) (by omega) (by omega) ?_
                    rw [Int.toNat_natCast, hT.v4 i40]
                    refine AW_iadd dX12_all_124 ?_
                    refine AW_istore4 dX12_all_125 ?_
                    refine AW_iload_n dX12_all_127 rfl ?_
                    refine AW_iconst dX12_all_128 ?_
                    refine AW_icmp_ne (tgt := 153) dX12_all_129 (by decide) (fun c_129 => ?_) (fun c_129 => ?_)
                    · skip
                      refine AW_iincE5 dX12_all_153 (by omega) (by omega) ?_
                      refine AW_goto (tgt := 45) dX12_all_156 (by decide) ?_
                      rw [show (i : Int) + 1 = ((i + 1 : Nat) : Int) by omega]
                      first
                      | (exfalso; omega; done)
                      | (rw [← allF_n hse what]; exact ih m1 (i + 1) (by omega) (by omega))
                      | (rw [if_pos (by omega)] at hs; rw [← hs]; exact ih m1 (i + 1) (by omega) (by omega))
                      | (rw [if_neg (by omega), if_pos (by omega), if_pos c_101] at hs; rw [← hs]; exact ih m1 (i + 1) (by omega) (by omega))
                      | (rw [if_neg (by omega), if_pos (by omega), if_neg c_101, Int.add_zero] at hs; rw [← hs]; exact ih m1 (i + 1) (by omega) (by omega))
                      | (rw [if_neg (by omega), if_neg (by omega), if_pos (by omega)] at hs; rw [← hs]; exact ih m1 (i + 1) (by omega) (by omega))
                      | (rw [if_neg (by omega), if_neg (by omega), if_neg (by omega), if_pos (by omega)] at hs; rw [← hs]; exact ih m1 (i + 1) (by omega) (by omega))
                      | (rw [if_neg (by omega), if_neg (by omega), if_neg (by omega), if_neg (by omega)] at hs; rw [← hs]; exact ih m1 (i + 1) (by omega) (by omega))
                    · skip
                      first
                      | (exfalso; omega; done)
                      | ( skip
                          refine AW_aload_n dX12_all_132 rfl ?_
                          refine AW_getR (a := 117) dX12_all_133 gfX12_92 (hS.cel rfl) (hS.rf rfl) ?_
                          refine AW_iload dX12_all_136 rfl ?_
                          refine AW_iald dX12_all_138 (hS.cel rfl) (by omega) (by omega) ?_
                          refine AW_iload dX12_all_139 rfl ?_
                          refine AW_icmp_le (tgt := 153) dX12_all_141 (by decide) (fun c_141 => ?_) (fun c_141 => ?_)
                          · skip
                            rw [Int.toNat_natCast, hT.v4 i40] at c_141
                            refine AW_iincE5 dX12_all_153 (by omega) (by omega) ?_
                            refine AW_goto (tgt := 45) dX12_all_156 (by decide) ?_
                            rw [show (i : Int) + 1 = ((i + 1 : Nat) : Int) by omega]
                            first
                            | (exfalso; omega; done)
                            | (rw [← allF_n hse what]; exact ih m1 (i + 1) (by omega) (by omega))
                            | (rw [if_pos (by omega)] at hs; rw [← hs]; exact ih m1 (i + 1) (by omega) (by omega))
                            | (rw [if_neg (by omega), if_pos (by omega), if_pos c_101] at hs; rw [← hs]; exact ih m1 (i + 1) (by omega) (by omega))
                            | (rw [if_neg (by omega), if_pos (by omega), if_neg c_101, Int.add_zero] at hs; rw [← hs]; exact ih m1 (i + 1) (by omega) (by omega))
                            | (rw [if_neg (by omega), if_neg (by omega), if_pos (by omega)] at hs; rw [← hs]; exact ih m1 (i + 1) (by omega) (by omega))
                            | (rw [if_neg (by omega), if_neg (by omega), if_neg (by omega), if_pos (by omega)] at hs; rw [← hs]; exact ih m1 (i + 1) (by omega) (by omega))
                            | (rw [if_neg (by omega), if_neg (by omega), if_neg (by omega), if_neg (by omega)] at hs; rw [← hs]; exact ih m1 (i + 1) (by omega) (by omega))
                          · skip
                            rw [Int.toNat_natCast, hT.v4 i40] at c_141
                            refine AW_aload_n dX12_all_144 rfl ?_
                            refine AW_getR (a := 117) dX12_all_145 gfX12_92 (hS.cel rfl) (hS.rf rfl) ?_
                            refine AW_iload dX12_all_148 rfl ?_
                            refine AW_iald dX12_all_150 (hS.cel rfl) (by omega) (by omega) ?_
                            rw [Int.toNat_natCast, hT.v4 i40]
                            refine AW_istore4 dX12_all_151 ?_
                            refine AW_iincE5 dX12_all_153 (by omega) (by omega) ?_
                            refine AW_goto (tgt := 45) dX12_all_156 (by decide) ?_
                            rw [show (i : Int) + 1 = ((i + 1 : Nat) : Int) by omega]
                            first
                            | (exfalso; omega; done)
                            | (rw [← allF_n hse what]; exact ih m1 (i + 1) (by omega) (by omega))
                            | (rw [if_pos (by omega)] at hs; rw [← hs]; exact ih m1 (i + 1) (by omega) (by omega))
                            | (rw [if_neg (by omega), if_pos (by omega), if_pos c_101] at hs; rw [← hs]; exact ih m1 (i + 1) (by omega) (by omega))
                            | (rw [if_neg (by omega), if_pos (by omega), if_neg c_101, Int.add_zero] at hs; rw [← hs]; exact ih m1 (i + 1) (by omega) (by omega))
                            | (rw [if_neg (by omega), if_neg (by omega), if_pos (by omega)] at hs; rw [← hs]; exact ih m1 (i + 1) (by omega) (by omega))
                            | (rw [if_neg (by omega), if_neg (by omega), if_neg (by omega), if_pos (by omega)] at hs; rw [← hs]; exact ih m1 (i + 1) (by omega) (by omega))
                            | (rw [if_neg (by omega), if_neg (by omega), if_neg (by omega), if_neg (by omega)] at hs; rw [← hs]; exact ih m1 (i + 1) (by omega) (by omega))))
            · skip
              refine AW_iload_n dX12_all_88 rfl ?_
              refine AW_iconst dX12_all_89 ?_
              refine AW_icmp_ne (tgt := 110) dX12_all_90 (by decide) (fun c_90 => ?_) (fun c_90 => ?_)
              · skip
                refine AW_iload_n dX12_all_110 rfl ?_
                refine AW_iconst dX12_all_111 ?_
                refine AW_icmp_ne (tgt := 127) dX12_all_112 (by decide) (fun c_112 => ?_) (fun c_112 => ?_)
                · skip
                  refine AW_iload_n dX12_all_127 rfl ?_
                  refine AW_iconst dX12_all_128 ?_
                  refine AW_icmp_ne (tgt := 153) dX12_all_129 (by decide) (fun c_129 => ?_) (fun c_129 => ?_)
                  · skip
                    refine AW_iincE5 dX12_all_153 (by omega) (by omega) ?_
                    refine AW_goto (tgt := 45) dX12_all_156 (by decide) ?_
                    rw [show (i : Int) + 1 = ((i + 1 : Nat) : Int) by omega]
                    first
                    | (exfalso; omega; done)
                    | (rw [← allF_n hse what]; exact ih m1 (i + 1) (by omega) (by omega))
                    | (rw [if_pos (by omega)] at hs; rw [← hs]; exact ih m1 (i + 1) (by omega) (by omega))
                    | (rw [if_neg (by omega), if_pos (by omega), if_pos c_101] at hs; rw [← hs]; exact ih m1 (i + 1) (by omega) (by omega))
                    | (rw [if_neg (by omega), if_pos (by omega), if_neg c_101, Int.add_zero] at hs; rw [← hs]; exact ih m1 (i + 1) (by omega) (by omega))
                    | (rw [if_neg (by omega), if_neg (by omega), if_pos (by omega)] at hs; rw [← hs]; exact ih m1 (i + 1) (by omega) (by omega))
                    | (rw [if_neg (by omega), if_neg (by omega), if_neg (by omega), if_pos (by omega)] at hs; rw [← hs]; exact ih m1 (i + 1) (by omega) (by omega))
                    | (rw [if_neg (by omega), if_neg (by omega), if_neg (by omega), if_neg (by omega)] at hs; rw [← hs]; exact ih m1 (i + 1) (by omega) (by omega))
                  · skip
                    first
                    | (exfalso; omega; done)
                    | ( skip
                        refine AW_aload_n dX12_all_132 rfl ?_
                        refine AW_getR (a := 117) dX12_all_133 gfX12_92 (hS.cel rfl) (hS.rf rfl) ?_
                        refine AW_iload dX12_all_136 rfl ?_
                        refine AW_iald dX12_all_138 (hS.cel rfl) (by omega) (by omega) ?_
                        refine AW_iload dX12_all_139 rfl ?_
                        refine AW_icmp_le (tgt := 153) dX12_all_141 (by decide) (fun c_141 => ?_) (fun c_141 => ?_)
                        · skip
                          rw [Int.toNat_natCast, hT.v4 i40] at c_141
                          refine AW_iincE5 dX12_all_153 (by omega) (by omega) ?_
                          refine AW_goto (tgt := 45) dX12_all_156 (by decide) ?_
                          rw [show (i : Int) + 1 = ((i + 1 : Nat) : Int) by omega]
                          first
                          | (exfalso; omega; done)
                          | (rw [← allF_n hse what]; exact ih m1 (i + 1) (by omega) (by omega))
                          | (rw [if_pos (by omega)] at hs; rw [← hs]; exact ih m1 (i + 1) (by omega) (by omega))
                          | (rw [if_neg (by omega), if_pos (by omega), if_pos c_101] at hs; rw [← hs]; exact ih m1 (i + 1) (by omega) (by omega))
                          | (rw [if_neg (by omega), if_pos (by omega), if_neg c_101, Int.add_zero] at hs; rw [← hs]; exact ih m1 (i + 1) (by omega) (by omega))
                          | (rw [if_neg (by omega), if_neg (by omega), if_pos (by omega)] at hs; rw [← hs]; exact ih m1 (i + 1) (by omega) (by omega))
                          | (rw [if_neg (by omega), if_neg (by omega), if_neg (by omega), if_pos (by omega)] at hs; rw [← hs]; exact ih m1 (i + 1) (by omega) (by omega))
                          | (rw [if_neg (by omega), if_neg (by omega), if_neg (by omega), if_neg (by omega)] at hs; rw [← hs]; exact ih m1 (i + 1) (by omega) (by omega))
                        · skip
                          rw [Int.toNat_natCast, hT.v4 i40] at c_141
                          refine AW_aload_n dX12_all_144 rfl ?_
                          refine AW_getR (a := 117) dX12_all_145 gfX12_92 (hS.cel rfl) (hS.rf rfl) ?_
                          refine AW_iload dX12_all_148 rfl ?_
                          refine AW_iald dX12_all_150 (hS.cel rfl) (by omega) (by omega) ?_
                          rw [Int.toNat_natCast, hT.v4 i40]
                          refine AW_istore4 dX12_all_151 ?_
                          refine AW_iincE5 dX12_all_153 (by omega) (by omega) ?_
                          refine AW_goto (tgt := 45) dX12_all_156 (by decide) ?_
                          rw [show (i : Int) + 1 = ((i + 1 : Nat) : Int) by omega]
                          first
                          | (exfalso; omega; done)
                          | (rw [← allF_n hse what]; exact ih m1 (i + 1) (by omega) (by omega))
                          | (rw [if_pos (by omega)] at hs; rw [← hs]; exact ih m1 (i + 1) (by omega) (by omega))
                          | (rw [if_neg (by omega), if_pos (by omega), if_pos c_101] at hs; rw [← hs]; exact ih m1 (i + 1) (by omega) (by omega))
                          | (rw [if_neg (by omega), if_pos (by omega), if_neg c_101, Int.add_zero] at hs; rw [← hs]; exact ih m1 (i + 1) (by omega) (by omega))
                          | (rw [if_neg (by omega), if_neg (by omega), if_pos (by omega)] at hs; rw [← hs]; exact ih m1 (i + 1) (by omega) (by omega))
                          | (rw [if_neg (by omega), if_neg (by omega), if_neg (by omega), if_pos (by omega)] at hs; rw [← hs]; exact ih m1 (i + 1) (by omega) (by omega))
                          | (rw [if_neg (by omega), if_neg (by omega), if_neg (by omega), if_neg (by omega)] at hs; rw [← hs]; exact ih m1 (i + 1) (by omega) (by omega)))
                · skip
                  first
                  | (exfalso; omega; done)
                  | ( skip
                      refine AW_iload dX12_all_115 rfl ?_
                      refine AW_aload_n dX12_all_117 rfl ?_
                      refine AW_getR (a := 117) dX12_all_118 gfX12_92 (hS.cel rfl) (hS.rf rfl) ?_
                      refine AW_iload dX12_all_121 rfl ?_
                      refine AW_iald dX12_all_123 (hS.cel rfl) (by omega) (by omega) ?_
                      rw [Int.toNat_natCast, hT.v4 i40]
                      refine AW_iadd dX12_all_124 ?_
                      refine AW_istore4 dX12_all_125 ?_
                      refine AW_iload_n dX12_all_127 rfl ?_
                      refine AW_iconst dX12_all_128 ?_
                      refine AW_icmp_ne (tgt := 153) dX12_all_129 (by decide) (fun c_129 => ?_) (fun c_129 => ?_)
                      · skip
                        refine AW_iincE5 dX12_all_153 (by omega) (by omega) ?_
                        refine AW_goto (tgt := 45) dX12_all_156 (by decide) ?_
                        rw [show (i : Int) + 1 = ((i + 1 : Nat) : Int) by omega]
                        first
                        | (exfalso; omega; done)
                        | (rw [← allF_n hse what]; exact ih m1 (i + 1) (by omega) (by omega))
                        | (rw [if_pos (by omega)] at hs; rw [← hs]; exact ih m1 (i + 1) (by omega) (by omega))
                        | (rw [if_neg (by omega), if_pos (by omega), if_pos c_101] at hs; rw [← hs]; exact ih m1 (i + 1) (by omega) (by omega))
                        | (rw [if_neg (by omega), if_pos (by omega), if_neg c_101, Int.add_zero] at hs; rw [← hs]; exact ih m1 (i + 1) (by omega) (by omega))
                        | (rw [if_neg (by omega), if_neg (by omega), if_pos (by omega)] at hs; rw [← hs]; exact ih m1 (i + 1) (by omega) (by omega))
                        | (rw [if_neg (by omega), if_neg (by omega), if_neg (by omega), if_pos (by omega)] at hs; rw [← hs]; exact ih m1 (i + 1) (by omega) (by omega))
                        | (rw [if_neg (by omega), if_neg (by omega), if_neg (by omega), if_neg (by omega)] at hs; rw [← hs]; exact ih m1 (i + 1) (by omega) (by omega))
                      · skip
                        first
                        | (exfalso; omega; done)
                        | ( skip
                            refine AW_aload_n dX12_all_132 rfl ?_
                            refine AW_getR (a := 117) dX12_all_133 gfX12_92 (hS.cel rfl) (hS.rf rfl) ?_
                            refine AW_iload dX12_all_136 rfl ?_
                            refine AW_iald dX12_all_138 (hS.cel rfl) (by omega) (by omega) ?_
                            refine AW_iload dX12_all_139 rfl ?_
                            refine AW_icmp_le (tgt := 153) dX12_all_141 (by decide) (fun c_141 => ?_) (fun c_141 => ?_)
                            · skip
                              rw [Int.toNat_natCast, hT.v4 i40] at c_141
                              refine AW_iincE5 dX12_all_153 (by omega) (by omega) ?_
                              refine AW_goto (tgt := 45) dX12_all_156 (by decide) ?_
                              rw [show (i : Int) + 1 = ((i + 1 : Nat) : Int) by omega]
                              first
                              | (exfalso; omega; done)
                              | (rw [← allF_n hse what]; exact ih m1 (i + 1) (by omega) (by omega))
                              | (rw [if_pos (by omega)] at hs; rw [← hs]; exact ih m1 (i + 1) (by omega) (by omega))
                              | (rw [if_neg (by omega), if_pos (by omega), if_pos c_101] at hs; rw [← hs]; exact ih m1 (i + 1) (by omega) (by omega))
                              | (rw [if_neg (by omega), if_pos (by omega), if_neg c_101, Int.add_zero] at hs; rw [← hs]; exact ih m1 (i + 1) (by omega) (by omega))
                              | (rw [if_neg (by omega), if_neg (by omega), if_pos (by omega)] at hs; rw [← hs]; exact ih m1 (i + 1) (by omega) (by omega))
                              | (rw [if_neg (by omega), if_neg (by omega), if_neg (by omega), if_pos (by omega)] at hs; rw [← hs]; exact ih m1 (i + 1) (by omega) (by omega))
                              | (rw [if_neg (by omega), if_neg (by omega), if_neg (by omega), if_neg (by omega)] at hs; rw [← hs]; exact ih m1 (i + 1) (by omega) (by omega))
                            · skip
                              rw [Int.toNat_natCast, hT.v4 i40] at c_141
                              refine AW_aload_n dX12_all_144 rfl ?_
                              refine AW_getR (a := 117) dX12_all_145 gfX12_92 (hS.cel rfl) (hS.rf rfl) ?_
                              refine AW_iload dX12_all_148 rfl ?_
                              refine AW_iald dX12_all_150 (hS.cel rfl) (by omega) (by omega) ?_
                              rw [Int.toNat_natCast, hT.v4 i40]
                              refine AW_istore4 dX12_all_151 ?_
                              refine AW_iincE5 dX12_all_153 (by omega) (by omega) ?_
                              refine AW_goto (tgt := 45) dX12_all_156 (by decide) ?_
                              rw [show (i : Int) + 1 = ((i + 1 : Nat) : Int) by omega]
                              first
                              | (exfalso; omega; done)
                              | (rw [← allF_n hse what]; exact ih m1 (i + 1) (by omega) (by omega))
                              | (rw [if_pos (by omega)] at hs; rw [← hs]; exact ih m1 (i + 1) (by omega) (by omega))
                              | (rw [if_neg (by omega), if_pos (by omega), if_pos c_101] at hs; rw [← hs]; exact ih m1 (i + 1) (by omega) (by omega))
                              | (rw [if_neg (by omega), if_pos (by omega), if_neg c_101, Int.add_zero] at hs; rw [← hs]; exact ih m1 (i + 1) (by omega) (by omega))
                              | (rw [if_neg (by omega), if_neg (by omega), if_pos (by omega)] at hs; rw [← hs]; exact ih m1 (i + 1) (by omega) (by omega))
                              | (rw [if_neg (by omega), if_neg (by omega), if_neg (by omega), if_pos (by omega)] at hs; rw [← hs]; exact ih m1 (i + 1) (by omega) (by omega))
                              | (rw [if_neg (by omega), if_neg (by omega), if_neg (by omega), if_neg (by omega)] at hs; rw [← hs]; exact ih m1 (i + 1) (by omega) (by omega))))
              · skip
                refine AW_aload_n dX12_all_93 rfl ?_
                refine AW_getR (a := 116) dX12_all_94 gfX12_89 (hS.cel rfl) (hS.rf rfl) ?_
                refine AW_iload dX12_all_97 rfl ?_
                refine AW_iald dX12_all_99 (hS.cel rfl) (by omega) (by omega) ?_
                refine AW_iconst dX12_all_100 ?_
                refine AW_icmp_ne (tgt := 110) dX12_all_101 (by decide) (fun c_101 => ?_) (fun c_101 => ?_)
                · skip
                  rw [Int.toNat_natCast, hT.v3 i40] at c_101
                  refine AW_iload_n dX12_all_110 rfl ?_
                  refine AW_iconst dX12_all_111 ?_
                  refine AW_icmp_ne (tgt := 127) dX12_all_112 (by decide) (fun c_112 => ?_) (fun c_112 => ?_)
                  · skip
                    refine AW_iload_n dX12_all_127 rfl ?_
                    refine AW_iconst dX12_all_128 ?_
                    refine AW_icmp_ne (tgt := 153) dX12_all_129 (by decide) (fun c_129 => ?_) (fun c_129 => ?_)
                    · skip
                      refine AW_iincE5 dX12_all_153 (by omega) (by omega) ?_
                      refine AW_goto (tgt := 45) dX12_all_156 (by decide) ?_
                      rw [show (i : Int) + 1 = ((i + 1 : Nat) : Int) by omega]
                      first
                      | (exfalso; omega; done)
                      | (rw [← allF_n hse what]; exact ih m1 (i + 1) (by omega) (by omega))
                      | (rw [if_pos (by omega)] at hs; rw [← hs]; exact ih m1 (i + 1) (by omega) (by omega))
                      | (rw [if_neg (by omega), if_pos (by omega), if_pos c_101] at hs; rw [← hs]; exact ih m1 (i + 1) (by omega) (by omega))
                      | (rw [if_neg (by omega), if_pos (by omega), if_neg c_101, Int.add_zero] at hs; rw [← hs]; exact ih m1 (i + 1) (by omega) (by omega))
                      | (rw [if_neg (by omega), if_neg (by omega), if_pos (by omega)] at hs; rw [← hs]; exact ih m1 (i + 1) (by omega) (by omega))
                      | (rw [if_neg (by omega), if_neg (by omega), if_neg (by omega), if_pos (by omega)] at hs; rw [← hs]; exact ih m1 (i + 1) (by omega) (by omega))
                      | (rw [if_neg (by omega), if_neg (by omega), if_neg (by omega), if_neg (by omega)] at hs; rw [← hs]; exact ih m1 (i + 1) (by omega) (by omega))
                    · skip
                      first
                      | (exfalso; omega; done)
                      | ( skip
                          refine AW_aload_n dX12_all_132 rfl ?_
                          refine AW_getR (a := 117) dX12_all_133 gfX12_92 (hS.cel rfl) (hS.rf rfl) ?_
                          refine AW_iload dX12_all_136 rfl ?_
                          refine AW_iald dX12_all_138 (hS.cel rfl) (by omega) (by omega) ?_
                          refine AW_iload dX12_all_139 rfl ?_
                          refine AW_icmp_le (tgt := 153) dX12_all_141 (by decide) (fun c_141 => ?_) (fun c_141 => ?_)
                          · skip
                            rw [Int.toNat_natCast, hT.v4 i40] at c_141
                            refine AW_iincE5 dX12_all_153 (by omega) (by omega) ?_
                            refine AW_goto (tgt := 45) dX12_all_156 (by decide) ?_
                            rw [show (i : Int) + 1 = ((i + 1 : Nat) : Int) by omega]
                            first
                            | (exfalso; omega; done)
                            | (rw [← allF_n hse what]; exact ih m1 (i + 1) (by omega) (by omega))
                            | (rw [if_pos (by omega)] at hs; rw [← hs]; exact ih m1 (i + 1) (by omega) (by omega))
                            | (rw [if_neg (by omega), if_pos (by omega), if_pos c_101] at hs; rw [← hs]; exact ih m1 (i + 1) (by omega) (by omega))
                            | (rw [if_neg (by omega), if_pos (by omega), if_neg c_101, Int.add_zero] at hs; rw [← hs]; exact ih m1 (i + 1) (by omega) (by omega))
                            | (rw [if_neg (by omega), if_neg (by omega), if_pos (by omega)] at hs; rw [← hs]; exact ih m1 (i + 1) (by omega) (by omega))
                            | (rw [if_neg (by omega), if_neg (by omega), if_neg (by omega), if_pos (by omega)] at hs; rw [← hs]; exact ih m1 (i + 1) (by omega) (by omega))
                            | (rw [if_neg (by omega), if_neg (by omega), if_neg (by omega), if_neg (by omega)] at hs; rw [← hs]; exact ih m1 (i + 1) (by omega) (by omega))
                          · skip
                            rw [Int.toNat_natCast, hT.v4 i40] at c_141
                            refine AW_aload_n dX12_all_144 rfl ?_
                            refine AW_getR (a := 117) dX12_all_145 gfX12_92 (hS.cel rfl) (hS.rf rfl) ?_
                            refine AW_iload dX12_all_148 rfl ?_
                            refine AW_iald dX12_all_150 (hS.cel rfl) (by omega) (by omega) ?_
                            rw [Int.toNat_natCast, hT.v4 i40]
                            refine AW_istore4 dX12_all_151 ?_
                            refine AW_iincE5 dX12_all_153 (by omega) (by omega) ?_
                            refine AW_goto (tgt := 45) dX12_all_156 (by decide) ?_
                            rw [show (i : Int) + 1 = ((i + 1 : Nat) : Int) by omega]
                            first
                            | (exfalso; omega; done)
                            | (rw [← allF_n hse what]; exact ih m1 (i + 1) (by omega) (by omega))
                            | (rw [if_pos (by omega)] at hs; rw [← hs]; exact ih m1 (i + 1) (by omega) (by omega))
                            | (rw [if_neg (by omega), if_pos (by omega), if_pos c_101] at hs; rw [← hs]; exact ih m1 (i + 1) (by omega) (by omega))
                            | (rw [if_neg (by omega), if_pos (by omega), if_neg c_101, Int.add_zero] at hs; rw [← hs]; exact ih m1 (i + 1) (by omega) (by omega))
                            | (rw [if_neg (by omega), if_neg (by omega), if_pos (by omega)] at hs; rw [← hs]; exact ih m1 (i + 1) (by omega) (by omega))
                            | (rw [if_neg (by omega), if_neg (by omega), if_neg (by omega), if_pos (by omega)] at hs; rw [← hs]; exact ih m1 (i + 1) (by omega) (by omega))
                            | (rw [if_neg (by omega), if_neg (by omega), if_neg (by omega), if_neg (by omega)] at hs; rw [← hs]; exact ih m1 (i + 1) (by omega) (by omega)))
                  · skip
                    first
                    | (exfalso; omega; done)
                    | ( skip
                        refine AW_iload dX12_all_115 rfl ?_
                        refine AW_aload_n dX12_all_117 rfl ?_
                        refine AW_getR (a := 117) dX12_all_118 gfX12_92 (hS.cel rfl) (hS.rf rfl) ?_
                        refine AW_iload dX12_all_121 rfl ?_
                        refine AW_iald dX12_all_123 (hS.cel rfl) (by omega) (by omega) ?_
                        rw [Int.toNat_natCast, hT.v4 i40]
                        refine AW_iadd dX12_all_124 ?_
                        refine AW_istore4 dX12_all_125 ?_
                        refine AW_iload_n dX12_all_127 rfl ?_
                        refine AW_iconst dX12_all_128 ?_
                        refine AW_icmp_ne (tgt := 153) dX12_all_129 (by decide) (fun c_129 => ?_) (fun c_129 => ?_)
                        · skip
                          refine AW_iincE5 dX12_all_153 (by omega) (by omega) ?_
                          refine AW_goto (tgt := 45) dX12_all_156 (by decide) ?_
                          rw [show (i : Int) + 1 = ((i + 1 : Nat) : Int) by omega]
                          first
                          | (exfalso; omega; done)
                          | (rw [← allF_n hse what]; exact ih m1 (i + 1) (by omega) (by omega))
                          | (rw [if_pos (by omega)] at hs; rw [← hs]; exact ih m1 (i + 1) (by omega) (by omega))
                          | (rw [if_neg (by omega), if_pos (by omega), if_pos c_101] at hs; rw [← hs]; exact ih m1 (i + 1) (by omega) (by omega))
                          | (rw [if_neg (by omega), if_pos (by omega), if_neg c_101, Int.add_zero] at hs; rw [← hs]; exact ih m1 (i + 1) (by omega) (by omega))
                          | (rw [if_neg (by omega), if_neg (by omega), if_pos (by omega)] at hs; rw [← hs]; exact ih m1 (i + 1) (by omega) (by omega))
                          | (rw [if_neg (by omega), if_neg (by omega), if_neg (by omega), if_pos (by omega)] at hs; rw [← hs]; exact ih m1 (i + 1) (by omega) (by omega))
                          | (rw [if_neg (by omega), if_neg (by omega), if_neg (by omega), if_neg (by omega)] at hs; rw [← hs]; exact ih m1 (i + 1) (by omega) (by omega))
                        · skip
                          first
                          | (exfalso; omega; done)
                          | ( skip
                              refine AW_aload_n dX12_all_132 rfl ?_
                              refine AW_getR (a := 117) dX12_all_133 gfX12_92 (hS.cel rfl) (hS.rf rfl) ?_
                              refine AW_iload dX12_all_136 rfl ?_
                              refine AW_iald dX12_all_138 (hS.cel rfl) (by omega) (by omega) ?_
                              refine AW_iload dX12_all_139 rfl ?_
                              refine AW_icmp_le (tgt := 153) dX12_all_141 (by decide) (fun c_141 => ?_) (fun c_141 => ?_)
                              · skip
                                rw [Int.toNat_natCast, hT.v4 i40] at c_141
                                refine AW_iincE5 dX12_all_153 (by omega) (by omega) ?_
                                refine AW_goto (tgt := 45) dX12_all_156 (by decide) ?_
                                rw [show (i : Int) + 1 = ((i + 1 : Nat) : Int) by omega]
                                first
                                | (exfalso; omega; done)
                                | (rw [← allF_n hse what]; exact ih m1 (i + 1) (by omega) (by omega))
                                | (rw [if_pos (by omega)] at hs; rw [← hs]; exact ih m1 (i + 1) (by omega) (by omega))
                                | (rw [if_neg (by omega), if_pos (by omega), if_pos c_101] at hs; rw [← hs]; exact ih m1 (i + 1) (by omega) (by omega))
                                | (rw [if_neg (by omega), if_pos (by omega), if_neg c_101, Int.add_zero] at hs; rw [← hs]; exact ih m1 (i + 1) (by omega) (by omega))
                                | (rw [if_neg (by omega), if_neg (by omega), if_pos (by omega)] at hs; rw [← hs]; exact ih m1 (i + 1) (by omega) (by omega))
                                | (rw [if_neg (by omega), if_neg (by omega), if_neg (by omega), if_pos (by omega)] at hs; rw [← hs]; exact ih m1 (i + 1) (by omega) (by omega))
                                | (rw [if_neg (by omega), if_neg (by omega), if_neg (by omega), if_neg (by omega)] at hs; rw [← hs]; exact ih m1 (i + 1) (by omega) (by omega))
                              · skip
                                rw [Int.toNat_natCast, hT.v4 i40] at c_141
                                refine AW_aload_n dX12_all_144 rfl ?_
                                refine AW_getR (a := 117) dX12_all_145 gfX12_92 (hS.cel rfl) (hS.rf rfl) ?_
                                refine AW_iload dX12_all_148 rfl ?_
                                refine AW_iald dX12_all_150 (hS.cel rfl) (by omega) (by omega) ?_
                                rw [Int.toNat_natCast, hT.v4 i40]
                                refine AW_istore4 dX12_all_151 ?_
                                refine AW_iincE5 dX12_all_153 (by omega) (by omega) ?_
                                refine AW_goto (tgt := 45) dX12_all_156 (by decide) ?_
                                rw [show (i : Int) + 1 = ((i + 1 : Nat) : Int) by omega]
                                first
                                | (exfalso; omega; done)
                                | (rw [← allF_n hse what]; exact ih m1 (i + 1) (by omega) (by omega))
                                | (rw [if_pos (by omega)] at hs; rw [← hs]; exact ih m1 (i + 1) (by omega) (by omega))
                                | (rw [if_neg (by omega), if_pos (by omega), if_pos c_101] at hs; rw [← hs]; exact ih m1 (i + 1) (by omega) (by omega))
                                | (rw [if_neg (by omega), if_pos (by omega), if_neg c_101, Int.add_zero] at hs; rw [← hs]; exact ih m1 (i + 1) (by omega) (by omega))
                                | (rw [if_neg (by omega), if_neg (by omega), if_pos (by omega)] at hs; rw [← hs]; exact ih m1 (i + 1) (by omega) (by omega))
                                | (rw [if_neg (by omega), if_neg (by omega), if_neg (by omega), if_pos (by omega)] at hs; rw [← hs]; exact ih m1 (i + 1) (by omega) (by omega))
                                | (rw [if_neg (by omega), if_neg (by omega), if_neg (by omega), if_neg (by omega)] at hs; rw [← hs]; exact ih m1 (i + 1) (by omega) (by omega))))
                · skip
                  rw [Int.toNat_natCast, hT.v3 i40] at c_101
                  refine AW_iload dX12_all_104 rfl ?_
                  refine AW_iconst dX12_all_106 ?_
                  refine AW_iaddE dX12_all_107 (by have := hb (by omega); omega) (by have := hb (by omega); omega) ?_
                  refine AW_istore4 dX12_all_108 ?_
                  refine AW_iload_n dX12_all_110 rfl ?_
                  refine AW_iconst dX12_all_111 ?_
                  refine AW_icmp_ne (tgt := 127) dX12_all_112 (by decide) (fun c_112 => ?_) (fun c_112 => ?_)
                  · skip
                    refine AW_iload_n dX12_all_127 rfl ?_
                    refine AW_iconst dX12_all_128 ?_
                    refine AW_icmp_ne (tgt := 153) dX12_all_129 (by decide) (fun c_129 => ?_) (fun c_129 => ?_)
                    · skip
                      refine AW_iincE5 dX12_all_153 (by omega) (by omega) ?_
                      refine AW_goto (tgt := 45) dX12_all_156 (by decide) ?_
                      rw [show (i : Int) + 1 = ((i + 1 : Nat) : Int) by omega]
                      first
                      | (exfalso; omega; done)
                      | (rw [← allF_n hse what]; exact ih m1 (i + 1) (by omega) (by omega))
                      | (rw [if_pos (by omega)] at hs; rw [← hs]; exact ih m1 (i + 1) (by omega) (by omega))
                      | (rw [if_neg (by omega), if_pos (by omega), if_pos c_101] at hs; rw [← hs]; exact ih m1 (i + 1) (by omega) (by omega))
                      | (rw [if_neg (by omega), if_pos (by omega), if_neg c_101, Int.add_zero] at hs; rw [← hs]; exact ih m1 (i + 1) (by omega) (by omega))
                      | (rw [if_neg (by omega), if_neg (by omega), if_pos (by omega)] at hs; rw [← hs]; exact ih m1 (i + 1) (by omega) (by omega))
                      | (rw [if_neg (by omega), if_neg (by omega), if_neg (by omega), if_pos (by omega)] at hs; rw [← hs]; exact ih m1 (i + 1) (by omega) (by omega))
                      | (rw [if_neg (by omega), if_neg (by omega), if_neg (by omega), if_neg (by omega)] at hs; rw [← hs]; exact ih m1 (i + 1) (by omega) (by omega))
                    · skip
                      first
                      | (exfalso; omega; done)
                      | ( skip
                          refine AW_aload_n dX12_all_132 rfl ?_
                          refine AW_getR (a := 117) dX12_all_133 gfX12_92 (hS.cel rfl) (hS.rf rfl) ?_
                          refine AW_iload dX12_all_136 rfl ?_
                          refine AW_iald dX12_all_138 (hS.cel rfl) (by omega) (by omega) ?_
                          refine AW_iload dX12_all_139 rfl ?_
                          refine AW_icmp_le (tgt := 153) dX12_all_141 (by decide) (fun c_141 => ?_) (fun c_141 => ?_)
                          · skip
                            rw [Int.toNat_natCast, hT.v4 i40] at c_141
                            refine AW_iincE5 dX12_all_153 (by omega) (by omega) ?_
                            refine AW_goto (tgt := 45) dX12_all_156 (by decide) ?_
                            rw [show (i : Int) + 1 = ((i + 1 : Nat) : Int) by omega]
                            first
                            | (exfalso; omega; done)
                            | (rw [← allF_n hse what]; exact ih m1 (i + 1) (by omega) (by omega))
                            | (rw [if_pos (by omega)] at hs; rw [← hs]; exact ih m1 (i + 1) (by omega) (by omega))
                            | (rw [if_neg (by omega), if_pos (by omega), if_pos c_101] at hs; rw [← hs]; exact ih m1 (i + 1) (by omega) (by omega))
                            | (rw [if_neg (by omega), if_pos (by omega), if_neg c_101, Int.add_zero] at hs; rw [← hs]; exact ih m1 (i + 1) (by omega) (by omega))
                            | (rw [if_neg (by omega), if_neg (by omega), if_pos (by omega)] at hs; rw [← hs]; exact ih m1 (i + 1) (by omega) (by omega))
                            | (rw [if_neg (by omega), if_neg (by omega), if_neg (by omega), if_pos (by omega)] at hs; rw [← hs]; exact ih m1 (i + 1) (by omega) (by omega))
                            | (rw [if_neg (by omega), if_neg (by omega), if_neg (by omega), if_neg (by omega)] at hs; rw [← hs]; exact ih m1 (i + 1) (by omega) (by omega))
                          · skip
                            rw [Int.toNat_natCast, hT.v4 i40] at c_141
                            refine AW_aload_n dX12_all_144 rfl ?_
                            refine AW_getR (a := 117) dX12_all_145 gfX12_92 (hS.cel rfl) (hS.rf rfl) ?_
                            refine AW_iload dX12_all_148 rfl ?_
                            refine AW_iald dX12_all_150 (hS.cel rfl) (by omega) (by omega) ?_
                            rw [Int.toNat_natCast, hT.v4 i40]
                            refine AW_istore4 dX12_all_151 ?_
                            refine AW_iincE5 dX12_all_153 (by omega) (by omega) ?_
                            refine AW_goto (tgt := 45) dX12_all_156 (by decide) ?_
                            rw [show (i : Int) + 1 = ((i + 1 : Nat) : Int) by omega]
                            first
                            | (exfalso; omega; done)
                            | (rw [← allF_n hse what]; exact ih m1 (i + 1) (by omega) (by omega))
                            | (rw [if_pos (by omega)] at hs; rw [← hs]; exact ih m1 (i + 1) (by omega) (by omega))
                            | (rw [if_neg (by omega), if_pos (by omega), if_pos c_101] at hs; rw [← hs]; exact ih m1 (i + 1) (by omega) (by omega))
                            | (rw [if_neg (by omega), if_pos (by omega), if_neg c_101, Int.add_zero] at hs; rw [← hs]; exact ih m1 (i + 1) (by omega) (by omega))
                            | (rw [if_neg (by omega), if_neg (by omega), if_pos (by omega)] at hs; rw [← hs]; exact ih m1 (i + 1) (by omega) (by omega))
                            | (rw [if_neg (by omega), if_neg (by omega), if_neg (by omega), if_pos (by omega)] at hs; rw [← hs]; exact ih m1 (i + 1) (by omega) (by omega))
                            | (rw [if_neg (by omega), if_neg (by omega), if_neg (by omega), if_neg (by omega)] at hs; rw [← hs]; exact ih m1 (i + 1) (by omega) (by omega)))
                  · skip
                    first
                    | (exfalso; omega; done)
                    | ( skip
                        refine AW_iload dX12_all_115 rfl ?_
                        refine AW_aload_n dX12_all_117 rfl ?_
                        refine AW_getR (a := 117) dX12_all_118 gfX12_92 (hS.cel rfl) (hS.rf rfl) ?_
                        refine AW_iload dX12_all_121 rfl ?_
                        refine AW_iald dX12_all_123 (hS.cel rfl) (by omega) (by omega) ?_
                        rw [Int.toNat_natCast, hT.v4 i40]
                        refine AW_iadd dX12_all_124 ?_
                        refine AW_istore4 dX12_all_125 ?_
                        refine AW_iload_n dX12_all_127 rfl ?_
                        refine AW_iconst dX12_all_128 ?_
                        refine AW_icmp_ne (tgt := 153) dX12_all_129 (by decide) (fun c_129 => ?_) (fun c_129 => ?_)
                        · skip
                          refine AW_iincE5 dX12_all_153 (by omega) (by omega) ?_
                          refine AW_goto (tgt := 45) dX12_all_156 (by decide) ?_
                          rw [show (i : Int) + 1 = ((i + 1 : Nat) : Int) by omega]
                          first
                          | (exfalso; omega; done)
                          | (rw [← allF_n hse what]; exact ih m1 (i + 1) (by omega) (by omega))
                          | (rw [if_pos (by omega)] at hs; rw [← hs]; exact ih m1 (i + 1) (by omega) (by omega))
                          | (rw [if_neg (by omega), if_pos (by omega), if_pos c_101] at hs; rw [← hs]; exact ih m1 (i + 1) (by omega) (by omega))
                          | (rw [if_neg (by omega), if_pos (by omega), if_neg c_101, Int.add_zero] at hs; rw [← hs]; exact ih m1 (i + 1) (by omega) (by omega))
                          | (rw [if_neg (by omega), if_neg (by omega), if_pos (by omega)] at hs; rw [← hs]; exact ih m1 (i + 1) (by omega) (by omega))
                          | (rw [if_neg (by omega), if_neg (by omega), if_neg (by omega), if_pos (by omega)] at hs; rw [← hs]; exact ih m1 (i + 1) (by omega) (by omega))
                          | (rw [if_neg (by omega), if_neg (by omega), if_neg (by omega), if_neg (by omega)] at hs; rw [← hs]; exact ih m1 (i + 1) (by omega) (by omega))
                        · skip
                          first
                          | (exfalso; omega; done)
                          | ( skip
                              refine AW_aload_n dX12_all_132 rfl ?_
                              refine AW_getR (a := 117) dX12_all_133 gfX12_92 (hS.cel rfl) (hS.rf rfl) ?_
                              refine AW_iload dX12_all_136 rfl ?_
                              refine AW_iald dX12_all_138 (hS.cel rfl) (by omega) (by omega) ?_
                              refine AW_iload dX12_all_139 rfl ?_
                              refine AW_icmp_le (tgt := 153) dX12_all_141 (by decide) (fun c_141 => ?_) (fun c_141 => ?_)
                              · skip
                                rw [Int.toNat_natCast, hT.v4 i40] at c_141
                                refine AW_iincE5 dX12_all_153 (by omega) (by omega) ?_
                                refine AW_goto (tgt := 45) dX12_all_156 (by decide) ?_
                                rw [show (i : Int) + 1 = ((i + 1 : Nat) : Int) by omega]
                                first
                                | (exfalso; omega; done)
                                | (rw [← allF_n hse what]; exact ih m1 (i + 1) (by omega) (by omega))
                                | (rw [if_pos (by omega)] at hs; rw [← hs]; exact ih m1 (i + 1) (by omega) (by omega))
                                | (rw [if_neg (by omega), if_pos (by omega), if_pos c_101] at hs; rw [← hs]; exact ih m1 (i + 1) (by omega) (by omega))
                                | (rw [if_neg (by omega), if_pos (by omega), if_neg c_101, Int.add_zero] at hs; rw [← hs]; exact ih m1 (i + 1) (by omega) (by omega))
                                | (rw [if_neg (by omega), if_neg (by omega), if_pos (by omega)] at hs; rw [← hs]; exact ih m1 (i + 1) (by omega) (by omega))
                                | (rw [if_neg (by omega), if_neg (by omega), if_neg (by omega), if_pos (by omega)] at hs; rw [← hs]; exact ih m1 (i + 1) (by omega) (by omega))
                                | (rw [if_neg (by omega), if_neg (by omega), if_neg (by omega), if_neg (by omega)] at hs; rw [← hs]; exact ih m1 (i + 1) (by omega) (by omega))
                              · skip
                                rw [Int.toNat_natCast, hT.v4 i40] at c_141
                                refine AW_aload_n dX12_all_144 rfl ?_
                                refine AW_getR (a := 117) dX12_all_145 gfX12_92 (hS.cel rfl) (hS.rf rfl) ?_
                                refine AW_iload dX12_all_148 rfl ?_
                                refine AW_iald dX12_all_150 (hS.cel rfl) (by omega) (by omega) ?_
                                rw [Int.toNat_natCast, hT.v4 i40]
                                refine AW_istore4 dX12_all_151 ?_
                                refine AW_iincE5 dX12_all_153 (by omega) (by omega) ?_
                                refine AW_goto (tgt := 45) dX12_all_156 (by decide) ?_
                                rw [show (i : Int) + 1 = ((i + 1 : Nat) : Int) by omega]
                                first
                                | (exfalso; omega; done)
                                | (rw [← allF_n hse what]; exact ih m1 (i + 1) (by omega) (by omega))
                                | (rw [if_pos (by omega)] at hs; rw [← hs]; exact ih m1 (i + 1) (by omega) (by omega))
                                | (rw [if_neg (by omega), if_pos (by omega), if_pos c_101] at hs; rw [← hs]; exact ih m1 (i + 1) (by omega) (by omega))
                                | (rw [if_neg (by omega), if_pos (by omega), if_neg c_101, Int.add_zero] at hs; rw [← hs]; exact ih m1 (i + 1) (by omega) (by omega))
                                | (rw [if_neg (by omega), if_neg (by omega), if_pos (by omega)] at hs; rw [← hs]; exact ih m1 (i + 1) (by omega) (by omega))
                                | (rw [if_neg (by omega), if_neg (by omega), if_neg (by omega), if_pos (by omega)] at hs; rw [← hs]; exact ih m1 (i + 1) (by omega) (by omega))
                                | (rw [if_neg (by omega), if_neg (by omega), if_neg (by omega), if_neg (by omega)] at hs; rw [← hs]; exact ih m1 (i + 1) (by omega) (by omega))))
          · skip
            rw [Int.toNat_natCast, hT.v1 i40] at c_78
            have hse : ¬ sel w.1 side sort i := fun q => q.2.elim c_67 c_78
            refine AW_goto (tgt := 153) dX12_all_81 (by decide) ?_
            refine AW_iincE5 dX12_all_153 (by omega) (by omega) ?_
            refine AW_goto (tgt := 45) dX12_all_156 (by decide) ?_
            rw [show (i : Int) + 1 = ((i + 1 : Nat) : Int) by omega]
            first
            | (exfalso; omega; done)
            | (rw [← allF_n hse what]; exact ih m1 (i + 1) (by omega) (by omega))
            | (rw [if_pos (by omega)] at hs; rw [← hs]; exact ih m1 (i + 1) (by omega) (by omega))
            | (rw [if_neg (by omega), if_pos (by omega), if_pos c_101] at hs; rw [← hs]; exact ih m1 (i + 1) (by omega) (by omega))
            | (rw [if_neg (by omega), if_pos (by omega), if_neg c_101, Int.add_zero] at hs; rw [← hs]; exact ih m1 (i + 1) (by omega) (by omega))
            | (rw [if_neg (by omega), if_neg (by omega), if_pos (by omega)] at hs; rw [← hs]; exact ih m1 (i + 1) (by omega) (by omega))
            | (rw [if_neg (by omega), if_neg (by omega), if_neg (by omega), if_pos (by omega)] at hs; rw [← hs]; exact ih m1 (i + 1) (by omega) (by omega))
            | (rw [if_neg (by omega), if_neg (by omega), if_neg (by omega), if_neg (by omega)] at hs; rw [← hs]; exact ih m1 (i + 1) (by omega) (by omega))
theorem m_all {G : Gt} {d : Nat} {σ : St} (hd : 2 ≤ d) {D : Mk} {n : Nat} {w : Tw} (hS : Sta σ) (hR : RepM D σ) (hW : WFm D) (hT : TwM n w σ) (hw : WFP D n w.1) (side sort what : Int)  : AM mX12_all G d 0 0 [vR 94, vI side, vI sort, vI what] σ (fun ro ρ => Fm [0] [] σ ρ ∧ ro = some (vI (if (((side = 0 ∨ side = 1) ∧ (sort = -1 ∨ 0 ≤ sort ∧ sort < D 0 side.toNat)) ∧ 0 ≤ what ∧ what ≤ 3) then allF w.1 side sort what.toNat n else -1))) := by
  refine AM.intro (by decide +kernel) (by simp [nLg]) (Nat.le_of_ble_eq_true rfl) (fun hO => ?_)
  have i_side : -2147483648 ≤ side ∧ side < 2147483648 := hO (vI side) (by simp)
  have i_sort : -2147483648 ≤ sort ∧ sort < 2147483648 := hO (vI sort) (by simp)
  have i_what : -2147483648 ≤ what ∧ what < 2147483648 := hO (vI what) (by simp)
  show AW _ _ _ _ _ _ 0 [some (vR 94), some (vI side), some (vI sort), some (vI what), none, none] [] σ
  refine AW_aload_n dX12_all_0 rfl ?_
  refine AW_iconst dX12_all_1 ?_
  refine AW_putI dX12_all_2 (Or.inl pfX12_142) (hS.cel rfl) ?_
  have hF1 : Fm [0] [] σ (upI σ 94 0 0) := Fm.rf.uf (by decide) _
  have hS1 : Sta (upI σ 94 0 0) := hS
  have hT1 := hT.fm hF1
  have hR1 := hR.fm hF1
  generalize upI σ 94 0 0 = σ1 at hF1 hS1 hT1 hR1 ⊢
  refine AW_aload_n dX12_all_5 rfl ?_
  refine AW_iload_n dX12_all_6 rfl ?_
  refine AW_callV1 (d' := d - 1) dX12_all_7 (Or.inl lkX12_145) mfX12_isSide (hS1.cel rfl) ⟨_, rfl, rfl⟩ (n_isSide side) (by omega) (Nat.le_of_ble_eq_true rfl) ?_
  rintro _ _ ⟨e_, rfl⟩ -
  rw [e_]
  clear e_
  refine AW_if_eq (tgt := 37) dX12_all_10 (by decide) (fun c_10 => ?_) (fun c_10 => ?_)
  · skip
    replace c_10 := bz0 c_10
    refine AW_iconst dX12_all_37 ?_
    refine AW_iret dX12_all_38 rfl ?_
    exact ⟨hF1, by rw [if_neg (by omega)]⟩
  · skip
    replace c_10 := bz1 c_10
    refine AW_iload_n dX12_all_13 rfl ?_
    refine AW_iconst dX12_all_14 ?_
    refine AW_icmp_eq (tgt := 27) dX12_all_15 (by decide) (fun c_15 => ?_) (fun c_15 => ?_)
    · skip
      refine AW_aload_n dX12_all_27 rfl ?_
      refine AW_iload_n dX12_all_28 rfl ?_
      refine AW_iconst dX12_all_29 ?_
      refine AW_iconst dX12_all_30 ?_
      refine AW_callV3 (d' := d - 1) dX12_all_31 (Or.inl lkX12_149) mfX12_isIn (hS1.cel rfl) ⟨_, rfl, rfl⟩ (n_isIn what 0 3) (by omega) (Nat.le_of_ble_eq_true rfl) ?_
      rintro _ _ ⟨e_, rfl⟩ -
      rw [e_]
      clear e_
      refine AW_if_ne (tgt := 39) dX12_all_34 (by decide) (fun c_34 => ?_) (fun c_34 => ?_)
      · skip
        replace c_34 := bz1 c_34
        refine AW_iconst dX12_all_39 ?_
        refine AW_istore4 dX12_all_40 ?_
        refine AW_iconst dX12_all_42 ?_
        refine AW_istore5 dX12_all_43 ?_
        obtain ⟨kn, rfl⟩ : ∃ kn : Nat, what = (kn : Int) := ⟨what.toNat, by omega⟩
        refine AW_mq (fun r τ q => ⟨by rw [q.1]; exact hF1, by rw [q.2, if_pos (by omega), Int.toNat_natCast]⟩) (ln_all (what := kn) hS1 hT1 hw (by omega) (n + 1) n 0 (by omega) (by omega))
      · skip
        replace c_34 := bz0 c_34
        refine AW_iconst dX12_all_37 ?_
        refine AW_iret dX12_all_38 rfl ?_
        exact ⟨hF1, by rw [if_neg (by omega)]⟩
    · skip
      refine AW_aload_n dX12_all_18 rfl ?_
      refine AW_iload_n dX12_all_19 rfl ?_
      refine AW_iload_n dX12_all_20 rfl ?_
      refine AW_callV2 (d' := d - 1) dX12_all_21 (Or.inl lkX12_160) mfX12_isSort (hS1.cel rfl) ⟨_, rfl, rfl⟩ (n_isSort (by omega) hS1 hR1 hW side sort) (by omega) (Nat.le_of_ble_eq_true rfl) ?_
      rintro _ _ ⟨e_, rfl⟩ -
      rw [e_]
      clear e_
      refine AW_if_eq (tgt := 37) dX12_all_24 (by decide) (fun c_24 => ?_) (fun c_24 => ?_)
      · skip
        replace c_24 := bz0 c_24
        refine AW_iconst dX12_all_37 ?_
        refine AW_iret dX12_all_38 rfl ?_
        exact ⟨hF1, by rw [if_neg (by omega)]⟩
      · skip
        replace c_24 := bz1 c_24
        refine AW_aload_n dX12_all_27 rfl ?_
        refine AW_iload_n dX12_all_28 rfl ?_
        refine AW_iconst dX12_all_29 ?_
        refine AW_iconst dX12_all_30 ?_
        refine AW_callV3 (d' := d - 1) dX12_all_31 (Or.inl lkX12_149) mfX12_isIn (hS1.cel rfl) ⟨_, rfl, rfl⟩ (n_isIn what 0 3) (by omega) (Nat.le_of_ble_eq_true rfl) ?_
        rintro _ _ ⟨e_, rfl⟩ -
        rw [e_]
        clear e_
        refine AW_if_ne (tgt := 39) dX12_all_34 (by decide) (fun c_34 => ?_) (fun c_34 => ?_)
        · skip
          replace c_34 := bz1 c_34
          refine AW_iconst dX12_all_39 ?_
          refine AW_istore4 dX12_all_40 ?_
          refine AW_iconst dX12_all_42 ?_
          refine AW_istore5 dX12_all_43 ?_
          obtain ⟨kn, rfl⟩ : ∃ kn : Nat, what = (kn : Int) := ⟨what.toNat, by omega⟩
          refine AW_mq (fun r τ q => ⟨by rw [q.1]; exact hF1, by rw [q.2, if_pos (by omega), Int.toNat_natCast]⟩) (ln_all (what := kn) hS1 hT1 hw (by omega) (n + 1) n 0 (by omega) (by omega))
        · skip
          replace c_34 := bz0 c_34
          refine AW_iconst dX12_all_37 ?_
          refine AW_iret dX12_all_38 rfl ?_
          exact ⟨hF1, by rw [if_neg (by omega)]⟩
theorem m_town {G : Gt} {d : Nat} {σ : St} (hd : 1 ≤ d) {D : Mk} {n : Nat} {w : Tw} (hS : Sta σ) (hT : TwM n w σ) (hw : WFP D n w.1) (what : Int)  : AM mX12_town G d 0 0 [vR 94, vI what] σ (fun ro ρ => Fm [0] [] σ ρ ∧ ro = some (vI (townV n w what))) := by
  refine AM.intro (by decide +kernel) (by simp [nLg]) (Nat.le_of_ble_eq_true rfl) (fun hO => ?_)
  have i_what : -2147483648 ≤ what ∧ what < 2147483648 := hO (vI what) (by simp)
  show AW _ _ _ _ _ _ 0 [some (vR 94), some (vI what)] [] σ
  refine AW_aload_n dX12_town_0 rfl ?_
  refine AW_iconst dX12_town_1 ?_
  refine AW_putI dX12_town_2 (Or.inl pfX12_142) (hS.cel rfl) ?_
  have hF1 : Fm [0] [] σ (upI σ 94 0 0) := Fm.rf.uf (by decide) _
  have hS1 : Sta (upI σ 94 0 0) := hS
  have hT1 := hT.fm hF1
  generalize upI σ 94 0 0 = σ1 at hF1 hS1 hT1 ⊢
  refine AW_iload_n dX12_town_5 rfl ?_
  refine AW_if_ne (tgt := 14) dX12_town_6 (by decide) (fun c_6 => ?_) (fun c_6 => ?_)
  · skip
    refine AW_iload_n dX12_town_14 rfl ?_
    refine AW_iconst dX12_town_15 ?_
    refine AW_icmp_ne (tgt := 24) dX12_town_16 (by decide) (fun c_16 => ?_) (fun c_16 => ?_)
    · skip
      refine AW_iload_n dX12_town_24 rfl ?_
      refine AW_iconst dX12_town_25 ?_
      refine AW_icmp_ne (tgt := 34) dX12_town_26 (by decide) (fun c_26 => ?_) (fun c_26 => ?_)
      · skip
        refine AW_iload_n dX12_town_34 rfl ?_
        refine AW_iconst dX12_town_35 ?_
        refine AW_icmp_ne (tgt := 44) dX12_town_36 (by decide) (fun c_36 => ?_) (fun c_36 => ?_)
        · skip
          refine AW_iload_n dX12_town_44 rfl ?_
          refine AW_iconst dX12_town_45 ?_
          refine AW_icmp_ne (tgt := 54) dX12_town_46 (by decide) (fun c_46 => ?_) (fun c_46 => ?_)
          · skip
            refine AW_iload_n dX12_town_54 rfl ?_
            refine AW_iconst dX12_town_55 ?_
            refine AW_icmp_ne (tgt := 64) dX12_town_56 (by decide) (fun c_56 => ?_) (fun c_56 => ?_)
            · skip
              refine AW_iload_n dX12_town_64 rfl ?_
              refine AW_bipush dX12_town_65 ?_
              refine AW_icmp_ne (tgt := 75) dX12_town_67 (by decide) (fun c_67 => ?_) (fun c_67 => ?_)
              · skip
                refine AW_iload_n dX12_town_75 rfl ?_
                refine AW_bipush dX12_town_76 ?_
                refine AW_icmp_ne (tgt := 88) dX12_town_78 (by decide) (fun c_78 => ?_) (fun c_78 => ?_)
                · skip
                  refine AW_iconst dX12_town_88 ?_
                  refine AW_iret dX12_town_89 rfl ?_
                  first
                  | (refine ⟨hF1, ?_⟩
                     unfold townV
                     rw [if_neg (by omega), if_neg (by omega), if_neg (by omega), if_neg (by omega), if_neg (by omega), if_neg (by omega), if_neg (by omega), if_pos (by omega), hT1.2.2.2]; done)
                  | (refine ⟨hF1, ?_⟩
                     unfold townV
                     rw [if_neg (by omega), if_neg (by omega), if_neg (by omega), if_neg (by omega), if_neg (by omega), if_neg (by omega), if_neg (by omega), if_neg (by omega)]; done)
                · skip
                  refine AW_aload_n dX12_town_81 rfl ?_
                  refine AW_getI dX12_town_82 gfX12_308 (hS1.cel rfl) ?_
                  refine AW_goto (tgt := 89) dX12_town_85 (by decide) ?_
                  refine AW_iret dX12_town_89 rfl ?_
                  first
                  | (refine ⟨hF1, ?_⟩
                     unfold townV
                     rw [if_neg (by omega), if_neg (by omega), if_neg (by omega), if_neg (by omega), if_neg (by omega), if_neg (by omega), if_neg (by omega), if_pos (by omega), hT1.2.2.2]; done)
                  | (refine ⟨hF1, ?_⟩
                     unfold townV
                     rw [if_neg (by omega), if_neg (by omega), if_neg (by omega), if_neg (by omega), if_neg (by omega), if_neg (by omega), if_neg (by omega), if_neg (by omega)]; done)
              · skip
                refine AW_aload_n dX12_town_70 rfl ?_
                refine AW_getI dX12_town_71 gfX12_337 (hS1.cel rfl) ?_
                refine AW_iret dX12_town_74 rfl ?_
                refine ⟨hF1, ?_⟩
                unfold townV
                rw [if_neg (by omega), if_neg (by omega), if_neg (by omega), if_neg (by omega), if_neg (by omega), if_neg (by omega), if_pos (by omega), hT1.t4]
            · skip
              refine AW_aload_n dX12_town_59 rfl ?_
              refine AW_getI dX12_town_60 gfX12_362 (hS1.cel rfl) ?_
              refine AW_iret dX12_town_63 rfl ?_
              refine ⟨hF1, ?_⟩
              unfold townV
              rw [if_neg (by omega), if_neg (by omega), if_neg (by omega), if_neg (by omega), if_neg (by omega), if_pos (by omega), hT1.t3]
          · skip
            refine AW_aload_n dX12_town_49 rfl ?_
            refine AW_getI dX12_town_50 gfX12_328 (hS1.cel rfl) ?_
            refine AW_iret dX12_town_53 rfl ?_
            refine ⟨hF1, ?_⟩
            unfold townV
            rw [if_neg (by omega), if_neg (by omega), if_neg (by omega), if_neg (by omega), if_pos (by omega), hT1.t2]
        · skip
          refine AW_aload_n dX12_town_39 rfl ?_
          refine AW_getI dX12_town_40 gfX12_349 (hS1.cel rfl) ?_
          refine AW_iret dX12_town_43 rfl ?_
          refine ⟨hF1, ?_⟩
          unfold townV
          rw [if_neg (by omega), if_neg (by omega), if_neg (by omega), if_pos (by omega), hT1.t1]
      · skip
        refine AW_aload_n dX12_town_29 rfl ?_
        refine AW_callV0 (d' := d - 1) dX12_town_30 (Or.inl lkX12_374) mfX12_pairMany (hS1.cel rfl) ⟨_, rfl, rfl⟩ (n_pm hS1 hT1 hw) (by omega) (Nat.le_of_ble_eq_true rfl) ?_
        rintro _ _ ⟨rfl, rfl⟩ -
        refine AW_iret dX12_town_33 rfl ?_
        refine ⟨hF1, ?_⟩
        unfold townV
        rw [if_neg (by omega), if_neg (by omega), if_pos (by omega)]
    · skip
      refine AW_aload_n dX12_town_19 rfl ?_
      refine AW_getI dX12_town_20 gfX12_153 (hS1.cel rfl) ?_
      refine AW_iret dX12_town_23 rfl ?_
      refine ⟨hF1, ?_⟩
      unfold townV
      rw [if_neg (by omega), if_pos (by omega), hT1.2.1]
  · skip
    refine AW_aload_n dX12_town_9 rfl ?_
    refine AW_getI dX12_town_10 gfX12_314 (hS1.cel rfl) ?_
    refine AW_iret dX12_town_13 rfl ?_
    refine ⟨hF1, ?_⟩
    unfold townV
    rw [if_pos (by omega), hT1.t0]
theorem m_state {G : Gt} {d : Nat} {σ : St}  {n : Nat} {w : Tw} (hS : Sta σ) (hT : TwM n w σ) (v : Int)  : AM mX12_state G d 0 0 [vR 94, vI v] σ (fun ro ρ => ro = some (vI w.2.2) ∧ TwM n (w.1, w.2.1, v) ρ ∧ Fm [0, 53] [] σ ρ) := by
  refine AM.intro (by decide +kernel) (by simp [nLg]) (Nat.le_of_ble_eq_true rfl) (fun hO => ?_)
  have i_v : -2147483648 ≤ v ∧ v < 2147483648 := hO (vI v) (by simp)
  show AW _ _ _ _ _ _ 0 [some (vR 94), some (vI v), none] [] σ
  refine AW_aload_n dX12_state_0 rfl ?_
  refine AW_iconst dX12_state_1 ?_
  refine AW_putI dX12_state_2 (Or.inl pfX12_142) (hS.cel rfl) ?_
  have hF1 : Fm [0] [] σ (upI σ 94 0 0) := Fm.rf.uf (by decide) _
  have hS1 : Sta (upI σ 94 0 0) := hS
  have hT1 := hT.fm hF1
  generalize upI σ 94 0 0 = σ1 at hF1 hS1 hT1 ⊢
  refine AW_aload_n dX12_state_5 rfl ?_
  refine AW_getI dX12_state_6 gfX12_308 (hS1.cel rfl) ?_
  rw [hT1.2.2.2]
  refine AW_istore2 dX12_state_9 ?_
  refine AW_aload_n dX12_state_10 rfl ?_
  refine AW_iload_n dX12_state_11 rfl ?_
  refine AW_putI dX12_state_12 (Or.inl pfX12_308) (hS1.cel rfl) ?_
  refine AW_iload_n dX12_state_15 rfl ?_
  refine AW_iret dX12_state_16 rfl ?_
  exact ⟨rfl, hT1.uz v, (hF1.mo (by decide) (by decide)).uf (by decide) _⟩
theorem TwM.come {n : Nat} {w : Tw} {σ : St} (h : TwM n w σ) (side sort way : Int) : TwM (n + 1) (comeP w.1 n side sort way, w.2) (upI (upI (upI (upI (upI σ 113 n side) 114 n sort) 115 n way) 116 n (-1)) 94 42 ((n : Int) + 1)) := by
  have h1 := (((h.uP (p := n) 0 113 side).uP (p := n) 1 114 sort).uP (p := n) 2 115 way).uP (p := n) 3 116 (-1)
  refine ⟨fun f p hf hp => ?_, ?_, fun i hi => ?_, ?_⟩
  · rw [up_r _ _ _ _ (by omega)]; exact h1.1 f p hf hp
  · rw [up_at]; omega
  · rw [up_j _ _ _ (by omega)]; exact h1.2.2.1 i hi
  · rw [up_j _ _ _ (by decide)]; exact h1.2.2.2
theorem m_come {G : Gt} {d : Nat} {σ : St} (hd : 2 ≤ d) {D : Mk} {n : Nat} {w : Tw} (hS : Sta σ) (hR : RepM D σ) (hW : WFm D) (hT : TwM n w σ) (hw : WFP D n w.1) (side sort way : Int)  : AM mX12_come G d 0 0 [vR 94, vI side, vI sort, vI way] σ (fun ro ρ => ∃ z : Int, ro = some (vI z) ∧ ((¬ (((side = 0 ∨ side = 1) ∧ 0 ≤ sort ∧ sort < D 0 side.toNat) ∧ (0 ≤ way ∧ way < 6) ∧ n < 40) ∧ z = -1 ∧ Fm [0] [] σ ρ) ∨ ((((side = 0 ∨ side = 1) ∧ 0 ≤ sort ∧ sort < D 0 side.toNat) ∧ (0 ≤ way ∧ way < 6) ∧ n < 40) ∧ z = n ∧ TwM (n + 1) (comeP w.1 n side sort way, w.2) ρ ∧ Fm [0, 42] [113, 114, 115, 116] σ ρ))) := by
  refine AM.intro (by decide +kernel) (by simp [nLg]) (Nat.le_of_ble_eq_true rfl) (fun hO => ?_)
  have i_side : -2147483648 ≤ side ∧ side < 2147483648 := hO (vI side) (by simp)
  have i_sort : -2147483648 ≤ sort ∧ sort < 2147483648 := hO (vI sort) (by simp)
  have i_way : -2147483648 ≤ way ∧ way < 2147483648 := hO (vI way) (by simp)
  show AW _ _ _ _ _ _ 0 [some (vR 94), some (vI side), some (vI sort), some (vI way)] [] σ
  have hn40 := hw.1
  refine AW_aload_n dX12_come_0 rfl ?_
  refine AW_iconst dX12_come_1 ?_
  refine AW_putI dX12_come_2 (Or.inl pfX12_142) (hS.cel rfl) ?_
  have hF1 : Fm [0] [] σ (upI σ 94 0 0) := Fm.rf.uf (by decide) _
  have hS1 : Sta (upI σ 94 0 0) := hS
  have hT1 := hT.fm hF1
  have hR1 := hR.fm hF1
  generalize upI σ 94 0 0 = σ1 at hF1 hS1 hT1 hR1 ⊢
  refine AW_aload_n dX12_come_5 rfl ?_
  refine AW_iload_n dX12_come_6 rfl ?_
  refine AW_iload_n dX12_come_7 rfl ?_
  refine AW_callV2 (d' := d - 1) dX12_come_8 (Or.inl lkX12_160) mfX12_isSort (hS1.cel rfl) ⟨_, rfl, rfl⟩ (n_isSort (by omega) hS1 hR1 hW side sort) (by omega) (Nat.le_of_ble_eq_true rfl) ?_
  rintro _ _ ⟨e_, rfl⟩ -
  rw [e_]
  clear e_
  refine AW_if_eq (tgt := 33) dX12_come_11 (by decide) (fun c_11 => ?_) (fun c_11 => ?_)
  · skip
    replace c_11 := bz0 c_11
    refine AW_iconst dX12_come_33 ?_
    refine AW_iret dX12_come_34 rfl ?_
    exact ⟨-1, rfl, Or.inl ⟨by omega, rfl, hF1⟩⟩
  · skip
    replace c_11 := bz1 c_11
    refine AW_aload_n dX12_come_14 rfl ?_
    refine AW_iload_n dX12_come_15 rfl ?_
    refine AW_iconst dX12_come_16 ?_
    refine AW_iconst dX12_come_17 ?_
    refine AW_callV3 (d' := d - 1) dX12_come_18 (Or.inl lkX12_149) mfX12_isIn (hS1.cel rfl) ⟨_, rfl, rfl⟩ (n_isIn way 0 5) (by omega) (Nat.le_of_ble_eq_true rfl) ?_
    rintro _ _ ⟨e_, rfl⟩ -
    rw [e_]
    clear e_
    refine AW_if_eq (tgt := 33) dX12_come_21 (by decide) (fun c_21 => ?_) (fun c_21 => ?_)
    · skip
      replace c_21 := bz0 c_21
      refine AW_iconst dX12_come_33 ?_
      refine AW_iret dX12_come_34 rfl ?_
      exact ⟨-1, rfl, Or.inl ⟨by omega, rfl, hF1⟩⟩
    · skip
      replace c_21 := bz1 c_21
      refine AW_aload_n dX12_come_24 rfl ?_
      refine AW_getI dX12_come_25 gfX12_153 (hS1.cel rfl) ?_
      (repeat (first | rw [up_r _ _ _ _ (by decide)] | rw [up_j _ _ _ (by decide)] | rw [up_at]))
      refine AW_bipush dX12_come_28 ?_
      refine AW_icmp_ne (tgt := 35) dX12_come_30 (by decide) (fun c_30 => ?_) (fun c_30 => ?_)
      · skip
        rw [hT1.2.1] at c_30
        refine AW_aload_n dX12_come_35 rfl ?_
        refine AW_getR (a := 113) dX12_come_36 gfX12_80 (hS1.cel rfl) (hS1.rf rfl) ?_
        refine AW_aload_n dX12_come_39 rfl ?_
        refine AW_getI dX12_come_40 gfX12_153 (hS1.cel rfl) ?_
        (repeat (first | rw [up_r _ _ _ _ (by decide)] | rw [up_j _ _ _ (by decide)] | rw [up_at]))
        rw [hT1.2.1]
        refine AW_iload_n dX12_come_43 rfl ?_
        refine AW_iast dX12_come_44 (hS1.cel rfl) (by omega) (by omega) ?_
        rw [Int.toNat_natCast]
        refine AW_aload_n dX12_come_45 rfl ?_
        refine AW_getR (a := 114) dX12_come_46 gfX12_83 (hS1.cel rfl) (hS1.rf rfl) ?_
        refine AW_aload_n dX12_come_49 rfl ?_
        refine AW_getI dX12_come_50 gfX12_153 (hS1.cel rfl) ?_
        (repeat (first | rw [up_r _ _ _ _ (by decide)] | rw [up_j _ _ _ (by decide)] | rw [up_at]))
        rw [hT1.2.1]
        refine AW_iload_n dX12_come_53 rfl ?_
        refine AW_iast dX12_come_54 (hS1.cel rfl) (by omega) (by omega) ?_
        rw [Int.toNat_natCast]
        refine AW_aload_n dX12_come_55 rfl ?_
        refine AW_getR (a := 115) dX12_come_56 gfX12_86 (hS1.cel rfl) (hS1.rf rfl) ?_
        refine AW_aload_n dX12_come_59 rfl ?_
        refine AW_getI dX12_come_60 gfX12_153 (hS1.cel rfl) ?_
        (repeat (first | rw [up_r _ _ _ _ (by decide)] | rw [up_j _ _ _ (by decide)] | rw [up_at]))
        rw [hT1.2.1]
        refine AW_iload_n dX12_come_63 rfl ?_
        refine AW_iast dX12_come_64 (hS1.cel rfl) (by omega) (by omega) ?_
        rw [Int.toNat_natCast]
        refine AW_aload_n dX12_come_65 rfl ?_
        refine AW_getR (a := 116) dX12_come_66 gfX12_89 (hS1.cel rfl) (hS1.rf rfl) ?_
        refine AW_aload_n dX12_come_69 rfl ?_
        refine AW_getI dX12_come_70 gfX12_153 (hS1.cel rfl) ?_
        (repeat (first | rw [up_r _ _ _ _ (by decide)] | rw [up_j _ _ _ (by decide)] | rw [up_at]))
        rw [hT1.2.1]
        refine AW_iconst dX12_come_73 ?_
        refine AW_iast dX12_come_74 (hS1.cel rfl) (by omega) (by omega) ?_
        rw [Int.toNat_natCast]
        refine AW_aload_n dX12_come_75 rfl ?_
        refine AW_aload_n dX12_come_76 rfl ?_
        refine AW_getI dX12_come_77 gfX12_153 (hS1.cel rfl) ?_
        (repeat (first | rw [up_r _ _ _ _ (by decide)] | rw [up_j _ _ _ (by decide)] | rw [up_at]))
        rw [hT1.2.1]
        refine AW_iconst dX12_come_80 ?_
        refine AW_iaddE dX12_come_81 (by omega) (by omega) ?_
        refine AW_putI dX12_come_82 (Or.inl pfX12_153) (hS1.cel rfl) ?_
        refine AW_aload_n dX12_come_85 rfl ?_
        refine AW_getI dX12_come_86 gfX12_153 (hS1.cel rfl) ?_
        (repeat (first | rw [up_r _ _ _ _ (by decide)] | rw [up_j _ _ _ (by decide)] | rw [up_at]))
        skip
        refine AW_iconst dX12_come_89 ?_
        refine AW_isubE dX12_come_90 (by omega) (by omega) ?_
        refine AW_iret dX12_come_91 rfl ?_
        exact ⟨_, rfl, Or.inr ⟨by omega, by omega, hT1.come side sort way, ((((((hF1.mo (by decide) (by decide)).ua (by decide) (by decide) _ _).ua (by decide) (by decide) _ _).ua (by decide) (by decide) _ _).ua (by decide) (by decide) _ _).uf (by decide) _)⟩⟩
      · skip
        rw [hT1.2.1] at c_30
        refine AW_iconst dX12_come_33 ?_
        refine AW_iret dX12_come_34 rfl ?_
        exact ⟨-1, rfl, Or.inl ⟨by omega, rfl, hF1⟩⟩
