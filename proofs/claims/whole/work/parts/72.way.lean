theorem l_read {G : Gt} {d : Nat} {σ : St} {B : Nat → Int} {n N F : Nat} (hN : Fn (tK B n) N) (hNn : N ≤ 400) (hFF : F = 400) (hd : 45 ≤ d) (hS0 : Sta σ) {w0 : WS} : ∀ (nn : Nat) (i f : Nat) (w : WS) (τ : St), f < nn → i + f = 13 → Rd B n N τ w.1 → LnC τ w.2.1 w.2.2 → Inv N 0 w.1 → Fr [29, 31, 32, 33, 34, 35, 36, 37, 38, 39, 40] σ τ → wayL F (tK B n) (tV B n) f w = w0 →  AW mX7_read G d 0 0 (mq G (fun ro ρ => ro = some (vI (if w0.1.1 = 0 then 1 else 0)) ∧ (∃ N, Rd B n N ρ w0.1) ∧ LnC ρ w0.2.1 w0.2.2 ∧ Fr [29, 31, 32, 33, 34, 35, 36, 37, 38, 39, 40] σ ρ)) 37 [some (vR 34), some (vI (i : Int))] [] τ := by
  intro nn
  induction nn with
  | zero => intros; omega
  | succ nn ih =>
    intro i f w τ hn hf hR hL hI hF hw
    have hS := hF.sta hS0
    have h4 := hR.2.2.2.1
    refine AW_iload_n dX7_read_37 rfl ?_
    refine AW_bipush dX7_read_38 ?_
    refine AW_icmp_gt (tgt := 67) dX7_read_40 (by decide) (fun c_40 => ?_) (fun c_40 => ?_)
    · skip
      have e0 : w = w0 := by rw [show f = 0 by omega] at hw; exact hw
      refine AW_aload_n dX7_read_67 rfl ?_
      refine AW_getI dX7_read_68 gfX7_26 (hS.cel rfl) ?_
      rw [h4, e0]
      refine AW_if_ne (tgt := 78) dX7_read_71 (by decide) (fun c_71 => ?_) (fun c_71 => ?_)
      · skip
        refine AW_iconst dX7_read_78 ?_
        refine AW_zret dX7_read_79 rfl (by decide) ?_
        rw [e0] at hR hL
        first
        | (rw [if_pos (by assumption)]; exact ⟨rfl, ⟨N, hR⟩, hL, hF⟩)
        | (rw [if_neg (by assumption)]; exact ⟨rfl, ⟨N, hR⟩, hL, hF⟩)
      · skip
        refine AW_iconst dX7_read_74 ?_
        refine AW_goto (tgt := 79) dX7_read_75 (by decide) ?_
        refine AW_zret dX7_read_79 rfl (by decide) ?_
        rw [e0] at hR hL
        first
        | (rw [if_pos (by assumption)]; exact ⟨rfl, ⟨N, hR⟩, hL, hF⟩)
        | (rw [if_neg (by assumption)]; exact ⟨rfl, ⟨N, hR⟩, hL, hF⟩)
    · skip
      rw [show f = (f - 1) + 1 by omega, wayL_s] at hw
      refine AW_aload_n dX7_read_43 rfl ?_
      refine AW_getI dX7_read_44 gfX7_47 (hS.cel rfl) ?_
      refine AW_if_eq (tgt := 67) dX7_read_47 (by decide) (fun c_47 => ?_) (fun c_47 => ?_)
      · skip
        rw [hR.tok] at c_47
        have e0 : w = w0 := by rw [if_pos (Or.inl c_47)] at hw; exact hw
        refine AW_aload_n dX7_read_67 rfl ?_
        refine AW_getI dX7_read_68 gfX7_26 (hS.cel rfl) ?_
        rw [h4, e0]
        refine AW_if_ne (tgt := 78) dX7_read_71 (by decide) (fun c_71 => ?_) (fun c_71 => ?_)
        · skip
          refine AW_iconst dX7_read_78 ?_
          refine AW_zret dX7_read_79 rfl (by decide) ?_
          rw [e0] at hR hL
          first
          | (rw [if_pos (by assumption)]; exact ⟨rfl, ⟨N, hR⟩, hL, hF⟩)
          | (rw [if_neg (by assumption)]; exact ⟨rfl, ⟨N, hR⟩, hL, hF⟩)
        · skip
          refine AW_iconst dX7_read_74 ?_
          refine AW_goto (tgt := 79) dX7_read_75 (by decide) ?_
          refine AW_zret dX7_read_79 rfl (by decide) ?_
          rw [e0] at hR hL
          first
          | (rw [if_pos (by assumption)]; exact ⟨rfl, ⟨N, hR⟩, hL, hF⟩)
          | (rw [if_neg (by assumption)]; exact ⟨rfl, ⟨N, hR⟩, hL, hF⟩)
      · skip
        rw [hR.tok] at c_47
        refine AW_aload_n dX7_read_50 rfl ?_
        refine AW_getI dX7_read_51 gfX7_26 (hS.cel rfl) ?_
        refine AW_if_ne (tgt := 67) dX7_read_54 (by decide) (fun c_54 => ?_) (fun c_54 => ?_)
        · skip
          rw [h4] at c_54
          have e0 : w = w0 := by rw [if_pos (Or.inr c_54)] at hw; exact hw
          refine AW_aload_n dX7_read_67 rfl ?_
          refine AW_getI dX7_read_68 gfX7_26 (hS.cel rfl) ?_
          rw [h4, e0]
          refine AW_if_ne (tgt := 78) dX7_read_71 (by decide) (fun c_71 => ?_) (fun c_71 => ?_)
          · skip
            refine AW_iconst dX7_read_78 ?_
            refine AW_zret dX7_read_79 rfl (by decide) ?_
            rw [e0] at hR hL
            first
            | (rw [if_pos (by assumption)]; exact ⟨rfl, ⟨N, hR⟩, hL, hF⟩)
            | (rw [if_neg (by assumption)]; exact ⟨rfl, ⟨N, hR⟩, hL, hF⟩)
          · skip
            refine AW_iconst dX7_read_74 ?_
            refine AW_goto (tgt := 79) dX7_read_75 (by decide) ?_
            refine AW_zret dX7_read_79 rfl (by decide) ?_
            rw [e0] at hR hL
            first
            | (rw [if_pos (by assumption)]; exact ⟨rfl, ⟨N, hR⟩, hL, hF⟩)
            | (rw [if_neg (by assumption)]; exact ⟨rfl, ⟨N, hR⟩, hL, hF⟩)
        · skip
          rw [h4] at c_54
          have c54 := c_54
          rw [if_neg (by intro q; rcases q with q | q; exact c_47 q; exact q c54)] at hw
          refine AW_aload_n dX7_read_57 rfl ?_
          refine AW_callV0 (d' := d - 1) dX7_read_58 (Or.inl lkX7_50) mfX7_readLine (hS.cel rfl) ⟨_, rfl, rfl⟩ (k_line (by omega) hS hN hNn hFF hR hL hI) (by omega) (Nat.le_of_ble_eq_true rfl) ?_
          rintro _ ρ1 ⟨rfl, hR1, hL1, hG1⟩ -
          have hI1 := line_inv (F := F) (V := tV B n) hN hI hL.2.1
          refine AW_iincE1 dX7_read_61 (by omega) (by omega) ?_
          refine AW_goto (tgt := 37) dX7_read_64 (by decide) ?_
          rw [show (i : Int) + 1 = ((i + 1 : Nat) : Int) by omega]
          exact ih (i + 1) (f - 1) _ ρ1 (by omega) (by omega) hR1 hL1 hI1.1 (hF.tr (hG1.mo (by decide))) hw
theorem ws0_e : ws0 = ((0, 0, 0, fun _ => 0), 0, fun _ _ => 0) := rfl
theorem k_read {G : Gt} {d : Nat} {σ : St} (hd : 46 ≤ d) {B : Nat → Int} {n F : Nat} (hS : Sta σ) (hT : tpC n B σ) (hFF : F = 400)  : AM mX7_read G d 0 0 [vR 34] σ (fun ro ρ => ∃ w : WS, w = wayL F (tK B n) (tV B n) 13 ws0 ∧ ro = some (vI (if w.1.1 = 0 then 1 else 0)) ∧ (∃ N, Rd B n N ρ w.1) ∧ LnC ρ w.2.1 w.2.2 ∧ Fr [29, 31, 32, 33, 34, 35, 36, 37, 38, 39, 40] σ ρ) := by
  refine AM.intro (by decide +kernel) (by simp [nLg]) (Nat.le_of_ble_eq_true rfl) (fun hO => ?_)
  show AW _ _ _ _ _ _ 0 [some (vR 34), none] [] σ
  refine AW_aload_n dX7_read_0 rfl ?_
  refine AW_callV0 (d' := d - 1) dX7_read_1 (Or.inl lkX7_29) mfX7_forget (hS.cel rfl) ⟨_, rfl, rfl⟩ (k_forget hS) (by omega) (Nat.le_of_ble_eq_true rfl) ?_
  rintro _ _ ⟨rfl, rfl⟩ -
  have hFa : Fr [34] σ (upI (upI σ 34 4 0) 34 5 (-1)) := (Fr.rf.up (by decide) _ _).up (by decide) _ _
  have hSa := hFa.sta hS
  have ea4 : (upI (upI σ 34 4 0) 34 5 (-1)).2.1 34 4 = 0 := by rw [up_j _ _ _ (by decide), up_at]
  have ea5 : (upI (upI σ 34 4 0) 34 5 (-1)).2.1 34 5 = -1 := by rw [up_at]
  generalize upI (upI σ 34 4 0) 34 5 (-1) = σa at hFa hSa ea4 ea5 ⊢
  refine AW_aload_n dX7_read_4 rfl ?_
  refine AW_getR (a := 35) dX7_read_5 gfX7_12 (hSa.cel rfl) (hSa.rf rfl) ?_
  refine AW_callV0 (d' := d - 1) dX7_read_8 (Or.inl lkX7_32) mfX10_clear (hSa.cel rfl) ⟨_, rfl, rfl⟩ (k_wclear hSa) (by omega) (Nat.le_of_ble_eq_true rfl) ?_
  rintro _ _ ⟨rfl, rfl⟩ -
  have hFb : Fr [35] σa (upI (upI σa 35 5 0) 35 6 0) := (Fr.rf.up (by decide) _ _).up (by decide) _ _
  have hSb := hFb.sta hSa
  have eb5 : (upI (upI σa 35 5 0) 35 6 0).2.1 35 5 = 0 := by rw [up_j _ _ _ (by decide), up_at]
  have eb6 : (upI (upI σa 35 5 0) 35 6 0).2.1 35 6 = 0 := by rw [up_at]
  have eb34 := fun j => hFb.iv 34 j
  generalize upI (upI σa 35 5 0) 35 6 0 = σb at hFb hSb eb5 eb6 eb34 ⊢
  have hTb : tpC n B σb := (hT.fr hFa).fr hFb
  refine AW_aload_n dX7_read_11 rfl ?_
  refine AW_getR (a := 29) dX7_read_12 gfX7_22 (hSb.cel rfl) (hSb.rf rfl) ?_
  refine AW_callV0 (d' := d - 1) dX7_read_15 (Or.inl lkX7_35) mfX8_makeTokens (hSb.cel rfl) ⟨_, rfl, rfl⟩ (k_mt (by omega) hSb hTb) (by omega) (Nat.le_of_ble_eq_true rfl) ?_
  rintro _ ρ1 ⟨rfl, ⟨N, hN, hNn, hk⟩, hT1, hG1⟩ -
  have hS1 := hG1.sta hSb
  have h400 := hT1.2.1
  have e34 := fun j => (hG1.1.iv 34 j).trans (eb34 j)
  have e35 := fun j => hG1.1.iv 35 j
  refine AW_aload_n dX7_read_18 rfl ?_
  refine AW_iconst dX7_read_19 ?_
  refine AW_putI dX7_read_20 (Or.inl pfX7_40) (hS1.cel rfl) ?_
  refine AW_aload_n dX7_read_23 rfl ?_
  refine AW_aload_n dX7_read_24 rfl ?_
  refine AW_getR (a := 29) dX7_read_25 gfX7_22 (hS1.cel rfl) (hS1.rf rfl) ?_
  refine AW_iconst dX7_read_28 ?_
  refine AW_callV1 (d' := d - 1) dX7_read_29 (Or.inl lkX7_43) mfX8_kind (hS1.cel rfl) ⟨_, rfl, rfl⟩ (k_tkkind (c := N + 1) (σ := upI ρ1 34 2 0) hS1 (by rw [up_r _ _ _ _ (by decide)]; exact hk.1) (by omega) 0) (by omega) (Nat.le_of_ble_eq_true rfl) ?_
  rintro _ _ ⟨e_, rfl⟩ -
  rw [e_]
  clear e_
  rw [if_pos (by omega), show Int.toNat 0 = 0 from rfl, up_r _ _ _ _ (by decide), (hk.2 0 (by omega)).1]
  refine AW_putI dX7_read_32 (Or.inl pfX7_47) (hS1.cel rfl) ?_
  refine AW_iconst dX7_read_35 ?_
  refine AW_istore1 dX7_read_36 ?_
  have hFc : Fr [34] ρ1 (upI (upI ρ1 34 2 0) 34 3 (tK B n 0)) := (Fr.rf.up (by decide) _ _).up (by decide) _ _
  have hW : Fr [29, 31, 32, 33, 34, 35, 36, 37, 38, 39, 40] σ (upI (upI ρ1 34 2 0) 34 3 (tK B n 0)) := (((hFa.mo (by decide)).tr (hFb.mo (by decide))).tr (hG1.1.mo (by decide))).tr (hFc.mo (by decide))
  have hRc : Rd B n N (upI (upI ρ1 34 2 0) 34 3 (tK B n 0)) ws0.1 := by
    refine ⟨hk.fr hFc, hT1.fr hFc, ?_, ?_, ?_, ?_, ?_, ?_, ?_⟩
    · rw [up_j _ _ _ (by decide), up_at]; rfl
    · rw [up_j _ _ _ (by decide), up_j _ _ _ (by decide), e34, ea4]; rfl
    · rw [up_at]; rfl
    · intro h; exact absurd rfl h
    · intro _
      rw [up_j _ _ _ (by decide), up_j _ _ _ (by decide), e34, ea5]
    · rw [up_r _ _ _ _ (by decide), up_r _ _ _ _ (by decide), e35, eb5]; decide
    · intro _
      refine ⟨by rw [up_r _ _ _ _ (by decide), up_r _ _ _ _ (by decide), e35, eb5]; rfl, fun k hk => absurd hk (Nat.not_lt_zero k)⟩
  refine AW_mq (fun r τ q => ⟨_, rfl, q⟩) (l_read (F := F) (w0 := wayL F (tK B n) (tV B n) 13 ws0) hN (by omega) hFF (by omega) hS 14 0 13 ws0 _ (by omega) (by omega) hRc ⟨?_, by decide, fun l hl => absurd hl (Nat.not_lt_zero l)⟩ ⟨Nat.zero_le _, fun _ => Nat.le_refl _⟩ hW rfl)
  rw [up_r _ _ _ _ (by decide), up_r _ _ _ _ (by decide), e35, eb6]
  rfl
