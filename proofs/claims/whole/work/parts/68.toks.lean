/-- the first c TOKENS lie there -/
def TkC (B : Nat → Int) (n c : Nat) (σ : St) : Prop := σ.2.1 29 5 = c ∧ ∀ k, k < c → σ.2.1 31 k = tK B n k ∧ σ.2.1 32 k = tP B n k ∧ (tK B n k = 2 → σ.2.1 33 k = tV B n k)
theorem TkC.keep {B : Nat → Int} {n c : Nat} {k p v : Int} {σ ρ : St} (h : TkC B n c σ) (hk : kpC c k p v σ ρ) (e1 : k = tK B n c) (e2 : p = tP B n c) (e3 : tK B n c = 2 → v = tV B n c) : TkC B n (c + 1) ρ := by
  refine ⟨by rw [hk.1]; omega, fun j hj => ?_⟩
  rw [hk.2.1 j, hk.2.2.1 j, hk.2.2.2.1 j]
  by_cases hc : j = c
  · subst hc
    simp only [if_true]
    exact ⟨e1, e2, e3⟩
  · simp only [if_neg hc]
    exact h.2 j (by omega)
theorem k_tkkind {G : Gt} {d : Nat} {σ : St}  {c : Nat} (hS : Sta σ) (hc : σ.2.1 29 5 = c) (hc4 : c ≤ 401) (i : Int)  : AM mX8_kind G d 0 0 [vR 29, vI i] σ (fun r τ => τ = σ ∧ r = some (vI (if 0 ≤ i ∧ i < c then σ.2.1 31 i.toNat else 1))) := by
  refine AM.intro (by decide +kernel) (by simp [nLg]) (Nat.le_of_ble_eq_true rfl) (fun hO => ?_)
  have i_i : -2147483648 ≤ i ∧ i < 2147483648 := hO (vI i) (by simp)
  show AW _ _ _ _ _ _ 0 [some (vR 29), some (vI i)] [] σ
  refine AW_iload_n dX8_kind_0 rfl ?_
  refine AW_if_lt (tgt := 21) dX8_kind_1 (by decide) (fun c_1 => ?_) (fun c_1 => ?_)
  · skip
    refine AW_iconst dX8_kind_21 ?_
    refine AW_iret dX8_kind_22 rfl ?_
    refine ⟨rfl, ?_⟩
    first | (rw [if_neg (by omega)]; done) | (rw [if_pos (by omega)]; done)
  · skip
    refine AW_iload_n dX8_kind_4 rfl ?_
    refine AW_aload_n dX8_kind_5 rfl ?_
    refine AW_getI dX8_kind_6 gfX8_27 (hS.cel rfl) ?_
    refine AW_icmp_ge (tgt := 21) dX8_kind_9 (by decide) (fun c_9 => ?_) (fun c_9 => ?_)
    · skip
      refine AW_iconst dX8_kind_21 ?_
      refine AW_iret dX8_kind_22 rfl ?_
      refine ⟨rfl, ?_⟩
      first | (rw [if_neg (by omega)]; done) | (rw [if_pos (by omega)]; done)
    · skip
      refine AW_aload_n dX8_kind_12 rfl ?_
      refine AW_getR (a := 31) dX8_kind_13 gfX8_13 (hS.cel rfl) (hS.rf rfl) ?_
      refine AW_iload_n dX8_kind_16 rfl ?_
      refine AW_iald dX8_kind_17 (hS.cel rfl) (by omega) (by omega) ?_
      refine AW_goto (tgt := 22) dX8_kind_18 (by decide) ?_
      refine AW_iret dX8_kind_22 rfl ?_
      refine ⟨rfl, ?_⟩
      first | (rw [if_neg (by omega)]; done) | (rw [if_pos (by omega)]; done)
theorem k_tknumber {G : Gt} {d : Nat} {σ : St}  {c : Nat} (hS : Sta σ) (hc : σ.2.1 29 5 = c) (hc4 : c ≤ 401) (i : Int)  : AM mX8_number G d 0 0 [vR 29, vI i] σ (fun r τ => τ = σ ∧ r = some (vI (if 0 ≤ i ∧ i < c then σ.2.1 33 i.toNat else 0))) := by
  refine AM.intro (by decide +kernel) (by simp [nLg]) (Nat.le_of_ble_eq_true rfl) (fun hO => ?_)
  have i_i : -2147483648 ≤ i ∧ i < 2147483648 := hO (vI i) (by simp)
  show AW _ _ _ _ _ _ 0 [some (vR 29), some (vI i)] [] σ
  refine AW_iload_n dX8_number_0 rfl ?_
  refine AW_if_lt (tgt := 21) dX8_number_1 (by decide) (fun c_1 => ?_) (fun c_1 => ?_)
  · skip
    refine AW_iconst dX8_number_21 ?_
    refine AW_iret dX8_number_22 rfl ?_
    refine ⟨rfl, ?_⟩
    first | (rw [if_neg (by omega)]; done) | (rw [if_pos (by omega)]; done)
  · skip
    refine AW_iload_n dX8_number_4 rfl ?_
    refine AW_aload_n dX8_number_5 rfl ?_
    refine AW_getI dX8_number_6 gfX8_27 (hS.cel rfl) ?_
    refine AW_icmp_ge (tgt := 21) dX8_number_9 (by decide) (fun c_9 => ?_) (fun c_9 => ?_)
    · skip
      refine AW_iconst dX8_number_21 ?_
      refine AW_iret dX8_number_22 rfl ?_
      refine ⟨rfl, ?_⟩
      first | (rw [if_neg (by omega)]; done) | (rw [if_pos (by omega)]; done)
    · skip
      refine AW_aload_n dX8_number_12 rfl ?_
      refine AW_getR (a := 33) dX8_number_13 gfX8_20 (hS.cel rfl) (hS.rf rfl) ?_
      refine AW_iload_n dX8_number_16 rfl ?_
      refine AW_iald dX8_number_17 (hS.cel rfl) (by omega) (by omega) ?_
      refine AW_goto (tgt := 22) dX8_number_18 (by decide) ?_
      refine AW_iret dX8_number_22 rfl ?_
      refine ⟨rfl, ?_⟩
      first | (rw [if_neg (by omega)]; done) | (rw [if_pos (by omega)]; done)
theorem l_mt0 {G : Gt} {d : Nat} {σ : St} {n : Nat} {B : Nat → Int} (hd : 8 ≤ d) (hS : Sta σ) (τ : St) (at_ i : Int) (x : Option AV) (N : Nat) (hF : Fo 29 [5] [31, 32, 33] σ τ) (hT : tpC n B τ) (hN : Fn (tK B n) N) (hn : N ≤ n) (hk : TkC B n (N + 1) τ) : AW mX8_makeTokens G d 0 0 (mq G (fun ro ρ => ro = none ∧ (∃ N, Fn (tK B n) N ∧ N ≤ n ∧ TkC B n (N + 1) ρ) ∧ tpC n B ρ ∧ Fo 29 [5] [31, 32, 33] σ ρ)) 11 [some (vR 29), some (vI at_), some (vI 0), some (vI i), x] [] τ := by
  refine AW_iload_n dX8_makeTokens_11 rfl ?_
  refine AW_sipush dX8_makeTokens_12 ?_
  refine AW_icmp_ge (tgt := 91) dX8_makeTokens_15 (by decide) (fun c_15 => ?_) (fun c_15 => ?_)
  · skip
    refine AW_iload_n dX8_makeTokens_91 rfl ?_
    refine AW_if_eq (tgt := 105) dX8_makeTokens_92 (by decide) (fun _ => ?_) (fun c_92 => absurd c_92 (by decide))
    refine AW_vret dX8_makeTokens_105 rfl ?_
    exact ⟨rfl, ⟨N, hN, hn, hk⟩, hT, hF⟩
  · skip
    refine AW_iload_n dX8_makeTokens_18 rfl ?_
    refine AW_aload_n dX8_makeTokens_19 rfl ?_
    refine AW_getI dX8_makeTokens_20 gfX8_23 ((hF.sta hS).cel rfl) ?_
    refine AW_icmp_ge (tgt := 91) dX8_makeTokens_23 (by decide) (fun c_23 => ?_) (fun c_23 => ?_)
    · skip
      refine AW_iload_n dX8_makeTokens_91 rfl ?_
      refine AW_if_eq (tgt := 105) dX8_makeTokens_92 (by decide) (fun _ => ?_) (fun c_92 => absurd c_92 (by decide))
      refine AW_vret dX8_makeTokens_105 rfl ?_
      exact ⟨rfl, ⟨N, hN, hn, hk⟩, hT, hF⟩
    · skip
      refine AW_iload_n dX8_makeTokens_26 rfl ?_
      refine AW_if_eq (tgt := 91) dX8_makeTokens_27 (by decide) (fun _ => ?_) (fun c_27 => absurd c_27 (by decide))
      refine AW_iload_n dX8_makeTokens_91 rfl ?_
      refine AW_if_eq (tgt := 105) dX8_makeTokens_92 (by decide) (fun _ => ?_) (fun c_92 => absurd c_92 (by decide))
      refine AW_vret dX8_makeTokens_105 rfl ?_
      exact ⟨rfl, ⟨N, hN, hn, hk⟩, hT, hF⟩
theorem l_mt {G : Gt} {d : Nat} {σ : St} {n : Nat} {B : Nat → Int} (hd : 8 ≤ d) (hS : Sta σ) : ∀ (nn : Nat) (q i c : Nat) (x : Option AV) (τ : St), (n - q) < nn → i ≤ q → q ≤ n → Fo 29 [5] [31, 32, 33] σ τ → tpC n B τ → TkC B n c τ → tFine B n c → endP wsB B n q = tP B n c →  AW mX8_makeTokens G d 0 0 (mq G (fun ro ρ => ro = none ∧ (∃ N, Fn (tK B n) N ∧ N ≤ n ∧ TkC B n (N + 1) ρ) ∧ tpC n B ρ ∧ Fo 29 [5] [31, 32, 33] σ ρ)) 11 [some (vR 29), some (vI (q : Int)), some (vI 1), some (vI (i : Int)), x] [] τ := by
  intro nn
  induction nn with
  | zero => intros; omega
  | succ nn ih =>
    intro q i c x τ hn hi hq hF hT hk hf hp
    have hS0 := hF.sta hS
    have h4 := hT.1
    have h5 := hT.2.1
    have hcn := tFine_b hf
    refine AW_iload_n dX8_makeTokens_11 rfl ?_
    refine AW_sipush dX8_makeTokens_12 ?_
    refine AW_icmp_ge (tgt := 91) dX8_makeTokens_15 (by decide) (fun c_15 => ?_) (fun c_15 => ?_)
    · skip
      refine AW_iload_n dX8_makeTokens_91 rfl ?_
      refine AW_if_eq (tgt := 105) dX8_makeTokens_92 (by decide) (fun c_92 => absurd c_92 (by decide)) (fun _ => ?_)
      refine AW_aload_n dX8_makeTokens_95 rfl ?_
      refine AW_iconst dX8_makeTokens_96 ?_
      refine AW_aload_n dX8_makeTokens_97 rfl ?_
      refine AW_getI dX8_makeTokens_98 gfX8_23 (hS0.cel rfl) ?_
      refine AW_iconst dX8_makeTokens_101 ?_
      refine AW_callV3 (d' := d - 1) dX8_makeTokens_102 (Or.inl lkX8_41) mfX8_keep (hS0.cel rfl) ⟨_, rfl, rfl⟩ (k_keep hS0 hk.1 (by omega) _ _ _) (by omega) (Nat.le_of_ble_eq_true rfl) ?_
      have hpq : tP B n c = n := by rw [← hp, endP_stop (by omega)]; omega
      rintro _ ρ1 ⟨rfl, hK⟩ -
      have hK0 : tK B n c = 0 := tK_end (by omega)
      refine AW_vret dX8_makeTokens_105 rfl ?_
      exact ⟨rfl, ⟨c, ⟨Or.inl hK0, hf⟩, hcn, hk.keep hK hK0.symm (by rw [hpq, hT.1]) (by rw [hK0]; intro h; omega)⟩, hK.tp hT, hF.tr hK.2.2.2.2⟩
    · skip
      refine AW_iload_n dX8_makeTokens_18 rfl ?_
      refine AW_aload_n dX8_makeTokens_19 rfl ?_
      refine AW_getI dX8_makeTokens_20 gfX8_23 (hS0.cel rfl) ?_
      refine AW_icmp_ge (tgt := 91) dX8_makeTokens_23 (by decide) (fun c_23 => ?_) (fun c_23 => ?_)
      · skip
        refine AW_iload_n dX8_makeTokens_91 rfl ?_
        refine AW_if_eq (tgt := 105) dX8_makeTokens_92 (by decide) (fun c_92 => absurd c_92 (by decide)) (fun _ => ?_)
        refine AW_aload_n dX8_makeTokens_95 rfl ?_
        refine AW_iconst dX8_makeTokens_96 ?_
        refine AW_aload_n dX8_makeTokens_97 rfl ?_
        refine AW_getI dX8_makeTokens_98 gfX8_23 (hS0.cel rfl) ?_
        refine AW_iconst dX8_makeTokens_101 ?_
        refine AW_callV3 (d' := d - 1) dX8_makeTokens_102 (Or.inl lkX8_41) mfX8_keep (hS0.cel rfl) ⟨_, rfl, rfl⟩ (k_keep hS0 hk.1 (by omega) _ _ _) (by omega) (Nat.le_of_ble_eq_true rfl) ?_
        have hpq : tP B n c = n := by rw [← hp, endP_stop (by omega)]; omega
        rintro _ ρ1 ⟨rfl, hK⟩ -
        have hK0 : tK B n c = 0 := tK_end (by omega)
        refine AW_vret dX8_makeTokens_105 rfl ?_
        exact ⟨rfl, ⟨c, ⟨Or.inl hK0, hf⟩, hcn, hk.keep hK hK0.symm (by rw [hpq, hT.1]) (by rw [hK0]; intro h; omega)⟩, hK.tp hT, hF.tr hK.2.2.2.2⟩
      · skip
        refine AW_iload_n dX8_makeTokens_26 rfl ?_
        refine AW_if_eq (tgt := 91) dX8_makeTokens_27 (by decide) (fun c_27 => absurd c_27 (by decide)) (fun _ => ?_)
        refine AW_aload_n dX8_makeTokens_30 rfl ?_
        refine AW_iload_n dX8_makeTokens_31 rfl ?_
        refine AW_callV1 (d' := d - 1) dX8_makeTokens_32 (Or.inl lkX8_30) mfX8_signAt (hS0.cel rfl) ⟨_, rfl, rfl⟩ (k_signV hS0 hT _ q rfl (by omega)) (by omega) (Nat.le_of_ble_eq_true rfl) ?_
        rintro _ _ ⟨e_, rfl⟩ -
        rw [e_]
        clear e_
        refine AW_istore4 dX8_makeTokens_35 ?_
        refine AW_iload dX8_makeTokens_37 rfl ?_
        refine AW_bipush dX8_makeTokens_39 ?_
        refine AW_icmp_eq (tgt := 51) dX8_makeTokens_41 (by decide) (fun c_41 => ?_) (fun c_41 => ?_)
        · skip
          refine AW_iincE1 dX8_makeTokens_51 (by omega) (by omega) ?_
          refine AW_goto (tgt := 85) dX8_makeTokens_54 (by decide) ?_
          refine AW_iincE3 dX8_makeTokens_85 (by omega) (by omega) ?_
          refine AW_goto (tgt := 11) dX8_makeTokens_88 (by decide) ?_
          first
          | (rw [show (q : Int) + 1 = ((q + 1 : Nat) : Int) by omega, show (i : Int) + 1 = ((i + 1 : Nat) : Int) by omega]
             exact ih (q + 1) (i + 1) c _ τ (by omega) (by omega) (by omega) hF hT hk hf (by rw [← endP_go (by omega) ((wsB_iff _).mpr (by first | exact Or.inl c_41 | exact Or.inr c_48)), hp]))
          | (rw [show (i : Int) + 1 = ((i + 1 : Nat) : Int) by omega]
             refine ih (tkQ B n q) (i + 1) (c + 1) _ ρ1 (by omega) (by omega) (by omega) hF1 hT1 hk1 (fun k h => ?_) ?_
             · by_cases hkc : k = c
               · subst hkc
                 refine ⟨?_, c_76⟩
                 rw [tK, hpq]
                 exact tkK_0 (by omega)
               · exact hf k (by omega)
             · show _ = endP wsB B n (tkQ B n (tP B n c))
               rw [hpq])
          | exact l_mt0 hd hS ρ1 _ _ _ c hF1 hT1 ⟨Or.inr c_76, hf⟩ hcn hk1
        · skip
          refine AW_iload dX8_makeTokens_44 rfl ?_
          refine AW_bipush dX8_makeTokens_46 ?_
          refine AW_icmp_ne (tgt := 57) dX8_makeTokens_48 (by decide) (fun c_48 => ?_) (fun c_48 => ?_)
          · skip
            refine AW_aload_n dX8_makeTokens_57 rfl ?_
            refine AW_iload_n dX8_makeTokens_58 rfl ?_
            refine AW_iload dX8_makeTokens_59 rfl ?_
            refine AW_callV2 (d' := d - 1) dX8_makeTokens_61 (Or.inl lkX8_34) mfX8_makeOne (hS0.cel rfl) ⟨_, rfl, rfl⟩ (k_mo hS0 hT hk.1 (by omega) _ _ q rfl rfl (by omega) (by omega)) (by omega) (Nat.le_of_ble_eq_true rfl) ?_
            have hnw : ¬ isWs (B q) := by
              rintro (h | h)
              · exact absurd h (by assumption)
              · exact absurd h (by assumption)
            have hpq : tP B n c = q := by rw [← hp, endP_stop (fun h => hnw ((wsB_iff _).mp h.2))]
            rintro _ ρ1 ⟨rfl, v, hK, hv⟩ -
            have hF1 := hF.tr hK.2.2.2.2
            have hS1 := hF1.sta hS
            have hT1 := hK.tp hT
            have hk1 : TkC B n (c + 1) ρ1 := hk.keep hK (by rw [tK, hpq]) (by rw [hpq]) (by rw [tK, tV, hpq]; exact hv)
            have hcc := hk1.1
            have hQ := tkQ_b (B := B) (show q < n by omega)
            refine AW_istore1 dX8_makeTokens_64 ?_
            refine AW_aload_n dX8_makeTokens_65 rfl ?_
            refine AW_aload_n dX8_makeTokens_66 rfl ?_
            refine AW_getI dX8_makeTokens_67 gfX8_27 (hS1.cel rfl) ?_
            refine AW_iconst dX8_makeTokens_70 ?_
            refine AW_isubE dX8_makeTokens_71 (by rw [hcc]; omega) (by rw [hcc]; omega) ?_
            refine AW_callV1 (d' := d - 1) dX8_makeTokens_72 (Or.inl lkX8_38) mfX8_kind (hS1.cel rfl) ⟨_, rfl, rfl⟩ (k_tkkind (c := c + 1) hS1 hk1.1 (by omega) _) (by omega) (Nat.le_of_ble_eq_true rfl) ?_
            rintro _ _ ⟨e_, rfl⟩ -
            rw [e_]
            clear e_
            rw [if_pos (by rw [hcc]; omega), show (ρ1.2.1 29 5 - 1).toNat = c by rw [hcc]; omega, (hk1.2 c (by omega)).1]
            refine AW_iconst dX8_makeTokens_75 ?_
            refine AW_icmp_eq (tgt := 83) dX8_makeTokens_76 (by decide) (fun c_76 => ?_) (fun c_76 => ?_)
            · skip
              refine AW_iconst dX8_makeTokens_83 ?_
              refine AW_istore2 dX8_makeTokens_84 ?_
              refine AW_iincE3 dX8_makeTokens_85 (by omega) (by omega) ?_
              refine AW_goto (tgt := 11) dX8_makeTokens_88 (by decide) ?_
              first
              | (rw [show (q : Int) + 1 = ((q + 1 : Nat) : Int) by omega, show (i : Int) + 1 = ((i + 1 : Nat) : Int) by omega]
                 exact ih (q + 1) (i + 1) c _ τ (by omega) (by omega) (by omega) hF hT hk hf (by rw [← endP_go (by omega) ((wsB_iff _).mpr (by first | exact Or.inl c_41 | exact Or.inr c_48)), hp]))
              | (rw [show (i : Int) + 1 = ((i + 1 : Nat) : Int) by omega]
                 refine ih (tkQ B n q) (i + 1) (c + 1) _ ρ1 (by omega) (by omega) (by omega) hF1 hT1 hk1 (fun k h => ?_) ?_
                 · by_cases hkc : k = c
                   · subst hkc
                     refine ⟨?_, c_76⟩
                     rw [tK, hpq]
                     exact tkK_0 (by omega)
                   · exact hf k (by omega)
                 · show _ = endP wsB B n (tkQ B n (tP B n c))
                   rw [hpq])
              | exact l_mt0 hd hS ρ1 _ _ _ c hF1 hT1 ⟨Or.inr c_76, hf⟩ hcn hk1
            · skip
              refine AW_iconst dX8_makeTokens_79 ?_
              refine AW_goto (tgt := 84) dX8_makeTokens_80 (by decide) ?_
              refine AW_istore2 dX8_makeTokens_84 ?_
              refine AW_iincE3 dX8_makeTokens_85 (by omega) (by omega) ?_
              refine AW_goto (tgt := 11) dX8_makeTokens_88 (by decide) ?_
              first
              | (rw [show (q : Int) + 1 = ((q + 1 : Nat) : Int) by omega, show (i : Int) + 1 = ((i + 1 : Nat) : Int) by omega]
                 exact ih (q + 1) (i + 1) c _ τ (by omega) (by omega) (by omega) hF hT hk hf (by rw [← endP_go (by omega) ((wsB_iff _).mpr (by first | exact Or.inl c_41 | exact Or.inr c_48)), hp]))
              | (rw [show (i : Int) + 1 = ((i + 1 : Nat) : Int) by omega]
                 refine ih (tkQ B n q) (i + 1) (c + 1) _ ρ1 (by omega) (by omega) (by omega) hF1 hT1 hk1 (fun k h => ?_) ?_
                 · by_cases hkc : k = c
                   · subst hkc
                     refine ⟨?_, c_76⟩
                     rw [tK, hpq]
                     exact tkK_0 (by omega)
                   · exact hf k (by omega)
                 · show _ = endP wsB B n (tkQ B n (tP B n c))
                   rw [hpq])
              | exact l_mt0 hd hS ρ1 _ _ _ c hF1 hT1 ⟨Or.inr c_76, hf⟩ hcn hk1
          · skip
            refine AW_iincE1 dX8_makeTokens_51 (by omega) (by omega) ?_
            refine AW_goto (tgt := 85) dX8_makeTokens_54 (by decide) ?_
            refine AW_iincE3 dX8_makeTokens_85 (by omega) (by omega) ?_
            refine AW_goto (tgt := 11) dX8_makeTokens_88 (by decide) ?_
            first
            | (rw [show (q : Int) + 1 = ((q + 1 : Nat) : Int) by omega, show (i : Int) + 1 = ((i + 1 : Nat) : Int) by omega]
               exact ih (q + 1) (i + 1) c _ τ (by omega) (by omega) (by omega) hF hT hk hf (by rw [← endP_go (by omega) ((wsB_iff _).mpr (by first | exact Or.inl c_41 | exact Or.inr c_48)), hp]))
            | (rw [show (i : Int) + 1 = ((i + 1 : Nat) : Int) by omega]
               refine ih (tkQ B n q) (i + 1) (c + 1) _ ρ1 (by omega) (by omega) (by omega) hF1 hT1 hk1 (fun k h => ?_) ?_
               · by_cases hkc : k = c
                 · subst hkc
                   refine ⟨?_, c_76⟩
                   rw [tK, hpq]
                   exact tkK_0 (by omega)
                 · exact hf k (by omega)
               · show _ = endP wsB B n (tkQ B n (tP B n c))
                 rw [hpq])
            | exact l_mt0 hd hS ρ1 _ _ _ c hF1 hT1 ⟨Or.inr c_76, hf⟩ hcn hk1
theorem k_mt {G : Gt} {d : Nat} {σ : St} {n : Nat} {B : Nat → Int} (hd : 8 ≤ d) (hS : Sta σ) (hT : tpC n B σ) : AM mX8_makeTokens G d 0 0 [vR 29] σ (fun ro ρ => ro = none ∧ (∃ N, Fn (tK B n) N ∧ N ≤ n ∧ TkC B n (N + 1) ρ) ∧ tpC n B ρ ∧ Fo 29 [5] [31, 32, 33] σ ρ) := by
  refine AM.intro (by decide +kernel) (by simp [nLg]) (Nat.le_of_ble_eq_true rfl) (fun hO => ?_)
  show AW _ _ _ _ _ _ 0 [some (vR 29), none, none, none, none] [] σ
  refine AW_aload_n dX8_makeTokens_0 rfl ?_
  refine AW_iconst dX8_makeTokens_1 ?_
  refine AW_putI dX8_makeTokens_2 (Or.inl pfX8_27) (hS.cel rfl) ?_
  refine AW_iconst dX8_makeTokens_5 ?_
  refine AW_istore1 dX8_makeTokens_6 ?_
  refine AW_iconst dX8_makeTokens_7 ?_
  refine AW_istore2 dX8_makeTokens_8 ?_
  refine AW_iconst dX8_makeTokens_9 ?_
  refine AW_istore3 dX8_makeTokens_10 ?_
  have hF : Fo 29 [5] [31, 32, 33] σ (upI σ 29 5 0) := Fo.rf.uf (by decide) _
  exact l_mt hd hS (n + 1) 0 0 0 _ _ (by omega) (by omega) (by omega) hF ⟨(hF.2 4 (by decide)).trans hT.1, hT.2.1, fun k hk => by rw [up_r _ _ _ _ (by decide)]; exact hT.2.2 k hk⟩ ⟨up_at _ _ _ _, fun k hk => absurd hk (Nat.not_lt_zero k)⟩ (fun k hk => absurd hk (Nat.not_lt_zero k)) rfl
