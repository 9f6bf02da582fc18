theorem wosC.fr {D : Mk} {L : List Nat} {σ τ : St} (h : wosC D σ) (hF : Fr L σ τ) (hn : 28 ∉ L := by decide) : wosC D τ := fun s i j a b c e f => (hF.iv 28 _ hn).trans (h s i j a b c e f)
theorem wosC.up {D : Mk} {τ : St} (h : wosC D τ) (j : Nat) (x : Int) : wosC D (upI τ 27 j x) := fun s i k a b c e f => by rw [up_r _ _ _ _ (by decide)]; exact h s i k a b c e f
theorem l_wr3 {G : Gt} {d : Nat} {D : Mk} {σ : St} (hd : 4 ≤ d) (hS : Sta σ) (hR : RepC D σ) (hW : WFm D) {t : Nat} (ht : 1 ≤ t ∧ (t : Int) ≤ D 4 2) (K : ∀ τ, Fo 26 [3] [27, 28] σ τ → wosC D τ → τ.2.1 26 3 = τ.2.1 17 5 → tabC D τ (t - 1) → AW mX9_refresh G d 0 0 (mq G (fun ro ρ => ro = none ∧ tabC D ρ 0 ∧ ρ.2.1 26 3 = ρ.2.1 17 5 ∧ Fo 26 [3] [27, 28] σ ρ)) 117 [some (vR 26), some (vI (D 4 2)), some (vI (t : Int)), some (vI 12)] [] τ) : ∀ (nn : Nat) (q : Nat) (τ : St), (12 - q) < nn → q ≤ 12 → Fo 26 [3] [27, 28] σ τ → wosC D τ → τ.2.1 26 3 = τ.2.1 17 5 → tabC D τ t → (∀ row : Nat, row < 12 → row < q → ((row % 6 : Nat) : Int) < D 0 (row / 6) → τ.2.1 27 (row * 61 + (t - 1)) = wt D ((D 4 2).toNat - (t - 1)) (row / 6) (row % 6)) →  AW mX9_refresh G d 0 0 (mq G (fun ro ρ => ro = none ∧ tabC D ρ 0 ∧ ρ.2.1 26 3 = ρ.2.1 17 5 ∧ Fo 26 [3] [27, 28] σ ρ)) 79 [some (vR 26), some (vI (D 4 2)), some (vI (t : Int)), some (vI (q : Int))] [] τ := by
  intro nn
  induction nn with
  | zero => intros; omega
  | succ nn ih =>
    intro q τ hn hq hF hw hv hT hp
    have hl := hW.2.2.2.2.2.2.1
    refine AW_iload_n dX9_refresh_79 rfl ?_
    refine AW_bipush dX9_refresh_80 ?_
    refine AW_icmp_ge (tgt := 117) dX9_refresh_82 (by decide) (fun c_82 => ?_) (fun c_82 => ?_)
    · skip
      rw [show (q : Int) = 12 by omega]
      refine K τ hF hw hv (fun s i hs hi h1 t' ht1 ht2 => ?_)
      by_cases hc : t' = t - 1
      · subst hc
        have e1 : (6 * s + i) / 6 = s := by omega
        have e2 : (6 * s + i) % 6 = i := by omega
        have := hp (6 * s + i) (by omega) (by omega) (by rw [e1, e2]; exact h1)
        rw [e1, e2] at this
        exact this
      · exact hT s i hs hi h1 t' (by omega) ht2
    · skip
      refine AW_aload_n dX9_refresh_85 rfl ?_
      refine AW_getR (a := 27) dX9_refresh_86 gfX9_13 ((hF.sta hS).cel rfl) ((hF.sta hS).rf rfl) ?_
      refine AW_iload_n dX9_refresh_89 rfl ?_
      refine AW_bipush dX9_refresh_90 ?_
      refine AW_imulE dX9_refresh_92 (by omega) (by omega) ?_
      refine AW_iload_n dX9_refresh_93 rfl ?_
      refine AW_iaddE dX9_refresh_94 (by omega) (by omega) ?_
      refine AW_iconst dX9_refresh_95 ?_
      refine AW_isubE dX9_refresh_96 (by omega) (by omega) ?_
      refine AW_aload_n dX9_refresh_97 rfl ?_
      refine AW_iload_n dX9_refresh_98 rfl ?_
      refine AW_bipush dX9_refresh_99 ?_
      refine AW_idivE dX9_refresh_101 (by omega) (by omega) (by decide) ?_
      refine AW_iload_n dX9_refresh_102 rfl ?_
      refine AW_bipush dX9_refresh_103 ?_
      refine AW_iremE dX9_refresh_105 (by omega) (by decide) ?_
      refine AW_iload_n dX9_refresh_106 rfl ?_
      rw [show (q : Int) / 6 = ((q / 6 : Nat) : Int) by omega, show (q : Int) % 6 = ((q % 6 : Nat) : Int) by omega]
      refine AW_callV3 (d' := d - 1) dX9_refresh_107 (Or.inl lkX9_48) mfX9_ahead ((hF.sta hS).cel rfl) ⟨_, rfl, rfl⟩ (k_ahead (s := q / 6) (i := q % 6) (t := t) (by omega) (hF.sta hS) (hR.fr hF.1) hW (by omega) (by omega) ht hT hw) (by omega) (Nat.le_of_ble_eq_true rfl) ?_
      rintro r1 ρ1 ⟨e_, hr⟩ -
      rw [e_]
      clear e_ ρ1
      have hz : ∃ z : Int, r1 = some (vI z) ∧ (((q % 6 : Nat) : Int) < D 0 (q / 6) → z = wt D ((D 4 2).toNat - (t - 1)) (q / 6) (q % 6)) := by
        rcases hr with ⟨g1, g2⟩ | ⟨g1, g2⟩
        · exact ⟨_, g2, fun _ => rfl⟩
        · exact ⟨_, g2, fun h => absurd h (by omega)⟩
      obtain ⟨z, rfl, hz⟩ := hz
      clear hr
      refine AW_iast dX9_refresh_110 ((hF.sta hS).cel rfl) (by omega) (by omega) ?_
      refine AW_iincE3 dX9_refresh_111 (by omega) (by omega) ?_
      refine AW_goto (tgt := 79) dX9_refresh_114 (by decide) ?_
      rw [show (q : Int) + 1 = ((q + 1 : Nat) : Int) by omega, show ((q : Int) * 61 + (t : Int) - 1).toNat = q * 61 + (t - 1) by omega]
      refine ih (q + 1) _ (by omega) (by omega) (hF.ua (by decide) (by decide) _ _) (hw.up _ _) (by rw [up_r _ _ _ _ (by decide), up_r _ _ _ _ (by decide)]; exact hv) (fun s i hs hi h1 t2 ht1 ht2 => ?_) (fun row h1 h2 h3 => ?_)
      · rw [up_if, if_neg (by omega)]
        exact hT s i hs hi h1 t2 ht1 ht2
      · rw [up_if]
        by_cases hc : row = q
        · subst hc
          rw [if_pos ⟨rfl, rfl⟩]
          exact hz h3
        · rw [if_neg (by omega)]
          exact hp row h1 (by omega) h3
theorem l_wr2 {G : Gt} {d : Nat} {D : Mk} {σ : St} (hd : 4 ≤ d) (hS : Sta σ) (hR : RepC D σ) (hW : WFm D) : ∀ (nn : Nat) (t : Nat) (x3 : Option AV) (τ : St), t < nn → (t : Int) ≤ D 4 2 → Fo 26 [3] [27, 28] σ τ → wosC D τ → τ.2.1 26 3 = τ.2.1 17 5 → tabC D τ t →  AW mX9_refresh G d 0 0 (mq G (fun ro ρ => ro = none ∧ tabC D ρ 0 ∧ ρ.2.1 26 3 = ρ.2.1 17 5 ∧ Fo 26 [3] [27, 28] σ ρ)) 72 [some (vR 26), some (vI (D 4 2)), some (vI (t : Int)), x3] [] τ := by
  intro nn
  induction nn with
  | zero => intros; omega
  | succ nn ih =>
    intro t x3 τ hn ht hF hw hv hT
    have hl := hW.2.2.2.2.2.2.1
    refine AW_iload_n dX9_refresh_72 rfl ?_
    refine AW_iconst dX9_refresh_73 ?_
    refine AW_icmp_lt (tgt := 123) dX9_refresh_74 (by decide) (fun c_74 => ?_) (fun c_74 => ?_)
    · skip
      refine AW_vret dX9_refresh_123 rfl ?_
      rw [show t = 0 by omega] at hT
      exact ⟨rfl, hT, hv, hF⟩
    · skip
      refine AW_iconst dX9_refresh_77 ?_
      refine AW_istore3 dX9_refresh_78 ?_
      refine l_wr3 hd hS hR hW (t := t) ⟨by omega, ht⟩ (fun τ2 hF2 hw2 hv2 hT2 => ?_) 13 0 τ (by omega) (by omega) hF hw hv hT (fun row h1 h2 h3 => by omega)
      refine AW_iincE2 dX9_refresh_117 (by omega) (by omega) ?_
      refine AW_goto (tgt := 72) dX9_refresh_120 (by decide) ?_
      rw [show (t : Int) + -1 = ((t - 1 : Nat) : Int) by omega]
      exact ih (t - 1) _ τ2 (by omega) (by omega) hF2 hw2 hv2 hT2
theorem l_wr1 {G : Gt} {d : Nat} {D : Mk} {σ : St} (hd : 4 ≤ d) (hS : Sta σ) (hR : RepC D σ) (hW : WFm D) : ∀ (nn : Nat) (q : Nat) (τ : St), (12 - q) < nn → q ≤ 12 → Fo 26 [3] [27, 28] σ τ → wosC D τ → τ.2.1 26 3 = τ.2.1 17 5 → (∀ row : Nat, row < 12 → row < q → τ.2.1 27 (row * 61 + (D 4 2).toNat) = 0) →  AW mX9_refresh G d 0 0 (mq G (fun ro ρ => ro = none ∧ tabC D ρ 0 ∧ ρ.2.1 26 3 = ρ.2.1 17 5 ∧ Fo 26 [3] [27, 28] σ ρ)) 46 [some (vR 26), some (vI (D 4 2)), some (vI (q : Int)), none] [] τ := by
  intro nn
  induction nn with
  | zero => intros; omega
  | succ nn ih =>
    intro q τ hn hq hF hw hv hp
    have hl := hW.2.2.2.2.2.2.1
    refine AW_iload_n dX9_refresh_46 rfl ?_
    refine AW_bipush dX9_refresh_47 ?_
    refine AW_icmp_ge (tgt := 70) dX9_refresh_49 (by decide) (fun c_49 => ?_) (fun c_49 => ?_)
    · skip
      refine AW_iload_n dX9_refresh_70 rfl ?_
      refine AW_istore2 dX9_refresh_71 ?_
      have hT : tabC D τ (D 4 2).toNat := fun s i hs hi h1 t' ht1 ht2 => by
        rw [show t' = (D 4 2).toNat by omega, Nat.sub_self, hp (6 * s + i) (by omega) (by omega)]
        rfl
      have := l_wr2 (G := G) hd hS hR hW ((D 4 2).toNat + 1) (D 4 2).toNat none τ (by omega) (by omega) hF hw hv hT
      rw [show ((D 4 2).toNat : Int) = D 4 2 by omega] at this
      exact this
    · skip
      refine AW_aload_n dX9_refresh_52 rfl ?_
      refine AW_getR (a := 27) dX9_refresh_53 gfX9_13 ((hF.sta hS).cel rfl) ((hF.sta hS).rf rfl) ?_
      refine AW_iload_n dX9_refresh_56 rfl ?_
      refine AW_bipush dX9_refresh_57 ?_
      refine AW_imulE dX9_refresh_59 (by omega) (by omega) ?_
      refine AW_iload_n dX9_refresh_60 rfl ?_
      refine AW_iaddE dX9_refresh_61 (by omega) (by omega) ?_
      refine AW_iconst dX9_refresh_62 ?_
      refine AW_iast dX9_refresh_63 ((hF.sta hS).cel rfl) (by omega) (by omega) ?_
      refine AW_iincE2 dX9_refresh_64 (by omega) (by omega) ?_
      refine AW_goto (tgt := 46) dX9_refresh_67 (by decide) ?_
      rw [show (q : Int) + 1 = ((q + 1 : Nat) : Int) by omega, show ((q : Int) * 61 + D 4 2).toNat = q * 61 + (D 4 2).toNat by omega]
      refine ih (q + 1) _ (by omega) (by omega) (hF.ua (by decide) (by decide) _ _) (hw.up _ _) (by rw [up_r _ _ _ _ (by decide), up_r _ _ _ _ (by decide)]; exact hv) (fun row h1 h2 => ?_)
      rw [up_if]
      by_cases hc : row = q
      · rw [if_pos ⟨rfl, by rw [hc]⟩]
      · rw [if_neg (by omega)]
        exact hp row h1 (by omega)
theorem k_wtref {G : Gt} {d : Nat} {σ : St} (hd : 4 ≤ d) {D : Mk} (hS : Sta σ) (hR : RepC D σ) (hW : WFm D) (hC : wtC D σ)  : AM mX9_refresh G d 0 0 [vR 26] σ (fun ro ρ => ro = none ∧ tabC D ρ 0 ∧ ρ.2.1 26 3 = ρ.2.1 17 5 ∧ Fo 26 [3] [27, 28] σ ρ) := by
  refine AM.intro (by decide +kernel) (by simp [nLg]) (Nat.le_of_ble_eq_true rfl) (fun hO => ?_)
  show AW _ _ _ _ _ _ 0 [some (vR 26), none, none, none] [] σ
  refine AW_aload_n dX9_refresh_0 rfl ?_
  refine AW_getI dX9_refresh_1 gfX9_20 (hS.cel rfl) ?_
  refine AW_aload_n dX9_refresh_4 rfl ?_
  refine AW_getR (a := 17) dX9_refresh_5 gfX9_24 (hS.cel rfl) (hS.rf rfl) ?_
  refine AW_callV0 (d' := d - 1) dX9_refresh_8 (Or.inl lkX9_36) mfX3_version (hS.cel rfl) ⟨_, rfl, rfl⟩ (k_version hS) (by omega) (Nat.le_of_ble_eq_true rfl) ?_
  rintro _ _ ⟨e_, rfl⟩ -
  rw [e_]
  clear e_
  refine AW_icmp_ne (tgt := 15) dX9_refresh_11 (by decide) (fun c_11 => ?_) (fun c_11 => ?_)
  · skip
    refine AW_aload_n dX9_refresh_15 rfl ?_
    refine AW_aload_n dX9_refresh_16 rfl ?_
    refine AW_getR (a := 17) dX9_refresh_17 gfX9_24 (hS.cel rfl) (hS.rf rfl) ?_
    refine AW_callV0 (d' := d - 1) dX9_refresh_20 (Or.inl lkX9_36) mfX3_version (hS.cel rfl) ⟨_, rfl, rfl⟩ (k_version hS) (by omega) (Nat.le_of_ble_eq_true rfl) ?_
    rintro _ _ ⟨e_, rfl⟩ -
    rw [e_]
    clear e_
    refine AW_putI dX9_refresh_23 (Or.inl pfX9_20) (hS.cel rfl) ?_
    refine AW_aload_n dX9_refresh_26 rfl ?_
    refine AW_callV0 (d' := d - 1) dX9_refresh_27 (Or.inl lkX9_39) mfX9_gatherWorths (hS.cel rfl) ⟨_, rfl, rfl⟩ (k_gw (by omega) (hS.up _ _ _) (hR.fr (L := [26]) (Fr.rf.up (by decide) _ _)) hW) (by omega) (Nat.le_of_ble_eq_true rfl) ?_
    rintro _ ρ1 ⟨rfl, hw, hF1⟩ -
    have hF2 : Fo 26 [3] [27, 28] σ ρ1 := (Fo.rf.uf (by decide) _).tr ⟨hF1.mo (by decide), fun j _ => hF1.iv 26 j⟩
    have hS1 := hF2.sta hS
    have hv : ρ1.2.1 26 3 = ρ1.2.1 17 5 := by rw [hF1.iv 26 3, up_at, hF1.iv 17 5, up_r _ _ _ _ (by decide)]
    have hl := hW.2.2.2.2.2.2.1
    refine AW_aload_n dX9_refresh_30 rfl ?_
    refine AW_getR (a := 17) dX9_refresh_31 gfX9_24 (hS1.cel rfl) (hS1.rf rfl) ?_
    refine AW_iconst dX9_refresh_34 ?_
    refine AW_callV1 (d' := d - 1) dX9_refresh_35 (Or.inl lkX9_32) mfX3_setting (hS1.cel rfl) ⟨_, rfl, rfl⟩ (k_setK 2 (by decide) hS1 (hR.fr hF2.1)) (by omega) (Nat.le_of_ble_eq_true rfl) ?_
    rintro _ _ ⟨e_, rfl⟩ -
    rw [e_]
    clear e_
    refine AW_bipush dX9_refresh_38 ?_
    refine AW_mmin dX9_refresh_40 lkX9_42 (by omega) (Nat.le_of_ble_eq_true rfl) ?_
    rw [if_neg (by omega)]
    refine AW_istore1 dX9_refresh_43 ?_
    refine AW_iconst dX9_refresh_44 ?_
    refine AW_istore2 dX9_refresh_45 ?_
    exact l_wr1 hd hS hR hW 13 0 ρ1 (by omega) (by omega) hF2 hw hv (fun row h1 h2 => by omega)
  · skip
    refine AW_vret dX9_refresh_14 rfl ?_
    exact ⟨rfl, hC.2 c_11, c_11, Fo.rf⟩
theorem k_behindV {G : Gt} {d : Nat} {σ : St} {D : Mk} (hd : 2 ≤ d) (hS : Sta σ) (hR : RepC D σ) (hW : WFm D) (hT : tabC D σ 0) (side sort t : Int) (s i : Nat) (h : side = s) (h2 : sort = i) (hs : s < 2) (hi : (i : Int) < D 0 s) (ht : 0 ≤ t) : AM mX9_behind G d 0 0 [vR 26, vI side, vI sort, vI t] σ (fun r τ => τ = σ ∧ r = some (vI (wt D ((D 4 2).toNat - t.toNat) s i))) :=
  AM_mono (fun r τ q => ⟨q.1, by
    rw [q.2, show side.toNat = s by omega, show sort.toNat = i by omega]
    by_cases hc : t < D 4 2
    · rw [if_pos (by omega)]
    · rw [if_neg (by omega), show (D 4 2).toNat - t.toNat = 0 by omega]
      rfl⟩) (k_behind hd hS hR hW hT side sort t)
theorem x_patience {G : Gt} {d : Nat} {σ : St} (hd : 5 ≤ d) {D : Mk} (hS : Sta σ) (hR : RepC D σ) (hW : WFm D) (hC : wtC D σ) (side sort t : Int)  : AM mX11_patience G d 0 0 [vR 16, vI side, vI sort, vI t] σ (fun ro ρ => ro = some (vI (if (((side = 0 ∨ side = 1) ∧ 0 ≤ sort ∧ sort < D 0 side.toNat) ∧ 0 ≤ t ∧ t ≤ D 4 2) then wt D ((D 4 2).toNat - t.toNat) side.toNat sort.toNat else -1)) ∧ wtC D ρ ∧ Fo 26 [3] [27, 28] σ ρ) := by
  refine AM.intro (by decide +kernel) (by simp [nLg]) (Nat.le_of_ble_eq_true rfl) (fun hO => ?_)
  have i_side : -2147483648 ≤ side ∧ side < 2147483648 := hO (vI side) (by simp)
  have i_sort : -2147483648 ≤ sort ∧ sort < 2147483648 := hO (vI sort) (by simp)
  have i_t : -2147483648 ≤ t ∧ t < 2147483648 := hO (vI t) (by simp)
  show AW _ _ _ _ _ _ 0 [some (vR 16), some (vI side), some (vI sort), some (vI t)] [] σ
  refine AW_aload_n dX11_patience_0 rfl ?_
  refine AW_getR (a := 17) dX11_patience_1 gfX11_12 (hS.cel rfl) (hS.rf rfl) ?_
  refine AW_iload_n dX11_patience_4 rfl ?_
  refine AW_iload_n dX11_patience_5 rfl ?_
  refine AW_callV2 (d' := d - 1) dX11_patience_6 (Or.inl lkX11_85) mfX3_isSort (hS.cel rfl) ⟨_, rfl, rfl⟩ (k_isSort hS hR side sort) (by omega) (Nat.le_of_ble_eq_true rfl) ?_
  rintro _ _ ⟨e_, rfl⟩ -
  rw [e_]
  clear e_
  refine AW_if_eq (tgt := 28) dX11_patience_9 (by decide) (fun c_9 => ?_) (fun c_9 => ?_)
  · skip
    replace c_9 := bz0 c_9
    refine AW_iconst dX11_patience_28 ?_
    refine AW_iret dX11_patience_29 rfl ?_
    exact ⟨by rw [if_neg (by omega)], hC, Fo.rf⟩
  · skip
    replace c_9 := bz1 c_9
    refine AW_iload_n dX11_patience_12 rfl ?_
    refine AW_if_lt (tgt := 28) dX11_patience_13 (by decide) (fun c_13 => ?_) (fun c_13 => ?_)
    · skip
      refine AW_iconst dX11_patience_28 ?_
      refine AW_iret dX11_patience_29 rfl ?_
      exact ⟨by rw [if_neg (by omega)], hC, Fo.rf⟩
    · skip
      refine AW_iload_n dX11_patience_16 rfl ?_
      refine AW_aload_n dX11_patience_17 rfl ?_
      refine AW_getR (a := 17) dX11_patience_18 gfX11_12 (hS.cel rfl) (hS.rf rfl) ?_
      refine AW_iconst dX11_patience_21 ?_
      refine AW_callV1 (d' := d - 1) dX11_patience_22 (Or.inl lkX11_119) mfX3_setting (hS.cel rfl) ⟨_, rfl, rfl⟩ (k_setK 2 (by decide) hS hR) (by omega) (Nat.le_of_ble_eq_true rfl) ?_
      rintro _ _ ⟨e_, rfl⟩ -
      rw [e_]
      clear e_
      refine AW_icmp_le (tgt := 30) dX11_patience_25 (by decide) (fun c_25 => ?_) (fun c_25 => ?_)
      · skip
        refine AW_aload_n dX11_patience_30 rfl ?_
        refine AW_getR (a := 26) dX11_patience_31 gfX11_28 (hS.cel rfl) (hS.rf rfl) ?_
        refine AW_callV0 (d' := d - 1) dX11_patience_34 (Or.inl lkX11_122) mfX9_refresh (hS.cel rfl) ⟨_, rfl, rfl⟩ (k_wtref (by omega) hS hR hW hC) (by omega) (Nat.le_of_ble_eq_true rfl) ?_
        rintro _ ρ1 ⟨rfl, hT, hv1, hF⟩ -
        have hS1 := hF.sta hS
        have hR1 := hR.fr hF.1
        have hC1 : wtC D ρ1 := ⟨by omega, fun _ => hT⟩
        refine AW_aload_n dX11_patience_37 rfl ?_
        refine AW_getR (a := 26) dX11_patience_38 gfX11_28 (hS1.cel rfl) (hS1.rf rfl) ?_
        refine AW_iload_n dX11_patience_41 rfl ?_
        refine AW_iload_n dX11_patience_42 rfl ?_
        refine AW_iload_n dX11_patience_43 rfl ?_
        refine AW_callV3 (d' := d - 1) dX11_patience_44 (Or.inl lkX11_123) mfX9_behind (hS1.cel rfl) ⟨_, rfl, rfl⟩ (k_behindV (by omega) hS1 hR1 hW hT side sort t side.toNat sort.toNat (by omega) (by omega) (by omega) (by omega) (by omega)) (by omega) (Nat.le_of_ble_eq_true rfl) ?_
        rintro _ _ ⟨e_, rfl⟩ -
        rw [e_]
        clear e_
        refine AW_iret dX11_patience_47 rfl ?_
        refine ⟨?_, hC1, hF⟩
        rw [if_pos (show (((side = 0 ∨ side = 1) ∧ 0 ≤ sort ∧ sort < D 0 side.toNat) ∧ 0 ≤ t ∧ t ≤ D 4 2) by omega)]
      · skip
        refine AW_iconst dX11_patience_28 ?_
        refine AW_iret dX11_patience_29 rfl ?_
        exact ⟨by rw [if_neg (by omega)], hC, Fo.rf⟩
def takes0 (D : Mk) (i j t : Int) : Prop := wt D ((D 4 2).toNat - t.toNat) 0 i.toNat ≤ wo D 0 i.toNat j.toNat
def takes1 (D : Mk) (i j t : Int) : Prop := wt D ((D 4 2).toNat - t.toNat) 1 j.toNat ≤ wo D 1 j.toNat i.toNat
/-- what pairs(i, j, t, what) answers -/
def prAns (D : Mk) (i j t what : Int) (z : Int) : Prop := (¬ (((0 ≤ i ∧ i < D 0 0) ∧ 0 ≤ j ∧ j < D 0 1) ∧ (1 ≤ t ∧ t ≤ D 4 2) ∧ 0 ≤ what ∧ what ≤ 2) ∧ z = -1) ∨ ((((0 ≤ i ∧ i < D 0 0) ∧ 0 ≤ j ∧ j < D 0 1) ∧ (1 ≤ t ∧ t ≤ D 4 2) ∧ 0 ≤ what ∧ what ≤ 2) ∧ ((z = 1 ∧ ((what = 0 ∧ takes0 D i j t ∧ takes1 D i j t) ∨ (what = 1 ∧ takes0 D i j t) ∨ (what = 2 ∧ takes1 D i j t))) ∨ (z = 0 ∧ ¬ ((what = 0 ∧ takes0 D i j t ∧ takes1 D i j t) ∨ (what = 1 ∧ takes0 D i j t) ∨ (what = 2 ∧ takes1 D i j t)))))
theorem prAns_one {D : Mk} {i j t what z z' : Int} (h : prAns D i j t what z) (h' : prAns D i j t what z') : z = z' := by
  rcases h with ⟨a, b⟩ | ⟨a, ⟨b, c⟩ | ⟨b, c⟩⟩ <;> rcases h' with ⟨a', b'⟩ | ⟨a', ⟨b', c'⟩ | ⟨b', c'⟩⟩ <;> first | exact b.trans b'.symm | exact absurd a' a | exact absurd a a' | exact absurd c' c | exact absurd c c'
theorem x_pairs {G : Gt} {d : Nat} {σ : St} (hd : 5 ≤ d) {D : Mk} (hS : Sta σ) (hR : RepC D σ) (hW : WFm D) (hC : wtC D σ) (i j t what : Int)  : AM mX11_pairs G d 0 0 [vR 16, vI i, vI j, vI t, vI what] σ (fun ro ρ => ∃ z : Int, ro = some (vI z) ∧ prAns D i j t what z ∧ wtC D ρ ∧ Fo 26 [3] [27, 28] σ ρ) := by
  refine AM.intro (by decide +kernel) (by simp [nLg]) (Nat.le_of_ble_eq_true rfl) (fun hO => ?_)
  have i_i : -2147483648 ≤ i ∧ i < 2147483648 := hO (vI i) (by simp)
  have i_j : -2147483648 ≤ j ∧ j < 2147483648 := hO (vI j) (by simp)
  have i_t : -2147483648 ≤ t ∧ t < 2147483648 := hO (vI t) (by simp)
  have i_what : -2147483648 ≤ what ∧ what < 2147483648 := hO (vI what) (by simp)
  show AW _ _ _ _ _ _ 0 [some (vR 16), some (vI i), some (vI j), some (vI t), some (vI what), none, none] [] σ
  refine AW_aload_n dX11_pairs_0 rfl ?_
  refine AW_getR (a := 17) dX11_pairs_1 gfX11_12 (hS.cel rfl) (hS.rf rfl) ?_
  refine AW_iconst dX11_pairs_4 ?_
  refine AW_iload_n dX11_pairs_5 rfl ?_
  refine AW_callV2 (d' := d - 1) dX11_pairs_6 (Or.inl lkX11_85) mfX3_isSort (hS.cel rfl) ⟨_, rfl, rfl⟩ (k_isSort hS hR 0 i) (by omega) (Nat.le_of_ble_eq_true rfl) ?_
  rintro _ _ ⟨e_, rfl⟩ -
  rw [e_]
  clear e_
  refine AW_if_eq (tgt := 24) dX11_pairs_9 (by decide) (fun c_9 => ?_) (fun c_9 => ?_)
  · skip
    replace c_9 := bz0 c_9
    rw [show Int.toNat 0 = 0 from rfl] at c_9
    refine AW_iconst dX11_pairs_24 ?_
    refine AW_iret dX11_pairs_25 rfl ?_
    exact ⟨_, rfl, Or.inl ⟨by omega, rfl⟩, hC, Fo.rf⟩
  · skip
    replace c_9 := bz1 c_9
    rw [show Int.toNat 0 = 0 from rfl] at c_9
    refine AW_aload_n dX11_pairs_12 rfl ?_
    refine AW_getR (a := 17) dX11_pairs_13 gfX11_12 (hS.cel rfl) (hS.rf rfl) ?_
    refine AW_iconst dX11_pairs_16 ?_
    refine AW_iload_n dX11_pairs_17 rfl ?_
    refine AW_callV2 (d' := d - 1) dX11_pairs_18 (Or.inl lkX11_85) mfX3_isSort (hS.cel rfl) ⟨_, rfl, rfl⟩ (k_isSort hS hR 1 j) (by omega) (Nat.le_of_ble_eq_true rfl) ?_
    rintro _ _ ⟨e_, rfl⟩ -
    rw [e_]
    clear e_
    refine AW_if_ne (tgt := 26) dX11_pairs_21 (by decide) (fun c_21 => ?_) (fun c_21 => ?_)
    · skip
      replace c_21 := bz1 c_21
      rw [show Int.toNat 1 = 1 from rfl] at c_21
      refine AW_iload_n dX11_pairs_26 rfl ?_
      refine AW_iconst dX11_pairs_27 ?_
      refine AW_icmp_lt (tgt := 54) dX11_pairs_28 (by decide) (fun c_28 => ?_) (fun c_28 => ?_)
      · skip
        refine AW_iconst dX11_pairs_54 ?_
        refine AW_iret dX11_pairs_55 rfl ?_
        exact ⟨_, rfl, Or.inl ⟨by omega, rfl⟩, hC, Fo.rf⟩
      · skip
        refine AW_iload_n dX11_pairs_31 rfl ?_
        refine AW_aload_n dX11_pairs_32 rfl ?_
        refine AW_getR (a := 17) dX11_pairs_33 gfX11_12 (hS.cel rfl) (hS.rf rfl) ?_
        refine AW_iconst dX11_pairs_36 ?_
        refine AW_callV1 (d' := d - 1) dX11_pairs_37 (Or.inl lkX11_119) mfX3_setting (hS.cel rfl) ⟨_, rfl, rfl⟩ (k_setK 2 (by decide) hS hR) (by omega) (Nat.le_of_ble_eq_true rfl) ?_
        rintro _ _ ⟨e_, rfl⟩ -
        rw [e_]
        clear e_
        refine AW_icmp_gt (tgt := 54) dX11_pairs_40 (by decide) (fun c_40 => ?_) (fun c_40 => ?_)
        · skip
          refine AW_iconst dX11_pairs_54 ?_
          refine AW_iret dX11_pairs_55 rfl ?_
          exact ⟨_, rfl, Or.inl ⟨by omega, rfl⟩, hC, Fo.rf⟩
        · skip
          refine AW_iload dX11_pairs_43 rfl ?_
          refine AW_if_lt (tgt := 54) dX11_pairs_45 (by decide) (fun c_45 => ?_) (fun c_45 => ?_)
          · skip
            refine AW_iconst dX11_pairs_54 ?_
            refine AW_iret dX11_pairs_55 rfl ?_
            exact ⟨_, rfl, Or.inl ⟨by omega, rfl⟩, hC, Fo.rf⟩
          · skip
            refine AW_iload dX11_pairs_48 rfl ?_
            refine AW_iconst dX11_pairs_50 ?_
            refine AW_icmp_le (tgt := 56) dX11_pairs_51 (by decide) (fun c_51 => ?_) (fun c_51 => ?_)
            · skip
              refine AW_aload_n dX11_pairs_56 rfl ?_
              refine AW_getR (a := 26) dX11_pairs_57 gfX11_28 (hS.cel rfl) (hS.rf rfl) ?_
              refine AW_callV0 (d' := d - 1) dX11_pairs_60 (Or.inl lkX11_122) mfX9_refresh (hS.cel rfl) ⟨_, rfl, rfl⟩ (k_wtref (by omega) hS hR hW hC) (by omega) (Nat.le_of_ble_eq_true rfl) ?_
              rintro _ ρ1 ⟨rfl, hT, hv1, hF⟩ -
              have hS1 := hF.sta hS
              have hR1 := hR.fr hF.1
              have hC1 : wtC D ρ1 := ⟨by omega, fun _ => hT⟩
              refine AW_aload_n dX11_pairs_63 rfl ?_
              refine AW_getR (a := 17) dX11_pairs_64 gfX11_12 (hS1.cel rfl) (hS1.rf rfl) ?_
              refine AW_iconst dX11_pairs_67 ?_
              refine AW_iload_n dX11_pairs_68 rfl ?_
              refine AW_iload_n dX11_pairs_69 rfl ?_
              refine AW_callV3 (d' := d - 1) dX11_pairs_70 (Or.inl lkX11_127) mfX3_worthTo (hS1.cel rfl) ⟨_, rfl, rfl⟩ (k_worthV (by omega) hS1 hR1 hW 0 i j 0 i.toNat j.toNat rfl (by omega) (by omega) (by decide) (by omega) (show ((j.toNat : Nat) : Int) < D 0 1 by omega)) (by omega) (Nat.le_of_ble_eq_true rfl) ?_
              rintro _ _ ⟨e_, rfl⟩ -
              rw [e_]
              clear e_
              refine AW_aload_n dX11_pairs_73 rfl ?_
              refine AW_getR (a := 26) dX11_pairs_74 gfX11_28 (hS1.cel rfl) (hS1.rf rfl) ?_
              refine AW_iconst dX11_pairs_77 ?_
              refine AW_iload_n dX11_pairs_78 rfl ?_
              refine AW_iload_n dX11_pairs_79 rfl ?_
              refine AW_callV3 (d' := d - 1) dX11_pairs_80 (Or.inl lkX11_123) mfX9_behind (hS1.cel rfl) ⟨_, rfl, rfl⟩ (k_behindV (by omega) hS1 hR1 hW hT 0 i t 0 i.toNat rfl (by omega) (by decide) (by omega) (by omega)) (by omega) (Nat.le_of_ble_eq_true rfl) ?_
              rintro _ _ ⟨e_, rfl⟩ -
              rw [e_]
              clear e_
              refine AW_icmp_lt (tgt := 90) dX11_pairs_83 (by decide) (fun c_83 => ?_) (fun c_83 => ?_)
              · skip
                have t0 : ¬ takes0 D i j t := fun h => absurd c_83 (Int.not_lt.mpr h)
                refine AW_iconst dX11_pairs_90 ?_
                refine AW_istore5 dX11_pairs_91 ?_
                refine AW_aload_n dX11_pairs_93 rfl ?_
                refine AW_getR (a := 17) dX11_pairs_94 gfX11_12 (hS1.cel rfl) (hS1.rf rfl) ?_
                refine AW_iconst dX11_pairs_97 ?_
                refine AW_iload_n dX11_pairs_98 rfl ?_
                refine AW_iload_n dX11_pairs_99 rfl ?_
                refine AW_callV3 (d' := d - 1) dX11_pairs_100 (Or.inl lkX11_127) mfX3_worthTo (hS1.cel rfl) ⟨_, rfl, rfl⟩ (k_worthV (by omega) hS1 hR1 hW 1 j i 1 j.toNat i.toNat rfl (by omega) (by omega) (by decide) (by omega) (show ((i.toNat : Nat) : Int) < D 0 0 by omega)) (by omega) (Nat.le_of_ble_eq_true rfl) ?_
                rintro _ _ ⟨e_, rfl⟩ -
                rw [e_]
                clear e_
                refine AW_aload_n dX11_pairs_103 rfl ?_
                refine AW_getR (a := 26) dX11_pairs_104 gfX11_28 (hS1.cel rfl) (hS1.rf rfl) ?_
                refine AW_iconst dX11_pairs_107 ?_
                refine AW_iload_n dX11_pairs_108 rfl ?_
                refine AW_iload_n dX11_pairs_109 rfl ?_
                refine AW_callV3 (d' := d - 1) dX11_pairs_110 (Or.inl lkX11_123) mfX9_behind (hS1.cel rfl) ⟨_, rfl, rfl⟩ (k_behindV (by omega) hS1 hR1 hW hT 1 j t 1 j.toNat rfl (by omega) (by decide) (by omega) (by omega)) (by omega) (Nat.le_of_ble_eq_true rfl) ?_
                rintro _ _ ⟨e_, rfl⟩ -
                rw [e_]
                clear e_
                refine AW_icmp_lt (tgt := 120) dX11_pairs_113 (by decide) (fun c_113 => ?_) (fun c_113 => ?_)
                · skip
                  have t1 : ¬ takes1 D i j t := fun h => absurd c_113 (Int.not_lt.mpr h)
                  refine AW_iconst dX11_pairs_120 ?_
                  refine AW_istore6 dX11_pairs_121 ?_
                  refine AW_iload dX11_pairs_123 rfl ?_
                  refine AW_if_ne (tgt := 144) dX11_pairs_125 (by decide) (fun c_125 => ?_) (fun c_125 => ?_)
                  · skip
                    refine AW_iload dX11_pairs_144 rfl ?_
                    refine AW_iconst dX11_pairs_146 ?_
                    refine AW_icmp_ne (tgt := 158) dX11_pairs_147 (by decide) (fun c_147 => ?_) (fun c_147 => ?_)
                    · skip
                      refine AW_iload dX11_pairs_158 rfl ?_
                      refine AW_if_eq (tgt := 167) dX11_pairs_160 (by decide) (fun c_160 => ?_) (fun c_160 => ?_)
                      · skip
                        refine AW_iconst dX11_pairs_167 ?_
                        refine AW_iret dX11_pairs_168 rfl ?_
                        refine ⟨_, rfl, Or.inr ⟨by omega, ?_⟩, hC1, hF⟩
                        first
                        | (refine Or.inl ⟨rfl, ?_⟩; first | exact Or.inl ⟨by omega, t0, t1⟩ | exact Or.inr (Or.inl ⟨by omega, t0⟩) | exact Or.inr (Or.inr ⟨by omega, t1⟩))
                        | (refine Or.inr ⟨rfl, ?_⟩; rintro (⟨h, h0, h1⟩ | ⟨h, h0⟩ | ⟨h, h1⟩) <;> first | exact t0 h0 | exact t1 h1 | (exfalso; omega))
                        | (exfalso; omega)
                      · skip
                        refine AW_iconst dX11_pairs_163 ?_
                        refine AW_goto (tgt := 168) dX11_pairs_164 (by decide) ?_
                        refine AW_iret dX11_pairs_168 rfl ?_
                        refine ⟨_, rfl, Or.inr ⟨by omega, ?_⟩, hC1, hF⟩
                        first
                        | (refine Or.inl ⟨rfl, ?_⟩; first | exact Or.inl ⟨by omega, t0, t1⟩ | exact Or.inr (Or.inl ⟨by omega, t0⟩) | exact Or.inr (Or.inr ⟨by omega, t1⟩))
                        | (refine Or.inr ⟨rfl, ?_⟩; rintro (⟨h, h0, h1⟩ | ⟨h, h0⟩ | ⟨h, h1⟩) <;> first | exact t0 h0 | exact t1 h1 | (exfalso; omega))
                        | (exfalso; omega)
                    · skip
                      refine AW_iload dX11_pairs_150 rfl ?_
                      refine AW_if_eq (tgt := 167) dX11_pairs_152 (by decide) (fun c_152 => ?_) (fun c_152 => ?_)
                      · skip
                        refine AW_iconst dX11_pairs_167 ?_
                        refine AW_iret dX11_pairs_168 rfl ?_
                        refine ⟨_, rfl, Or.inr ⟨by omega, ?_⟩, hC1, hF⟩
                        first
                        | (refine Or.inl ⟨rfl, ?_⟩; first | exact Or.inl ⟨by omega, t0, t1⟩ | exact Or.inr (Or.inl ⟨by omega, t0⟩) | exact Or.inr (Or.inr ⟨by omega, t1⟩))
                        | (refine Or.inr ⟨rfl, ?_⟩; rintro (⟨h, h0, h1⟩ | ⟨h, h0⟩ | ⟨h, h1⟩) <;> first | exact t0 h0 | exact t1 h1 | (exfalso; omega))
                        | (exfalso; omega)
                      · skip
                        refine AW_goto (tgt := 163) dX11_pairs_155 (by decide) ?_
                        refine AW_iconst dX11_pairs_163 ?_
                        refine AW_goto (tgt := 168) dX11_pairs_164 (by decide) ?_
                        refine AW_iret dX11_pairs_168 rfl ?_
                        refine ⟨_, rfl, Or.inr ⟨by omega, ?_⟩, hC1, hF⟩
                        first
                        | (refine Or.inl ⟨rfl, ?_⟩; first | exact Or.inl ⟨by omega, t0, t1⟩ | exact Or.inr (Or.inl ⟨by omega, t0⟩) | exact Or.inr (Or.inr ⟨by omega, t1⟩))
                        | (refine Or.inr ⟨rfl, ?_⟩; rintro (⟨h, h0, h1⟩ | ⟨h, h0⟩ | ⟨h, h1⟩) <;> first | exact t0 h0 | exact t1 h1 | (exfalso; omega))
                        | (exfalso; omega)
                  · skip
                    refine AW_iload dX11_pairs_128 rfl ?_
                    refine AW_if_eq (tgt := 142) dX11_pairs_130 (by decide) (fun c_130 => ?_) (fun c_130 => ?_)
                    · skip
                      refine AW_iconst dX11_pairs_142 ?_
                      refine AW_iret dX11_pairs_143 rfl ?_
                      refine ⟨_, rfl, Or.inr ⟨by omega, ?_⟩, hC1, hF⟩
                      first
                      | (refine Or.inl ⟨rfl, ?_⟩; first | exact Or.inl ⟨by omega, t0, t1⟩ | exact Or.inr (Or.inl ⟨by omega, t0⟩) | exact Or.inr (Or.inr ⟨by omega, t1⟩))
                      | (refine Or.inr ⟨rfl, ?_⟩; rintro (⟨h, h0, h1⟩ | ⟨h, h0⟩ | ⟨h, h1⟩) <;> first | exact t0 h0 | exact t1 h1 | (exfalso; omega))
                      | (exfalso; omega)
                    · skip
                      refine AW_iload dX11_pairs_133 rfl ?_
                      refine AW_if_eq (tgt := 142) dX11_pairs_135 (by decide) (fun c_135 => ?_) (fun c_135 => ?_)
                      · skip
                        refine AW_iconst dX11_pairs_142 ?_
                        refine AW_iret dX11_pairs_143 rfl ?_
                        refine ⟨_, rfl, Or.inr ⟨by omega, ?_⟩, hC1, hF⟩
                        first
                        | (refine Or.inl ⟨rfl, ?_⟩; first | exact Or.inl ⟨by omega, t0, t1⟩ | exact Or.inr (Or.inl ⟨by omega, t0⟩) | exact Or.inr (Or.inr ⟨by omega, t1⟩))
                        | (refine Or.inr ⟨rfl, ?_⟩; rintro (⟨h, h0, h1⟩ | ⟨h, h0⟩ | ⟨h, h1⟩) <;> first | exact t0 h0 | exact t1 h1 | (exfalso; omega))
                        | (exfalso; omega)
                      · skip
                        refine AW_iconst dX11_pairs_138 ?_
                        refine AW_goto (tgt := 143) dX11_pairs_139 (by decide) ?_
                        refine AW_iret dX11_pairs_143 rfl ?_
                        refine ⟨_, rfl, Or.inr ⟨by omega, ?_⟩, hC1, hF⟩
                        first
                        | (refine Or.inl ⟨rfl, ?_⟩; first | exact Or.inl ⟨by omega, t0, t1⟩ | exact Or.inr (Or.inl ⟨by omega, t0⟩) | exact Or.inr (Or.inr ⟨by omega, t1⟩))
                        | (refine Or.inr ⟨rfl, ?_⟩; rintro (⟨h, h0, h1⟩ | ⟨h, h0⟩ | ⟨h, h1⟩) <;> first | exact t0 h0 | exact t1 h1 | (exfalso; omega))
                        | (exfalso; omega)
                · skip
                  have t1 : takes1 D i j t := Int.not_lt.mp c_113
                  refine AW_iconst dX11_pairs_116 ?_
                  refine AW_goto (tgt := 121) dX11_pairs_117 (by decide) ?_
                  refine AW_istore6 dX11_pairs_121 ?_
                  refine AW_iload dX11_pairs_123 rfl ?_
                  refine AW_if_ne (tgt := 144) dX11_pairs_125 (by decide) (fun c_125 => ?_) (fun c_125 => ?_)
                  · skip
                    refine AW_iload dX11_pairs_144 rfl ?_
                    refine AW_iconst dX11_pairs_146 ?_
                    refine AW_icmp_ne (tgt := 158) dX11_pairs_147 (by decide) (fun c_147 => ?_) (fun c_147 => ?_)
                    · skip
                      refine AW_iload dX11_pairs_158 rfl ?_
                      refine AW_if_eq (tgt := 167) dX11_pairs_160 (by decide) (fun c_160 => ?_) (fun c_160 => ?_)
                      · skip
                        refine AW_iconst dX11_pairs_167 ?_
                        refine AW_iret dX11_pairs_168 rfl ?_
                        refine ⟨_, rfl, Or.inr ⟨by omega, ?_⟩, hC1, hF⟩
                        first
                        | (refine Or.inl ⟨rfl, ?_⟩; first | exact Or.inl ⟨by omega, t0, t1⟩ | exact Or.inr (Or.inl ⟨by omega, t0⟩) | exact Or.inr (Or.inr ⟨by omega, t1⟩))
                        | (refine Or.inr ⟨rfl, ?_⟩; rintro (⟨h, h0, h1⟩ | ⟨h, h0⟩ | ⟨h, h1⟩) <;> first | exact t0 h0 | exact t1 h1 | (exfalso; omega))
                        | (exfalso; omega)
                      · skip
                        refine AW_iconst dX11_pairs_163 ?_
                        refine AW_goto (tgt := 168) dX11_pairs_164 (by decide) ?_
                        refine AW_iret dX11_pairs_168 rfl ?_
                        refine ⟨_, rfl, Or.inr ⟨by omega, ?_⟩, hC1, hF⟩
                        first
                        | (refine Or.inl ⟨rfl, ?_⟩; first | exact Or.inl ⟨by omega, t0, t1⟩ | exact Or.inr (Or.inl ⟨by omega, t0⟩) | exact Or.inr (Or.inr ⟨by omega, t1⟩))
                        | (refine Or.inr ⟨rfl, ?_⟩; rintro (⟨h, h0, h1⟩ | ⟨h, h0⟩ | ⟨h, h1⟩) <;> first | exact t0 h0 | exact t1 h1 | (exfalso; omega))
                        | (exfalso; omega)
                    · skip
                      refine AW_iload dX11_pairs_150 rfl ?_
                      refine AW_if_eq (tgt := 167) dX11_pairs_152 (by decide) (fun c_152 => ?_) (fun c_152 => ?_)
                      · skip
                        refine AW_iconst dX11_pairs_167 ?_
                        refine AW_iret dX11_pairs_168 rfl ?_
                        refine ⟨_, rfl, Or.inr ⟨by omega, ?_⟩, hC1, hF⟩
                        first
                        | (refine Or.inl ⟨rfl, ?_⟩; first | exact Or.inl ⟨by omega, t0, t1⟩ | exact Or.inr (Or.inl ⟨by omega, t0⟩) | exact Or.inr (Or.inr ⟨by omega, t1⟩))
                        | (refine Or.inr ⟨rfl, ?_⟩; rintro (⟨h, h0, h1⟩ | ⟨h, h0⟩ | ⟨h, h1⟩) <;> first | exact t0 h0 | exact t1 h1 | (exfalso; omega))
                        | (exfalso; omega)
                      · skip
                        refine AW_goto (tgt := 163) dX11_pairs_155 (by decide) ?_
                        refine AW_iconst dX11_pairs_163 ?_
                        refine AW_goto (tgt := 168) dX11_pairs_164 (by decide) ?_
                        refine AW_iret dX11_pairs_168 rfl ?_
                        refine ⟨_, rfl, Or.inr ⟨by omega, ?_⟩, hC1, hF⟩
                        first
                        | (refine Or.inl ⟨rfl, ?_⟩; first | exact Or.inl ⟨by omega, t0, t1⟩ | exact Or.inr (Or.inl ⟨by omega, t0⟩) | exact Or.inr (Or.inr ⟨by omega, t1⟩))
                        | (refine Or.inr ⟨rfl, ?_⟩; rintro (⟨h, h0, h1⟩ | ⟨h, h0⟩ | ⟨h, h1⟩) <;> first | exact t0 h0 | exact t1 h1 | (exfalso; omega))
                        | (exfalso; omega)
                  · skip
                    refine AW_iload dX11_pairs_128 rfl ?_
                    refine AW_if_eq (tgt := 142) dX11_pairs_130 (by decide) (fun c_130 => ?_) (fun c_130 => ?_)
                    · skip
                      refine AW_iconst dX11_pairs_142 ?_
                      refine AW_iret dX11_pairs_143 rfl ?_
                      refine ⟨_, rfl, Or.inr ⟨by omega, ?_⟩, hC1, hF⟩
                      first
                      | (refine Or.inl ⟨rfl, ?_⟩; first | exact Or.inl ⟨by omega, t0, t1⟩ | exact Or.inr (Or.inl ⟨by omega, t0⟩) | exact Or.inr (Or.inr ⟨by omega, t1⟩))
                      | (refine Or.inr ⟨rfl, ?_⟩; rintro (⟨h, h0, h1⟩ | ⟨h, h0⟩ | ⟨h, h1⟩) <;> first | exact t0 h0 | exact t1 h1 | (exfalso; omega))
                      | (exfalso; omega)
                    · skip
                      refine AW_iload dX11_pairs_133 rfl ?_
                      refine AW_if_eq (tgt := 142) dX11_pairs_135 (by decide) (fun c_135 => ?_) (fun c_135 => ?_)
                      · skip
                        refine AW_iconst dX11_pairs_142 ?_
                        refine AW_iret dX11_pairs_143 rfl ?_
                        refine ⟨_, rfl, Or.inr ⟨by omega, ?_⟩, hC1, hF⟩
                        first
                        | (refine Or.inl ⟨rfl, ?_⟩; first | exact Or.inl ⟨by omega, t0, t1⟩ | exact Or.inr (Or.inl ⟨by omega, t0⟩) | exact Or.inr (Or.inr ⟨by omega, t1⟩))
                        | (refine Or.inr ⟨rfl, ?_⟩; rintro (⟨h, h0, h1⟩ | ⟨h, h0⟩ | ⟨h, h1⟩) <;> first | exact t0 h0 | exact t1 h1 | (exfalso; omega))
                        | (exfalso; omega)
                      · skip
                        refine AW_iconst dX11_pairs_138 ?_
                        refine AW_goto (tgt := 143) dX11_pairs_139 (by decide) ?_
                        refine AW_iret dX11_pairs_143 rfl ?_
                        refine ⟨_, rfl, Or.inr ⟨by omega, ?_⟩, hC1, hF⟩
                        first
                        | (refine Or.inl ⟨rfl, ?_⟩; first | exact Or.inl ⟨by omega, t0, t1⟩ | exact Or.inr (Or.inl ⟨by omega, t0⟩) | exact Or.inr (Or.inr ⟨by omega, t1⟩))
                        | (refine Or.inr ⟨rfl, ?_⟩; rintro (⟨h, h0, h1⟩ | ⟨h, h0⟩ | ⟨h, h1⟩) <;> first | exact t0 h0 | exact t1 h1 | (exfalso; omega))
                        | (exfalso; omega)
              · skip
                have t0 : takes0 D i j t := Int.not_lt.mp c_83
                refine AW_iconst dX11_pairs_86 ?_
                refine AW_goto (tgt := 91) dX11_pairs_87 (by decide) ?_
                refine AW_istore5 dX11_pairs_91 ?_
                refine AW_aload_n dX11_pairs_93 rfl ?_
                refine AW_getR (a := 17) dX11_pairs_94 gfX11_12 (hS1.cel rfl) (hS1.rf rfl) ?_
                refine AW_iconst dX11_pairs_97 ?_
                refine AW_iload_n dX11_pairs_98 rfl ?_
                refine AW_iload_n dX11_pairs_99 rfl ?_
                refine AW_callV3 (d' := d - 1) dX11_pairs_100 (Or.inl lkX11_127) mfX3_worthTo (hS1.cel rfl) ⟨_, rfl, rfl⟩ (k_worthV (by omega) hS1 hR1 hW 1 j i 1 j.toNat i.toNat rfl (by omega) (by omega) (by decide) (by omega) (show ((i.toNat : Nat) : Int) < D 0 0 by omega)) (by omega) (Nat.le_of_ble_eq_true rfl) ?_
                rintro _ _ ⟨e_, rfl⟩ -
                rw [e_]
                clear e_
                refine AW_aload_n dX11_pairs_103 rfl ?_
                refine AW_getR (a := 26) dX11_pairs_104 gfX11_28 (hS1.cel rfl) (hS1.rf rfl) ?_
                refine AW_iconst dX11_pairs_107 ?_
                refine AW_iload_n dX11_pairs_108 rfl ?_
                refine AW_iload_n dX11_pairs_109 rfl ?_
                refine AW_callV3 (d' := d - 1) dX11_pairs_110 (Or.inl lkX11_123) mfX9_behind (hS1.cel rfl) ⟨_, rfl, rfl⟩ (k_behindV (by omega) hS1 hR1 hW hT 1 j t 1 j.toNat rfl (by omega) (by decide) (by omega) (by omega)) (by omega) (Nat.le_of_ble_eq_true rfl) ?_
                rintro _ _ ⟨e_, rfl⟩ -
                rw [e_]
                clear e_
                refine AW_icmp_lt (tgt := 120) dX11_pairs_113 (by decide) (fun c_113 => ?_) (fun c_113 => ?_)
                · skip
                  have t1 : ¬ takes1 D i j t := fun h => absurd c_113 (Int.not_lt.mpr h)
                  refine AW_iconst dX11_pairs_120 ?_
                  refine AW_istore6 dX11_pairs_121 ?_
                  refine AW_iload dX11_pairs_123 rfl ?_
                  refine AW_if_ne (tgt := 144) dX11_pairs_125 (by decide) (fun c_125 => ?_) (fun c_125 => ?_)
                  · skip
                    refine AW_iload dX11_pairs_144 rfl ?_
                    refine AW_iconst dX11_pairs_146 ?_
                    refine AW_icmp_ne (tgt := 158) dX11_pairs_147 (by decide) (fun c_147 => ?_) (fun c_147 => ?_)
                    · skip
                      refine AW_iload dX11_pairs_158 rfl ?_
                      refine AW_if_eq (tgt := 167) dX11_pairs_160 (by decide) (fun c_160 => ?_) (fun c_160 => ?_)
                      · skip
                        refine AW_iconst dX11_pairs_167 ?_
                        refine AW_iret dX11_pairs_168 rfl ?_
                        refine ⟨_, rfl, Or.inr ⟨by omega, ?_⟩, hC1, hF⟩
                        first
                        | (refine Or.inl ⟨rfl, ?_⟩; first | exact Or.inl ⟨by omega, t0, t1⟩ | exact Or.inr (Or.inl ⟨by omega, t0⟩) | exact Or.inr (Or.inr ⟨by omega, t1⟩))
                        | (refine Or.inr ⟨rfl, ?_⟩; rintro (⟨h, h0, h1⟩ | ⟨h, h0⟩ | ⟨h, h1⟩) <;> first | exact t0 h0 | exact t1 h1 | (exfalso; omega))
                        | (exfalso; omega)
                      · skip
                        refine AW_iconst dX11_pairs_163 ?_
                        refine AW_goto (tgt := 168) dX11_pairs_164 (by decide) ?_
                        refine AW_iret dX11_pairs_168 rfl ?_
                        refine ⟨_, rfl, Or.inr ⟨by omega, ?_⟩, hC1, hF⟩
                        first
                        | (refine Or.inl ⟨rfl, ?_⟩; first | exact Or.inl ⟨by omega, t0, t1⟩ | exact Or.inr (Or.inl ⟨by omega, t0⟩) | exact Or.inr (Or.inr ⟨by omega, t1⟩))
                        | (refine Or.inr ⟨rfl, ?_⟩; rintro (⟨h, h0, h1⟩ | ⟨h, h0⟩ | ⟨h, h1⟩) <;> first | exact t0 h0 | exact t1 h1 | (exfalso; omega))
                        | (exfalso; omega)
                    · skip
                      refine AW_iload dX11_pairs_150 rfl ?_
                      refine AW_if_eq (tgt := 167) dX11_pairs_152 (by decide) (fun c_152 => ?_) (fun c_152 => ?_)
                      · skip
                        refine AW_iconst dX11_pairs_167 ?_
                        refine AW_iret dX11_pairs_168 rfl ?_
                        refine ⟨_, rfl, Or.inr ⟨by omega, ?_⟩, hC1, hF⟩
                        first
                        | (refine Or.inl ⟨rfl, ?_⟩; first | exact Or.inl ⟨by omega, t0, t1⟩ | exact Or.inr (Or.inl ⟨by omega, t0⟩) | exact Or.inr (Or.inr ⟨by omega, t1⟩))
                        | (refine Or.inr ⟨rfl, ?_⟩; rintro (⟨h, h0, h1⟩ | ⟨h, h0⟩ | ⟨h, h1⟩) <;> first | exact t0 h0 | exact t1 h1 | (exfalso; omega))
                        | (exfalso; omega)
                      · skip
                        refine AW_goto (tgt := 163) dX11_pairs_155 (by decide) ?_
                        refine AW_iconst dX11_pairs_163 ?_
                        refine AW_goto (tgt := 168) dX11_pairs_164 (by decide) ?_
                        refine AW_iret dX11_pairs_168 rfl ?_
                        refine ⟨_, rfl, Or.inr ⟨by omega, ?_⟩, hC1, hF⟩
                        first
                        | (refine Or.inl ⟨rfl, ?_⟩; first | exact Or.inl ⟨by omega, t0, t1⟩ | exact Or.inr (Or.inl ⟨by omega, t0⟩) | exact Or.inr (Or.inr ⟨by omega, t1⟩))
                        | (refine Or.inr ⟨rfl, ?_⟩; rintro (⟨h, h0, h1⟩ | ⟨h, h0⟩ | ⟨h, h1⟩) <;> first | exact t0 h0 | exact t1 h1 | (exfalso; omega))
                        | (exfalso; omega)
                  · skip
                    refine AW_iload dX11_pairs_128 rfl ?_
                    refine AW_if_eq (tgt := 142) dX11_pairs_130 (by decide) (fun c_130 => ?_) (fun c_130 => ?_)
                    · skip
                      refine AW_iconst dX11_pairs_142 ?_
                      refine AW_iret dX11_pairs_143 rfl ?_
                      refine ⟨_, rfl, Or.inr ⟨by omega, ?_⟩, hC1, hF⟩
                      first
                      | (refine Or.inl ⟨rfl, ?_⟩; first | exact Or.inl ⟨by omega, t0, t1⟩ | exact Or.inr (Or.inl ⟨by omega, t0⟩) | exact Or.inr (Or.inr ⟨by omega, t1⟩))
                      | (refine Or.inr ⟨rfl, ?_⟩; rintro (⟨h, h0, h1⟩ | ⟨h, h0⟩ | ⟨h, h1⟩) <;> first | exact t0 h0 | exact t1 h1 | (exfalso; omega))
                      | (exfalso; omega)
                    · skip
                      refine AW_iload dX11_pairs_133 rfl ?_
                      refine AW_if_eq (tgt := 142) dX11_pairs_135 (by decide) (fun c_135 => ?_) (fun c_135 => ?_)
                      · skip
                        refine AW_iconst dX11_pairs_142 ?_
                        refine AW_iret dX11_pairs_143 rfl ?_
                        refine ⟨_, rfl, Or.inr ⟨by omega, ?_⟩, hC1, hF⟩
                        first
                        | (refine Or.inl ⟨rfl, ?_⟩; first | exact Or.inl ⟨by omega, t0, t1⟩ | exact Or.inr (Or.inl ⟨by omega, t0⟩) | exact Or.inr (Or.inr ⟨by omega, t1⟩))
                        | (refine Or.inr ⟨rfl, ?_⟩; rintro (⟨h, h0, h1⟩ | ⟨h, h0⟩ | ⟨h, h1⟩) <;> first | exact t0 h0 | exact t1 h1 | (exfalso; omega))
                        | (exfalso; omega)
                      · skip
                        refine AW_iconst dX11_pairs_138 ?_
                        refine AW_goto (tgt := 143) dX11_pairs_139 (by decide) ?_
                        refine AW_iret dX11_pairs_143 rfl ?_
                        refine ⟨_, rfl, Or.inr ⟨by omega, ?_⟩, hC1, hF⟩
                        first
                        | (refine Or.inl ⟨rfl, ?_⟩; first | exact Or.inl ⟨by omega, t0, t1⟩ | exact Or.inr (Or.inl ⟨by omega, t0⟩) | exact Or.inr (Or.inr ⟨by omega, t1⟩))
                        | (refine Or.inr ⟨rfl, ?_⟩; rintro (⟨h, h0, h1⟩ | ⟨h, h0⟩ | ⟨h, h1⟩) <;> first | exact t0 h0 | exact t1 h1 | (exfalso; omega))
                        | (exfalso; omega)
                · skip
                  have t1 : takes1 D i j t := Int.not_lt.mp c_113
                  refine AW_iconst dX11_pairs_116 ?_
                  refine AW_goto (tgt := 121) dX11_pairs_117 (by decide) ?_
                  refine AW_istore6 dX11_pairs_121 ?_
                  refine AW_iload dX11_pairs_123 rfl ?_
                  refine AW_if_ne (tgt := 144) dX11_pairs_125 (by decide) (fun c_125 => ?_) (fun c_125 => ?_)
                  · skip
                    refine AW_iload dX11_pairs_144 rfl ?_
                    refine AW_iconst dX11_pairs_146 ?_
                    refine AW_icmp_ne (tgt := 158) dX11_pairs_147 (by decide) (fun c_147 => ?_) (fun c_147 => ?_)
                    · skip
                      refine AW_iload dX11_pairs_158 rfl ?_
                      refine AW_if_eq (tgt := 167) dX11_pairs_160 (by decide) (fun c_160 => ?_) (fun c_160 => ?_)
                      · skip
                        refine AW_iconst dX11_pairs_167 ?_
                        refine AW_iret dX11_pairs_168 rfl ?_
                        refine ⟨_, rfl, Or.inr ⟨by omega, ?_⟩, hC1, hF⟩
                        first
                        | (refine Or.inl ⟨rfl, ?_⟩; first | exact Or.inl ⟨by omega, t0, t1⟩ | exact Or.inr (Or.inl ⟨by omega, t0⟩) | exact Or.inr (Or.inr ⟨by omega, t1⟩))
                        | (refine Or.inr ⟨rfl, ?_⟩; rintro (⟨h, h0, h1⟩ | ⟨h, h0⟩ | ⟨h, h1⟩) <;> first | exact t0 h0 | exact t1 h1 | (exfalso; omega))
                        | (exfalso; omega)
                      · skip
                        refine AW_iconst dX11_pairs_163 ?_
                        refine AW_goto (tgt := 168) dX11_pairs_164 (by decide) ?_
                        refine AW_iret dX11_pairs_168 rfl ?_
                        refine ⟨_, rfl, Or.inr ⟨by omega, ?_⟩, hC1, hF⟩
                        first
                        | (refine Or.inl ⟨rfl, ?_⟩; first | exact Or.inl ⟨by omega, t0, t1⟩ | exact Or.inr (Or.inl ⟨by omega, t0⟩) | exact Or.inr (Or.inr ⟨by omega, t1⟩))
                        | (refine Or.inr ⟨rfl, ?_⟩; rintro (⟨h, h0, h1⟩ | ⟨h, h0⟩ | ⟨h, h1⟩) <;> first | exact t0 h0 | exact t1 h1 | (exfalso; omega))
                        | (exfalso; omega)
                    · skip
                      refine AW_iload dX11_pairs_150 rfl ?_
                      refine AW_if_eq (tgt := 167) dX11_pairs_152 (by decide) (fun c_152 => ?_) (fun c_152 => ?_)
                      · skip
                        refine AW_iconst dX11_pairs_167 ?_
                        refine AW_iret dX11_pairs_168 rfl ?_
                        refine ⟨_, rfl, Or.inr ⟨by omega, ?_⟩, hC1, hF⟩
                        first
                        | (refine Or.inl ⟨rfl, ?_⟩; first | exact Or.inl ⟨by omega, t0, t1⟩ | exact Or.inr (Or.inl ⟨by omega, t0⟩) | exact Or.inr (Or.inr ⟨by omega, t1⟩))
                        | (refine Or.inr ⟨rfl, ?_⟩; rintro (⟨h, h0, h1⟩ | ⟨h, h0⟩ | ⟨h, h1⟩) <;> first | exact t0 h0 | exact t1 h1 | (exfalso; omega))
                        | (exfalso; omega)
                      · skip
                        refine AW_goto (tgt := 163) dX11_pairs_155 (by decide) ?_
                        refine AW_iconst dX11_pairs_163 ?_
                        refine AW_goto (tgt := 168) dX11_pairs_164 (by decide) ?_
                        refine AW_iret dX11_pairs_168 rfl ?_
                        refine ⟨_, rfl, Or.inr ⟨by omega, ?_⟩, hC1, hF⟩
                        first
                        | (refine Or.inl ⟨rfl, ?_⟩; first | exact Or.inl ⟨by omega, t0, t1⟩ | exact Or.inr (Or.inl ⟨by omega, t0⟩) | exact Or.inr (Or.inr ⟨by omega, t1⟩))
                        | (refine Or.inr ⟨rfl, ?_⟩; rintro (⟨h, h0, h1⟩ | ⟨h, h0⟩ | ⟨h, h1⟩) <;> first | exact t0 h0 | exact t1 h1 | (exfalso; omega))
                        | (exfalso; omega)
                  · skip
                    refine AW_iload dX11_pairs_128 rfl ?_
                    refine AW_if_eq (tgt := 142) dX11_pairs_130 (by decide) (fun c_130 => ?_) (fun c_130 => ?_)
                    · skip
                      refine AW_iconst dX11_pairs_142 ?_
                      refine AW_iret dX11_pairs_143 rfl ?_
                      refine ⟨_, rfl, Or.inr ⟨by omega, ?_⟩, hC1, hF⟩
                      first
                      | (refine Or.inl ⟨rfl, ?_⟩; first | exact Or.inl ⟨by omega, t0, t1⟩ | exact Or.inr (Or.inl ⟨by omega, t0⟩) | exact Or.inr (Or.inr ⟨by omega, t1⟩))
                      | (refine Or.inr ⟨rfl, ?_⟩; rintro (⟨h, h0, h1⟩ | ⟨h, h0⟩ | ⟨h, h1⟩) <;> first | exact t0 h0 | exact t1 h1 | (exfalso; omega))
                      | (exfalso; omega)
                    · skip
                      refine AW_iload dX11_pairs_133 rfl ?_
                      refine AW_if_eq (tgt := 142) dX11_pairs_135 (by decide) (fun c_135 => ?_) (fun c_135 => ?_)
                      · skip
                        refine AW_iconst dX11_pairs_142 ?_
                        refine AW_iret dX11_pairs_143 rfl ?_
                        refine ⟨_, rfl, Or.inr ⟨by omega, ?_⟩, hC1, hF⟩
                        first
                        | (refine Or.inl ⟨rfl, ?_⟩; first | exact Or.inl ⟨by omega, t0, t1⟩ | exact Or.inr (Or.inl ⟨by omega, t0⟩) | exact Or.inr (Or.inr ⟨by omega, t1⟩))
                        | (refine Or.inr ⟨rfl, ?_⟩; rintro (⟨h, h0, h1⟩ | ⟨h, h0⟩ | ⟨h, h1⟩) <;> first | exact t0 h0 | exact t1 h1 | (exfalso; omega))
                        | (exfalso; omega)
                      · skip
                        refine AW_iconst dX11_pairs_138 ?_
                        refine AW_goto (tgt := 143) dX11_pairs_139 (by decide) ?_
                        refine AW_iret dX11_pairs_143 rfl ?_
                        refine ⟨_, rfl, Or.inr ⟨by omega, ?_⟩, hC1, hF⟩
                        first
                        | (refine Or.inl ⟨rfl, ?_⟩; first | exact Or.inl ⟨by omega, t0, t1⟩ | exact Or.inr (Or.inl ⟨by omega, t0⟩) | exact Or.inr (Or.inr ⟨by omega, t1⟩))
                        | (refine Or.inr ⟨rfl, ?_⟩; rintro (⟨h, h0, h1⟩ | ⟨h, h0⟩ | ⟨h, h1⟩) <;> first | exact t0 h0 | exact t1 h1 | (exfalso; omega))
                        | (exfalso; omega)
            · skip
              refine AW_iconst dX11_pairs_54 ?_
              refine AW_iret dX11_pairs_55 rfl ?_
              exact ⟨_, rfl, Or.inl ⟨by omega, rfl⟩, hC, Fo.rf⟩
    · skip
      replace c_21 := bz0 c_21
      rw [show Int.toNat 1 = 1 from rfl] at c_21
      refine AW_iconst dX11_pairs_24 ?_
      refine AW_iret dX11_pairs_25 rfl ?_
      exact ⟨_, rfl, Or.inl ⟨by omega, rfl⟩, hC, Fo.rf⟩
