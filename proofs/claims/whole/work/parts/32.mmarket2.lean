theorem ln_look {G : Gt} {d : Nat} {D : Mk} {σ σ1 : St} {side sort look often : Int} (hS : Sta σ1) (hR : RepM D σ1) (hW : WFm D) (hF1 : Fm [0] [] σ σ1) (hs : ((side = 0 ∨ side = 1) ∧ 0 ≤ sort ∧ sort < D 0 side.toNat) ∧ (0 ≤ look ∧ look ≤ 999) ∧ 0 ≤ often ∧ often ≤ 999) : ∀ (nn : Nat) (i : Int), ((6 : Int) - i).toNat < nn → 0 ≤ i → i ≤ D 0 side.toNat →  AW mX12_look G d 0 0 (mq G (fun ro ρ => (¬ (((side = 0 ∨ side = 1) ∧ 0 ≤ sort ∧ sort < D 0 side.toNat) ∧ 0 ≤ look ∧ look ≤ 999 ∧ 0 ≤ often ∧ often ≤ 999 ∧ oSum D side.toNat sort.toNat often 6 ≤ 1000) ∧ ro = some (vI 0) ∧ Fm [0] [] σ ρ) ∨ ((((side = 0 ∨ side = 1) ∧ 0 ≤ sort ∧ sort < D 0 side.toNat) ∧ 0 ≤ look ∧ look ≤ 999 ∧ 0 ≤ often ∧ often ≤ 999 ∧ oSum D side.toNat sort.toNat often 6 ≤ 1000) ∧ ro = some (vI 1) ∧ RepM (dLook D (6 * side.toNat + sort.toNat) look often) ρ ∧ ρ.2.1 94 18 = 0 ∧ Fm [0, 18] [96, 97] σ ρ))) 48 [some (vR 94), some (vI side), some (vI sort), some (vI look), some (vI often), some (vI (oSum D side.toNat sort.toNat often i.toNat)), some (vI i)] [] σ1 := by
  intro nn
  induction nn with
  | zero => intros; omega
  | succ nn ih =>
    intro i hn h0 hi
    have hb := hW.1 side.toNat (by omega)
    have hb2 := hR.1 side.toNat (by omega)
    have hos := oSum_in hW (s := side.toNat) (p := sort.toNat) (v := often) (by omega) (by omega) i.toNat (by omega)
    have e6 : (6 * side + i).toNat = 6 * side.toNat + i.toNat := by omega
    have e4 : (6 * side + sort).toNat = 6 * side.toNat + sort.toNat := by omega
    refine AW_iload dX12_look_48 rfl ?_
    refine AW_aload_n dX12_look_50 rfl ?_
    refine AW_getR (a := 95) dX12_look_51 gfX12_7 (hS.cel rfl) (hS.rf rfl) ?_
    refine AW_iload_n dX12_look_54 rfl ?_
    refine AW_iald dX12_look_55 (hS.cel rfl) (by omega) (by omega) ?_
    refine AW_icmp_ge (tgt := 88) dX12_look_56 (by decide) (fun c_56 => ?_) (fun c_56 => ?_)
    · skip
      have e9 := oSum_stop hW (s := side.toNat) (p := sort.toNat) (v := often) (by omega) (6 - i.toNat) i.toNat (by omega) (by omega)
      rw [show i.toNat + (6 - i.toNat) = 6 by omega] at e9
      refine AW_iload dX12_look_88 rfl ?_
      refine AW_sipush dX12_look_90 ?_
      refine AW_icmp_le (tgt := 98) dX12_look_93 (by decide) (fun c_93 => ?_) (fun c_93 => ?_)
      · skip
        refine AW_aload_n dX12_look_98 rfl ?_
        refine AW_getR (a := 96) dX12_look_99 gfX12_13 (hS.cel rfl) (hS.rf rfl) ?_
        refine AW_bipush dX12_look_102 ?_
        refine AW_iload_n dX12_look_104 rfl ?_
        refine AW_imulE dX12_look_105 (by omega) (by omega) ?_
        refine AW_iload_n dX12_look_106 rfl ?_
        refine AW_iaddE dX12_look_107 (by omega) (by omega) ?_
        refine AW_iload_n dX12_look_108 rfl ?_
        refine AW_iast dX12_look_109 (hS.cel rfl) (by omega) (by omega) ?_
        refine AW_aload_n dX12_look_110 rfl ?_
        refine AW_getR (a := 97) dX12_look_111 gfX12_16 (hS.cel rfl) (hS.rf rfl) ?_
        refine AW_bipush dX12_look_114 ?_
        refine AW_iload_n dX12_look_116 rfl ?_
        refine AW_imulE dX12_look_117 (by omega) (by omega) ?_
        refine AW_iload_n dX12_look_118 rfl ?_
        refine AW_iaddE dX12_look_119 (by omega) (by omega) ?_
        refine AW_iload dX12_look_120 rfl ?_
        refine AW_iast dX12_look_122 (hS.cel rfl) (by omega) (by omega) ?_
        refine AW_aload_n dX12_look_123 rfl ?_
        refine AW_iconst dX12_look_124 ?_
        refine AW_putZ dX12_look_125 (Or.inl pfX12_156) (hS.cel rfl) (by decide) ?_
        refine AW_iconst dX12_look_128 ?_
        refine AW_zret dX12_look_129 rfl (by decide) ?_
        rw [e4]
        refine Or.inr ⟨by omega, rfl, ⟨fun k hk => ?_, fun k hk => ?_, fun k hk => ?_, fun k hk => ?_, fun k hk => ?_⟩, up_at _ _ _ _, (((hF1.mo (by decide) (by decide)).ua (by decide) (by decide) _ _).ua (by decide) (by decide) _ _).uf (by decide) _⟩
        · rw [up_r _ _ _ _ (by decide), up_r _ _ _ _ (by decide), up_r _ _ _ _ (by decide)]; exact hR.1 k hk
        · rw [up_r _ _ _ _ (by decide), up_r _ _ _ _ (by decide), up_if, hR.2.1 k hk]
          show _ = (if k = 6 * side.toNat + sort.toNat then look else D 1 k)
          by_cases hc : k = 6 * side.toNat + sort.toNat
          · rw [if_pos hc, if_pos ⟨rfl, hc⟩]
          · rw [if_neg hc, if_neg (by omega)]
        · rw [up_r _ _ _ _ (by decide), up_if, up_r _ _ _ _ (by decide), hR.2.2.1 k hk]
          show _ = (if k = 6 * side.toNat + sort.toNat then often else D 2 k)
          by_cases hc : k = 6 * side.toNat + sort.toNat
          · rw [if_pos hc, if_pos ⟨rfl, hc⟩]
          · rw [if_neg hc, if_neg (by omega)]
        · rw [up_r _ _ _ _ (by decide), up_r _ _ _ _ (by decide), up_r _ _ _ _ (by decide)]; exact hR.2.2.2.1 k hk
        · rw [up_j _ _ _ (by omega), up_r _ _ _ _ (by decide), up_r _ _ _ _ (by decide)]; exact hR.2.2.2.2 k hk
      · skip
        refine AW_iconst dX12_look_96 ?_
        refine AW_zret dX12_look_97 rfl (by decide) ?_
        exact Or.inl ⟨by omega, rfl, hF1⟩
    · skip
      refine AW_iload dX12_look_59 rfl ?_
      refine AW_iload_n dX12_look_61 rfl ?_
      refine AW_icmp_eq (tgt := 82) dX12_look_62 (by decide) (fun c_62 => ?_) (fun c_62 => ?_)
      · skip
        have e5 : oSum D side.toNat sort.toNat often (i + 1).toNat = oSum D side.toNat sort.toNat often i.toNat := by
          rw [show (i + 1).toNat = i.toNat + 1 by omega, oSum_eq, if_pos (by omega)]; omega
        refine AW_iincE6 dX12_look_82 (by omega) (by omega) ?_
        refine AW_goto (tgt := 48) dX12_look_85 (by decide) ?_
        rw [← e5]
        exact ih (i + 1) (by omega) (by omega) (by omega)
      · skip
        have e7 := hR.2.2.1 (6 * side.toNat + i.toNat) (by omega)
        have e8 := hW.2.2.1 (6 * side.toNat + i.toNat) (by omega)
        have e5 : oSum D side.toNat sort.toNat often (i + 1).toNat = oSum D side.toNat sort.toNat often i.toNat + D 2 (6 * side.toNat + i.toNat) := by
          rw [show (i + 1).toNat = i.toNat + 1 by omega, oSum_eq, if_neg (by omega)]
        refine AW_iload dX12_look_65 rfl ?_
        refine AW_aload_n dX12_look_67 rfl ?_
        refine AW_getR (a := 97) dX12_look_68 gfX12_16 (hS.cel rfl) (hS.rf rfl) ?_
        refine AW_bipush dX12_look_71 ?_
        refine AW_iload_n dX12_look_73 rfl ?_
        refine AW_imulE dX12_look_74 (by omega) (by omega) ?_
        refine AW_iload dX12_look_75 rfl ?_
        refine AW_iaddE dX12_look_77 (by omega) (by omega) ?_
        refine AW_iald dX12_look_78 (hS.cel rfl) (by omega) (by omega) ?_
        rw [e6, e7]
        refine AW_iaddE dX12_look_79 (by omega) (by omega) ?_
        refine AW_istore5 dX12_look_80 ?_
        refine AW_iincE6 dX12_look_82 (by omega) (by omega) ?_
        refine AW_goto (tgt := 48) dX12_look_85 (by decide) ?_
        rw [← e5]
        exact ih (i + 1) (by omega) (by omega) (by omega)
theorem m_look {G : Gt} {d : Nat} {σ : St} (hd : 2 ≤ d) {D : Mk} (hS : Sta σ) (hR : RepM D σ) (hW : WFm D) (side sort look often : Int)  : AM mX12_look G d 0 0 [vR 94, vI side, vI sort, vI look, vI often] σ (fun ro ρ => (¬ (((side = 0 ∨ side = 1) ∧ 0 ≤ sort ∧ sort < D 0 side.toNat) ∧ 0 ≤ look ∧ look ≤ 999 ∧ 0 ≤ often ∧ often ≤ 999 ∧ oSum D side.toNat sort.toNat often 6 ≤ 1000) ∧ ro = some (vI 0) ∧ Fm [0] [] σ ρ) ∨ ((((side = 0 ∨ side = 1) ∧ 0 ≤ sort ∧ sort < D 0 side.toNat) ∧ 0 ≤ look ∧ look ≤ 999 ∧ 0 ≤ often ∧ often ≤ 999 ∧ oSum D side.toNat sort.toNat often 6 ≤ 1000) ∧ ro = some (vI 1) ∧ RepM (dLook D (6 * side.toNat + sort.toNat) look often) ρ ∧ ρ.2.1 94 18 = 0 ∧ Fm [0, 18] [96, 97] σ ρ)) := by
  refine AM.intro (by decide +kernel) (by simp [nLg]) (Nat.le_of_ble_eq_true rfl) (fun hO => ?_)
  have i_side : -2147483648 ≤ side ∧ side < 2147483648 := hO (vI side) (by simp)
  have i_sort : -2147483648 ≤ sort ∧ sort < 2147483648 := hO (vI sort) (by simp)
  have i_look : -2147483648 ≤ look ∧ look < 2147483648 := hO (vI look) (by simp)
  have i_often : -2147483648 ≤ often ∧ often < 2147483648 := hO (vI often) (by simp)
  show AW _ _ _ _ _ _ 0 [some (vR 94), some (vI side), some (vI sort), some (vI look), some (vI often), none, none] [] σ
  refine AW_aload_n dX12_look_0 rfl ?_
  refine AW_iconst dX12_look_1 ?_
  refine AW_putI dX12_look_2 (Or.inl pfX12_142) (hS.cel rfl) ?_
  have hF1 : Fm [0] [] σ (upI σ 94 0 0) := Fm.rf.uf (by decide) _
  have hS1 : Sta (upI σ 94 0 0) := hS
  have hR1 : RepM D (upI σ 94 0 0) := hR.fm hF1
  generalize upI σ 94 0 0 = σ1 at hF1 hS1 hR1 ⊢
  refine AW_aload_n dX12_look_5 rfl ?_
  refine AW_iload_n dX12_look_6 rfl ?_
  refine AW_iload_n dX12_look_7 rfl ?_
  refine AW_callV2 (d' := d - 1) dX12_look_8 (Or.inl lkX12_160) mfX12_isSort (hS1.cel rfl) ⟨_, rfl, rfl⟩ (n_isSort (by omega) hS1 hR1 hW side sort) (by omega) (Nat.le_of_ble_eq_true rfl) ?_
  rintro _ _ ⟨e_, rfl⟩ -
  rw [e_]
  clear e_
  refine AW_if_eq (tgt := 39) dX12_look_11 (by decide) (fun c_11 => ?_) (fun c_11 => ?_)
  · skip
    replace c_11 := bz0 c_11
    refine AW_iconst dX12_look_39 ?_
    refine AW_zret dX12_look_40 rfl (by decide) ?_
    exact Or.inl ⟨by omega, rfl, hF1⟩
  · skip
    replace c_11 := bz1 c_11
    refine AW_aload_n dX12_look_14 rfl ?_
    refine AW_iload_n dX12_look_15 rfl ?_
    refine AW_iconst dX12_look_16 ?_
    refine AW_sipush dX12_look_17 ?_
    refine AW_callV3 (d' := d - 1) dX12_look_20 (Or.inl lkX12_149) mfX12_isIn (hS1.cel rfl) ⟨_, rfl, rfl⟩ (n_isIn look 0 999) (by omega) (Nat.le_of_ble_eq_true rfl) ?_
    rintro _ _ ⟨e_, rfl⟩ -
    rw [e_]
    clear e_
    refine AW_if_eq (tgt := 39) dX12_look_23 (by decide) (fun c_23 => ?_) (fun c_23 => ?_)
    · skip
      replace c_23 := bz0 c_23
      refine AW_iconst dX12_look_39 ?_
      refine AW_zret dX12_look_40 rfl (by decide) ?_
      exact Or.inl ⟨by omega, rfl, hF1⟩
    · skip
      replace c_23 := bz1 c_23
      refine AW_aload_n dX12_look_26 rfl ?_
      refine AW_iload dX12_look_27 rfl ?_
      refine AW_iconst dX12_look_29 ?_
      refine AW_sipush dX12_look_30 ?_
      refine AW_callV3 (d' := d - 1) dX12_look_33 (Or.inl lkX12_149) mfX12_isIn (hS1.cel rfl) ⟨_, rfl, rfl⟩ (n_isIn often 0 999) (by omega) (Nat.le_of_ble_eq_true rfl) ?_
      rintro _ _ ⟨e_, rfl⟩ -
      rw [e_]
      clear e_
      refine AW_if_ne (tgt := 41) dX12_look_36 (by decide) (fun c_36 => ?_) (fun c_36 => ?_)
      · skip
        replace c_36 := bz1 c_36
        refine AW_iload dX12_look_41 rfl ?_
        refine AW_istore5 dX12_look_43 ?_
        refine AW_iconst dX12_look_45 ?_
        refine AW_istore6 dX12_look_46 ?_
        have hb := hW.1 side.toNat (by omega)
        exact ln_look hS1 hR1 hW hF1 (by omega) 7 0 (by omega) (by omega) (by omega)
      · skip
        replace c_36 := bz0 c_36
        refine AW_iconst dX12_look_39 ?_
        refine AW_zret dX12_look_40 rfl (by decide) ?_
        exact Or.inl ⟨by omega, rfl, hF1⟩
theorem m_worth {G : Gt} {d : Nat} {σ : St} (hd : 2 ≤ d) {D : Mk} (hS : Sta σ) (hR : RepM D σ) (hW : WFm D) (side i j v : Int)  : AM mX12_worth G d 0 0 [vR 94, vI side, vI i, vI j, vI v] σ (fun ro ρ => (¬ ((((side = 0 ∨ side = 1) ∧ 0 ≤ i ∧ i < D 0 side.toNat) ∧ 0 ≤ j ∧ j < D 0 (1 - side).toNat) ∧ -1 ≤ v ∧ v ≤ 999) ∧ ro = some (vI 0) ∧ Fm [0] [] σ ρ) ∨ (((((side = 0 ∨ side = 1) ∧ 0 ≤ i ∧ i < D 0 side.toNat) ∧ 0 ≤ j ∧ j < D 0 (1 - side).toNat) ∧ -1 ≤ v ∧ v ≤ 999) ∧ ro = some (vI 1) ∧ RepM (dPut D 3 (36 * side.toNat + 6 * i.toNat + j.toNat) v) ρ ∧ ρ.2.1 94 18 = 0 ∧ Fm [0, 18] [98] σ ρ)) := by
  refine AM.intro (by decide +kernel) (by simp [nLg]) (Nat.le_of_ble_eq_true rfl) (fun hO => ?_)
  have i_side : -2147483648 ≤ side ∧ side < 2147483648 := hO (vI side) (by simp)
  have i_i : -2147483648 ≤ i ∧ i < 2147483648 := hO (vI i) (by simp)
  have i_j : -2147483648 ≤ j ∧ j < 2147483648 := hO (vI j) (by simp)
  have i_v : -2147483648 ≤ v ∧ v < 2147483648 := hO (vI v) (by simp)
  show AW _ _ _ _ _ _ 0 [some (vR 94), some (vI side), some (vI i), some (vI j), some (vI v)] [] σ
  refine AW_aload_n dX12_worth_0 rfl ?_
  refine AW_iconst dX12_worth_1 ?_
  refine AW_putI dX12_worth_2 (Or.inl pfX12_142) (hS.cel rfl) ?_
  have hF1 : Fm [0] [] σ (upI σ 94 0 0) := Fm.rf.uf (by decide) _
  have hS1 : Sta (upI σ 94 0 0) := hS
  have hR1 : RepM D (upI σ 94 0 0) := hR.fm hF1
  generalize upI σ 94 0 0 = σ1 at hF1 hS1 hR1 ⊢
  refine AW_aload_n dX12_worth_5 rfl ?_
  refine AW_iload_n dX12_worth_6 rfl ?_
  refine AW_iload_n dX12_worth_7 rfl ?_
  refine AW_callV2 (d' := d - 1) dX12_worth_8 (Or.inl lkX12_160) mfX12_isSort (hS1.cel rfl) ⟨_, rfl, rfl⟩ (n_isSort (by omega) hS1 hR1 hW side i) (by omega) (Nat.le_of_ble_eq_true rfl) ?_
  rintro _ _ ⟨e_, rfl⟩ -
  rw [e_]
  clear e_
  refine AW_if_eq (tgt := 38) dX12_worth_11 (by decide) (fun c_11 => ?_) (fun c_11 => ?_)
  · skip
    replace c_11 := bz0 c_11
    refine AW_iconst dX12_worth_38 ?_
    refine AW_zret dX12_worth_39 rfl (by decide) ?_
    exact Or.inl ⟨by omega, rfl, hF1⟩
  · skip
    replace c_11 := bz1 c_11
    refine AW_aload_n dX12_worth_14 rfl ?_
    refine AW_iconst dX12_worth_15 ?_
    refine AW_iload_n dX12_worth_16 rfl ?_
    refine AW_isubE dX12_worth_17 (by omega) (by omega) ?_
    refine AW_iload_n dX12_worth_18 rfl ?_
    refine AW_callV2 (d' := d - 1) dX12_worth_19 (Or.inl lkX12_160) mfX12_isSort (hS1.cel rfl) ⟨_, rfl, rfl⟩ (n_isSort (by omega) hS1 hR1 hW (1 - side) j) (by omega) (Nat.le_of_ble_eq_true rfl) ?_
    rintro _ _ ⟨e_, rfl⟩ -
    rw [e_]
    clear e_
    refine AW_if_eq (tgt := 38) dX12_worth_22 (by decide) (fun c_22 => ?_) (fun c_22 => ?_)
    · skip
      replace c_22 := bz0 c_22
      refine AW_iconst dX12_worth_38 ?_
      refine AW_zret dX12_worth_39 rfl (by decide) ?_
      exact Or.inl ⟨by omega, rfl, hF1⟩
    · skip
      replace c_22 := bz1 c_22
      refine AW_aload_n dX12_worth_25 rfl ?_
      refine AW_iload dX12_worth_26 rfl ?_
      refine AW_iconst dX12_worth_28 ?_
      refine AW_sipush dX12_worth_29 ?_
      refine AW_callV3 (d' := d - 1) dX12_worth_32 (Or.inl lkX12_149) mfX12_isIn (hS1.cel rfl) ⟨_, rfl, rfl⟩ (n_isIn v (-1) 999) (by omega) (Nat.le_of_ble_eq_true rfl) ?_
      rintro _ _ ⟨e_, rfl⟩ -
      rw [e_]
      clear e_
      refine AW_if_ne (tgt := 40) dX12_worth_35 (by decide) (fun c_35 => ?_) (fun c_35 => ?_)
      · skip
        replace c_35 := bz1 c_35
        have hb := hW.1 side.toNat (by omega)
        have hb2 := hW.1 (1 - side).toNat (by omega)
        refine AW_aload_n dX12_worth_40 rfl ?_
        refine AW_getR (a := 98) dX12_worth_41 gfX12_19 (hS1.cel rfl) (hS1.rf rfl) ?_
        refine AW_bipush dX12_worth_44 ?_
        refine AW_iload_n dX12_worth_46 rfl ?_
        refine AW_imulE dX12_worth_47 (by omega) (by omega) ?_
        refine AW_bipush dX12_worth_48 ?_
        refine AW_iload_n dX12_worth_50 rfl ?_
        refine AW_imulE dX12_worth_51 (by omega) (by omega) ?_
        refine AW_iaddE dX12_worth_52 (by omega) (by omega) ?_
        refine AW_iload_n dX12_worth_53 rfl ?_
        refine AW_iaddE dX12_worth_54 (by omega) (by omega) ?_
        refine AW_iload dX12_worth_55 rfl ?_
        refine AW_iast dX12_worth_57 (hS1.cel rfl) (by omega) (by omega) ?_
        refine AW_aload_n dX12_worth_58 rfl ?_
        refine AW_iconst dX12_worth_59 ?_
        refine AW_putZ dX12_worth_60 (Or.inl pfX12_156) (hS1.cel rfl) (by decide) ?_
        refine AW_iconst dX12_worth_63 ?_
        refine AW_zret dX12_worth_64 rfl (by decide) ?_
        refine Or.inr ⟨by omega, rfl, ⟨fun k hk => ?_, fun k hk => ?_, fun k hk => ?_, fun k hk => ?_, fun k hk => ?_⟩, up_at _ _ _ _, ((hF1.mo (by decide) (by decide)).ua (by decide) (by decide) _ _).uf (by decide) _⟩
        · rw [up_r _ _ _ _ (by decide), up_r _ _ _ _ (by decide), hR1.1 k hk]
          show _ = (if (0 : Nat) = 3 ∧ k = 36 * side.toNat + 6 * i.toNat + j.toNat then _ else _)
          rw [if_neg (by omega)]
        · rw [up_r _ _ _ _ (by decide), up_r _ _ _ _ (by decide), hR1.2.1 k hk]
          show _ = (if (1 : Nat) = 3 ∧ k = 36 * side.toNat + 6 * i.toNat + j.toNat then _ else _)
          rw [if_neg (by omega)]
        · rw [up_r _ _ _ _ (by decide), up_r _ _ _ _ (by decide), hR1.2.2.1 k hk]
          show _ = (if (2 : Nat) = 3 ∧ k = 36 * side.toNat + 6 * i.toNat + j.toNat then _ else _)
          rw [if_neg (by omega)]
        · rw [up_r _ _ _ _ (by decide), up_if, hR1.2.2.2.1 k hk]
          show _ = (if (3 : Nat) = 3 ∧ k = 36 * side.toNat + 6 * i.toNat + j.toNat then v else D 3 k)
          by_cases hc : k = 36 * side.toNat + 6 * i.toNat + j.toNat
          · rw [if_pos ⟨rfl, by omega⟩, if_pos ⟨rfl, hc⟩]
          · rw [if_neg (by omega), if_neg (by omega)]
        · rw [up_j _ _ _ (by omega), up_r _ _ _ _ (by decide), hR1.2.2.2.2 k hk]
          show _ = (if (4 : Nat) = 3 ∧ k = 36 * side.toNat + 6 * i.toNat + j.toNat then _ else _)
          rw [if_neg (by omega)]
      · skip
        replace c_35 := bz0 c_35
        refine AW_iconst dX12_worth_38 ?_
        refine AW_zret dX12_worth_39 rfl (by decide) ?_
        exact Or.inl ⟨by omega, rfl, hF1⟩
theorem ln_set {G : Gt} {d : Nat} {D : Mk} {σ σ1 : St} {what v low high : Int} (hd : 1 ≤ d) (hS1 : Sta σ1) (hR1 : RepM D σ1) (hF1 : Fm [0] [] σ σ1) (hlh : 0 ≤ what ∧ what < 7 → low = lowS what.toNat ∧ high = higS what.toNat) : AW mX12_set G d 0 0 (mq G (fun ro ρ => (¬ (0 ≤ what ∧ what < 7 ∧ lowS what.toNat ≤ v ∧ v ≤ higS what.toNat) ∧ ro = some (vI 0) ∧ Fm [0] [] σ ρ) ∨ ((0 ≤ what ∧ what < 7 ∧ lowS what.toNat ≤ v ∧ v ≤ higS what.toNat) ∧ ro = some (vI 1) ∧ RepM (dPut D 4 what.toNat v) ρ ∧ ρ.2.1 94 18 = 0 ∧ Fm [0, 5, 6, 7, 8, 9, 10, 11, 18] [] σ ρ))) 66 [some (vR 94), some (vI what), some (vI v), some (vI low), some (vI high)] [] σ1 := by
  refine AW_aload_n dX12_set_66 rfl ?_
  refine AW_iload_n dX12_set_67 rfl ?_
  refine AW_iconst dX12_set_68 ?_
  refine AW_bipush dX12_set_69 ?_
  refine AW_callV3 (d' := d - 1) dX12_set_71 (Or.inl lkX12_149) mfX12_isIn (hS1.cel rfl) ⟨_, rfl, rfl⟩ (n_isIn what 0 6) (by omega) (Nat.le_of_ble_eq_true rfl) ?_
  rintro _ _ ⟨e_, rfl⟩ -
  rw [e_]
  clear e_
  refine AW_if_eq (tgt := 88) dX12_set_74 (by decide) (fun c_74 => ?_) (fun c_74 => ?_)
  · skip
    replace c_74 := bz0 c_74
    refine AW_iconst dX12_set_88 ?_
    refine AW_zret dX12_set_89 rfl (by decide) ?_
    refine Or.inl ⟨fun hq => ?_, rfl, hF1⟩
    have hx := hlh ⟨hq.1, by omega⟩
    omega
  · skip
    replace c_74 := bz1 c_74
    refine AW_aload_n dX12_set_77 rfl ?_
    refine AW_iload_n dX12_set_78 rfl ?_
    refine AW_iload_n dX12_set_79 rfl ?_
    refine AW_iload dX12_set_80 rfl ?_
    refine AW_callV3 (d' := d - 1) dX12_set_82 (Or.inl lkX12_149) mfX12_isIn (hS1.cel rfl) ⟨_, rfl, rfl⟩ (n_isIn v low high) (by omega) (Nat.le_of_ble_eq_true rfl) ?_
    rintro _ _ ⟨e_, rfl⟩ -
    rw [e_]
    clear e_
    refine AW_if_ne (tgt := 90) dX12_set_85 (by decide) (fun c_85 => ?_) (fun c_85 => ?_)
    · skip
      replace c_85 := bz1 c_85
      refine AW_iload_n dX12_set_90 rfl ?_
      refine AW_if_ne (tgt := 102) dX12_set_91 (by decide) (fun c_91 => ?_) (fun c_91 => ?_)
      · skip
        refine AW_iload_n dX12_set_102 rfl ?_
        refine AW_iconst dX12_set_103 ?_
        refine AW_icmp_ne (tgt := 115) dX12_set_104 (by decide) (fun c_104 => ?_) (fun c_104 => ?_)
        · skip
          refine AW_iload_n dX12_set_115 rfl ?_
          refine AW_iconst dX12_set_116 ?_
          refine AW_icmp_ne (tgt := 128) dX12_set_117 (by decide) (fun c_117 => ?_) (fun c_117 => ?_)
          · skip
            refine AW_iload_n dX12_set_128 rfl ?_
            refine AW_iconst dX12_set_129 ?_
            refine AW_icmp_ne (tgt := 141) dX12_set_130 (by decide) (fun c_130 => ?_) (fun c_130 => ?_)
            · skip
              refine AW_iload_n dX12_set_141 rfl ?_
              refine AW_iconst dX12_set_142 ?_
              refine AW_icmp_ne (tgt := 154) dX12_set_143 (by decide) (fun c_143 => ?_) (fun c_143 => ?_)
              · skip
                refine AW_iload_n dX12_set_154 rfl ?_
                refine AW_iconst dX12_set_155 ?_
                refine AW_icmp_ne (tgt := 167) dX12_set_156 (by decide) (fun c_156 => ?_) (fun c_156 => ?_)
                · skip
                  refine AW_aload_n dX12_set_167 rfl ?_
                  refine AW_iload_n dX12_set_168 rfl ?_
                  refine AW_putI dX12_set_169 (Or.inl pfX12_170) (hS1.cel rfl) ?_
                  refine AW_aload_n dX12_set_172 rfl ?_
                  refine AW_iconst dX12_set_173 ?_
                  refine AW_putZ dX12_set_174 (Or.inl pfX12_156) (hS1.cel rfl) (by decide) ?_
                  refine AW_iconst dX12_set_177 ?_
                  refine AW_zret dX12_set_178 rfl (by decide) ?_
                  have ew : what = 6 := by omega
                  subst ew
                  have hx := hlh ⟨by omega, by omega⟩
                  refine Or.inr ⟨by rw [← hx.1, ← hx.2]; omega, rfl, ⟨fun k hk => ?_, fun k hk => ?_, fun k hk => ?_, fun k hk => ?_, fun k hk => ?_⟩, up_at _ _ _ _, ((hF1.mo (by decide) (by decide)).uf (by decide) _).uf (by decide) _⟩
                  · rw [up_r _ _ _ _ (by decide), up_r _ _ _ _ (by decide), hR1.1 k hk]
                    show _ = (if (0 : Nat) = 4 ∧ k = Int.toNat 6 then _ else _)
                    rw [if_neg (by omega)]
                  · rw [up_r _ _ _ _ (by decide), up_r _ _ _ _ (by decide), hR1.2.1 k hk]
                    show _ = (if (1 : Nat) = 4 ∧ k = Int.toNat 6 then _ else _)
                    rw [if_neg (by omega)]
                  · rw [up_r _ _ _ _ (by decide), up_r _ _ _ _ (by decide), hR1.2.2.1 k hk]
                    show _ = (if (2 : Nat) = 4 ∧ k = Int.toNat 6 then _ else _)
                    rw [if_neg (by omega)]
                  · rw [up_r _ _ _ _ (by decide), up_r _ _ _ _ (by decide), hR1.2.2.2.1 k hk]
                    show _ = (if (3 : Nat) = 4 ∧ k = Int.toNat 6 then _ else _)
                    rw [if_neg (by omega)]
                  · rw [up_j _ _ _ (by omega), up_if, hR1.2.2.2.2 k hk]
                    show _ = (if (4 : Nat) = 4 ∧ k = 6 then v else D 4 k)
                    by_cases hc : k = 6
                    · rw [if_pos ⟨rfl, by omega⟩, if_pos ⟨rfl, hc⟩]
                    · rw [if_neg (by omega), if_neg (by omega)]
                · skip
                  refine AW_aload_n dX12_set_159 rfl ?_
                  refine AW_iload_n dX12_set_160 rfl ?_
                  refine AW_putI dX12_set_161 (Or.inl pfX12_167) (hS1.cel rfl) ?_
                  refine AW_goto (tgt := 172) dX12_set_164 (by decide) ?_
                  refine AW_aload_n dX12_set_172 rfl ?_
                  refine AW_iconst dX12_set_173 ?_
                  refine AW_putZ dX12_set_174 (Or.inl pfX12_156) (hS1.cel rfl) (by decide) ?_
                  refine AW_iconst dX12_set_177 ?_
                  refine AW_zret dX12_set_178 rfl (by decide) ?_
                  have ew : what = 5 := by omega
                  subst ew
                  have hx := hlh ⟨by omega, by omega⟩
                  refine Or.inr ⟨by rw [← hx.1, ← hx.2]; omega, rfl, ⟨fun k hk => ?_, fun k hk => ?_, fun k hk => ?_, fun k hk => ?_, fun k hk => ?_⟩, up_at _ _ _ _, ((hF1.mo (by decide) (by decide)).uf (by decide) _).uf (by decide) _⟩
                  · rw [up_r _ _ _ _ (by decide), up_r _ _ _ _ (by decide), hR1.1 k hk]
                    show _ = (if (0 : Nat) = 4 ∧ k = Int.toNat 5 then _ else _)
                    rw [if_neg (by omega)]
                  · rw [up_r _ _ _ _ (by decide), up_r _ _ _ _ (by decide), hR1.2.1 k hk]
                    show _ = (if (1 : Nat) = 4 ∧ k = Int.toNat 5 then _ else _)
                    rw [if_neg (by omega)]
                  · rw [up_r _ _ _ _ (by decide), up_r _ _ _ _ (by decide), hR1.2.2.1 k hk]
                    show _ = (if (2 : Nat) = 4 ∧ k = Int.toNat 5 then _ else _)
                    rw [if_neg (by omega)]
                  · rw [up_r _ _ _ _ (by decide), up_r _ _ _ _ (by decide), hR1.2.2.2.1 k hk]
                    show _ = (if (3 : Nat) = 4 ∧ k = Int.toNat 5 then _ else _)
                    rw [if_neg (by omega)]
                  · rw [up_j _ _ _ (by omega), up_if, hR1.2.2.2.2 k hk]
                    show _ = (if (4 : Nat) = 4 ∧ k = 5 then v else D 4 k)
                    by_cases hc : k = 5
                    · rw [if_pos ⟨rfl, by omega⟩, if_pos ⟨rfl, hc⟩]
                    · rw [if_neg (by omega), if_neg (by omega)]
              · skip
                refine AW_aload_n dX12_set_146 rfl ?_
                refine AW_iload_n dX12_set_147 rfl ?_
                refine AW_putI dX12_set_148 (Or.inl pfX12_32) (hS1.cel rfl) ?_
                refine AW_goto (tgt := 172) dX12_set_151 (by decide) ?_
                refine AW_aload_n dX12_set_172 rfl ?_
                refine AW_iconst dX12_set_173 ?_
                refine AW_putZ dX12_set_174 (Or.inl pfX12_156) (hS1.cel rfl) (by decide) ?_
                refine AW_iconst dX12_set_177 ?_
                refine AW_zret dX12_set_178 rfl (by decide) ?_
                have ew : what = 4 := by omega
                subst ew
                have hx := hlh ⟨by omega, by omega⟩
                refine Or.inr ⟨by rw [← hx.1, ← hx.2]; omega, rfl, ⟨fun k hk => ?_, fun k hk => ?_, fun k hk => ?_, fun k hk => ?_, fun k hk => ?_⟩, up_at _ _ _ _, ((hF1.mo (by decide) (by decide)).uf (by decide) _).uf (by decide) _⟩
                · rw [up_r _ _ _ _ (by decide), up_r _ _ _ _ (by decide), hR1.1 k hk]
                  show _ = (if (0 : Nat) = 4 ∧ k = Int.toNat 4 then _ else _)
                  rw [if_neg (by omega)]
                · rw [up_r _ _ _ _ (by decide), up_r _ _ _ _ (by decide), hR1.2.1 k hk]
                  show _ = (if (1 : Nat) = 4 ∧ k = Int.toNat 4 then _ else _)
                  rw [if_neg (by omega)]
                · rw [up_r _ _ _ _ (by decide), up_r _ _ _ _ (by decide), hR1.2.2.1 k hk]
                  show _ = (if (2 : Nat) = 4 ∧ k = Int.toNat 4 then _ else _)
                  rw [if_neg (by omega)]
                · rw [up_r _ _ _ _ (by decide), up_r _ _ _ _ (by decide), hR1.2.2.2.1 k hk]
                  show _ = (if (3 : Nat) = 4 ∧ k = Int.toNat 4 then _ else _)
                  rw [if_neg (by omega)]
                · rw [up_j _ _ _ (by omega), up_if, hR1.2.2.2.2 k hk]
                  show _ = (if (4 : Nat) = 4 ∧ k = 4 then v else D 4 k)
                  by_cases hc : k = 4
                  · rw [if_pos ⟨rfl, by omega⟩, if_pos ⟨rfl, hc⟩]
                  · rw [if_neg (by omega), if_neg (by omega)]
            · skip
              refine AW_aload_n dX12_set_133 rfl ?_
              refine AW_iload_n dX12_set_134 rfl ?_
              refine AW_putI dX12_set_135 (Or.inl pfX12_164) (hS1.cel rfl) ?_
              refine AW_goto (tgt := 172) dX12_set_138 (by decide) ?_
              refine AW_aload_n dX12_set_172 rfl ?_
              refine AW_iconst dX12_set_173 ?_
              refine AW_putZ dX12_set_174 (Or.inl pfX12_156) (hS1.cel rfl) (by decide) ?_
              refine AW_iconst dX12_set_177 ?_
              refine AW_zret dX12_set_178 rfl (by decide) ?_
              have ew : what = 3 := by omega
              subst ew
              have hx := hlh ⟨by omega, by omega⟩
              refine Or.inr ⟨by rw [← hx.1, ← hx.2]; omega, rfl, ⟨fun k hk => ?_, fun k hk => ?_, fun k hk => ?_, fun k hk => ?_, fun k hk => ?_⟩, up_at _ _ _ _, ((hF1.mo (by decide) (by decide)).uf (by decide) _).uf (by decide) _⟩
              · rw [up_r _ _ _ _ (by decide), up_r _ _ _ _ (by decide), hR1.1 k hk]
                show _ = (if (0 : Nat) = 4 ∧ k = Int.toNat 3 then _ else _)
                rw [if_neg (by omega)]
              · rw [up_r _ _ _ _ (by decide), up_r _ _ _ _ (by decide), hR1.2.1 k hk]
                show _ = (if (1 : Nat) = 4 ∧ k = Int.toNat 3 then _ else _)
                rw [if_neg (by omega)]
              · rw [up_r _ _ _ _ (by decide), up_r _ _ _ _ (by decide), hR1.2.2.1 k hk]
                show _ = (if (2 : Nat) = 4 ∧ k = Int.toNat 3 then _ else _)
                rw [if_neg (by omega)]
              · rw [up_r _ _ _ _ (by decide), up_r _ _ _ _ (by decide), hR1.2.2.2.1 k hk]
                show _ = (if (3 : Nat) = 4 ∧ k = Int.toNat 3 then _ else _)
                rw [if_neg (by omega)]
              · rw [up_j _ _ _ (by omega), up_if, hR1.2.2.2.2 k hk]
                show _ = (if (4 : Nat) = 4 ∧ k = 3 then v else D 4 k)
                by_cases hc : k = 3
                · rw [if_pos ⟨rfl, by omega⟩, if_pos ⟨rfl, hc⟩]
                · rw [if_neg (by omega), if_neg (by omega)]
          · skip
            refine AW_aload_n dX12_set_120 rfl ?_
            refine AW_iload_n dX12_set_121 rfl ?_
            refine AW_putI dX12_set_122 (Or.inl pfX12_29) (hS1.cel rfl) ?_
            refine AW_goto (tgt := 172) dX12_set_125 (by decide) ?_
            refine AW_aload_n dX12_set_172 rfl ?_
            refine AW_iconst dX12_set_173 ?_
            refine AW_putZ dX12_set_174 (Or.inl pfX12_156) (hS1.cel rfl) (by decide) ?_
            refine AW_iconst dX12_set_177 ?_
            refine AW_zret dX12_set_178 rfl (by decide) ?_
            have ew : what = 2 := by omega
            subst ew
            have hx := hlh ⟨by omega, by omega⟩
            refine Or.inr ⟨by rw [← hx.1, ← hx.2]; omega, rfl, ⟨fun k hk => ?_, fun k hk => ?_, fun k hk => ?_, fun k hk => ?_, fun k hk => ?_⟩, up_at _ _ _ _, ((hF1.mo (by decide) (by decide)).uf (by decide) _).uf (by decide) _⟩
            · rw [up_r _ _ _ _ (by decide), up_r _ _ _ _ (by decide), hR1.1 k hk]
              show _ = (if (0 : Nat) = 4 ∧ k = Int.toNat 2 then _ else _)
              rw [if_neg (by omega)]
            · rw [up_r _ _ _ _ (by decide), up_r _ _ _ _ (by decide), hR1.2.1 k hk]
              show _ = (if (1 : Nat) = 4 ∧ k = Int.toNat 2 then _ else _)
              rw [if_neg (by omega)]
            · rw [up_r _ _ _ _ (by decide), up_r _ _ _ _ (by decide), hR1.2.2.1 k hk]
              show _ = (if (2 : Nat) = 4 ∧ k = Int.toNat 2 then _ else _)
              rw [if_neg (by omega)]
            · rw [up_r _ _ _ _ (by decide), up_r _ _ _ _ (by decide), hR1.2.2.2.1 k hk]
              show _ = (if (3 : Nat) = 4 ∧ k = Int.toNat 2 then _ else _)
              rw [if_neg (by omega)]
            · rw [up_j _ _ _ (by omega), up_if, hR1.2.2.2.2 k hk]
              show _ = (if (4 : Nat) = 4 ∧ k = 2 then v else D 4 k)
              by_cases hc : k = 2
              · rw [if_pos ⟨rfl, by omega⟩, if_pos ⟨rfl, hc⟩]
              · rw [if_neg (by omega), if_neg (by omega)]
        · skip
          refine AW_aload_n dX12_set_107 rfl ?_
          refine AW_iload_n dX12_set_108 rfl ?_
          refine AW_putI dX12_set_109 (Or.inl pfX12_26) (hS1.cel rfl) ?_
          refine AW_goto (tgt := 172) dX12_set_112 (by decide) ?_
          refine AW_aload_n dX12_set_172 rfl ?_
          refine AW_iconst dX12_set_173 ?_
          refine AW_putZ dX12_set_174 (Or.inl pfX12_156) (hS1.cel rfl) (by decide) ?_
          refine AW_iconst dX12_set_177 ?_
          refine AW_zret dX12_set_178 rfl (by decide) ?_
          have ew : what = 1 := by omega
          subst ew
          have hx := hlh ⟨by omega, by omega⟩
          refine Or.inr ⟨by rw [← hx.1, ← hx.2]; omega, rfl, ⟨fun k hk => ?_, fun k hk => ?_, fun k hk => ?_, fun k hk => ?_, fun k hk => ?_⟩, up_at _ _ _ _, ((hF1.mo (by decide) (by decide)).uf (by decide) _).uf (by decide) _⟩
          · rw [up_r _ _ _ _ (by decide), up_r _ _ _ _ (by decide), hR1.1 k hk]
            show _ = (if (0 : Nat) = 4 ∧ k = Int.toNat 1 then _ else _)
            rw [if_neg (by omega)]
          · rw [up_r _ _ _ _ (by decide), up_r _ _ _ _ (by decide), hR1.2.1 k hk]
            show _ = (if (1 : Nat) = 4 ∧ k = Int.toNat 1 then _ else _)
            rw [if_neg (by omega)]
          · rw [up_r _ _ _ _ (by decide), up_r _ _ _ _ (by decide), hR1.2.2.1 k hk]
            show _ = (if (2 : Nat) = 4 ∧ k = Int.toNat 1 then _ else _)
            rw [if_neg (by omega)]
          · rw [up_r _ _ _ _ (by decide), up_r _ _ _ _ (by decide), hR1.2.2.2.1 k hk]
            show _ = (if (3 : Nat) = 4 ∧ k = Int.toNat 1 then _ else _)
            rw [if_neg (by omega)]
          · rw [up_j _ _ _ (by omega), up_if, hR1.2.2.2.2 k hk]
            show _ = (if (4 : Nat) = 4 ∧ k = 1 then v else D 4 k)
            by_cases hc : k = 1
            · rw [if_pos ⟨rfl, by omega⟩, if_pos ⟨rfl, hc⟩]
            · rw [if_neg (by omega), if_neg (by omega)]
      · skip
        refine AW_aload_n dX12_set_94 rfl ?_
        refine AW_iload_n dX12_set_95 rfl ?_
        refine AW_putI dX12_set_96 (Or.inl pfX12_22) (hS1.cel rfl) ?_
        refine AW_goto (tgt := 172) dX12_set_99 (by decide) ?_
        refine AW_aload_n dX12_set_172 rfl ?_
        refine AW_iconst dX12_set_173 ?_
        refine AW_putZ dX12_set_174 (Or.inl pfX12_156) (hS1.cel rfl) (by decide) ?_
        refine AW_iconst dX12_set_177 ?_
        refine AW_zret dX12_set_178 rfl (by decide) ?_
        have ew : what = 0 := by omega
        subst ew
        have hx := hlh ⟨by omega, by omega⟩
        refine Or.inr ⟨by rw [← hx.1, ← hx.2]; omega, rfl, ⟨fun k hk => ?_, fun k hk => ?_, fun k hk => ?_, fun k hk => ?_, fun k hk => ?_⟩, up_at _ _ _ _, ((hF1.mo (by decide) (by decide)).uf (by decide) _).uf (by decide) _⟩
        · rw [up_r _ _ _ _ (by decide), up_r _ _ _ _ (by decide), hR1.1 k hk]
          show _ = (if (0 : Nat) = 4 ∧ k = Int.toNat 0 then _ else _)
          rw [if_neg (by omega)]
        · rw [up_r _ _ _ _ (by decide), up_r _ _ _ _ (by decide), hR1.2.1 k hk]
          show _ = (if (1 : Nat) = 4 ∧ k = Int.toNat 0 then _ else _)
          rw [if_neg (by omega)]
        · rw [up_r _ _ _ _ (by decide), up_r _ _ _ _ (by decide), hR1.2.2.1 k hk]
          show _ = (if (2 : Nat) = 4 ∧ k = Int.toNat 0 then _ else _)
          rw [if_neg (by omega)]
        · rw [up_r _ _ _ _ (by decide), up_r _ _ _ _ (by decide), hR1.2.2.2.1 k hk]
          show _ = (if (3 : Nat) = 4 ∧ k = Int.toNat 0 then _ else _)
          rw [if_neg (by omega)]
        · rw [up_j _ _ _ (by omega), up_if, hR1.2.2.2.2 k hk]
          show _ = (if (4 : Nat) = 4 ∧ k = 0 then v else D 4 k)
          by_cases hc : k = 0
          · rw [if_pos ⟨rfl, by omega⟩, if_pos ⟨rfl, hc⟩]
          · rw [if_neg (by omega), if_neg (by omega)]
    · skip
      replace c_85 := bz0 c_85
      refine AW_iconst dX12_set_88 ?_
      refine AW_zret dX12_set_89 rfl (by decide) ?_
      refine Or.inl ⟨fun hq => ?_, rfl, hF1⟩
      have hx := hlh ⟨hq.1, by omega⟩
      omega
theorem m_set {G : Gt} {d : Nat} {σ : St} (hd : 2 ≤ d) {D : Mk} (hS : Sta σ) (hR : RepM D σ) (hW : WFm D) (what v : Int)  : AM mX12_set G d 0 0 [vR 94, vI what, vI v] σ (fun ro ρ => (¬ (0 ≤ what ∧ what < 7 ∧ lowS what.toNat ≤ v ∧ v ≤ higS what.toNat) ∧ ro = some (vI 0) ∧ Fm [0] [] σ ρ) ∨ ((0 ≤ what ∧ what < 7 ∧ lowS what.toNat ≤ v ∧ v ≤ higS what.toNat) ∧ ro = some (vI 1) ∧ RepM (dPut D 4 what.toNat v) ρ ∧ ρ.2.1 94 18 = 0 ∧ Fm [0, 5, 6, 7, 8, 9, 10, 11, 18] [] σ ρ)) := by
  refine AM.intro (by decide +kernel) (by simp [nLg]) (Nat.le_of_ble_eq_true rfl) (fun hO => ?_)
  have i_what : -2147483648 ≤ what ∧ what < 2147483648 := hO (vI what) (by simp)
  have i_v : -2147483648 ≤ v ∧ v < 2147483648 := hO (vI v) (by simp)
  show AW _ _ _ _ _ _ 0 [some (vR 94), some (vI what), some (vI v), none, none] [] σ
  refine AW_aload_n dX12_set_0 rfl ?_
  refine AW_iconst dX12_set_1 ?_
  refine AW_putI dX12_set_2 (Or.inl pfX12_142) (hS.cel rfl) ?_
  have hF1 : Fm [0] [] σ (upI σ 94 0 0) := Fm.rf.uf (by decide) _
  have hS1 : Sta (upI σ 94 0 0) := hS
  have hR1 : RepM D (upI σ 94 0 0) := hR.fm hF1
  generalize upI σ 94 0 0 = σ1 at hF1 hS1 hR1 ⊢
  refine AW_iload_n dX12_set_5 rfl ?_
  refine AW_iconst dX12_set_6 ?_
  refine AW_icmp_eq (tgt := 20) dX12_set_7 (by decide) (fun c_7 => ?_) (fun c_7 => ?_)
  · skip
    refine AW_iconst dX12_set_20 ?_
    refine AW_goto (tgt := 25) dX12_set_21 (by decide) ?_
    refine AW_istore3 dX12_set_25 ?_
    refine AW_iload_n dX12_set_26 rfl ?_
    refine AW_iconst dX12_set_27 ?_
    refine AW_icmp_ne (tgt := 37) dX12_set_28 (by decide) (fun c_28 => ?_) (fun c_28 => ?_)
    · skip
      refine AW_iload_n dX12_set_37 rfl ?_
      refine AW_iconst dX12_set_38 ?_
      refine AW_icmp_ne (tgt := 47) dX12_set_39 (by decide) (fun c_39 => ?_) (fun c_39 => ?_)
      · skip
        refine AW_iload_n dX12_set_47 rfl ?_
        refine AW_iconst dX12_set_48 ?_
        refine AW_icmp_eq (tgt := 58) dX12_set_49 (by decide) (fun c_49 => ?_) (fun c_49 => ?_)
        · skip
          refine AW_iconst dX12_set_58 ?_
          refine AW_goto (tgt := 64) dX12_set_59 (by decide) ?_
          refine AW_istore4 dX12_set_64 ?_
          refine ln_set (by omega) hS1 hR1 hF1 (fun h => ?_)
          rcases (show what = 0 ∨ what = 1 ∨ what = 2 ∨ what = 3 ∨ what = 4 ∨ what = 5 ∨ what = 6 by omega) with rfl | rfl | rfl | rfl | rfl | rfl | rfl <;> first | exact ⟨rfl, rfl⟩ | (exfalso; omega)
        · skip
          refine AW_iload_n dX12_set_52 rfl ?_
          refine AW_bipush dX12_set_53 ?_
          refine AW_icmp_ne (tgt := 62) dX12_set_55 (by decide) (fun c_55 => ?_) (fun c_55 => ?_)
          · skip
            refine AW_bipush dX12_set_62 ?_
            refine AW_istore4 dX12_set_64 ?_
            refine ln_set (by omega) hS1 hR1 hF1 (fun h => ?_)
            rcases (show what = 0 ∨ what = 1 ∨ what = 2 ∨ what = 3 ∨ what = 4 ∨ what = 5 ∨ what = 6 by omega) with rfl | rfl | rfl | rfl | rfl | rfl | rfl <;> first | exact ⟨rfl, rfl⟩ | (exfalso; omega)
          · skip
            refine AW_iconst dX12_set_58 ?_
            refine AW_goto (tgt := 64) dX12_set_59 (by decide) ?_
            refine AW_istore4 dX12_set_64 ?_
            refine ln_set (by omega) hS1 hR1 hF1 (fun h => ?_)
            rcases (show what = 0 ∨ what = 1 ∨ what = 2 ∨ what = 3 ∨ what = 4 ∨ what = 5 ∨ what = 6 by omega) with rfl | rfl | rfl | rfl | rfl | rfl | rfl <;> first | exact ⟨rfl, rfl⟩ | (exfalso; omega)
      · skip
        refine AW_bipush dX12_set_42 ?_
        refine AW_goto (tgt := 64) dX12_set_44 (by decide) ?_
        refine AW_istore4 dX12_set_64 ?_
        refine ln_set (by omega) hS1 hR1 hF1 (fun h => ?_)
        rcases (show what = 0 ∨ what = 1 ∨ what = 2 ∨ what = 3 ∨ what = 4 ∨ what = 5 ∨ what = 6 by omega) with rfl | rfl | rfl | rfl | rfl | rfl | rfl <;> first | exact ⟨rfl, rfl⟩ | (exfalso; omega)
    · skip
      refine AW_sipush dX12_set_31 ?_
      refine AW_goto (tgt := 64) dX12_set_34 (by decide) ?_
      refine AW_istore4 dX12_set_64 ?_
      refine ln_set (by omega) hS1 hR1 hF1 (fun h => ?_)
      rcases (show what = 0 ∨ what = 1 ∨ what = 2 ∨ what = 3 ∨ what = 4 ∨ what = 5 ∨ what = 6 by omega) with rfl | rfl | rfl | rfl | rfl | rfl | rfl <;> first | exact ⟨rfl, rfl⟩ | (exfalso; omega)
  · skip
    refine AW_iload_n dX12_set_10 rfl ?_
    refine AW_iconst dX12_set_11 ?_
    refine AW_icmp_eq (tgt := 20) dX12_set_12 (by decide) (fun c_12 => ?_) (fun c_12 => ?_)
    · skip
      refine AW_iconst dX12_set_20 ?_
      refine AW_goto (tgt := 25) dX12_set_21 (by decide) ?_
      refine AW_istore3 dX12_set_25 ?_
      refine AW_iload_n dX12_set_26 rfl ?_
      refine AW_iconst dX12_set_27 ?_
      refine AW_icmp_ne (tgt := 37) dX12_set_28 (by decide) (fun c_28 => ?_) (fun c_28 => ?_)
      · skip
        refine AW_iload_n dX12_set_37 rfl ?_
        refine AW_iconst dX12_set_38 ?_
        refine AW_icmp_ne (tgt := 47) dX12_set_39 (by decide) (fun c_39 => ?_) (fun c_39 => ?_)
        · skip
          refine AW_iload_n dX12_set_47 rfl ?_
          refine AW_iconst dX12_set_48 ?_
          refine AW_icmp_eq (tgt := 58) dX12_set_49 (by decide) (fun c_49 => ?_) (fun c_49 => ?_)
          · skip
            refine AW_iconst dX12_set_58 ?_
            refine AW_goto (tgt := 64) dX12_set_59 (by decide) ?_
            refine AW_istore4 dX12_set_64 ?_
            refine ln_set (by omega) hS1 hR1 hF1 (fun h => ?_)
            rcases (show what = 0 ∨ what = 1 ∨ what = 2 ∨ what = 3 ∨ what = 4 ∨ what = 5 ∨ what = 6 by omega) with rfl | rfl | rfl | rfl | rfl | rfl | rfl <;> first | exact ⟨rfl, rfl⟩ | (exfalso; omega)
          · skip
            refine AW_iload_n dX12_set_52 rfl ?_
            refine AW_bipush dX12_set_53 ?_
            refine AW_icmp_ne (tgt := 62) dX12_set_55 (by decide) (fun c_55 => ?_) (fun c_55 => ?_)
            · skip
              refine AW_bipush dX12_set_62 ?_
              refine AW_istore4 dX12_set_64 ?_
              refine ln_set (by omega) hS1 hR1 hF1 (fun h => ?_)
              rcases (show what = 0 ∨ what = 1 ∨ what = 2 ∨ what = 3 ∨ what = 4 ∨ what = 5 ∨ what = 6 by omega) with rfl | rfl | rfl | rfl | rfl | rfl | rfl <;> first | exact ⟨rfl, rfl⟩ | (exfalso; omega)
            · skip
              refine AW_iconst dX12_set_58 ?_
              refine AW_goto (tgt := 64) dX12_set_59 (by decide) ?_
              refine AW_istore4 dX12_set_64 ?_
              refine ln_set (by omega) hS1 hR1 hF1 (fun h => ?_)
              rcases (show what = 0 ∨ what = 1 ∨ what = 2 ∨ what = 3 ∨ what = 4 ∨ what = 5 ∨ what = 6 by omega) with rfl | rfl | rfl | rfl | rfl | rfl | rfl <;> first | exact ⟨rfl, rfl⟩ | (exfalso; omega)
        · skip
          refine AW_bipush dX12_set_42 ?_
          refine AW_goto (tgt := 64) dX12_set_44 (by decide) ?_
          refine AW_istore4 dX12_set_64 ?_
          refine ln_set (by omega) hS1 hR1 hF1 (fun h => ?_)
          rcases (show what = 0 ∨ what = 1 ∨ what = 2 ∨ what = 3 ∨ what = 4 ∨ what = 5 ∨ what = 6 by omega) with rfl | rfl | rfl | rfl | rfl | rfl | rfl <;> first | exact ⟨rfl, rfl⟩ | (exfalso; omega)
      · skip
        refine AW_sipush dX12_set_31 ?_
        refine AW_goto (tgt := 64) dX12_set_34 (by decide) ?_
        refine AW_istore4 dX12_set_64 ?_
        refine ln_set (by omega) hS1 hR1 hF1 (fun h => ?_)
        rcases (show what = 0 ∨ what = 1 ∨ what = 2 ∨ what = 3 ∨ what = 4 ∨ what = 5 ∨ what = 6 by omega) with rfl | rfl | rfl | rfl | rfl | rfl | rfl <;> first | exact ⟨rfl, rfl⟩ | (exfalso; omega)
    · skip
      refine AW_iload_n dX12_set_15 rfl ?_
      refine AW_iconst dX12_set_16 ?_
      refine AW_icmp_ne (tgt := 24) dX12_set_17 (by decide) (fun c_17 => ?_) (fun c_17 => ?_)
      · skip
        refine AW_iconst dX12_set_24 ?_
        refine AW_istore3 dX12_set_25 ?_
        refine AW_iload_n dX12_set_26 rfl ?_
        refine AW_iconst dX12_set_27 ?_
        refine AW_icmp_ne (tgt := 37) dX12_set_28 (by decide) (fun c_28 => ?_) (fun c_28 => ?_)
        · skip
          refine AW_iload_n dX12_set_37 rfl ?_
          refine AW_iconst dX12_set_38 ?_
          refine AW_icmp_ne (tgt := 47) dX12_set_39 (by decide) (fun c_39 => ?_) (fun c_39 => ?_)
          · skip
            refine AW_iload_n dX12_set_47 rfl ?_
            refine AW_iconst dX12_set_48 ?_
            refine AW_icmp_eq (tgt := 58) dX12_set_49 (by decide) (fun c_49 => ?_) (fun c_49 => ?_)
            · skip
              refine AW_iconst dX12_set_58 ?_
              refine AW_goto (tgt := 64) dX12_set_59 (by decide) ?_
              refine AW_istore4 dX12_set_64 ?_
              refine ln_set (by omega) hS1 hR1 hF1 (fun h => ?_)
              rcases (show what = 0 ∨ what = 1 ∨ what = 2 ∨ what = 3 ∨ what = 4 ∨ what = 5 ∨ what = 6 by omega) with rfl | rfl | rfl | rfl | rfl | rfl | rfl <;> first | exact ⟨rfl, rfl⟩ | (exfalso; omega)
            · skip
              refine AW_iload_n dX12_set_52 rfl ?_
              refine AW_bipush dX12_set_53 ?_
              refine AW_icmp_ne (tgt := 62) dX12_set_55 (by decide) (fun c_55 => ?_) (fun c_55 => ?_)
              · skip
                refine AW_bipush dX12_set_62 ?_
                refine AW_istore4 dX12_set_64 ?_
                refine ln_set (by omega) hS1 hR1 hF1 (fun h => ?_)
                rcases (show what = 0 ∨ what = 1 ∨ what = 2 ∨ what = 3 ∨ what = 4 ∨ what = 5 ∨ what = 6 by omega) with rfl | rfl | rfl | rfl | rfl | rfl | rfl <;> first | exact ⟨rfl, rfl⟩ | (exfalso; omega)
              · skip
                refine AW_iconst dX12_set_58 ?_
                refine AW_goto (tgt := 64) dX12_set_59 (by decide) ?_
                refine AW_istore4 dX12_set_64 ?_
                refine ln_set (by omega) hS1 hR1 hF1 (fun h => ?_)
                rcases (show what = 0 ∨ what = 1 ∨ what = 2 ∨ what = 3 ∨ what = 4 ∨ what = 5 ∨ what = 6 by omega) with rfl | rfl | rfl | rfl | rfl | rfl | rfl <;> first | exact ⟨rfl, rfl⟩ | (exfalso; omega)
          · skip
            refine AW_bipush dX12_set_42 ?_
            refine AW_goto (tgt := 64) dX12_set_44 (by decide) ?_
            refine AW_istore4 dX12_set_64 ?_
            refine ln_set (by omega) hS1 hR1 hF1 (fun h => ?_)
            rcases (show what = 0 ∨ what = 1 ∨ what = 2 ∨ what = 3 ∨ what = 4 ∨ what = 5 ∨ what = 6 by omega) with rfl | rfl | rfl | rfl | rfl | rfl | rfl <;> first | exact ⟨rfl, rfl⟩ | (exfalso; omega)
        · skip
          refine AW_sipush dX12_set_31 ?_
          refine AW_goto (tgt := 64) dX12_set_34 (by decide) ?_
          refine AW_istore4 dX12_set_64 ?_
          refine ln_set (by omega) hS1 hR1 hF1 (fun h => ?_)
          rcases (show what = 0 ∨ what = 1 ∨ what = 2 ∨ what = 3 ∨ what = 4 ∨ what = 5 ∨ what = 6 by omega) with rfl | rfl | rfl | rfl | rfl | rfl | rfl <;> first | exact ⟨rfl, rfl⟩ | (exfalso; omega)
      · skip
        refine AW_iconst dX12_set_20 ?_
        refine AW_goto (tgt := 25) dX12_set_21 (by decide) ?_
        refine AW_istore3 dX12_set_25 ?_
        refine AW_iload_n dX12_set_26 rfl ?_
        refine AW_iconst dX12_set_27 ?_
        refine AW_icmp_ne (tgt := 37) dX12_set_28 (by decide) (fun c_28 => ?_) (fun c_28 => ?_)
        · skip
          refine AW_iload_n dX12_set_37 rfl ?_
          refine AW_iconst dX12_set_38 ?_
          refine AW_icmp_ne (tgt := 47) dX12_set_39 (by decide) (fun c_39 => ?_) (fun c_39 => ?_)
          · skip
            refine AW_iload_n dX12_set_47 rfl ?_
            refine AW_iconst dX12_set_48 ?_
            refine AW_icmp_eq (tgt := 58) dX12_set_49 (by decide) (fun c_49 => ?_) (fun c_49 => ?_)
            · skip
              refine AW_iconst dX12_set_58 ?_
              refine AW_goto (tgt := 64) dX12_set_59 (by decide) ?_
              refine AW_istore4 dX12_set_64 ?_
              refine ln_set (by omega) hS1 hR1 hF1 (fun h => ?_)
              rcases (show what = 0 ∨ what = 1 ∨ what = 2 ∨ what = 3 ∨ what = 4 ∨ what = 5 ∨ what = 6 by omega) with rfl | rfl | rfl | rfl | rfl | rfl | rfl <;> first | exact ⟨rfl, rfl⟩ | (exfalso; omega)
            · skip
              refine AW_iload_n dX12_set_52 rfl ?_
              refine AW_bipush dX12_set_53 ?_
              refine AW_icmp_ne (tgt := 62) dX12_set_55 (by decide) (fun c_55 => ?_) (fun c_55 => ?_)
              · skip
                refine AW_bipush dX12_set_62 ?_
                refine AW_istore4 dX12_set_64 ?_
                refine ln_set (by omega) hS1 hR1 hF1 (fun h => ?_)
                rcases (show what = 0 ∨ what = 1 ∨ what = 2 ∨ what = 3 ∨ what = 4 ∨ what = 5 ∨ what = 6 by omega) with rfl | rfl | rfl | rfl | rfl | rfl | rfl <;> first | exact ⟨rfl, rfl⟩ | (exfalso; omega)
              · skip
                refine AW_iconst dX12_set_58 ?_
                refine AW_goto (tgt := 64) dX12_set_59 (by decide) ?_
                refine AW_istore4 dX12_set_64 ?_
                refine ln_set (by omega) hS1 hR1 hF1 (fun h => ?_)
                rcases (show what = 0 ∨ what = 1 ∨ what = 2 ∨ what = 3 ∨ what = 4 ∨ what = 5 ∨ what = 6 by omega) with rfl | rfl | rfl | rfl | rfl | rfl | rfl <;> first | exact ⟨rfl, rfl⟩ | (exfalso; omega)
          · skip
            refine AW_bipush dX12_set_42 ?_
            refine AW_goto (tgt := 64) dX12_set_44 (by decide) ?_
            refine AW_istore4 dX12_set_64 ?_
            refine ln_set (by omega) hS1 hR1 hF1 (fun h => ?_)
            rcases (show what = 0 ∨ what = 1 ∨ what = 2 ∨ what = 3 ∨ what = 4 ∨ what = 5 ∨ what = 6 by omega) with rfl | rfl | rfl | rfl | rfl | rfl | rfl <;> first | exact ⟨rfl, rfl⟩ | (exfalso; omega)
        · skip
          refine AW_sipush dX12_set_31 ?_
          refine AW_goto (tgt := 64) dX12_set_34 (by decide) ?_
          refine AW_istore4 dX12_set_64 ?_
          refine ln_set (by omega) hS1 hR1 hF1 (fun h => ?_)
          rcases (show what = 0 ∨ what = 1 ∨ what = 2 ∨ what = 3 ∨ what = 4 ∨ what = 5 ∨ what = 6 by omega) with rfl | rfl | rfl | rfl | rfl | rfl | rfl <;> first | exact ⟨rfl, rfl⟩ | (exfalso; omega)
