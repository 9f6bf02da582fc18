/-- the table is right from week t on -/
def tabC (D : Mk) (σ : St) (t : Nat) : Prop := ∀ s i, s < 2 → (i : Nat) < 6 → (i : Int) < D 0 s → ∀ t', t ≤ t' → (t' : Int) ≤ D 4 2 → σ.2.1 27 ((6 * s + i) * 61 + t') = wt D ((D 4 2).toNat - t') s i
def wosC (D : Mk) (σ : St) : Prop := ∀ s i j, s < 2 → (i : Nat) < 6 → (j : Nat) < 6 → (i : Int) < D 0 s → (j : Int) < D 0 (1 - s) → σ.2.1 28 ((6 * s + i) * 6 + j) = wo D s i j
/-- the WAITS that are kept are the market's, where they are of its version -/
def wtC (D : Mk) (σ : St) : Prop := σ.2.1 26 3 ≤ σ.2.1 17 5 ∧ (σ.2.1 26 3 = σ.2.1 17 5 → tabC D σ 0)
theorem k_behind {G : Gt} {d : Nat} {σ : St} (hd : 2 ≤ d) {D : Mk} (hS : Sta σ) (hR : RepC D σ) (hW : WFm D) (hT : tabC D σ 0) (side sort t : Int)  : AM mX9_behind G d 0 0 [vR 26, vI side, vI sort, vI t] σ (fun r τ => τ = σ ∧ r = some (vI (if (((side = 0 ∨ side = 1) ∧ 0 ≤ sort ∧ sort < D 0 side.toNat) ∧ 0 ≤ t) ∧ t < D 4 2 then wt D ((D 4 2).toNat - t.toNat) side.toNat sort.toNat else 0))) := by
  refine AM.intro (by decide +kernel) (by simp [nLg]) (Nat.le_of_ble_eq_true rfl) (fun hO => ?_)
  have i_side : -2147483648 ≤ side ∧ side < 2147483648 := hO (vI side) (by simp)
  have i_sort : -2147483648 ≤ sort ∧ sort < 2147483648 := hO (vI sort) (by simp)
  have i_t : -2147483648 ≤ t ∧ t < 2147483648 := hO (vI t) (by simp)
  show AW _ _ _ _ _ _ 0 [some (vR 26), some (vI side), some (vI sort), some (vI t)] [] σ
  refine AW_aload_n dX9_behind_0 rfl ?_
  refine AW_getR (a := 17) dX9_behind_1 gfX9_24 (hS.cel rfl) (hS.rf rfl) ?_
  refine AW_iload_n dX9_behind_4 rfl ?_
  refine AW_iload_n dX9_behind_5 rfl ?_
  refine AW_callV2 (d' := d - 1) dX9_behind_6 (Or.inl lkX9_28) mfX3_isSort (hS.cel rfl) ⟨_, rfl, rfl⟩ (k_isSort hS hR side sort) (by omega) (Nat.le_of_ble_eq_true rfl) ?_
  rintro _ _ ⟨e_, rfl⟩ -
  rw [e_]
  clear e_
  refine AW_if_eq (tgt := 28) dX9_behind_9 (by decide) (fun c_9 => ?_) (fun c_9 => ?_)
  · skip
    replace c_9 := bz0 c_9
    refine AW_iconst dX9_behind_28 ?_
    refine AW_iret dX9_behind_29 rfl ?_
    exact ⟨rfl, by rw [if_neg (by omega)]⟩
  · skip
    replace c_9 := bz1 c_9
    have hb := hW.1 side.toNat (by omega)
    have hb2 := hW.2.2.2.2.2.2.1
    refine AW_iload_n dX9_behind_12 rfl ?_
    refine AW_if_lt (tgt := 28) dX9_behind_13 (by decide) (fun c_13 => ?_) (fun c_13 => ?_)
    · skip
      refine AW_iconst dX9_behind_28 ?_
      refine AW_iret dX9_behind_29 rfl ?_
      exact ⟨rfl, by rw [if_neg (by omega)]⟩
    · skip
      refine AW_iload_n dX9_behind_16 rfl ?_
      refine AW_aload_n dX9_behind_17 rfl ?_
      refine AW_getR (a := 17) dX9_behind_18 gfX9_24 (hS.cel rfl) (hS.rf rfl) ?_
      refine AW_iconst dX9_behind_21 ?_
      refine AW_callV1 (d' := d - 1) dX9_behind_22 (Or.inl lkX9_32) mfX3_setting (hS.cel rfl) ⟨_, rfl, rfl⟩ (k_setK 2 (by decide) hS hR) (by omega) (Nat.le_of_ble_eq_true rfl) ?_
      rintro _ _ ⟨e_, rfl⟩ -
      rw [e_]
      clear e_
      refine AW_icmp_lt (tgt := 30) dX9_behind_25 (by decide) (fun c_25 => ?_) (fun c_25 => ?_)
      · skip
        refine AW_aload_n dX9_behind_30 rfl ?_
        refine AW_getR (a := 27) dX9_behind_31 gfX9_13 (hS.cel rfl) (hS.rf rfl) ?_
        refine AW_iload_n dX9_behind_34 rfl ?_
        refine AW_bipush dX9_behind_35 ?_
        refine AW_imulE dX9_behind_37 (by omega) (by omega) ?_
        refine AW_iload_n dX9_behind_38 rfl ?_
        refine AW_iaddE dX9_behind_39 (by omega) (by omega) ?_
        refine AW_bipush dX9_behind_40 ?_
        refine AW_imulE dX9_behind_42 (by omega) (by omega) ?_
        refine AW_iload_n dX9_behind_43 rfl ?_
        refine AW_iaddE dX9_behind_44 (by omega) (by omega) ?_
        refine AW_iald dX9_behind_45 (hS.cel rfl) (by omega) (by omega) ?_
        refine AW_iret dX9_behind_46 rfl ?_
        refine ⟨rfl, ?_⟩
        rw [if_pos (by omega), show ((side * 6 + sort) * 61 + t).toNat = (6 * side.toNat + sort.toNat) * 61 + t.toNat by omega, hT side.toNat sort.toNat (by omega) (by omega) (by omega) t.toNat (by omega) (by omega)]
      · skip
        refine AW_iconst dX9_behind_28 ?_
        refine AW_iret dX9_behind_29 rfl ?_
        exact ⟨rfl, by rw [if_neg (by omega)]⟩
theorem l_ahead {G : Gt} {d : Nat} {D : Mk} {σ : St} {s i t : Nat} (hd : 3 ≤ d) (hS : Sta σ) (hR : RepC D σ) (hW : WFm D) (hs : s < 2) (hi : (i : Int) < D 0 s) (ht : 1 ≤ t ∧ (t : Int) ≤ D 4 2) (hT : tabC D σ t) (hO : wosC D σ) : ∀ (nn : Nat) (j : Nat) (x8 x9 : Option AV), (7 - j) < nn → (j : Int) ≤ D 0 (1 - s) →  AW mX9_ahead G d 0 0 (mq G (fun ro ρ => ρ = σ ∧ ro = some (vI (wt D ((D 4 2).toNat - (t - 1)) s i)))) 59 [some (vR 26), some (vI (s : Int)), some (vI (i : Int)), some (vI (t : Int)), some (vI (1 - (s : Int))), some (vI (wt D ((D 4 2).toNat - t) s i)), some (vI (wS D (wt D ((D 4 2).toNat - t)) s i j)), some (vI (j : Int)), x8, x9] [] σ := by
  intro nn
  induction nn with
  | zero => intros; omega
  | succ nn ih =>
    intro j x8 x9 hn hj
    have hb := hW.1 s hs
    have hb2 := hW.1 (1 - s) (by omega)
    have hl := hW.2.2.2.2.2.2.1
    have hwi := wt_in hW ((D 4 2).toNat - t) s i hs (by omega)
    have hss := wS_bnd hW hs (by omega) hwi (n := j) (by omega)
    refine AW_iload dX9_ahead_59 rfl ?_
    refine AW_aload_n dX9_ahead_61 rfl ?_
    refine AW_getR (a := 17) dX9_ahead_62 gfX9_24 (hS.cel rfl) (hS.rf rfl) ?_
    refine AW_iload dX9_ahead_65 rfl ?_
    refine AW_callV1 (d' := d - 1) dX9_ahead_67 (Or.inl lkX9_55) mfX3_count (hS.cel rfl) ⟨_, rfl, rfl⟩ (k_countV (by omega) hS hR (1 - (s : Int)) (1 - s) (by omega) (by omega)) (by omega) (Nat.le_of_ble_eq_true rfl) ?_
    rintro _ _ ⟨e_, rfl⟩ -
    rw [e_]
    clear e_
    refine AW_icmp_ge (tgt := 177) dX9_ahead_70 (by decide) (fun c_70 => ?_) (fun c_70 => ?_)
    · skip
      refine AW_iconst dX9_ahead_177 ?_
      refine AW_iload dX9_ahead_178 rfl ?_
      refine AW_sipush dX9_ahead_180 ?_
      refine AW_idivE dX9_ahead_183 (by omega) (by omega) (by decide) ?_
      refine AW_aload_n dX9_ahead_184 rfl ?_
      refine AW_getR (a := 17) dX9_ahead_185 gfX9_24 (hS.cel rfl) (hS.rf rfl) ?_
      refine AW_iconst dX9_ahead_188 ?_
      refine AW_callV1 (d' := d - 1) dX9_ahead_189 (Or.inl lkX9_32) mfX3_setting (hS.cel rfl) ⟨_, rfl, rfl⟩ (k_setK 0 (by decide) hS hR) (by omega) (Nat.le_of_ble_eq_true rfl) ?_
      rintro _ _ ⟨e_, rfl⟩ -
      rw [e_]
      clear e_
      refine AW_isubE dX9_ahead_192 (by have := hW.2.2.2.2.1; omega) (by have := hW.2.2.2.2.1; omega) ?_
      refine AW_mmax dX9_ahead_193 lkX9_61 (by omega) (Nat.le_of_ble_eq_true rfl) ?_
      refine AW_iret dX9_ahead_196 rfl ?_
      refine ⟨rfl, ?_⟩
      have ej : (D 0 (1 - s)).toNat = j := by omega
      have ee : (D 4 2).toNat - (t - 1) = ((D 4 2).toNat - t) + 1 := by omega
      rw [ee]
      show _ = some (vI (if wS D (wt D ((D 4 2).toNat - t)) s i (D 0 (1 - s)).toNat / 1000 - D 4 0 < 0 then 0 else wS D (wt D ((D 4 2).toNat - t)) s i (D 0 (1 - s)).toNat / 1000 - D 4 0))
      rw [ej]
      by_cases hc : wS D (wt D ((D 4 2).toNat - t)) s i j / 1000 - D 4 0 < 0
      · rw [if_pos hc, if_neg (by omega)]
      · rw [if_neg hc]
        by_cases hc2 : 0 < wS D (wt D ((D 4 2).toNat - t)) s i j / 1000 - D 4 0
        · rw [if_pos hc2]
        · rw [if_neg hc2, show wS D (wt D ((D 4 2).toNat - t)) s i j / 1000 - D 4 0 = 0 by omega]
    · skip
      have e1 := hO s i j hs (by omega) (by omega) hi (by omega)
      have e2 := hO (1 - s) j i (by omega) (by omega) (by omega) (by omega) (by rw [show 1 - (1 - s) = s by omega]; omega)
      have e3 := hT (1 - s) j (by omega) (by omega) (by omega) t (by omega) (by omega)
      have e4 := hW.2.2.1 (6 * (1 - s) + j) (by omega)
      have hwo := wo_in hW hs (i := i) (j := j) (by omega) (by omega)
      have e5 : wS D (wt D ((D 4 2).toNat - t)) s i (j + 1) = wS D (wt D ((D 4 2).toNat - t)) s i j + if wt D ((D 4 2).toNat - t) s i ≤ wo D s i j ∧ wt D ((D 4 2).toNat - t) (1 - s) j ≤ wo D (1 - s) j i then D 2 (6 * (1 - s) + j) * (wo D s i j - wt D ((D 4 2).toNat - t) s i) else 0 := rfl
      have hss1 := wS_bnd hW hs (by omega) hwi (n := j + 1) (by omega)
      refine AW_iload dX9_ahead_73 rfl ?_
      refine AW_bipush dX9_ahead_75 ?_
      refine AW_icmp_ge (tgt := 177) dX9_ahead_77 (by decide) (fun c_77 => ?_) (fun c_77 => ?_)
      · skip
        exact absurd c_77 (by omega)
      · skip
        refine AW_aload_n dX9_ahead_80 rfl ?_
        refine AW_getR (a := 28) dX9_ahead_81 gfX9_17 (hS.cel rfl) (hS.rf rfl) ?_
        refine AW_iload_n dX9_ahead_84 rfl ?_
        refine AW_bipush dX9_ahead_85 ?_
        refine AW_imulE dX9_ahead_87 (by omega) (by omega) ?_
        refine AW_iload_n dX9_ahead_88 rfl ?_
        refine AW_iaddE dX9_ahead_89 (by omega) (by omega) ?_
        refine AW_bipush dX9_ahead_90 ?_
        refine AW_imulE dX9_ahead_92 (by omega) (by omega) ?_
        refine AW_iload dX9_ahead_93 rfl ?_
        refine AW_iaddE dX9_ahead_95 (by omega) (by omega) ?_
        refine AW_iald dX9_ahead_96 (hS.cel rfl) (by omega) (by omega) ?_
        rw [show ((((s : Int) * 6 + (i : Int)) * 6) + (j : Int)).toNat = (6 * s + i) * 6 + j by omega, e1]
        refine AW_istore8 dX9_ahead_97 ?_
        refine AW_aload_n dX9_ahead_99 rfl ?_
        refine AW_getR (a := 28) dX9_ahead_100 gfX9_17 (hS.cel rfl) (hS.rf rfl) ?_
        refine AW_iload dX9_ahead_103 rfl ?_
        refine AW_bipush dX9_ahead_105 ?_
        refine AW_imulE dX9_ahead_107 (by omega) (by omega) ?_
        refine AW_iload dX9_ahead_108 rfl ?_
        refine AW_iaddE dX9_ahead_110 (by omega) (by omega) ?_
        refine AW_bipush dX9_ahead_111 ?_
        refine AW_imulE dX9_ahead_113 (by omega) (by omega) ?_
        refine AW_iload_n dX9_ahead_114 rfl ?_
        refine AW_iaddE dX9_ahead_115 (by omega) (by omega) ?_
        refine AW_iald dX9_ahead_116 (hS.cel rfl) (by omega) (by omega) ?_
        rw [show (((1 - (s : Int)) * 6 + (j : Int)) * 6 + (i : Int)).toNat = (6 * (1 - s) + j) * 6 + i by omega, e2]
        refine AW_istore9 dX9_ahead_117 ?_
        refine AW_iload dX9_ahead_119 rfl ?_
        refine AW_iload dX9_ahead_121 rfl ?_
        refine AW_icmp_lt (tgt := 171) dX9_ahead_123 (by decide) (fun c_123 => ?_) (fun c_123 => ?_)
        · skip
          rw [if_neg (by omega)] at e5
          refine AW_iincE7 dX9_ahead_171 (by omega) (by omega) ?_
          refine AW_goto (tgt := 59) dX9_ahead_174 (by decide) ?_
          rw [show (j : Int) + 1 = ((j + 1 : Nat) : Int) by omega]
          first
          | rw [show wS D (wt D ((D 4 2).toNat - t)) s i j = wS D (wt D ((D 4 2).toNat - t)) s i (j + 1) by omega]
          | rw [← e5]
          exact ih (j + 1) _ _ (by omega) (by omega)
        · skip
          refine AW_iload dX9_ahead_126 rfl ?_
          refine AW_aload_n dX9_ahead_128 rfl ?_
          refine AW_getR (a := 27) dX9_ahead_129 gfX9_13 (hS.cel rfl) (hS.rf rfl) ?_
          refine AW_iload dX9_ahead_132 rfl ?_
          refine AW_bipush dX9_ahead_134 ?_
          refine AW_imulE dX9_ahead_136 (by omega) (by omega) ?_
          refine AW_iload dX9_ahead_137 rfl ?_
          refine AW_iaddE dX9_ahead_139 (by omega) (by omega) ?_
          refine AW_bipush dX9_ahead_140 ?_
          refine AW_imulE dX9_ahead_142 (by omega) (by omega) ?_
          refine AW_iload_n dX9_ahead_143 rfl ?_
          refine AW_iaddE dX9_ahead_144 (by omega) (by omega) ?_
          refine AW_iald dX9_ahead_145 (hS.cel rfl) (by omega) (by omega) ?_
          rw [show (((1 - (s : Int)) * 6 + (j : Int)) * 61 + (t : Int)).toNat = (6 * (1 - s) + j) * 61 + t by omega, e3]
          refine AW_icmp_lt (tgt := 171) dX9_ahead_146 (by decide) (fun c_146 => ?_) (fun c_146 => ?_)
          · skip
            rw [if_neg (by omega)] at e5
            refine AW_iincE7 dX9_ahead_171 (by omega) (by omega) ?_
            refine AW_goto (tgt := 59) dX9_ahead_174 (by decide) ?_
            rw [show (j : Int) + 1 = ((j + 1 : Nat) : Int) by omega]
            first
            | rw [show wS D (wt D ((D 4 2).toNat - t)) s i j = wS D (wt D ((D 4 2).toNat - t)) s i (j + 1) by omega]
            | rw [← e5]
            exact ih (j + 1) _ _ (by omega) (by omega)
          · skip
            rw [if_pos (by omega)] at e5
            have e6 := mul0 e4 (y := wo D s i j - wt D ((D 4 2).toNat - t) s i) (B := 999) (by omega)
            refine AW_iload dX9_ahead_149 rfl ?_
            refine AW_aload_n dX9_ahead_151 rfl ?_
            refine AW_getR (a := 17) dX9_ahead_152 gfX9_24 (hS.cel rfl) (hS.rf rfl) ?_
            refine AW_iload dX9_ahead_155 rfl ?_
            refine AW_iload dX9_ahead_157 rfl ?_
            refine AW_callV2 (d' := d - 1) dX9_ahead_159 (Or.inl lkX9_58) mfX3_oftenOf (hS.cel rfl) ⟨_, rfl, rfl⟩ (k_oftenV (by omega) hS hR hW (1 - (s : Int)) (j : Int) (1 - s) j (by omega) rfl (by omega) (by omega)) (by omega) (Nat.le_of_ble_eq_true rfl) ?_
            rintro _ _ ⟨e_, rfl⟩ -
            rw [e_]
            clear e_
            refine AW_iload dX9_ahead_162 rfl ?_
            refine AW_iload dX9_ahead_164 rfl ?_
            refine AW_isubE dX9_ahead_166 (by omega) (by omega) ?_
            refine AW_imulE dX9_ahead_167 (by omega) (by omega) ?_
            refine AW_iaddE dX9_ahead_168 (by omega) (by omega) ?_
            refine AW_istore6 dX9_ahead_169 ?_
            refine AW_iincE7 dX9_ahead_171 (by omega) (by omega) ?_
            refine AW_goto (tgt := 59) dX9_ahead_174 (by decide) ?_
            rw [show (j : Int) + 1 = ((j + 1 : Nat) : Int) by omega]
            first
            | rw [show wS D (wt D ((D 4 2).toNat - t)) s i j = wS D (wt D ((D 4 2).toNat - t)) s i (j + 1) by omega]
            | rw [← e5]
            exact ih (j + 1) _ _ (by omega) (by omega)
theorem k_ahead {G : Gt} {d : Nat} {σ : St} (hd : 3 ≤ d) {D : Mk} (hS : Sta σ) (hR : RepC D σ) (hW : WFm D) {s i t : Nat} (hs : s < 2) (hi6 : i < 6) (ht : 1 ≤ t ∧ (t : Int) ≤ D 4 2) (hT : tabC D σ t) (hQ : wosC D σ)  : AM mX9_ahead G d 0 0 [vR 26, (vI (s : Int)), (vI (i : Int)), (vI (t : Int))] σ (fun ro ρ => ρ = σ ∧ (((i : Int) < D 0 s ∧ ro = some (vI (wt D ((D 4 2).toNat - (t - 1)) s i))) ∨ ((D 0 s ≤ (i : Int)) ∧ ro = some (vI 0)))) := by
  refine AM.intro (by decide +kernel) (by simp [nLg]) (Nat.le_of_ble_eq_true rfl) (fun hO => ?_)
  show AW _ _ _ _ _ _ 0 [some (vR 26), some ((vI (s : Int))), some ((vI (i : Int))), some ((vI (t : Int))), none, none, none, none, none, none] [] σ
  have hb := hW.1 s hs
  have hl := hW.2.2.2.2.2.2.1
  have ew := hT s i hs hi6
  refine AW_aload_n dX9_ahead_0 rfl ?_
  refine AW_getR (a := 17) dX9_ahead_1 gfX9_24 (hS.cel rfl) (hS.rf rfl) ?_
  refine AW_iload_n dX9_ahead_4 rfl ?_
  refine AW_iload_n dX9_ahead_5 rfl ?_
  refine AW_callV2 (d' := d - 1) dX9_ahead_6 (Or.inl lkX9_28) mfX3_isSort (hS.cel rfl) ⟨_, rfl, rfl⟩ (k_isSort hS hR (s : Int) (i : Int)) (by omega) (Nat.le_of_ble_eq_true rfl) ?_
  rintro _ _ ⟨e_, rfl⟩ -
  rw [e_]
  clear e_
  refine AW_if_eq (tgt := 23) dX9_ahead_9 (by decide) (fun c_9 => ?_) (fun c_9 => ?_)
  · skip
    replace c_9 := bz0 c_9
    rw [Int.toNat_natCast] at c_9
    refine AW_iconst dX9_ahead_23 ?_
    refine AW_iret dX9_ahead_24 rfl ?_
    refine ⟨rfl, Or.inr ⟨by omega, rfl⟩⟩
  · skip
    replace c_9 := bz1 c_9
    rw [Int.toNat_natCast] at c_9
    have ew2 := ew (by omega) t (Nat.le_refl _) ht.2
    have hwi := wt_in hW ((D 4 2).toNat - t) s i hs (by omega)
    refine AW_iload_n dX9_ahead_12 rfl ?_
    refine AW_iconst dX9_ahead_13 ?_
    refine AW_icmp_lt (tgt := 23) dX9_ahead_14 (by decide) (fun c_14 => ?_) (fun c_14 => ?_)
    · skip
      refine AW_iconst dX9_ahead_23 ?_
      refine AW_iret dX9_ahead_24 rfl ?_
      refine ⟨rfl, Or.inr ⟨by omega, rfl⟩⟩
    · skip
      refine AW_iload_n dX9_ahead_17 rfl ?_
      refine AW_bipush dX9_ahead_18 ?_
      refine AW_icmp_lt (tgt := 25) dX9_ahead_20 (by decide) (fun c_20 => ?_) (fun c_20 => ?_)
      · skip
        refine AW_iconst dX9_ahead_25 ?_
        refine AW_iload_n dX9_ahead_26 rfl ?_
        refine AW_isubE dX9_ahead_27 (by omega) (by omega) ?_
        refine AW_istore4 dX9_ahead_28 ?_
        refine AW_aload_n dX9_ahead_30 rfl ?_
        refine AW_getR (a := 27) dX9_ahead_31 gfX9_13 (hS.cel rfl) (hS.rf rfl) ?_
        refine AW_iload_n dX9_ahead_34 rfl ?_
        refine AW_bipush dX9_ahead_35 ?_
        refine AW_imulE dX9_ahead_37 (by omega) (by omega) ?_
        refine AW_iload_n dX9_ahead_38 rfl ?_
        refine AW_iaddE dX9_ahead_39 (by omega) (by omega) ?_
        refine AW_bipush dX9_ahead_40 ?_
        refine AW_imulE dX9_ahead_42 (by omega) (by omega) ?_
        refine AW_iload_n dX9_ahead_43 rfl ?_
        refine AW_iaddE dX9_ahead_44 (by omega) (by omega) ?_
        refine AW_iald dX9_ahead_45 (hS.cel rfl) (by omega) (by omega) ?_
        rw [show (((s : Int) * 6 + (i : Int)) * 61 + (t : Int)).toNat = (6 * s + i) * 61 + t by omega, ew2]
        refine AW_istore5 dX9_ahead_46 ?_
        refine AW_sipush dX9_ahead_48 ?_
        refine AW_iload dX9_ahead_51 rfl ?_
        refine AW_imulE dX9_ahead_53 (by omega) (by omega) ?_
        refine AW_istore6 dX9_ahead_54 ?_
        refine AW_iconst dX9_ahead_56 ?_
        refine AW_istore7 dX9_ahead_57 ?_
        refine AW_mq ?_ (l_ahead hd hS hR hW hs (show (i : Int) < D 0 s by omega) ht hT hQ 8 0 none none (by omega) (by have := hW.1 (1 - s) (by omega); omega))
        intro r τ h
        exact ⟨h.1, Or.inl ⟨by omega, h.2⟩⟩
      · skip
        refine AW_iconst dX9_ahead_23 ?_
        refine AW_iret dX9_ahead_24 rfl ?_
        refine ⟨rfl, Or.inr ⟨by omega, rfl⟩⟩
theorem l_gw2 {G : Gt} {d : Nat} {D : Mk} {σ : St} (hd : 2 ≤ d) (hS : Sta σ) (hR : RepC D σ) (hW : WFm D) {q : Nat} (hq : q < 12) (K : ∀ τ, Fr [28] σ τ → (∀ row jj : Nat, row < 12 → jj < 6 → (row < (q + 1) ∨ (row = (q + 1) ∧ jj < 0)) → ((row % 6 : Nat) : Int) < D 0 (row / 6) → (jj : Int) < D 0 (1 - row / 6) → τ.2.1 28 (row * 6 + jj) = wo D (row / 6) (row % 6) jj) → AW mX9_gatherWorths G d 0 0 (mq G (fun ro ρ => ro = none ∧ wosC D ρ ∧ Fr [28] σ ρ)) 49 [some (vR 26), some (vI (q : Int)), some (vI 6)] [] τ) : ∀ (nn : Nat) (j : Nat) (τ : St), (6 - j) < nn → j ≤ 6 → Fr [28] σ τ → (∀ row jj : Nat, row < 12 → jj < 6 → (row < q ∨ (row = q ∧ jj < j)) → ((row % 6 : Nat) : Int) < D 0 (row / 6) → (jj : Int) < D 0 (1 - row / 6) → τ.2.1 28 (row * 6 + jj) = wo D (row / 6) (row % 6) jj) →  AW mX9_gatherWorths G d 0 0 (mq G (fun ro ρ => ro = none ∧ wosC D ρ ∧ Fr [28] σ ρ)) 10 [some (vR 26), some (vI (q : Int)), some (vI (j : Int))] [] τ := by
  intro nn
  induction nn with
  | zero => intros; omega
  | succ nn ih =>
    intro j τ hn hj hF hp
    have hb := hW.1 (q / 6) (by omega)
    have hb2 := hW.1 (1 - q / 6) (by omega)
    refine AW_iload_n dX9_gatherWorths_10 rfl ?_
    refine AW_bipush dX9_gatherWorths_11 ?_
    refine AW_icmp_ge (tgt := 49) dX9_gatherWorths_13 (by decide) (fun c_13 => ?_) (fun c_13 => ?_)
    · skip
      rw [show (j : Int) = 6 by omega]
      exact K τ hF (fun row j2 h1 h2 h3 => hp row j2 h1 h2 (by omega))
    · skip
      refine AW_aload_n dX9_gatherWorths_16 rfl ?_
      refine AW_getR (a := 28) dX9_gatherWorths_17 gfX9_17 ((hF.sta hS).cel rfl) ((hF.sta hS).rf rfl) ?_
      refine AW_iload_n dX9_gatherWorths_20 rfl ?_
      refine AW_bipush dX9_gatherWorths_21 ?_
      refine AW_imulE dX9_gatherWorths_23 (by omega) (by omega) ?_
      refine AW_iload_n dX9_gatherWorths_24 rfl ?_
      refine AW_iaddE dX9_gatherWorths_25 (by omega) (by omega) ?_
      refine AW_aload_n dX9_gatherWorths_26 rfl ?_
      refine AW_getR (a := 17) dX9_gatherWorths_27 gfX9_24 ((hF.sta hS).cel rfl) ((hF.sta hS).rf rfl) ?_
      refine AW_iload_n dX9_gatherWorths_30 rfl ?_
      refine AW_bipush dX9_gatherWorths_31 ?_
      refine AW_idivE dX9_gatherWorths_33 (by omega) (by omega) (by decide) ?_
      refine AW_iload_n dX9_gatherWorths_34 rfl ?_
      refine AW_bipush dX9_gatherWorths_35 ?_
      refine AW_iremE dX9_gatherWorths_37 (by omega) (by decide) ?_
      refine AW_iload_n dX9_gatherWorths_38 rfl ?_
      refine AW_callV3 (d' := d - 1) dX9_gatherWorths_39 (Or.inl lkX9_52) mfX3_worthTo ((hF.sta hS).cel rfl) ⟨_, rfl, rfl⟩ (k_worthTo (by omega) (hF.sta hS) (hR.fr hF) hW _ _ _) (by omega) (Nat.le_of_ble_eq_true rfl) ?_
      rintro _ _ ⟨e_, rfl⟩ -
      rw [e_]
      clear e_
      refine AW_iast dX9_gatherWorths_42 ((hF.sta hS).cel rfl) (by omega) (by omega) ?_
      refine AW_iincE2 dX9_gatherWorths_43 (by omega) (by omega) ?_
      refine AW_goto (tgt := 10) dX9_gatherWorths_46 (by decide) ?_
      rw [show (j : Int) + 1 = ((j + 1 : Nat) : Int) by omega, show ((q : Int) * 6 + (j : Int)).toNat = q * 6 + j by omega]
      refine ih (j + 1) _ (by omega) (by omega) (hF.up (by decide) _ _) (fun row j2 h1 h2 h3 h4 h5 => ?_)
      rw [up_if]
      by_cases hc : row * 6 + j2 = q * 6 + j
      · have hr : row = q := by omega
        have hj2 : j2 = j := by omega
        subst hr
        subst hj2
        rw [if_pos ⟨rfl, rfl⟩]
        rw [show ((row : Int) / 6).toNat = row / 6 by omega, show (1 - (row : Int) / 6).toNat = 1 - row / 6 by omega, show ((row : Int) % 6).toNat = row % 6 by omega, Int.toNat_natCast, if_pos (by omega)]
      · rw [if_neg (by omega)]
        exact hp row j2 h1 h2 (by omega) h4 h5
theorem l_gw1 {G : Gt} {d : Nat} {D : Mk} {σ : St} (hd : 2 ≤ d) (hS : Sta σ) (hR : RepC D σ) (hW : WFm D) : ∀ (nn : Nat) (q : Nat) (x2 : Option AV) (τ : St), (12 - q) < nn → q ≤ 12 → Fr [28] σ τ → (∀ row jj : Nat, row < 12 → jj < 6 → (row < q ∨ (row = q ∧ jj < 0)) → ((row % 6 : Nat) : Int) < D 0 (row / 6) → (jj : Int) < D 0 (1 - row / 6) → τ.2.1 28 (row * 6 + jj) = wo D (row / 6) (row % 6) jj) →  AW mX9_gatherWorths G d 0 0 (mq G (fun ro ρ => ro = none ∧ wosC D ρ ∧ Fr [28] σ ρ)) 2 [some (vR 26), some (vI (q : Int)), x2] [] τ := by
  intro nn
  induction nn with
  | zero => intros; omega
  | succ nn ih =>
    intro q x2 τ hn hq hF hp
    refine AW_iload_n dX9_gatherWorths_2 rfl ?_
    refine AW_bipush dX9_gatherWorths_3 ?_
    refine AW_icmp_ge (tgt := 55) dX9_gatherWorths_5 (by decide) (fun c_5 => ?_) (fun c_5 => ?_)
    · skip
      refine AW_vret dX9_gatherWorths_55 rfl ?_
      refine ⟨rfl, fun s i j hs hi hj h1 h2 => ?_, hF⟩
      have e1 : (6 * s + i) / 6 = s := by omega
      have e2 : (6 * s + i) % 6 = i := by omega
      have := hp (6 * s + i) j (by omega) hj (by omega) (by rw [e1, e2]; exact h1) (by rw [e1]; exact h2)
      rw [e1, e2] at this
      exact this
    · skip
      refine AW_iconst dX9_gatherWorths_8 ?_
      refine AW_istore2 dX9_gatherWorths_9 ?_
      refine l_gw2 hd hS hR hW (q := q) (by omega) (fun τ2 hF2 hp2 => ?_) 7 0 τ (by omega) (by omega) hF hp
      refine AW_iincE1 dX9_gatherWorths_49 (by omega) (by omega) ?_
      refine AW_goto (tgt := 2) dX9_gatherWorths_52 (by decide) ?_
      rw [show (q : Int) + 1 = ((q + 1 : Nat) : Int) by omega]
      exact ih (q + 1) _ τ2 (by omega) (by omega) hF2 hp2
theorem k_gw {G : Gt} {d : Nat} {σ : St} (hd : 2 ≤ d) {D : Mk} (hS : Sta σ) (hR : RepC D σ) (hW : WFm D)  : AM mX9_gatherWorths G d 0 0 [vR 26] σ (fun ro ρ => ro = none ∧ wosC D ρ ∧ Fr [28] σ ρ) := by
  refine AM.intro (by decide +kernel) (by simp [nLg]) (Nat.le_of_ble_eq_true rfl) (fun hO => ?_)
  show AW _ _ _ _ _ _ 0 [some (vR 26), none, none] [] σ
  refine AW_iconst dX9_gatherWorths_0 ?_
  refine AW_istore1 dX9_gatherWorths_1 ?_
  exact l_gw1 hd hS hR hW 13 0 none σ (by omega) (by omega) Fr.rf (fun row j h1 h2 h3 => by omega)
