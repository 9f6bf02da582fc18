def rowsOK (D : Mk) (σ : St) (m : Nat) : Prop := ∀ k, k < m → σ.2.1 24 (6 * k) = ((chT D 0 (clA D k).1).1 : Int) ∧ σ.2.1 24 (6 * k + 1) = ((chT D 1 (clA D k).2).1 : Int) ∧ σ.2.1 24 (6 * k + 2) = (chT D 1 (clA D k).2).2.1 ∧ σ.2.1 24 (6 * k + 3) = (chT D 1 (clA D k).2).2.2 ∧ σ.2.1 24 (6 * k + 4) = (chT D 0 (clA D k).1).2.1 ∧ σ.2.1 24 (6 * k + 5) = (chT D 0 (clA D k).1).2.2
/-- so many classes are found -/
def rkI (D : Mk) (σ : St) (m : Nat) : Prop := σ.2.1 23 4 = m ∧ σ.2.1 25 0 = (clA D m).1 ∧ σ.2.1 25 1 = (clA D m).2 ∧ rowsOK D σ m ∧ ∀ k, k < m → clOk D k
theorem rowsOK.keep {D : Mk} {σ τ : St} {m : Nat} (h : rowsOK D σ m) (hk : ∀ j, j < 6 * m → τ.2.1 24 j = σ.2.1 24 j) : rowsOK D τ m := by
  intro k hkm
  obtain ⟨h0, h1, h2, h3, h4, h5⟩ := h k hkm
  exact ⟨(hk _ (by omega)).trans h0, (hk _ (by omega)).trans h1, (hk _ (by omega)).trans h2, (hk _ (by omega)).trans h3, (hk _ (by omega)).trans h4, (hk _ (by omega)).trans h5⟩
theorem k_addClass {G : Gt} {d : Nat} {σ : St} (hd : 4 ≤ d) {D : Mk} {m : Nat} (hS : Sta σ) (hR : RepC D σ) (hW : WFm D) (hI : rkI D σ m)  : AM mX6_addClass G d 0 0 [vR 23] σ (fun ro ρ => Fo 23 [4, 6, 7, 8] [24, 25] σ ρ ∧ ((clOk D m ∧ ro = some (vI 1) ∧ rkI D ρ (m + 1)) ∨ (¬ clOk D m ∧ ro = some (vI 0) ∧ rkI D ρ m))) := by
  refine AM.intro (by decide +kernel) (by simp [nLg]) (Nat.le_of_ble_eq_true rfl) (fun hO => ?_)
  show AW _ _ _ _ _ _ 0 [some (vR 23), none, none] [] σ
  have hA := clA_in hW m hI.2.2.2.2
  have c0 := hW.1 0 (by decide)
  have c1 := hW.1 1 (by decide)
  have hm := hI.1
  refine AW_aload_n dX6_addClass_0 rfl ?_
  refine AW_getI dX6_addClass_1 gfX6_32 (hS.cel rfl) ?_
  refine AW_bipush dX6_addClass_4 ?_
  refine AW_imulE dX6_addClass_6 (by omega) (by omega) ?_
  refine AW_istore1 dX6_addClass_7 ?_
  refine AW_iload_n dX6_addClass_8 rfl ?_
  refine AW_bipush dX6_addClass_9 ?_
  refine AW_iaddE dX6_addClass_11 (by omega) (by omega) ?_
  refine AW_aload_n dX6_addClass_12 rfl ?_
  refine AW_getR (a := 24) dX6_addClass_13 gfX6_13 (hS.cel rfl) (hS.rf rfl) ?_
  refine AW_alen dX6_addClass_16 (hS.cel rfl) (by decide) (by decide) ?_
  refine AW_icmp_le (tgt := 22) dX6_addClass_17 (by decide) (fun c_17 => ?_) (fun c_17 => ?_)
  · skip
    refine AW_aload_n dX6_addClass_22 rfl ?_
    refine AW_getR (a := 25) dX6_addClass_23 gfX6_17 (hS.cel rfl) (hS.rf rfl) ?_
    refine AW_iconst dX6_addClass_26 ?_
    refine AW_ialdK 0 dX6_addClass_27 (hS.cel rfl) (by decide) ?_
    refine AW_aload_n dX6_addClass_28 rfl ?_
    refine AW_getR (a := 17) dX6_addClass_29 gfX6_24 (hS.cel rfl) (hS.rf rfl) ?_
    refine AW_iconst dX6_addClass_32 ?_
    refine AW_callV1 (d' := d - 1) dX6_addClass_33 (Or.inl lkX6_40) mfX3_count (hS.cel rfl) ⟨_, rfl, rfl⟩ (k_count (by omega) hS hR 0) (by omega) (Nat.le_of_ble_eq_true rfl) ?_
    rintro _ _ ⟨e_, rfl⟩ -
    rw [e_]
    clear e_
    rw [if_pos (by decide), show Int.toNat 0 = 0 from rfl]
    refine AW_icmp_ge (tgt := 56) dX6_addClass_36 (by decide) (fun c_36 => ?_) (fun c_36 => ?_)
    · skip
      refine AW_iconst dX6_addClass_56 ?_
      refine AW_zret dX6_addClass_57 rfl (by decide) ?_
      refine ⟨Fo.rf, Or.inr ⟨fun h => ?_, rfl, hI⟩⟩
      have g1 := h.1
      have g2 := h.2.1
      have g3 := hI.2.1
      have g4 := hI.2.2.1
      omega
    · skip
      refine AW_aload_n dX6_addClass_39 rfl ?_
      refine AW_getR (a := 25) dX6_addClass_40 gfX6_17 (hS.cel rfl) (hS.rf rfl) ?_
      refine AW_iconst dX6_addClass_43 ?_
      refine AW_ialdK 1 dX6_addClass_44 (hS.cel rfl) (by decide) ?_
      refine AW_aload_n dX6_addClass_45 rfl ?_
      refine AW_getR (a := 17) dX6_addClass_46 gfX6_24 (hS.cel rfl) (hS.rf rfl) ?_
      refine AW_iconst dX6_addClass_49 ?_
      refine AW_callV1 (d' := d - 1) dX6_addClass_50 (Or.inl lkX6_40) mfX3_count (hS.cel rfl) ⟨_, rfl, rfl⟩ (k_count (by omega) hS hR 1) (by omega) (Nat.le_of_ble_eq_true rfl) ?_
      rintro _ _ ⟨e_, rfl⟩ -
      rw [e_]
      clear e_
      rw [if_pos (by decide), show Int.toNat 1 = 1 from rfl]
      refine AW_icmp_lt (tgt := 58) dX6_addClass_53 (by decide) (fun c_53 => ?_) (fun c_53 => ?_)
      · skip
        have q0 : ((clA D m).1 : Int) < D 0 0 := by have := hI.2.1; omega
        have q1 : ((clA D m).2 : Int) < D 0 1 := by have := hI.2.2.1; omega
        have t1 := chT_in hW (s := 1) (by decide) q1
        have t0 := chT_in hW (s := 0) (by decide) q0
        refine AW_aload_n dX6_addClass_58 rfl ?_
        refine AW_iconst dX6_addClass_59 ?_
        refine AW_aload_n dX6_addClass_60 rfl ?_
        refine AW_getR (a := 25) dX6_addClass_61 gfX6_17 (hS.cel rfl) (hS.rf rfl) ?_
        refine AW_iconst dX6_addClass_64 ?_
        refine AW_ialdK 1 dX6_addClass_65 (hS.cel rfl) (by decide) ?_
        rw [show σ.2.1 25 1 = ((clA D m).2 : Int) from hI.2.2.1]
        refine AW_callV2 (d' := d - 1) dX6_addClass_66 (Or.inl lkX6_53) mfX6_choose (hS.cel rfl) ⟨_, rfl, rfl⟩ (k_choose (by omega) hS hR hW (by omega) 1 (by decide) q1) (by omega) (Nat.le_of_ble_eq_true rfl) ?_
        rintro _ ρ1 ⟨rfl, hF1, a1, a2, a3⟩ -
        have hS1 := hF1.sta hS
        have hR1 := hR.fr hF1.1
        have hF1' : Fo 23 [4, 6, 7, 8] [24, 25] σ ρ1 := hF1.mo (by decide) (by decide)
        refine AW_aload_n dX6_addClass_69 rfl ?_
        refine AW_getI dX6_addClass_70 gfX6_57 (hS1.cel rfl) ?_
        refine AW_if_ge (tgt := 78) dX6_addClass_73 (by decide) (fun c_73 => ?_) (fun c_73 => ?_)
        · skip
          refine AW_aload_n dX6_addClass_78 rfl ?_
          refine AW_getI dX6_addClass_79 gfX6_60 (hS1.cel rfl) ?_
          refine AW_istore2 dX6_addClass_82 ?_
          refine AW_aload_n dX6_addClass_83 rfl ?_
          refine AW_getR (a := 24) dX6_addClass_84 gfX6_13 (hS1.cel rfl) (hS1.rf rfl) ?_
          refine AW_iload_n dX6_addClass_87 rfl ?_
          refine AW_iconst dX6_addClass_88 ?_
          refine AW_iaddE dX6_addClass_89 (by omega) (by omega) ?_
          refine AW_aload_n dX6_addClass_90 rfl ?_
          refine AW_getI dX6_addClass_91 gfX6_57 (hS1.cel rfl) ?_
          refine AW_iast dX6_addClass_94 (hS1.cel rfl) (by omega) (by omega) ?_
          refine AW_aload_n dX6_addClass_95 rfl ?_
          refine AW_getR (a := 24) dX6_addClass_96 gfX6_13 (hS1.cel rfl) (hS1.rf rfl) ?_
          refine AW_iload_n dX6_addClass_99 rfl ?_
          refine AW_iconst dX6_addClass_100 ?_
          refine AW_iaddE dX6_addClass_101 (by omega) (by omega) ?_
          refine AW_aload_n dX6_addClass_102 rfl ?_
          refine AW_getI dX6_addClass_103 gfX6_63 (hS1.cel rfl) ?_
          (repeat (first | rw [up_r _ _ _ _ (by decide)] | rw [up_j _ _ _ (by decide)] | rw [up_at]))
          refine AW_iast dX6_addClass_106 (hS1.cel rfl) (by omega) (by omega) ?_
          refine AW_aload_n dX6_addClass_107 rfl ?_
          refine AW_iconst dX6_addClass_108 ?_
          refine AW_aload_n dX6_addClass_109 rfl ?_
          refine AW_getR (a := 25) dX6_addClass_110 gfX6_17 (hS1.cel rfl) (hS1.rf rfl) ?_
          refine AW_iconst dX6_addClass_113 ?_
          refine AW_ialdK 0 dX6_addClass_114 (hS1.cel rfl) (by decide) ?_
          (repeat (first | rw [up_r _ _ _ _ (by decide)] | rw [up_j _ _ _ (by decide)] | rw [up_at]))
          rw [hF1.a 25 0, hI.2.1]
          refine AW_callV2 (d' := d - 1) dX6_addClass_115 (Or.inl lkX6_53) mfX6_choose (hS1.cel rfl) ⟨_, rfl, rfl⟩ (k_choose (f := (clA D m).1) (by omega) ((hS1.up _ _ _).up _ _ _) (hR.fr (L := [23, 24, 25]) ((hF1'.ua (r := 24) (by decide) (by decide) _ _).ua (r := 24) (by decide) (by decide) _ _).1) hW (by omega) 0 (by decide) q0) (by omega) (Nat.le_of_ble_eq_true rfl) ?_
          rintro _ ρ2 ⟨rfl, hF2, b1, b2, b3⟩ -
          have hS2 := hF2.sta hS1
          have hF2' : Fo 23 [4, 6, 7, 8] [24, 25] σ ρ2 := ((hF1'.ua (by decide) (by decide) _ _).ua (by decide) (by decide) _ _).tr (hF2.mo (by decide) (by decide))
          have q2 : ∀ j, ρ2.2.1 24 j = if j = 6 * m + 3 then ρ1.2.1 23 8 else if j = 6 * m + 2 then ρ1.2.1 23 7 else σ.2.1 24 j := by
            intro j
            rw [hF2.a 24 j, up_if, up_if, hF1.a 24 j, hI.1]
            by_cases c1 : j = 6 * m + 3
            · rw [if_pos c1, if_pos ⟨rfl, by omega⟩]
            · rw [if_neg c1, if_neg (by omega)]
              by_cases c2 : j = 6 * m + 2
              · rw [if_pos c2, if_pos ⟨rfl, by omega⟩]
              · rw [if_neg c2, if_neg (by omega)]
          have n2 : ∀ j, ρ2.2.1 25 j = σ.2.1 25 j := by
            intro j
            rw [hF2.a 25 j, up_r _ _ _ _ (by decide), up_r _ _ _ _ (by decide), hF1.a 25 j]
          have t1' : ρ1.2.1 23 6 = ((chT D 1 (clA D m).2).1 : Int) := a1
          have t0' : ρ2.2.1 23 6 = ((chT D 0 (clA D m).1).1 : Int) := b1
          have k2 : ρ2.2.1 23 4 = m := by
            rw [hF2.f 4, up_r _ _ _ _ (by decide), up_r _ _ _ _ (by decide), hF1.f 4, hI.1]
          refine AW_aload_n dX6_addClass_118 rfl ?_
          refine AW_getI dX6_addClass_119 gfX6_57 (hS2.cel rfl) ?_
          refine AW_if_ge (tgt := 127) dX6_addClass_122 (by decide) (fun c_122 => ?_) (fun c_122 => ?_)
          · skip
            refine AW_aload_n dX6_addClass_127 rfl ?_
            refine AW_getR (a := 24) dX6_addClass_128 gfX6_13 (hS2.cel rfl) (hS2.rf rfl) ?_
            refine AW_iload_n dX6_addClass_131 rfl ?_
            refine AW_aload_n dX6_addClass_132 rfl ?_
            refine AW_getI dX6_addClass_133 gfX6_60 (hS2.cel rfl) ?_
            refine AW_iast dX6_addClass_136 (hS2.cel rfl) (by omega) (by omega) ?_
            refine AW_aload_n dX6_addClass_137 rfl ?_
            refine AW_getR (a := 24) dX6_addClass_138 gfX6_13 (hS2.cel rfl) (hS2.rf rfl) ?_
            refine AW_iload_n dX6_addClass_141 rfl ?_
            refine AW_iconst dX6_addClass_142 ?_
            refine AW_iaddE dX6_addClass_143 (by omega) (by omega) ?_
            refine AW_iload_n dX6_addClass_144 rfl ?_
            refine AW_iast dX6_addClass_145 (hS2.cel rfl) (by omega) (by omega) ?_
            refine AW_aload_n dX6_addClass_146 rfl ?_
            refine AW_getR (a := 24) dX6_addClass_147 gfX6_13 (hS2.cel rfl) (hS2.rf rfl) ?_
            refine AW_iload_n dX6_addClass_150 rfl ?_
            refine AW_iconst dX6_addClass_151 ?_
            refine AW_iaddE dX6_addClass_152 (by omega) (by omega) ?_
            refine AW_aload_n dX6_addClass_153 rfl ?_
            refine AW_getI dX6_addClass_154 gfX6_57 (hS2.cel rfl) ?_
            (repeat (first | rw [up_r _ _ _ _ (by decide)] | rw [up_j _ _ _ (by decide)] | rw [up_at]))
            refine AW_iast dX6_addClass_157 (hS2.cel rfl) (by omega) (by omega) ?_
            refine AW_aload_n dX6_addClass_158 rfl ?_
            refine AW_getR (a := 24) dX6_addClass_159 gfX6_13 (hS2.cel rfl) (hS2.rf rfl) ?_
            refine AW_iload_n dX6_addClass_162 rfl ?_
            refine AW_iconst dX6_addClass_163 ?_
            refine AW_iaddE dX6_addClass_164 (by omega) (by omega) ?_
            refine AW_aload_n dX6_addClass_165 rfl ?_
            refine AW_getI dX6_addClass_166 gfX6_63 (hS2.cel rfl) ?_
            (repeat (first | rw [up_r _ _ _ _ (by decide)] | rw [up_j _ _ _ (by decide)] | rw [up_at]))
            refine AW_iast dX6_addClass_169 (hS2.cel rfl) (by omega) (by omega) ?_
            refine AW_aload_n dX6_addClass_170 rfl ?_
            refine AW_getR (a := 25) dX6_addClass_171 gfX6_17 (hS2.cel rfl) (hS2.rf rfl) ?_
            refine AW_iconst dX6_addClass_174 ?_
            refine AW_aload_n dX6_addClass_175 rfl ?_
            refine AW_getI dX6_addClass_176 gfX6_60 (hS2.cel rfl) ?_
            (repeat (first | rw [up_r _ _ _ _ (by decide)] | rw [up_j _ _ _ (by decide)] | rw [up_at]))
            refine AW_iconst dX6_addClass_179 ?_
            refine AW_iaddE dX6_addClass_180 (by omega) (by omega) ?_
            refine AW_iastK 0 dX6_addClass_181 (hS2.cel rfl) (by decide) ?_
            refine AW_aload_n dX6_addClass_182 rfl ?_
            refine AW_getR (a := 25) dX6_addClass_183 gfX6_17 (hS2.cel rfl) (hS2.rf rfl) ?_
            refine AW_iconst dX6_addClass_186 ?_
            refine AW_iload_n dX6_addClass_187 rfl ?_
            refine AW_iconst dX6_addClass_188 ?_
            refine AW_iaddE dX6_addClass_189 (by omega) (by omega) ?_
            refine AW_iastK 1 dX6_addClass_190 (hS2.cel rfl) (by decide) ?_
            refine AW_aload_n dX6_addClass_191 rfl ?_
            refine AW_dup dX6_addClass_192 ?_
            refine AW_getI dX6_addClass_193 gfX6_32 (hS2.cel rfl) ?_
            (repeat (first | rw [up_r _ _ _ _ (by decide)] | rw [up_j _ _ _ (by decide)] | rw [up_at]))
            refine AW_iconst dX6_addClass_196 ?_
            refine AW_iaddE dX6_addClass_197 (by omega) (by omega) ?_
            refine AW_putI dX6_addClass_198 (Or.inl pfX6_32) (hS2.cel rfl) ?_
            refine AW_iconst dX6_addClass_201 ?_
            refine AW_zret dX6_addClass_202 rfl (by decide) ?_
            rw [show ρ2.2.1 23 6 = ((chT D 0 (clA D m).1).1 : Int) from b1, show ρ2.2.1 23 7 = (chT D 0 (clA D m).1).2.1 from b2, show ρ2.2.1 23 8 = (chT D 0 (clA D m).1).2.2 from b3, show ρ1.2.1 23 6 = ((chT D 1 (clA D m).2).1 : Int) from a1, hm, k2]
            rw [show ρ1.2.1 23 7 = (chT D 1 (clA D m).2).2.1 from a2] at c_73 q2
            rw [show ρ1.2.1 23 8 = (chT D 1 (clA D m).2).2.2 from a3] at q2
            rw [show ρ2.2.1 23 7 = (chT D 0 (clA D m).1).2.1 from b2] at c_122
            refine ⟨(((((((hF2'.ua (by decide) (by decide) _ _).ua (by decide) (by decide) _ _).ua (by decide) (by decide) _ _).ua (by decide) (by decide) _ _).ua (by decide) (by decide) _ _).ua (by decide) (by decide) _ _).uf (by decide) _), Or.inl ⟨⟨q0, q1, c_73, c_122⟩, rfl, ?_⟩⟩
            refine ⟨?_, ?_, ?_, ?_, ?_⟩
            · rw [up_at]
              omega
            · rw [up_r _ _ _ _ (by decide), up_j _ _ _ (by decide), up_at]
              show _ = (((chT D 0 (clA D m).1).1 + 1 : Nat) : Int)
              omega
            · rw [up_r _ _ _ _ (by decide), up_at]
              show _ = (((chT D 1 (clA D m).2).1 + 1 : Nat) : Int)
              omega
            · have q3 : ∀ j, _ = _ := fun j => (by rw [up_r _ _ _ _ (by decide), up_r _ _ _ _ (by decide), up_r _ _ _ _ (by decide), up_if, up_if, up_if, up_if, q2 j] : (upI (upI (upI (upI (upI (upI (upI ρ2 24 ((m : Int) * 6).toNat ((chT D 0 (clA D m).1).1 : Int)) 24 ((m : Int) * 6 + 1).toNat ((chT D 1 (clA D m).2).1 : Int)) 24 ((m : Int) * 6 + 4).toNat (chT D 0 (clA D m).1).2.1) 24 ((m : Int) * 6 + 5).toNat (chT D 0 (clA D m).1).2.2) 25 0 (((chT D 0 (clA D m).1).1 : Int) + 1)) 25 1 (((chT D 1 (clA D m).2).1 : Int) + 1)) 23 4 ((m : Int) + 1)).2.1 24 j = if 24 = 24 ∧ j = ((m : Int) * 6 + 5).toNat then (chT D 0 (clA D m).1).2.2 else if 24 = 24 ∧ j = ((m : Int) * 6 + 4).toNat then (chT D 0 (clA D m).1).2.1 else if 24 = 24 ∧ j = ((m : Int) * 6 + 1).toNat then ((chT D 1 (clA D m).2).1 : Int) else if 24 = 24 ∧ j = ((m : Int) * 6).toNat then ((chT D 0 (clA D m).1).1 : Int) else if j = 6 * m + 3 then (chT D 1 (clA D m).2).2.2 else if j = 6 * m + 2 then (chT D 1 (clA D m).2).2.1 else σ.2.1 24 j)
              intro k hk
              by_cases hc : k < m
              · obtain ⟨g0, g1, g2, g3, g4, g5⟩ := hI.2.2.2.1 k hc
                refine ⟨?_, ?_, ?_, ?_, ?_, ?_⟩ <;> rw [q3, if_neg (by omega), if_neg (by omega), if_neg (by omega), if_neg (by omega), if_neg (by omega), if_neg (by omega)] <;> assumption
              · obtain rfl : k = m := by omega
                refine ⟨?_, ?_, ?_, ?_, ?_, ?_⟩
                · rw [q3, if_neg (by omega), if_neg (by omega), if_neg (by omega), if_pos (by omega)]
                · rw [q3, if_neg (by omega), if_neg (by omega), if_pos (by omega)]
                · rw [q3, if_neg (by omega), if_neg (by omega), if_neg (by omega), if_neg (by omega), if_neg (by omega), if_pos (by omega)]
                · rw [q3, if_neg (by omega), if_neg (by omega), if_neg (by omega), if_neg (by omega), if_pos (by omega)]
                · rw [q3, if_neg (by omega), if_pos (by omega)]
                · rw [q3, if_pos (by omega)]
            · intro k hk
              by_cases hc : k < m
              · exact hI.2.2.2.2 k hc
              · rw [show k = m by omega]
                exact ⟨q0, q1, c_73, c_122⟩
          · skip
            refine AW_iconst dX6_addClass_125 ?_
            refine AW_zret dX6_addClass_126 rfl (by decide) ?_
            refine ⟨hF2', Or.inr ⟨fun h => ?_, rfl, ?_⟩⟩
            · have := h.2.2.2
              rw [b2] at c_122
              exact c_122 this
            · refine ⟨k2, (n2 0).trans hI.2.1, (n2 1).trans hI.2.2.1, hI.2.2.2.1.keep (fun j hj => ?_), hI.2.2.2.2⟩
              rw [q2 j, if_neg (by omega), if_neg (by omega)]
        · skip
          refine AW_iconst dX6_addClass_76 ?_
          refine AW_zret dX6_addClass_77 rfl (by decide) ?_
          refine ⟨hF1', Or.inr ⟨fun h => ?_, rfl, ?_⟩⟩
          · have := h.2.2.1
            rw [a2] at c_73
            exact c_73 this
          · refine ⟨(hF1.f 4).trans hI.1, (hF1.a 25 0).trans hI.2.1, (hF1.a 25 1).trans hI.2.2.1, hI.2.2.2.1.keep (fun j _ => hF1.a 24 j), hI.2.2.2.2⟩
      · skip
        refine AW_iconst dX6_addClass_56 ?_
        refine AW_zret dX6_addClass_57 rfl (by decide) ?_
        refine ⟨Fo.rf, Or.inr ⟨fun h => ?_, rfl, hI⟩⟩
        have g1 := h.1
        have g2 := h.2.1
        have g3 := hI.2.1
        have g4 := hI.2.2.1
        omega
  · skip
    refine AW_iconst dX6_addClass_20 ?_
    refine AW_zret dX6_addClass_21 rfl (by decide) ?_
    refine ⟨Fo.rf, Or.inr ⟨fun h => ?_, rfl, hI⟩⟩
    have := h.1
    omega
