theorem l_choose {G : Gt} {d : Nat} {D : Mk} {σ : St} {side : Int} {f : Nat} (hd : 3 ≤ d) (hS : Sta σ) (hR : RepC D σ) (hW : WFm D) (hs : side = 0 ∨ side = 1) (hf : (f : Int) < D 0 side.toNat) : ∀ (nn : Nat) (n : Nat) (x6 : Option AV) (τ : St), (7 - n) < nn → (f : Int) + n ≤ D 0 side.toNat → Fo 23 [6, 7, 8] [] σ τ → (n = 0 ∨ (τ.2.1 23 6 = ((chB D side.toNat f n).1 : Int) ∧ τ.2.1 23 7 = (chB D side.toNat f n).2.1 ∧ τ.2.1 23 8 = (chB D side.toNat f n).2.2)) →  AW mX6_choose G d 0 0 (mq G (fun ro ρ => ro = none ∧ Fo 23 [6, 7, 8] [] σ ρ ∧ ρ.2.1 23 6 = ((chT D side.toNat f).1 : Int) ∧ ρ.2.1 23 7 = (chT D side.toNat f).2.1 ∧ ρ.2.1 23 8 = (chT D side.toNat f).2.2)) 26 [some (vR 23), some (vI side), some (vI (f : Int)), some (vI (chU D side.toNat f n)), some (vI (chD D side.toNat f n)), some (vI ((f : Int) + n)), x6] [] τ := by
  intro nn
  induction nn with
  | zero => intros; omega
  | succ nn ih =>
    intro n x6 τ hn hfn hF hI
    have hb := hW.1 side.toNat (by omega)
    have u5 := chU_in hW (f := f) (s := side.toNat) (by omega) n (by omega)
    have u6 := chD_in hW (f := f) (s := side.toNat) (by omega) n (by omega)
    refine AW_iload dX6_choose_26 rfl ?_
    refine AW_aload_n dX6_choose_28 rfl ?_
    refine AW_getR (a := 17) dX6_choose_29 gfX6_24 ((hF.sta hS).cel rfl) ((hF.sta hS).rf rfl) ?_
    refine AW_iload_n dX6_choose_32 rfl ?_
    refine AW_callV1 (d' := d - 1) dX6_choose_33 (Or.inl lkX6_40) mfX3_count ((hF.sta hS).cel rfl) ⟨_, rfl, rfl⟩ (k_count (by omega) (hF.sta hS) (hR.fr hF.1) side) (by omega) (Nat.le_of_ble_eq_true rfl) ?_
    rintro _ _ ⟨e_, rfl⟩ -
    rw [e_]
    clear e_
    rw [if_pos (by omega)]
    refine AW_icmp_ge (tgt := 124) dX6_choose_36 (by decide) (fun c_36 => ?_) (fun c_36 => ?_)
    · skip
      refine AW_vret dX6_choose_124 rfl ?_
      have en : (D 0 side.toNat).toNat - f = n := by omega
      unfold chT
      rw [en]
      rcases hI with q | q
      · exact absurd q (by omega)
      · exact ⟨rfl, hF, q⟩
    · skip
      have e3 : chU D side.toNat f (n + 1) = chU D side.toNat f n + D 2 (6 * side.toNat + (f + n)) * D 1 (6 * side.toNat + (f + n)) := rfl
      have e4 : chD D side.toNat f (n + 1) = chD D side.toNat f n + D 2 (6 * side.toNat + (f + n)) := rfl
      have u1 := chU_in hW (f := f) (s := side.toNat) (by omega) (n + 1) (by omega)
      have u2 := chD_in hW (f := f) (s := side.toNat) (by omega) (n + 1) (by omega)
      have u3 := mul0 (hW.2.2.1 (6 * side.toNat + (f + n)) (by omega)) (hW.2.1 (6 * side.toNat + (f + n)) (by omega))
      have u4 := hW.2.2.1 (6 * side.toNat + (f + n)) (by omega)
      refine AW_aload_n dX6_choose_39 rfl ?_
      refine AW_getR (a := 17) dX6_choose_40 gfX6_24 ((hF.sta hS).cel rfl) ((hF.sta hS).rf rfl) ?_
      refine AW_iload_n dX6_choose_43 rfl ?_
      refine AW_iload dX6_choose_44 rfl ?_
      refine AW_callV2 (d' := d - 1) dX6_choose_46 (Or.inl lkX6_69) mfX3_oftenOf ((hF.sta hS).cel rfl) ⟨_, rfl, rfl⟩ (k_oftenOf (by omega) (hF.sta hS) (hR.fr hF.1) hW side _) (by omega) (Nat.le_of_ble_eq_true rfl) ?_
      rintro _ _ ⟨e_, rfl⟩ -
      rw [e_]
      clear e_
      rw [if_pos (by omega), show ((f : Int) + n).toNat = f + n by omega]
      refine AW_istore6 dX6_choose_49 ?_
      refine AW_iload_n dX6_choose_51 rfl ?_
      refine AW_iload dX6_choose_52 rfl ?_
      refine AW_aload_n dX6_choose_54 rfl ?_
      refine AW_getR (a := 17) dX6_choose_55 gfX6_24 ((hF.sta hS).cel rfl) ((hF.sta hS).rf rfl) ?_
      refine AW_iload_n dX6_choose_58 rfl ?_
      refine AW_iload dX6_choose_59 rfl ?_
      refine AW_callV2 (d' := d - 1) dX6_choose_61 (Or.inl lkX6_73) mfX3_lookOf ((hF.sta hS).cel rfl) ⟨_, rfl, rfl⟩ (k_lookOf (by omega) (hF.sta hS) (hR.fr hF.1) hW side _) (by omega) (Nat.le_of_ble_eq_true rfl) ?_
      rintro _ _ ⟨e_, rfl⟩ -
      rw [e_]
      clear e_
      rw [if_pos (by omega), show ((f : Int) + n).toNat = f + n by omega]
      refine AW_imulE dX6_choose_64 (by omega) (by omega) ?_
      refine AW_iaddE dX6_choose_65 (by omega) (by omega) ?_
      refine AW_istore3 dX6_choose_66 ?_
      refine AW_iload dX6_choose_67 rfl ?_
      refine AW_iload dX6_choose_69 rfl ?_
      refine AW_iaddE dX6_choose_71 (by omega) (by omega) ?_
      refine AW_istore4 dX6_choose_72 ?_
      refine AW_iload dX6_choose_74 rfl ?_
      refine AW_iload_n dX6_choose_76 rfl ?_
      refine AW_icmp_eq (tgt := 101) dX6_choose_77 (by decide) (fun c_77 => ?_) (fun c_77 => ?_)
      · skip
        refine AW_aload_n dX6_choose_101 rfl ?_
        refine AW_iload dX6_choose_102 rfl ?_
        refine AW_putI dX6_choose_104 (Or.inl pfX6_60) ((hF.sta hS).cel rfl) ?_
        refine AW_aload_n dX6_choose_107 rfl ?_
        refine AW_iload_n dX6_choose_108 rfl ?_
        refine AW_putI dX6_choose_109 (Or.inl pfX6_57) ((hF.sta hS).cel rfl) ?_
        refine AW_aload_n dX6_choose_112 rfl ?_
        refine AW_iload dX6_choose_113 rfl ?_
        refine AW_putI dX6_choose_115 (Or.inl pfX6_63) ((hF.sta hS).cel rfl) ?_
        refine AW_iincE5 dX6_choose_118 (by omega) (by omega) ?_
        refine AW_goto (tgt := 26) dX6_choose_121 (by decide) ?_
        rw [← e3, ← e4, show (f : Int) + n + 1 = (f : Int) + ((n + 1 : Nat) : Int) by omega]
        refine ih (n + 1) _ _ (by omega) (by omega) (((hF.uf (by decide) _).uf (by decide) _).uf (by decide) _) (Or.inr ?_)
        have ec : chB D side.toNat f (n + 1) = (f + n, chU D side.toNat f (n + 1), chD D side.toNat f (n + 1)) := by
          show (if _ then _ else _) = _
          rw [if_pos (Or.inl (by omega))]
        rw [ec]
        refine ⟨?_, ?_, ?_⟩
        · rw [up_j _ _ _ (by decide), up_j _ _ _ (by decide), up_at]
          show (f : Int) + n = ((f + n : Nat) : Int)
          omega
        · rw [up_j _ _ _ (by decide), up_at]
        · rw [up_at]
      · skip
        obtain ⟨i1, i2, i3⟩ : τ.2.1 23 6 = ((chB D side.toNat f n).1 : Int) ∧ τ.2.1 23 7 = (chB D side.toNat f n).2.1 ∧ τ.2.1 23 8 = (chB D side.toNat f n).2.2 := by
          rcases hI with q | q
          · exact absurd q (by omega)
          · exact q
        have u7 := chB_in hW (f := f) (s := side.toNat) (by omega) n (by omega) (by omega)
        have m1 := mulb (x := chU D side.toNat f n + D 2 (6 * side.toNat + (f + n)) * D 1 (6 * side.toNat + (f + n))) (y := (chB D side.toNat f n).2.2) (A := 6000000) (B := 7000) (by omega) (by omega) (by decide)
        have m2 := mulb (x := (chB D side.toNat f n).2.1) (y := chD D side.toNat f n + D 2 (6 * side.toNat + (f + n))) (A := 6000000) (B := 7000) (by omega) (by omega) (by decide)
        refine AW_iload_n dX6_choose_80 rfl ?_
        refine AW_i2l dX6_choose_81 ?_
        refine AW_aload_n dX6_choose_82 rfl ?_
        refine AW_getI dX6_choose_83 gfX6_63 ((hF.sta hS).cel rfl) ?_
        refine AW_i2l dX6_choose_86 ?_
        refine AW_lmulE dX6_choose_87 (by rw [i3]; omega) ?_
        refine AW_aload_n dX6_choose_88 rfl ?_
        refine AW_getI dX6_choose_89 gfX6_57 ((hF.sta hS).cel rfl) ?_
        refine AW_i2l dX6_choose_92 ?_
        refine AW_iload dX6_choose_93 rfl ?_
        refine AW_i2l dX6_choose_95 ?_
        refine AW_lmulE dX6_choose_96 (by rw [i2]; omega) ?_
        refine AW_lcmp dX6_choose_97 ?_
        refine AW_if_le (tgt := 118) dX6_choose_98 (by decide) (fun c_98 => ?_) (fun c_98 => ?_)
        · skip
          rw [lc_le, ← e3, ← e4] at c_98
          refine AW_iincE5 dX6_choose_118 (by omega) (by omega) ?_
          refine AW_goto (tgt := 26) dX6_choose_121 (by decide) ?_
          rw [← e3, ← e4, show (f : Int) + n + 1 = (f : Int) + ((n + 1 : Nat) : Int) by omega]
          refine ih (n + 1) _ _ (by omega) (by omega) hF (Or.inr ?_)
          have ec : chB D side.toNat f (n + 1) = chB D side.toNat f n := by
            show (if _ then _ else _) = _
            rw [if_neg]
            rw [i2, i3] at c_98
            omega
          rw [ec]
          exact ⟨i1, i2, i3⟩
        · skip
          rw [lc_le, ← e3, ← e4] at c_98
          refine AW_aload_n dX6_choose_101 rfl ?_
          refine AW_iload dX6_choose_102 rfl ?_
          refine AW_putI dX6_choose_104 (Or.inl pfX6_60) ((hF.sta hS).cel rfl) ?_
          refine AW_aload_n dX6_choose_107 rfl ?_
          refine AW_iload_n dX6_choose_108 rfl ?_
          refine AW_putI dX6_choose_109 (Or.inl pfX6_57) ((hF.sta hS).cel rfl) ?_
          refine AW_aload_n dX6_choose_112 rfl ?_
          refine AW_iload dX6_choose_113 rfl ?_
          refine AW_putI dX6_choose_115 (Or.inl pfX6_63) ((hF.sta hS).cel rfl) ?_
          refine AW_iincE5 dX6_choose_118 (by omega) (by omega) ?_
          refine AW_goto (tgt := 26) dX6_choose_121 (by decide) ?_
          rw [← e3, ← e4, show (f : Int) + n + 1 = (f : Int) + ((n + 1 : Nat) : Int) by omega]
          refine ih (n + 1) _ _ (by omega) (by omega) (((hF.uf (by decide) _).uf (by decide) _).uf (by decide) _) (Or.inr ?_)
          have ec : chB D side.toNat f (n + 1) = (f + n, chU D side.toNat f (n + 1), chD D side.toNat f (n + 1)) := by
            show (if _ then _ else _) = _
            rw [if_pos (Or.inr (by rw [i2, i3] at c_98; omega))]
          rw [ec]
          refine ⟨?_, ?_, ?_⟩
          · rw [up_j _ _ _ (by decide), up_j _ _ _ (by decide), up_at]
            show (f : Int) + n = ((f + n : Nat) : Int)
            omega
          · rw [up_j _ _ _ (by decide), up_at]
          · rw [up_at]
theorem k_choose {G : Gt} {d : Nat} {σ : St} (hd : 3 ≤ d) {D : Mk} {f : Nat} (hS : Sta σ) (hR : RepC D σ) (hW : WFm D) (hf : (f : Int) < 7) (side : Int) (hs : side = 0 ∨ side = 1) (hf2 : (f : Int) < D 0 side.toNat)  : AM mX6_choose G d 0 0 [vR 23, vI side, (vI (f : Int))] σ (fun ro ρ => ro = none ∧ Fo 23 [6, 7, 8] [] σ ρ ∧ ρ.2.1 23 6 = ((chT D side.toNat f).1 : Int) ∧ ρ.2.1 23 7 = (chT D side.toNat f).2.1 ∧ ρ.2.1 23 8 = (chT D side.toNat f).2.2) := by
  refine AM.intro (by decide +kernel) (by simp [nLg]) (Nat.le_of_ble_eq_true rfl) (fun hO => ?_)
  have i_side : -2147483648 ≤ side ∧ side < 2147483648 := hO (vI side) (by simp)
  show AW _ _ _ _ _ _ 0 [some (vR 23), some (vI side), some ((vI (f : Int))), none, none, none, none] [] σ
  refine AW_sipush dX6_choose_0 ?_
  refine AW_aload_n dX6_choose_3 rfl ?_
  refine AW_getR (a := 17) dX6_choose_4 gfX6_24 (hS.cel rfl) (hS.rf rfl) ?_
  refine AW_iconst dX6_choose_7 ?_
  refine AW_callV1 (d' := d - 1) dX6_choose_8 (Or.inl lkX6_66) mfX3_setting (hS.cel rfl) ⟨_, rfl, rfl⟩ (k_setting hS hR 0) (by omega) (Nat.le_of_ble_eq_true rfl) ?_
  rintro _ _ ⟨e_, rfl⟩ -
  rw [e_]
  clear e_
  have w0 := hW.2.2.2.2.1
  rw [if_pos (by omega), show Int.toNat 0 = 0 from rfl]
  refine AW_imulE dX6_choose_11 (by omega) (by omega) ?_
  refine AW_istore3 dX6_choose_12 ?_
  refine AW_aload_n dX6_choose_13 rfl ?_
  refine AW_getR (a := 17) dX6_choose_14 gfX6_24 (hS.cel rfl) (hS.rf rfl) ?_
  refine AW_iconst dX6_choose_17 ?_
  refine AW_callV1 (d' := d - 1) dX6_choose_18 (Or.inl lkX6_66) mfX3_setting (hS.cel rfl) ⟨_, rfl, rfl⟩ (k_setting hS hR 1) (by omega) (Nat.le_of_ble_eq_true rfl) ?_
  rintro _ _ ⟨e_, rfl⟩ -
  rw [e_]
  clear e_
  rw [if_pos (by omega), show Int.toNat 1 = 1 from rfl]
  refine AW_istore4 dX6_choose_21 ?_
  refine AW_iload_n dX6_choose_23 rfl ?_
  refine AW_istore5 dX6_choose_24 ?_
  exact l_choose hd hS hR hW hs hf2 8 0 none σ (by omega) (by omega) Fo.rf (Or.inl rfl)
