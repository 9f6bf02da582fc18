theorem ln_bar {G : Gt} {d : Nat} {D : Mk} {σ : St} {side : Int} {f : Nat} (hS : Sta σ) (hR : RepM D σ) (hW : WFm D) (hs : side = 0 ∨ side = 1) (hf : (f : Int) < D 0 side.toNat) : ∀ (nn : Nat) (n : Nat) (best : Int) (τ : St), (7 - n) < nn → (f : Int) + n ≤ D 0 side.toNat → Fm [16, 17] [] σ τ → ((n = 0 ∧ best = -1) ∨ (0 < n ∧ best = ((chB D side.toNat f n).1 : Int) ∧ τ.2.1 94 16 = (chB D side.toNat f n).2.1 ∧ τ.2.1 94 17 = (chB D side.toNat f n).2.2)) →  AW mX12_barFrom G d 0 0 (mq G (fun ro ρ => ro = some (vI ((chT D side.toNat f).1 : Int)) ∧ Fm [16, 17] [] σ ρ ∧ ρ.2.1 94 16 = (chT D side.toNat f).2.1 ∧ ρ.2.1 94 17 = (chT D side.toNat f).2.2)) 21 [some (vR 94), some (vI side), some (vI (f : Int)), some (vI best), some (vI (chU D side.toNat f n)), some (vI (chD D side.toNat f n)), some (vI ((f : Int) + n))] [] τ := by
  intro nn
  induction nn with
  | zero => intros; omega
  | succ nn ih =>
    intro n best τ hn hfn hF hI
    have hb := hW.1 side.toNat (by omega)
    have hRt := hR.fm hF
    have hb2 := hRt.1 side.toNat (by omega)
    have u5 := chU_in hW (f := f) (s := side.toNat) (by omega) n (by omega)
    have u6 := chD_in hW (f := f) (s := side.toNat) (by omega) n (by omega)
    refine AW_iload dX12_barFrom_21 rfl ?_
    refine AW_aload_n dX12_barFrom_23 rfl ?_
    refine AW_getR (a := 95) dX12_barFrom_24 gfX12_7 ((hF.sta hS).cel rfl) ((hF.sta hS).rf rfl) ?_
    refine AW_iload_n dX12_barFrom_27 rfl ?_
    refine AW_iald dX12_barFrom_28 ((hF.sta hS).cel rfl) (by omega) (by omega) ?_
    refine AW_icmp_ge (tgt := 130) dX12_barFrom_29 (by decide) (fun c_29 => ?_) (fun c_29 => ?_)
    · skip
      refine AW_iload_n dX12_barFrom_130 rfl ?_
      refine AW_iret dX12_barFrom_131 rfl ?_
      have en : (D 0 side.toNat).toNat - f = n := by omega
      unfold chT
      rw [en]
      rcases hI with q | q
      · exact absurd q.1 (by omega)
      · exact ⟨by rw [q.2.1], hF, q.2.2⟩
    · skip
      have e3 : chU D side.toNat f (n + 1) = chU D side.toNat f n + D 2 (6 * side.toNat + (f + n)) * D 1 (6 * side.toNat + (f + n)) := rfl
      have e4 : chD D side.toNat f (n + 1) = chD D side.toNat f n + D 2 (6 * side.toNat + (f + n)) := rfl
      have u1 := chU_in hW (f := f) (s := side.toNat) (by omega) (n + 1) (by omega)
      have u2 := chD_in hW (f := f) (s := side.toNat) (by omega) (n + 1) (by omega)
      have u3 := mul0 (hW.2.2.1 (6 * side.toNat + (f + n)) (by omega)) (hW.2.1 (6 * side.toNat + (f + n)) (by omega))
      have u4 := hW.2.2.1 (6 * side.toNat + (f + n)) (by omega)
      have e5 : (6 * side + ((f : Int) + n)).toNat = 6 * side.toNat + (f + n) := by omega
      have e6 := (hRt).2.2.1 (6 * side.toNat + (f + n)) (by omega)
      have e7 := (hRt).2.1 (6 * side.toNat + (f + n)) (by omega)
      refine AW_iload dX12_barFrom_32 rfl ?_
      refine AW_aload_n dX12_barFrom_34 rfl ?_
      refine AW_getR (a := 97) dX12_barFrom_35 gfX12_16 ((hF.sta hS).cel rfl) ((hF.sta hS).rf rfl) ?_
      refine AW_bipush dX12_barFrom_38 ?_
      refine AW_iload_n dX12_barFrom_40 rfl ?_
      refine AW_imulE dX12_barFrom_41 (by omega) (by omega) ?_
      refine AW_iload dX12_barFrom_42 rfl ?_
      refine AW_iaddE dX12_barFrom_44 (by omega) (by omega) ?_
      refine AW_iald dX12_barFrom_45 ((hF.sta hS).cel rfl) (by omega) (by omega) ?_
      refine AW_aload_n dX12_barFrom_46 rfl ?_
      refine AW_getR (a := 96) dX12_barFrom_47 gfX12_13 ((hF.sta hS).cel rfl) ((hF.sta hS).rf rfl) ?_
      refine AW_bipush dX12_barFrom_50 ?_
      refine AW_iload_n dX12_barFrom_52 rfl ?_
      refine AW_imulE dX12_barFrom_53 (by omega) (by omega) ?_
      refine AW_iload dX12_barFrom_54 rfl ?_
      refine AW_iaddE dX12_barFrom_56 (by omega) (by omega) ?_
      refine AW_iald dX12_barFrom_57 ((hF.sta hS).cel rfl) (by omega) (by omega) ?_
      rw [e5, e6, e7]
      refine AW_imulE dX12_barFrom_58 (by omega) (by omega) ?_
      refine AW_iaddE dX12_barFrom_59 (by omega) (by omega) ?_
      refine AW_istore4 dX12_barFrom_60 ?_
      refine AW_iload dX12_barFrom_62 rfl ?_
      refine AW_aload_n dX12_barFrom_64 rfl ?_
      refine AW_getR (a := 97) dX12_barFrom_65 gfX12_16 ((hF.sta hS).cel rfl) ((hF.sta hS).rf rfl) ?_
      refine AW_bipush dX12_barFrom_68 ?_
      refine AW_iload_n dX12_barFrom_70 rfl ?_
      refine AW_imulE dX12_barFrom_71 (by omega) (by omega) ?_
      refine AW_iload dX12_barFrom_72 rfl ?_
      refine AW_iaddE dX12_barFrom_74 (by omega) (by omega) ?_
      refine AW_iald dX12_barFrom_75 ((hF.sta hS).cel rfl) (by omega) (by omega) ?_
      rw [e5, e6]
      refine AW_iaddE dX12_barFrom_76 (by omega) (by omega) ?_
      refine AW_istore5 dX12_barFrom_77 ?_
      refine AW_iload_n dX12_barFrom_79 rfl ?_
      refine AW_iconst dX12_barFrom_80 ?_
      refine AW_icmp_eq (tgt := 109) dX12_barFrom_81 (by decide) (fun c_81 => ?_) (fun c_81 => ?_)
      · skip
        refine AW_iload dX12_barFrom_109 rfl ?_
        refine AW_istore3 dX12_barFrom_111 ?_
        refine AW_aload_n dX12_barFrom_112 rfl ?_
        refine AW_iload dX12_barFrom_113 rfl ?_
        refine AW_putI dX12_barFrom_115 (Or.inl pfX12_176) ((hF.sta hS).cel rfl) ?_
        refine AW_aload_n dX12_barFrom_118 rfl ?_
        refine AW_iload dX12_barFrom_119 rfl ?_
        refine AW_putI dX12_barFrom_121 (Or.inl pfX12_173) ((hF.sta hS).cel rfl) ?_
        refine AW_iincE6 dX12_barFrom_124 (by omega) (by omega) ?_
        refine AW_goto (tgt := 21) dX12_barFrom_127 (by decide) ?_
        rw [← e3, ← e4, show (f : Int) + n + 1 = (f : Int) + ((n + 1 : Nat) : Int) by omega]
        have ec : chB D side.toNat f (n + 1) = (f + n, chU D side.toNat f (n + 1), chD D side.toNat f (n + 1)) := by
          show (if _ then _ else _) = _
          rw [if_pos (Or.inl (hI.elim (fun q => q.1) (fun q => absurd q.2.1 (by omega))))]
        refine ih (n + 1) _ _ (by omega) (by omega) ((hF.uf (by decide) _).uf (by decide) _) (Or.inr ⟨by omega, ?_, ?_, ?_⟩)
        · rw [ec]
          show (f : Int) + n = ((f + n : Nat) : Int)
          omega
        · rw [ec, up_j _ _ _ (by decide), up_at]
        · rw [ec, up_at]
      · skip
        obtain ⟨i0, i1, i2, i3⟩ : 0 < n ∧ best = ((chB D side.toNat f n).1 : Int) ∧ τ.2.1 94 16 = (chB D side.toNat f n).2.1 ∧ τ.2.1 94 17 = (chB D side.toNat f n).2.2 := by
          rcases hI with q | q
          · exact absurd q.2 c_81
          · exact q
        have u7 := chB_in hW (f := f) (s := side.toNat) (by omega) n (by omega) (by omega)
        have m1 := mulb (x := chU D side.toNat f n + D 2 (6 * side.toNat + (f + n)) * D 1 (6 * side.toNat + (f + n))) (y := (chB D side.toNat f n).2.2) (A := 6000000) (B := 7000) (by omega) (by omega) (by decide)
        have m2 := mulb (x := (chB D side.toNat f n).2.1) (y := chD D side.toNat f n + D 2 (6 * side.toNat + (f + n))) (A := 6000000) (B := 7000) (by omega) (by omega) (by decide)
        refine AW_iload dX12_barFrom_84 rfl ?_
        refine AW_i2l dX12_barFrom_86 ?_
        refine AW_aload_n dX12_barFrom_87 rfl ?_
        refine AW_getI dX12_barFrom_88 gfX12_173 ((hF.sta hS).cel rfl) ?_
        refine AW_i2l dX12_barFrom_91 ?_
        refine AW_lmulE dX12_barFrom_92 (by rw [i3]; omega) ?_
        refine AW_aload_n dX12_barFrom_93 rfl ?_
        refine AW_getI dX12_barFrom_94 gfX12_176 ((hF.sta hS).cel rfl) ?_
        refine AW_i2l dX12_barFrom_97 ?_
        refine AW_iload dX12_barFrom_98 rfl ?_
        refine AW_i2l dX12_barFrom_100 ?_
        refine AW_lmulE dX12_barFrom_101 (by rw [i2]; omega) ?_
        refine AW_lcmp dX12_barFrom_102 ?_
        refine AW_if_gt (tgt := 109) dX12_barFrom_103 (by decide) (fun c_103 => ?_) (fun c_103 => ?_)
        · skip
          rw [lc_gt, ← e3, ← e4] at c_103
          refine AW_iload dX12_barFrom_109 rfl ?_
          refine AW_istore3 dX12_barFrom_111 ?_
          refine AW_aload_n dX12_barFrom_112 rfl ?_
          refine AW_iload dX12_barFrom_113 rfl ?_
          refine AW_putI dX12_barFrom_115 (Or.inl pfX12_176) ((hF.sta hS).cel rfl) ?_
          refine AW_aload_n dX12_barFrom_118 rfl ?_
          refine AW_iload dX12_barFrom_119 rfl ?_
          refine AW_putI dX12_barFrom_121 (Or.inl pfX12_173) ((hF.sta hS).cel rfl) ?_
          refine AW_iincE6 dX12_barFrom_124 (by omega) (by omega) ?_
          refine AW_goto (tgt := 21) dX12_barFrom_127 (by decide) ?_
          rw [← e3, ← e4, show (f : Int) + n + 1 = (f : Int) + ((n + 1 : Nat) : Int) by omega]
          have ec : chB D side.toNat f (n + 1) = (f + n, chU D side.toNat f (n + 1), chD D side.toNat f (n + 1)) := by
            show (if _ then _ else _) = _
            rw [if_pos (Or.inr (by rw [i2, i3] at c_103; omega))]
          refine ih (n + 1) _ _ (by omega) (by omega) ((hF.uf (by decide) _).uf (by decide) _) (Or.inr ⟨by omega, ?_, ?_, ?_⟩)
          · rw [ec]
            show (f : Int) + n = ((f + n : Nat) : Int)
            omega
          · rw [ec, up_j _ _ _ (by decide), up_at]
          · rw [ec, up_at]
        · skip
          rw [lc_gt, ← e3, ← e4] at c_103
          refine AW_goto (tgt := 124) dX12_barFrom_106 (by decide) ?_
          refine AW_iincE6 dX12_barFrom_124 (by omega) (by omega) ?_
          refine AW_goto (tgt := 21) dX12_barFrom_127 (by decide) ?_
          rw [← e3, ← e4, show (f : Int) + n + 1 = (f : Int) + ((n + 1 : Nat) : Int) by omega]
          have ec : chB D side.toNat f (n + 1) = chB D side.toNat f n := by
            show (if _ then _ else _) = _
            rw [if_neg]
            rw [i2, i3] at c_103
            omega
          refine ih (n + 1) _ _ (by omega) (by omega) hF (Or.inr ⟨by omega, ?_, ?_, ?_⟩) <;> rw [ec] <;> assumption
theorem n_bar {G : Gt} {d : Nat} {σ : St}  {D : Mk} {f : Nat} (hS : Sta σ) (hR : RepM D σ) (hW : WFm D) (side : Int) (hs : side = 0 ∨ side = 1) (hf2 : (f : Int) < D 0 side.toNat)  : AM mX12_barFrom G d 0 0 [vR 94, vI side, (vI (f : Int))] σ (fun ro ρ => ro = some (vI ((chT D side.toNat f).1 : Int)) ∧ Fm [16, 17] [] σ ρ ∧ ρ.2.1 94 16 = (chT D side.toNat f).2.1 ∧ ρ.2.1 94 17 = (chT D side.toNat f).2.2) := by
  refine AM.intro (by decide +kernel) (by simp [nLg]) (Nat.le_of_ble_eq_true rfl) (fun hO => ?_)
  have i_side : -2147483648 ≤ side ∧ side < 2147483648 := hO (vI side) (by simp)
  show AW _ _ _ _ _ _ 0 [some (vR 94), some (vI side), some ((vI (f : Int))), none, none, none, none] [] σ
  refine AW_iconst dX12_barFrom_0 ?_
  refine AW_istore3 dX12_barFrom_1 ?_
  refine AW_sipush dX12_barFrom_2 ?_
  refine AW_aload_n dX12_barFrom_5 rfl ?_
  refine AW_getI dX12_barFrom_6 gfX12_22 (hS.cel rfl) ?_
  rw [show σ.2.1 94 5 = D 4 0 from hR.2.2.2.2 0 (by decide)]
  have w0 := hW.2.2.2.2.1
  refine AW_imulE dX12_barFrom_9 (by omega) (by omega) ?_
  refine AW_istore4 dX12_barFrom_10 ?_
  refine AW_aload_n dX12_barFrom_12 rfl ?_
  refine AW_getI dX12_barFrom_13 gfX12_26 (hS.cel rfl) ?_
  rw [show σ.2.1 94 6 = D 4 1 from hR.2.2.2.2 1 (by decide)]
  refine AW_istore5 dX12_barFrom_16 ?_
  refine AW_iload_n dX12_barFrom_18 rfl ?_
  refine AW_istore6 dX12_barFrom_19 ?_
  have hb := hW.1 side.toNat (by omega)
  have := ln_bar (G := G) (d := d) hS hR hW hs hf2 8 0 (-1) σ (by omega) (by omega) Fm.rf (Or.inl ⟨rfl, rfl⟩)
  rw [show (f : Int) + ((0 : Nat) : Int) = f by omega] at this
  exact this
theorem ln_af2 {G : Gt} {d : Nat} {D : Mk} {σ : St} (hS : Sta σ) (hR : RepM D σ) (hW : WFm D) {s : Nat} (hs : s < 2) (K : fallsP D s → AW mX12_areFalling G d 0 0 (mq G (fun ro ρ => ρ = σ ∧ ((ro = some (vI 1) ∧ fallsP D 0 ∧ fallsP D 1) ∨ (ro = some (vI 0) ∧ ¬ (fallsP D 0 ∧ fallsP D 1))))) 54 [some (vR 94), some (vI (s : Int)), some (vI (D 0 s))] [] σ) : ∀ (nn : Nat) (i : Int), ((7 : Int) - i).toNat < nn → 1 ≤ i → i ≤ D 0 s → (∀ k : Nat, 1 ≤ k → (k : Int) < i → D 1 (6 * s + k) ≤ D 1 (6 * s + (k - 1))) →  AW mX12_areFalling G d 0 0 (mq G (fun ro ρ => ρ = σ ∧ ((ro = some (vI 1) ∧ fallsP D 0 ∧ fallsP D 1) ∨ (ro = some (vI 0) ∧ ¬ (fallsP D 0 ∧ fallsP D 1))))) 9 [some (vR 94), some (vI (s : Int)), some (vI i)] [] σ := by
  intro nn
  induction nn with
  | zero => intros; omega
  | succ nn ih =>
    intro i hn h0 hi hp
    have hb := hW.1 s hs
    have hb2 := hR.1 s hs
    have e1 : ((s : Int)).toNat = s := by omega
    refine AW_iload_n dX12_areFalling_9 rfl ?_
    refine AW_aload_n dX12_areFalling_10 rfl ?_
    refine AW_getR (a := 95) dX12_areFalling_11 gfX12_7 (hS.cel rfl) (hS.rf rfl) ?_
    refine AW_iload_n dX12_areFalling_14 rfl ?_
    refine AW_iald dX12_areFalling_15 (hS.cel rfl) (by omega) (by omega) ?_
    rw [e1]
    refine AW_icmp_ge (tgt := 54) dX12_areFalling_16 (by decide) (fun c_16 => ?_) (fun c_16 => ?_)
    · skip
      rw [show i = D 0 s by omega]
      exact K (fun k h1 h2 => hp k h1 (by omega))
    · skip
      refine AW_aload_n dX12_areFalling_19 rfl ?_
      refine AW_getR (a := 96) dX12_areFalling_20 gfX12_13 (hS.cel rfl) (hS.rf rfl) ?_
      refine AW_bipush dX12_areFalling_23 ?_
      refine AW_iload_n dX12_areFalling_25 rfl ?_
      refine AW_imulE dX12_areFalling_26 (by omega) (by omega) ?_
      refine AW_iload_n dX12_areFalling_27 rfl ?_
      refine AW_iaddE dX12_areFalling_28 (by omega) (by omega) ?_
      refine AW_iald dX12_areFalling_29 (hS.cel rfl) (by omega) (by omega) ?_
      refine AW_aload_n dX12_areFalling_30 rfl ?_
      refine AW_getR (a := 96) dX12_areFalling_31 gfX12_13 (hS.cel rfl) (hS.rf rfl) ?_
      refine AW_bipush dX12_areFalling_34 ?_
      refine AW_iload_n dX12_areFalling_36 rfl ?_
      refine AW_imulE dX12_areFalling_37 (by omega) (by omega) ?_
      refine AW_iload_n dX12_areFalling_38 rfl ?_
      refine AW_iaddE dX12_areFalling_39 (by omega) (by omega) ?_
      refine AW_iconst dX12_areFalling_40 ?_
      refine AW_isubE dX12_areFalling_41 (by omega) (by omega) ?_
      refine AW_iald dX12_areFalling_42 (hS.cel rfl) (by omega) (by omega) ?_
      refine AW_icmp_le (tgt := 48) dX12_areFalling_43 (by decide) (fun c_43 => ?_) (fun c_43 => ?_)
      · skip
        rw [show (6 * (s : Int) + i).toNat = 6 * s + i.toNat by omega, show (6 * (s : Int) + i - 1).toNat = 6 * s + (i.toNat - 1) by omega, hR.2.1 _ (by omega), hR.2.1 _ (by omega)] at c_43
        refine AW_iincE2 dX12_areFalling_48 (by omega) (by omega) ?_
        refine AW_goto (tgt := 9) dX12_areFalling_51 (by decide) ?_
        exact ih (i + 1) (by omega) (by omega) (by omega) (fun k h1 h2 => by
          by_cases hk : (k : Int) < i
          · exact hp k h1 hk
          · rw [show k = i.toNat by omega]
            exact c_43)
      · skip
        rw [show (6 * (s : Int) + i).toNat = 6 * s + i.toNat by omega, show (6 * (s : Int) + i - 1).toNat = 6 * s + (i.toNat - 1) by omega, hR.2.1 _ (by omega), hR.2.1 _ (by omega)] at c_43
        refine AW_iconst dX12_areFalling_46 ?_
        refine AW_zret dX12_areFalling_47 rfl (by decide) ?_
        refine ⟨rfl, Or.inr ⟨rfl, fun h => c_43 ?_⟩⟩
        rcases (show s = 0 ∨ s = 1 by omega) with rfl | rfl
        · exact h.1 i.toNat (by omega) (by omega)
        · exact h.2 i.toNat (by omega) (by omega)
theorem ln_af1 {G : Gt} {d : Nat} {D : Mk} {σ : St} (hS : Sta σ) (hR : RepM D σ) (hW : WFm D) : ∀ (nn : Nat) (s : Nat) (x2 : Option AV), (2 - s) < nn → s ≤ 2 → (∀ k, k < s → fallsP D k) →  AW mX12_areFalling G d 0 0 (mq G (fun ro ρ => ρ = σ ∧ ((ro = some (vI 1) ∧ fallsP D 0 ∧ fallsP D 1) ∨ (ro = some (vI 0) ∧ ¬ (fallsP D 0 ∧ fallsP D 1))))) 2 [some (vR 94), some (vI (s : Int)), x2] [] σ := by
  intro nn
  induction nn with
  | zero => intros; omega
  | succ nn ih =>
    intro s x2 hn hs hp
    refine AW_iload_n dX12_areFalling_2 rfl ?_
    refine AW_iconst dX12_areFalling_3 ?_
    refine AW_icmp_ge (tgt := 60) dX12_areFalling_4 (by decide) (fun c_4 => ?_) (fun c_4 => ?_)
    · skip
      refine AW_iconst dX12_areFalling_60 ?_
      refine AW_zret dX12_areFalling_61 rfl (by decide) ?_
      exact ⟨rfl, Or.inl ⟨rfl, hp 0 (by omega), hp 1 (by omega)⟩⟩
    · skip
      refine AW_iconst dX12_areFalling_7 ?_
      refine AW_istore2 dX12_areFalling_8 ?_
      refine ln_af2 hS hR hW (s := s) (by omega) (fun hq => ?_) 7 1 (by omega) (by omega) (by have := hW.1 s (by omega); omega) (fun k h1 h2 => by omega)
      refine AW_iincE1 dX12_areFalling_54 (by omega) (by omega) ?_
      refine AW_goto (tgt := 2) dX12_areFalling_57 (by decide) ?_
      rw [show (s : Int) + 1 = ((s + 1 : Nat) : Int) by omega]
      exact ih (s + 1) _ (by omega) (by omega) (fun k hk => by
        by_cases hc : k < s
        · exact hp k hc
        · rw [show k = s by omega]; exact hq)
theorem n_af {G : Gt} {d : Nat} {σ : St}  {D : Mk} (hS : Sta σ) (hR : RepM D σ) (hW : WFm D)  : AM mX12_areFalling G d 0 0 [vR 94] σ (fun ro ρ => ρ = σ ∧ ((ro = some (vI 1) ∧ fallsP D 0 ∧ fallsP D 1) ∨ (ro = some (vI 0) ∧ ¬ (fallsP D 0 ∧ fallsP D 1)))) := by
  refine AM.intro (by decide +kernel) (by simp [nLg]) (Nat.le_of_ble_eq_true rfl) (fun hO => ?_)
  show AW _ _ _ _ _ _ 0 [some (vR 94), none, none] [] σ
  refine AW_iconst dX12_areFalling_0 ?_
  refine AW_istore1 dX12_areFalling_1 ?_
  exact ln_af1 hS hR hW 3 0 none (by omega) (by omega) (fun k hk => by omega)
def mcols (D : Mk) (σ : St) (m : Nat) : Prop := ∀ k, k < m → σ.2.1 99 k = clCol D k 0 ∧ σ.2.1 99 (6 + k) = clCol D k 1 ∧ σ.2.1 100 k = clCol D k 2 ∧ σ.2.1 101 k = clCol D k 3 ∧ σ.2.1 100 (6 + k) = clCol D k 4 ∧ σ.2.1 101 (6 + k) = clCol D k 5
def mclI (D : Mk) (σ : St) (m : Nat) : Prop := σ.2.1 94 12 = m ∧ mcols D σ m ∧ ∀ k, k < m → clOk D k
theorem ln_fc {G : Gt} {d : Nat} {D : Mk} {σ : St} (hS : Sta σ) (hR : RepM D σ) (hW : WFm D) (hd : 2 ≤ d) : ∀ (nn : Nat) (m : Nat) (x4 x5 x6 : Option AV) (goes a b : Int) (τ : St), (if goes = 0 then 0 else 8 - m) < nn → Fm [12, 16, 17] [99, 100, 101] σ τ → mclI D τ m → ((goes = 1 ∧ a = ((clA D m).1 : Int) ∧ b = ((clA D m).2 : Int)) ∨ (goes = 0 ∧ ¬ clOk D m)) →  AW mX12_findsClasses G d 0 0 (mq G (fun ro ρ => ro = none ∧ Fm [12, 16, 17] [99, 100, 101] σ ρ ∧ ∃ m, isCnt D m ∧ mclI D ρ m)) 11 [some (vR 94), some (vI a), some (vI b), some (vI goes), x4, x5, x6] [] τ := by
  intro nn
  induction nn with
  | zero => intros; omega
  | succ nn ih =>
    intro m x4 x5 x6 goes a b τ hn hF hI hg
    have hA := clA_in hW m hI.2.2
    have hb0 := hW.1 0 (by decide)
    have hb1 := hW.1 1 (by decide)
    have hRt := hR.fm hF
    have r0 := hRt.1 0 (by decide)
    have r1 := hRt.1 1 (by decide)
    refine AW_iload_n dX12_findsClasses_11 rfl ?_
    refine AW_if_eq (tgt := 188) dX12_findsClasses_12 (by decide) (fun c_12 => ?_) (fun c_12 => ?_)
    · skip
      refine AW_vret dX12_findsClasses_188 rfl ?_
      refine ⟨rfl, hF, m, ⟨hI.2.2, ?_⟩, hI⟩
      rcases hg with ⟨q1, q2, q3⟩ | q
      · intro hc
        have h1 := hc.1
        have h2 := hc.2.1
        omega
      · exact q.2
    · skip
      obtain ⟨g1, g2, g3⟩ : goes = 1 ∧ a = ((clA D m).1 : Int) ∧ b = ((clA D m).2 : Int) := by
        rcases hg with q | q
        · exact q
        · exact absurd q.1 c_12
      rw [if_neg (by omega)] at hn
      refine AW_iload_n dX12_findsClasses_15 rfl ?_
      refine AW_aload_n dX12_findsClasses_16 rfl ?_
      refine AW_getR (a := 95) dX12_findsClasses_17 gfX12_7 ((hF.sta hS).cel rfl) ((hF.sta hS).rf rfl) ?_
      refine AW_iconst dX12_findsClasses_20 ?_
      refine AW_ialdK 0 dX12_findsClasses_21 ((hF.sta hS).cel rfl) (by decide) ?_
      refine AW_icmp_ge (tgt := 188) dX12_findsClasses_22 (by decide) (fun c_22 => ?_) (fun c_22 => ?_)
      · skip
        refine AW_vret dX12_findsClasses_188 rfl ?_
        refine ⟨rfl, hF, m, ⟨hI.2.2, ?_⟩, hI⟩
        rcases hg with ⟨q1, q2, q3⟩ | q
        · intro hc
          have h1 := hc.1
          have h2 := hc.2.1
          omega
        · exact q.2
      · skip
        refine AW_iload_n dX12_findsClasses_25 rfl ?_
        refine AW_aload_n dX12_findsClasses_26 rfl ?_
        refine AW_getR (a := 95) dX12_findsClasses_27 gfX12_7 ((hF.sta hS).cel rfl) ((hF.sta hS).rf rfl) ?_
        refine AW_iconst dX12_findsClasses_30 ?_
        refine AW_ialdK 1 dX12_findsClasses_31 ((hF.sta hS).cel rfl) (by decide) ?_
        refine AW_icmp_ge (tgt := 188) dX12_findsClasses_32 (by decide) (fun c_32 => ?_) (fun c_32 => ?_)
        · skip
          refine AW_vret dX12_findsClasses_188 rfl ?_
          refine ⟨rfl, hF, m, ⟨hI.2.2, ?_⟩, hI⟩
          rcases hg with ⟨q1, q2, q3⟩ | q
          · intro hc
            have h1 := hc.1
            have h2 := hc.2.1
            omega
          · exact q.2
        · skip
          refine AW_aload_n dX12_findsClasses_35 rfl ?_
          refine AW_getI dX12_findsClasses_36 gfX12_179 ((hF.sta hS).cel rfl) ?_
          refine AW_istore4 dX12_findsClasses_39 ?_
          rw [hI.1]
          refine AW_aload_n dX12_findsClasses_41 rfl ?_
          refine AW_iconst dX12_findsClasses_42 ?_
          refine AW_iload_n dX12_findsClasses_43 rfl ?_
          rw [g3]
          refine AW_callV2 (d' := d - 1) dX12_findsClasses_44 (Or.inl lkX12_182) mfX12_barFrom ((hF.sta hS).cel rfl) ⟨_, rfl, rfl⟩ (n_bar (f := (clA D m).2) (hF.sta hS) hRt hW 1 (by decide) (show ((clA D m).2 : Int) < D 0 1 by omega)) (by omega) (Nat.le_of_ble_eq_true rfl) ?_
          rintro _ ρ1 ⟨rfl, hF1, a2, a3⟩ -
          have hFa : Fm [12, 16, 17] [99, 100, 101] σ ρ1 := hF.tr (hF1.mo (by decide) (by decide))
          have hS1 := hFa.sta hS
          have a2 : ρ1.2.1 94 16 = clCol D m 2 := a2
          have a3 : ρ1.2.1 94 17 = clCol D m 3 := a3
          have m1 : ρ1.2.1 94 12 = m := (hF1.f 12).trans hI.1
          refine AW_istore5 dX12_findsClasses_47 ?_
          refine AW_aload_n dX12_findsClasses_49 rfl ?_
          refine AW_getR (a := 100) dX12_findsClasses_50 gfX12_38 (hS1.cel rfl) (hS1.rf rfl) ?_
          refine AW_iload dX12_findsClasses_53 rfl ?_
          refine AW_aload_n dX12_findsClasses_55 rfl ?_
          refine AW_getI dX12_findsClasses_56 gfX12_176 (hS1.cel rfl) ?_
          refine AW_iast dX12_findsClasses_59 (hS1.cel rfl) (by omega) (by omega) ?_
          refine AW_aload_n dX12_findsClasses_60 rfl ?_
          refine AW_getR (a := 101) dX12_findsClasses_61 gfX12_41 (hS1.cel rfl) (hS1.rf rfl) ?_
          refine AW_iload dX12_findsClasses_64 rfl ?_
          refine AW_aload_n dX12_findsClasses_66 rfl ?_
          refine AW_getI dX12_findsClasses_67 gfX12_173 (hS1.cel rfl) ?_
          (repeat (first | rw [up_r _ _ _ _ (by decide)] | rw [up_j _ _ _ (by decide)] | rw [up_at]))
          refine AW_iast dX12_findsClasses_70 (hS1.cel rfl) (by omega) (by omega) ?_
          refine AW_aload_n dX12_findsClasses_71 rfl ?_
          refine AW_getI dX12_findsClasses_72 gfX12_176 (hS1.cel rfl) ?_
          (repeat (first | rw [up_r _ _ _ _ (by decide)] | rw [up_j _ _ _ (by decide)] | rw [up_at]))
          refine AW_if_lt (tgt := 82) dX12_findsClasses_75 (by decide) (fun c_75 => ?_) (fun c_75 => ?_)
          · skip
            refine AW_iconst dX12_findsClasses_82 ?_
            refine AW_istore3 dX12_findsClasses_83 ?_
            refine AW_aload_n dX12_findsClasses_84 rfl ?_
            refine AW_iconst dX12_findsClasses_85 ?_
            refine AW_iload_n dX12_findsClasses_86 rfl ?_
            rw [g2]
            refine AW_callV2 (d' := d - 1) dX12_findsClasses_87 (Or.inl lkX12_182) mfX12_barFrom (hS1.cel rfl) ⟨_, rfl, rfl⟩ (n_bar (f := (clA D m).1) (hS1.up _ _ _ |>.up _ _ _) (hR.fm (fs := [12, 16, 17]) (L := [99, 100, 101]) ((hFa.ua (by decide) (by decide) _ _).ua (by decide) (by decide) _ _)) hW 0 (by decide) (show ((clA D m).1 : Int) < D 0 0 by omega)) (by omega) (Nat.le_of_ble_eq_true rfl) ?_
            rintro _ ρ2 ⟨rfl, hF2, b2, b3⟩ -
            have b2 : ρ2.2.1 94 16 = clCol D m 4 := b2
            have b3 : ρ2.2.1 94 17 = clCol D m 5 := b3
            have hFc : Fm [12, 16, 17] [99, 100, 101] σ ρ2 := ((hFa.ua (by decide) (by decide) _ _).ua (by decide) (by decide) _ _).tr (hF2.mo (by decide) (by decide))
            have hS2 := hFc.sta hS
            have m2 : ρ2.2.1 94 12 = m := by rw [hF2.f 12, up_r _ _ _ _ (by decide), up_r _ _ _ _ (by decide), m1]
            have c99 : ∀ j, ρ2.2.1 99 j = τ.2.1 99 j := fun j => by rw [hF2.a 99 j, up_r _ _ _ _ (by decide), up_r _ _ _ _ (by decide), hF1.a 99 j]
            have c100 : ∀ j, ρ2.2.1 100 j = if j = m then clCol D m 2 else τ.2.1 100 j := fun j => by
              rw [hF2.a 100 j, up_r _ _ _ _ (by decide), up_if, hF1.a 100 j, a2]
              by_cases hc : j = m
              · rw [if_pos hc, if_pos (by omega)]
              · rw [if_neg hc, if_neg (by omega)]
            have c101 : ∀ j, ρ2.2.1 101 j = if j = m then clCol D m 3 else τ.2.1 101 j := fun j => by
              rw [hF2.a 101 j, up_if, up_r _ _ _ _ (by decide), hF1.a 101 j, a3]
              by_cases hc : j = m
              · rw [if_pos hc, if_pos (by omega)]
              · rw [if_neg hc, if_neg (by omega)]
            refine AW_istore6 dX12_findsClasses_90 ?_
            refine AW_aload_n dX12_findsClasses_92 rfl ?_
            refine AW_getR (a := 100) dX12_findsClasses_93 gfX12_38 (hS2.cel rfl) (hS2.rf rfl) ?_
            refine AW_bipush dX12_findsClasses_96 ?_
            refine AW_iload dX12_findsClasses_98 rfl ?_
            refine AW_iaddE dX12_findsClasses_100 (by omega) (by omega) ?_
            refine AW_aload_n dX12_findsClasses_101 rfl ?_
            refine AW_getI dX12_findsClasses_102 gfX12_176 (hS2.cel rfl) ?_
            refine AW_iast dX12_findsClasses_105 (hS2.cel rfl) (by omega) (by omega) ?_
            refine AW_aload_n dX12_findsClasses_106 rfl ?_
            refine AW_getR (a := 101) dX12_findsClasses_107 gfX12_41 (hS2.cel rfl) (hS2.rf rfl) ?_
            refine AW_bipush dX12_findsClasses_110 ?_
            refine AW_iload dX12_findsClasses_112 rfl ?_
            refine AW_iaddE dX12_findsClasses_114 (by omega) (by omega) ?_
            refine AW_aload_n dX12_findsClasses_115 rfl ?_
            refine AW_getI dX12_findsClasses_116 gfX12_173 (hS2.cel rfl) ?_
            (repeat (first | rw [up_r _ _ _ _ (by decide)] | rw [up_j _ _ _ (by decide)] | rw [up_at]))
            refine AW_iast dX12_findsClasses_119 (hS2.cel rfl) (by omega) (by omega) ?_
            refine AW_iload_n dX12_findsClasses_120 rfl ?_
            refine AW_if_eq (tgt := 135) dX12_findsClasses_121 (by decide) (fun c_121 => ?_) (fun c_121 => ?_)
            · skip
              refine AW_iconst dX12_findsClasses_135 ?_
              refine AW_istore3 dX12_findsClasses_136 ?_
              refine AW_iload_n dX12_findsClasses_137 rfl ?_
              refine AW_if_ne (tgt := 144) dX12_findsClasses_138 (by decide) (fun c_138 => ?_) (fun c_138 => ?_)
              · skip
                have t0 : ((chT D (Int.toNat 0) (clA D m).1).1 : Int) < D 0 0 := (chT_in hW (s := 0) (by decide) (show ((clA D m).1 : Int) < D 0 0 by omega)).1.2
                have t1 : ((chT D (Int.toNat 1) (clA D m).2).1 : Int) < D 0 1 := (chT_in hW (s := 1) (by decide) (show ((clA D m).2 : Int) < D 0 1 by omega)).1.2
                refine AW_aload_n dX12_findsClasses_144 rfl ?_
                refine AW_getR (a := 99) dX12_findsClasses_145 gfX12_35 (hS2.cel rfl) (hS2.rf rfl) ?_
                refine AW_iload dX12_findsClasses_148 rfl ?_
                refine AW_iload dX12_findsClasses_150 rfl ?_
                refine AW_iast dX12_findsClasses_152 (hS2.cel rfl) (by omega) (by omega) ?_
                refine AW_aload_n dX12_findsClasses_153 rfl ?_
                refine AW_getR (a := 99) dX12_findsClasses_154 gfX12_35 (hS2.cel rfl) (hS2.rf rfl) ?_
                refine AW_bipush dX12_findsClasses_157 ?_
                refine AW_iload dX12_findsClasses_159 rfl ?_
                refine AW_iaddE dX12_findsClasses_161 (by omega) (by omega) ?_
                refine AW_iload dX12_findsClasses_162 rfl ?_
                refine AW_iast dX12_findsClasses_164 (hS2.cel rfl) (by omega) (by omega) ?_
                refine AW_aload_n dX12_findsClasses_165 rfl ?_
                refine AW_aload_n dX12_findsClasses_166 rfl ?_
                refine AW_getI dX12_findsClasses_167 gfX12_179 (hS2.cel rfl) ?_
                (repeat (first | rw [up_r _ _ _ _ (by decide)] | rw [up_j _ _ _ (by decide)] | rw [up_at]))
                refine AW_iconst dX12_findsClasses_170 ?_
                refine AW_iaddE dX12_findsClasses_171 (by omega) (by omega) ?_
                refine AW_putI dX12_findsClasses_172 (Or.inl pfX12_179) (hS2.cel rfl) ?_
                refine AW_iload dX12_findsClasses_175 rfl ?_
                refine AW_iconst dX12_findsClasses_177 ?_
                refine AW_iaddE dX12_findsClasses_178 (by omega) (by omega) ?_
                refine AW_istore1 dX12_findsClasses_179 ?_
                refine AW_iload dX12_findsClasses_180 rfl ?_
                refine AW_iconst dX12_findsClasses_182 ?_
                refine AW_iaddE dX12_findsClasses_183 (by omega) (by omega) ?_
                refine AW_istore2 dX12_findsClasses_184 ?_
                refine AW_goto (tgt := 11) dX12_findsClasses_185 (by decide) ?_
                first
                | (exfalso; omega)
                | (have hc : clOk D m := ⟨by omega, by omega, (by omega : 0 ≤ clCol D m 2), (by omega : 0 ≤ clCol D m 4)⟩
                   rw [show ((chT D (Int.toNat 0) (clA D m).1).1 : Int) + 1 = ((clA D (m + 1)).1 : Int) from rfl, show ((chT D (Int.toNat 1) (clA D m).2).1 : Int) + 1 = ((clA D (m + 1)).2 : Int) from rfl]
                   rw [show ((chT D (Int.toNat 0) (clA D m).1).1 : Int) = clCol D m 0 from rfl, show ((chT D (Int.toNat 1) (clA D m).2).1 : Int) = clCol D m 1 from rfl]
                   refine ih (m + 1) _ _ _ 1 _ _ _ (by rw [if_neg (by decide)]; omega) (((((hFc.ua (by decide) (by decide) _ _).ua (by decide) (by decide) _ _).ua (by decide) (by decide) _ _).ua (by decide) (by decide) _ _).uf (by decide) _) ⟨?_, fun k hk => ?_, fun k hk => ?_⟩ (Or.inl ⟨rfl, rfl, rfl⟩)
                   · rw [up_at, m2]; rfl
                   · by_cases hkm : k < m
                     · obtain ⟨g0, g1, g2, g3, g4, g5⟩ := hI.2.1 k hkm
                       refine ⟨?_, ?_, ?_, ?_, ?_, ?_⟩
                       · rw [up_r _ _ _ _ (by decide), up_if, if_neg (by omega), up_if, if_neg (by omega), up_r _ _ _ _ (by decide), up_r _ _ _ _ (by decide), c99]; exact g0
                       · rw [up_r _ _ _ _ (by decide), up_if, if_neg (by omega), up_if, if_neg (by omega), up_r _ _ _ _ (by decide), up_r _ _ _ _ (by decide), c99]; exact g1
                       · rw [up_r _ _ _ _ (by decide), up_r _ _ _ _ (by decide), up_r _ _ _ _ (by decide), up_r _ _ _ _ (by decide), up_if, if_neg (by omega), c100, if_neg (by omega)]; exact g2
                       · rw [up_r _ _ _ _ (by decide), up_r _ _ _ _ (by decide), up_r _ _ _ _ (by decide), up_if, if_neg (by omega), up_r _ _ _ _ (by decide), c101, if_neg (by omega)]; exact g3
                       · rw [up_r _ _ _ _ (by decide), up_r _ _ _ _ (by decide), up_r _ _ _ _ (by decide), up_r _ _ _ _ (by decide), up_if, if_neg (by omega), c100, if_neg (by omega)]; exact g4
                       · rw [up_r _ _ _ _ (by decide), up_r _ _ _ _ (by decide), up_r _ _ _ _ (by decide), up_if, if_neg (by omega), up_r _ _ _ _ (by decide), c101, if_neg (by omega)]; exact g5
                     · obtain rfl : k = m := by omega
                       refine ⟨?_, ?_, ?_, ?_, ?_, ?_⟩
                       · rw [up_r _ _ _ _ (by decide), up_if, if_neg (by omega), up_if, if_pos (by omega)]
                       · rw [up_r _ _ _ _ (by decide), up_if, if_pos (by omega)]
                       · rw [up_r _ _ _ _ (by decide), up_r _ _ _ _ (by decide), up_r _ _ _ _ (by decide), up_r _ _ _ _ (by decide), up_if, if_neg (by omega), c100, if_pos rfl]
                       · rw [up_r _ _ _ _ (by decide), up_r _ _ _ _ (by decide), up_r _ _ _ _ (by decide), up_if, if_neg (by omega), up_r _ _ _ _ (by decide), c101, if_pos rfl]
                       · rw [up_r _ _ _ _ (by decide), up_r _ _ _ _ (by decide), up_r _ _ _ _ (by decide), up_r _ _ _ _ (by decide), up_if, if_pos (by omega), b2]
                       · rw [up_r _ _ _ _ (by decide), up_r _ _ _ _ (by decide), up_r _ _ _ _ (by decide), up_if, if_pos (by omega), b3]
                   · by_cases hkm : k < m
                     · exact hI.2.2 k hkm
                     · rw [show k = m by omega]; exact hc)
              · skip
                refine AW_goto (tgt := 11) dX12_findsClasses_141 (by decide) ?_
                first
                | (exfalso; omega)
                | (have hno : ¬ clOk D m := fun hc => by
                     have h3 : 0 ≤ clCol D m 2 := hc.2.2.1
                     have h4 : 0 ≤ clCol D m 4 := hc.2.2.2
                     omega
                   refine ih m _ _ _ 0 _ _ _ (by rw [if_pos rfl]; omega) ((hFc.ua (by decide) (by decide) _ _).ua (by decide) (by decide) _ _) ⟨?_, fun k hk => ?_, hI.2.2⟩ (Or.inr ⟨rfl, hno⟩)
                   · rw [up_r _ _ _ _ (by decide), up_r _ _ _ _ (by decide)]; exact m2
                   · obtain ⟨g0, g1, g2, g3, g4, g5⟩ := hI.2.1 k hk
                     refine ⟨?_, ?_, ?_, ?_, ?_, ?_⟩
                     · rw [up_r _ _ _ _ (by decide), up_r _ _ _ _ (by decide), c99]; exact g0
                     · rw [up_r _ _ _ _ (by decide), up_r _ _ _ _ (by decide), c99]; exact g1
                     · rw [up_r _ _ _ _ (by decide), up_if, if_neg (by omega), c100, if_neg (by omega)]; exact g2
                     · rw [up_if, if_neg (by omega), up_r _ _ _ _ (by decide), c101, if_neg (by omega)]; exact g3
                     · rw [up_r _ _ _ _ (by decide), up_if, if_neg (by omega), c100, if_neg (by omega)]; exact g4
                     · rw [up_if, if_neg (by omega), up_r _ _ _ _ (by decide), c101, if_neg (by omega)]; exact g5)
            · skip
              refine AW_aload_n dX12_findsClasses_124 rfl ?_
              refine AW_getI dX12_findsClasses_125 gfX12_176 (hS2.cel rfl) ?_
              (repeat (first | rw [up_r _ _ _ _ (by decide)] | rw [up_j _ _ _ (by decide)] | rw [up_at]))
              refine AW_if_lt (tgt := 135) dX12_findsClasses_128 (by decide) (fun c_128 => ?_) (fun c_128 => ?_)
              · skip
                refine AW_iconst dX12_findsClasses_135 ?_
                refine AW_istore3 dX12_findsClasses_136 ?_
                refine AW_iload_n dX12_findsClasses_137 rfl ?_
                refine AW_if_ne (tgt := 144) dX12_findsClasses_138 (by decide) (fun c_138 => ?_) (fun c_138 => ?_)
                · skip
                  have t0 : ((chT D (Int.toNat 0) (clA D m).1).1 : Int) < D 0 0 := (chT_in hW (s := 0) (by decide) (show ((clA D m).1 : Int) < D 0 0 by omega)).1.2
                  have t1 : ((chT D (Int.toNat 1) (clA D m).2).1 : Int) < D 0 1 := (chT_in hW (s := 1) (by decide) (show ((clA D m).2 : Int) < D 0 1 by omega)).1.2
                  refine AW_aload_n dX12_findsClasses_144 rfl ?_
                  refine AW_getR (a := 99) dX12_findsClasses_145 gfX12_35 (hS2.cel rfl) (hS2.rf rfl) ?_
                  refine AW_iload dX12_findsClasses_148 rfl ?_
                  refine AW_iload dX12_findsClasses_150 rfl ?_
                  refine AW_iast dX12_findsClasses_152 (hS2.cel rfl) (by omega) (by omega) ?_
                  refine AW_aload_n dX12_findsClasses_153 rfl ?_
                  refine AW_getR (a := 99) dX12_findsClasses_154 gfX12_35 (hS2.cel rfl) (hS2.rf rfl) ?_
                  refine AW_bipush dX12_findsClasses_157 ?_
                  refine AW_iload dX12_findsClasses_159 rfl ?_
                  refine AW_iaddE dX12_findsClasses_161 (by omega) (by omega) ?_
                  refine AW_iload dX12_findsClasses_162 rfl ?_
                  refine AW_iast dX12_findsClasses_164 (hS2.cel rfl) (by omega) (by omega) ?_
                  refine AW_aload_n dX12_findsClasses_165 rfl ?_
                  refine AW_aload_n dX12_findsClasses_166 rfl ?_
                  refine AW_getI dX12_findsClasses_167 gfX12_179 (hS2.cel rfl) ?_
                  (repeat (first | rw [up_r _ _ _ _ (by decide)] | rw [up_j _ _ _ (by decide)] | rw [up_at]))
                  refine AW_iconst dX12_findsClasses_170 ?_
                  refine AW_iaddE dX12_findsClasses_171 (by omega) (by omega) ?_
                  refine AW_putI dX12_findsClasses_172 (Or.inl pfX12_179) (hS2.cel rfl) ?_
                  refine AW_iload dX12_findsClasses_175 rfl ?_
                  refine AW_iconst dX12_findsClasses_177 ?_
                  refine AW_iaddE dX12_findsClasses_178 (by omega) (by omega) ?_
                  refine AW_istore1 dX12_findsClasses_179 ?_
                  refine AW_iload dX12_findsClasses_180 rfl ?_
                  refine AW_iconst dX12_findsClasses_182 ?_
                  refine AW_iaddE dX12_findsClasses_183 (by omega) (by omega) ?_
                  refine AW_istore2 dX12_findsClasses_184 ?_
                  refine AW_goto (tgt := 11) dX12_findsClasses_185 (by decide) ?_
                  first
                  | (exfalso; omega)
                  | (have hc : clOk D m := ⟨by omega, by omega, (by omega : 0 ≤ clCol D m 2), (by omega : 0 ≤ clCol D m 4)⟩
                     rw [show ((chT D (Int.toNat 0) (clA D m).1).1 : Int) + 1 = ((clA D (m + 1)).1 : Int) from rfl, show ((chT D (Int.toNat 1) (clA D m).2).1 : Int) + 1 = ((clA D (m + 1)).2 : Int) from rfl]
                     rw [show ((chT D (Int.toNat 0) (clA D m).1).1 : Int) = clCol D m 0 from rfl, show ((chT D (Int.toNat 1) (clA D m).2).1 : Int) = clCol D m 1 from rfl]
                     refine ih (m + 1) _ _ _ 1 _ _ _ (by rw [if_neg (by decide)]; omega) (((((hFc.ua (by decide) (by decide) _ _).ua (by decide) (by decide) _ _).ua (by decide) (by decide) _ _).ua (by decide) (by decide) _ _).uf (by decide) _) ⟨?_, fun k hk => ?_, fun k hk => ?_⟩ (Or.inl ⟨rfl, rfl, rfl⟩)
                     · rw [up_at, m2]; rfl
                     · by_cases hkm : k < m
                       · obtain ⟨g0, g1, g2, g3, g4, g5⟩ := hI.2.1 k hkm
                         refine ⟨?_, ?_, ?_, ?_, ?_, ?_⟩
                         · rw [up_r _ _ _ _ (by decide), up_if, if_neg (by omega), up_if, if_neg (by omega), up_r _ _ _ _ (by decide), up_r _ _ _ _ (by decide), c99]; exact g0
                         · rw [up_r _ _ _ _ (by decide), up_if, if_neg (by omega), up_if, if_neg (by omega), up_r _ _ _ _ (by decide), up_r _ _ _ _ (by decide), c99]; exact g1
                         · rw [up_r _ _ _ _ (by decide), up_r _ _ _ _ (by decide), up_r _ _ _ _ (by decide), up_r _ _ _ _ (by decide), up_if, if_neg (by omega), c100, if_neg (by omega)]; exact g2
                         · rw [up_r _ _ _ _ (by decide), up_r _ _ _ _ (by decide), up_r _ _ _ _ (by decide), up_if, if_neg (by omega), up_r _ _ _ _ (by decide), c101, if_neg (by omega)]; exact g3
                         · rw [up_r _ _ _ _ (by decide), up_r _ _ _ _ (by decide), up_r _ _ _ _ (by decide), up_r _ _ _ _ (by decide), up_if, if_neg (by omega), c100, if_neg (by omega)]; exact g4
                         · rw [up_r _ _ _ _ (by decide), up_r _ _ _ _ (by decide), up_r _ _ _ _ (by decide), up_if, if_neg (by omega), up_r _ _ _ _ (by decide), c101, if_neg (by omega)]; exact g5
                       · obtain rfl : k = m := by omega
                         refine ⟨?_, ?_, ?_, ?_, ?_, ?_⟩
                         · rw [up_r _ _ _ _ (by decide), up_if, if_neg (by omega), up_if, if_pos (by omega)]
                         · rw [up_r _ _ _ _ (by decide), up_if, if_pos (by omega)]
                         · rw [up_r _ _ _ _ (by decide), up_r _ _ _ _ (by decide), up_r _ _ _ _ (by decide), up_r _ _ _ _ (by decide), up_if, if_neg (by omega), c100, if_pos rfl]
                         · rw [up_r _ _ _ _ (by decide), up_r _ _ _ _ (by decide), up_r _ _ _ _ (by decide), up_if, if_neg (by omega), up_r _ _ _ _ (by decide), c101, if_pos rfl]
                         · rw [up_r _ _ _ _ (by decide), up_r _ _ _ _ (by decide), up_r _ _ _ _ (by decide), up_r _ _ _ _ (by decide), up_if, if_pos (by omega), b2]
                         · rw [up_r _ _ _ _ (by decide), up_r _ _ _ _ (by decide), up_r _ _ _ _ (by decide), up_if, if_pos (by omega), b3]
                     · by_cases hkm : k < m
                       · exact hI.2.2 k hkm
                       · rw [show k = m by omega]; exact hc)
                · skip
                  refine AW_goto (tgt := 11) dX12_findsClasses_141 (by decide) ?_
                  first
                  | (exfalso; omega)
                  | (have hno : ¬ clOk D m := fun hc => by
                       have h3 : 0 ≤ clCol D m 2 := hc.2.2.1
                       have h4 : 0 ≤ clCol D m 4 := hc.2.2.2
                       omega
                     refine ih m _ _ _ 0 _ _ _ (by rw [if_pos rfl]; omega) ((hFc.ua (by decide) (by decide) _ _).ua (by decide) (by decide) _ _) ⟨?_, fun k hk => ?_, hI.2.2⟩ (Or.inr ⟨rfl, hno⟩)
                     · rw [up_r _ _ _ _ (by decide), up_r _ _ _ _ (by decide)]; exact m2
                     · obtain ⟨g0, g1, g2, g3, g4, g5⟩ := hI.2.1 k hk
                       refine ⟨?_, ?_, ?_, ?_, ?_, ?_⟩
                       · rw [up_r _ _ _ _ (by decide), up_r _ _ _ _ (by decide), c99]; exact g0
                       · rw [up_r _ _ _ _ (by decide), up_r _ _ _ _ (by decide), c99]; exact g1
                       · rw [up_r _ _ _ _ (by decide), up_if, if_neg (by omega), c100, if_neg (by omega)]; exact g2
                       · rw [up_if, if_neg (by omega), up_r _ _ _ _ (by decide), c101, if_neg (by omega)]; exact g3
                       · rw [up_r _ _ _ _ (by decide), up_if, if_neg (by omega), c100, if_neg (by omega)]; exact g4
                       · rw [up_if, if_neg (by omega), up_r _ _ _ _ (by decide), c101, if_neg (by omega)]; exact g5)
              · skip
                refine AW_iconst dX12_findsClasses_131 ?_
                refine AW_goto (tgt := 136) dX12_findsClasses_132 (by decide) ?_
                refine AW_istore3 dX12_findsClasses_136 ?_
                refine AW_iload_n dX12_findsClasses_137 rfl ?_
                refine AW_if_ne (tgt := 144) dX12_findsClasses_138 (by decide) (fun c_138 => ?_) (fun c_138 => ?_)
                · skip
                  have t0 : ((chT D (Int.toNat 0) (clA D m).1).1 : Int) < D 0 0 := (chT_in hW (s := 0) (by decide) (show ((clA D m).1 : Int) < D 0 0 by omega)).1.2
                  have t1 : ((chT D (Int.toNat 1) (clA D m).2).1 : Int) < D 0 1 := (chT_in hW (s := 1) (by decide) (show ((clA D m).2 : Int) < D 0 1 by omega)).1.2
                  refine AW_aload_n dX12_findsClasses_144 rfl ?_
                  refine AW_getR (a := 99) dX12_findsClasses_145 gfX12_35 (hS2.cel rfl) (hS2.rf rfl) ?_
                  refine AW_iload dX12_findsClasses_148 rfl ?_
                  refine AW_iload dX12_findsClasses_150 rfl ?_
                  refine AW_iast dX12_findsClasses_152 (hS2.cel rfl) (by omega) (by omega) ?_
                  refine AW_aload_n dX12_findsClasses_153 rfl ?_
                  refine AW_getR (a := 99) dX12_findsClasses_154 gfX12_35 (hS2.cel rfl) (hS2.rf rfl) ?_
                  refine AW_bipush dX12_findsClasses_157 ?_
                  refine AW_iload dX12_findsClasses_159 rfl ?_
                  refine AW_iaddE dX12_findsClasses_161 (by omega) (by omega) ?_
                  refine AW_iload dX12_findsClasses_162 rfl ?_
                  refine AW_iast dX12_findsClasses_164 (hS2.cel rfl) (by omega) (by omega) ?_
                  refine AW_aload_n dX12_findsClasses_165 rfl ?_
                  refine AW_aload_n dX12_findsClasses_166 rfl ?_
                  refine AW_getI dX12_findsClasses_167 gfX12_179 (hS2.cel rfl) ?_
                  (repeat (first | rw [up_r _ _ _ _ (by decide)] | rw [up_j _ _ _ (by decide)] | rw [up_at]))
                  refine AW_iconst dX12_findsClasses_170 ?_
                  refine AW_iaddE dX12_findsClasses_171 (by omega) (by omega) ?_
                  refine AW_putI dX12_findsClasses_172 (Or.inl pfX12_179) (hS2.cel rfl) ?_
                  refine AW_iload dX12_findsClasses_175 rfl ?_
                  refine AW_iconst dX12_findsClasses_177 ?_
                  refine AW_iaddE dX12_findsClasses_178 (by omega) (by omega) ?_
                  refine AW_istore1 dX12_findsClasses_179 ?_
                  refine AW_iload dX12_findsClasses_180 rfl ?_
                  refine AW_iconst dX12_findsClasses_182 ?_
                  refine AW_iaddE dX12_findsClasses_183 (by omega) (by omega) ?_
                  refine AW_istore2 dX12_findsClasses_184 ?_
                  refine AW_goto (tgt := 11) dX12_findsClasses_185 (by decide) ?_
                  first
                  | (exfalso; omega)
                  | (have hc : clOk D m := ⟨by omega, by omega, (by omega : 0 ≤ clCol D m 2), (by omega : 0 ≤ clCol D m 4)⟩
                     rw [show ((chT D (Int.toNat 0) (clA D m).1).1 : Int) + 1 = ((clA D (m + 1)).1 : Int) from rfl, show ((chT D (Int.toNat 1) (clA D m).2).1 : Int) + 1 = ((clA D (m + 1)).2 : Int) from rfl]
                     rw [show ((chT D (Int.toNat 0) (clA D m).1).1 : Int) = clCol D m 0 from rfl, show ((chT D (Int.toNat 1) (clA D m).2).1 : Int) = clCol D m 1 from rfl]
                     refine ih (m + 1) _ _ _ 1 _ _ _ (by rw [if_neg (by decide)]; omega) (((((hFc.ua (by decide) (by decide) _ _).ua (by decide) (by decide) _ _).ua (by decide) (by decide) _ _).ua (by decide) (by decide) _ _).uf (by decide) _) ⟨?_, fun k hk => ?_, fun k hk => ?_⟩ (Or.inl ⟨rfl, rfl, rfl⟩)
                     · rw [up_at, m2]; rfl
                     · by_cases hkm : k < m
                       · obtain ⟨g0, g1, g2, g3, g4, g5⟩ := hI.2.1 k hkm
                         refine ⟨?_, ?_, ?_, ?_, ?_, ?_⟩
                         · rw [up_r _ _ _ _ (by decide), up_if, if_neg (by omega), up_if, if_neg (by omega), up_r _ _ _ _ (by decide), up_r _ _ _ _ (by decide), c99]; exact g0
                         · rw [up_r _ _ _ _ (by decide), up_if, if_neg (by omega), up_if, if_neg (by omega), up_r _ _ _ _ (by decide), up_r _ _ _ _ (by decide), c99]; exact g1
                         · rw [up_r _ _ _ _ (by decide), up_r _ _ _ _ (by decide), up_r _ _ _ _ (by decide), up_r _ _ _ _ (by decide), up_if, if_neg (by omega), c100, if_neg (by omega)]; exact g2
                         · rw [up_r _ _ _ _ (by decide), up_r _ _ _ _ (by decide), up_r _ _ _ _ (by decide), up_if, if_neg (by omega), up_r _ _ _ _ (by decide), c101, if_neg (by omega)]; exact g3
                         · rw [up_r _ _ _ _ (by decide), up_r _ _ _ _ (by decide), up_r _ _ _ _ (by decide), up_r _ _ _ _ (by decide), up_if, if_neg (by omega), c100, if_neg (by omega)]; exact g4
                         · rw [up_r _ _ _ _ (by decide), up_r _ _ _ _ (by decide), up_r _ _ _ _ (by decide), up_if, if_neg (by omega), up_r _ _ _ _ (by decide), c101, if_neg (by omega)]; exact g5
                       · obtain rfl : k = m := by omega
                         refine ⟨?_, ?_, ?_, ?_, ?_, ?_⟩
                         · rw [up_r _ _ _ _ (by decide), up_if, if_neg (by omega), up_if, if_pos (by omega)]
                         · rw [up_r _ _ _ _ (by decide), up_if, if_pos (by omega)]
                         · rw [up_r _ _ _ _ (by decide), up_r _ _ _ _ (by decide), up_r _ _ _ _ (by decide), up_r _ _ _ _ (by decide), up_if, if_neg (by omega), c100, if_pos rfl]
                         · rw [up_r _ _ _ _ (by decide), up_r _ _ _ _ (by decide), up_r _ _ _ _ (by decide), up_if, if_neg (by omega), up_r _ _ _ _ (by decide), c101, if_pos rfl]
                         · rw [up_r _ _ _ _ (by decide), up_r _ _ _ _ (by decide), up_r _ _ _ _ (by decide), up_r _ _ _ _ (by decide), up_if, if_pos (by omega), b2]
                         · rw [up_r _ _ _ _ (by decide), up_r _ _ _ _ (by decide), up_r _ _ _ _ (by decide), up_if, if_pos (by omega), b3]
                     · by_cases hkm : k < m
                       · exact hI.2.2 k hkm
                       · rw [show k = m by omega]; exact hc)
                · skip
                  refine AW_goto (tgt := 11) dX12_findsClasses_141 (by decide) ?_
                  first
                  | (exfalso; omega)
                  | (have hno : ¬ clOk D m := fun hc => by
                       have h3 : 0 ≤ clCol D m 2 := hc.2.2.1
                       have h4 : 0 ≤ clCol D m 4 := hc.2.2.2
                       omega
                     refine ih m _ _ _ 0 _ _ _ (by rw [if_pos rfl]; omega) ((hFc.ua (by decide) (by decide) _ _).ua (by decide) (by decide) _ _) ⟨?_, fun k hk => ?_, hI.2.2⟩ (Or.inr ⟨rfl, hno⟩)
                     · rw [up_r _ _ _ _ (by decide), up_r _ _ _ _ (by decide)]; exact m2
                     · obtain ⟨g0, g1, g2, g3, g4, g5⟩ := hI.2.1 k hk
                       refine ⟨?_, ?_, ?_, ?_, ?_, ?_⟩
                       · rw [up_r _ _ _ _ (by decide), up_r _ _ _ _ (by decide), c99]; exact g0
                       · rw [up_r _ _ _ _ (by decide), up_r _ _ _ _ (by decide), c99]; exact g1
                       · rw [up_r _ _ _ _ (by decide), up_if, if_neg (by omega), c100, if_neg (by omega)]; exact g2
                       · rw [up_if, if_neg (by omega), up_r _ _ _ _ (by decide), c101, if_neg (by omega)]; exact g3
                       · rw [up_r _ _ _ _ (by decide), up_if, if_neg (by omega), c100, if_neg (by omega)]; exact g4
                       · rw [up_if, if_neg (by omega), up_r _ _ _ _ (by decide), c101, if_neg (by omega)]; exact g5)
          · skip
            refine AW_iconst dX12_findsClasses_78 ?_
            refine AW_goto (tgt := 83) dX12_findsClasses_79 (by decide) ?_
            refine AW_istore3 dX12_findsClasses_83 ?_
            refine AW_aload_n dX12_findsClasses_84 rfl ?_
            refine AW_iconst dX12_findsClasses_85 ?_
            refine AW_iload_n dX12_findsClasses_86 rfl ?_
            rw [g2]
            refine AW_callV2 (d' := d - 1) dX12_findsClasses_87 (Or.inl lkX12_182) mfX12_barFrom (hS1.cel rfl) ⟨_, rfl, rfl⟩ (n_bar (f := (clA D m).1) (hS1.up _ _ _ |>.up _ _ _) (hR.fm (fs := [12, 16, 17]) (L := [99, 100, 101]) ((hFa.ua (by decide) (by decide) _ _).ua (by decide) (by decide) _ _)) hW 0 (by decide) (show ((clA D m).1 : Int) < D 0 0 by omega)) (by omega) (Nat.le_of_ble_eq_true rfl) ?_
            rintro _ ρ2 ⟨rfl, hF2, b2, b3⟩ -
            have b2 : ρ2.2.1 94 16 = clCol D m 4 := b2
            have b3 : ρ2.2.1 94 17 = clCol D m 5 := b3
            have hFc : Fm [12, 16, 17] [99, 100, 101] σ ρ2 := ((hFa.ua (by decide) (by decide) _ _).ua (by decide) (by decide) _ _).tr (hF2.mo (by decide) (by decide))
            have hS2 := hFc.sta hS
            have m2 : ρ2.2.1 94 12 = m := by rw [hF2.f 12, up_r _ _ _ _ (by decide), up_r _ _ _ _ (by decide), m1]
            have c99 : ∀ j, ρ2.2.1 99 j = τ.2.1 99 j := fun j => by rw [hF2.a 99 j, up_r _ _ _ _ (by decide), up_r _ _ _ _ (by decide), hF1.a 99 j]
            have c100 : ∀ j, ρ2.2.1 100 j = if j = m then clCol D m 2 else τ.2.1 100 j := fun j => by
              rw [hF2.a 100 j, up_r _ _ _ _ (by decide), up_if, hF1.a 100 j, a2]
              by_cases hc : j = m
              · rw [if_pos hc, if_pos (by omega)]
              · rw [if_neg hc, if_neg (by omega)]
            have c101 : ∀ j, ρ2.2.1 101 j = if j = m then clCol D m 3 else τ.2.1 101 j := fun j => by
              rw [hF2.a 101 j, up_if, up_r _ _ _ _ (by decide), hF1.a 101 j, a3]
              by_cases hc : j = m
              · rw [if_pos hc, if_pos (by omega)]
              · rw [if_neg hc, if_neg (by omega)]
            refine AW_istore6 dX12_findsClasses_90 ?_
            refine AW_aload_n dX12_findsClasses_92 rfl ?_
            refine AW_getR (a := 100) dX12_findsClasses_93 gfX12_38 (hS2.cel rfl) (hS2.rf rfl) ?_
            refine AW_bipush dX12_findsClasses_96 ?_
            refine AW_iload dX12_findsClasses_98 rfl ?_
            refine AW_iaddE dX12_findsClasses_100 (by omega) (by omega) ?_
            refine AW_aload_n dX12_findsClasses_101 rfl ?_
            refine AW_getI dX12_findsClasses_102 gfX12_176 (hS2.cel rfl) ?_
            refine AW_iast dX12_findsClasses_105 (hS2.cel rfl) (by omega) (by omega) ?_
            refine AW_aload_n dX12_findsClasses_106 rfl ?_
            refine AW_getR (a := 101) dX12_findsClasses_107 gfX12_41 (hS2.cel rfl) (hS2.rf rfl) ?_
            refine AW_bipush dX12_findsClasses_110 ?_
            refine AW_iload dX12_findsClasses_112 rfl ?_
            refine AW_iaddE dX12_findsClasses_114 (by omega) (by omega) ?_
            refine AW_aload_n dX12_findsClasses_115 rfl ?_
            refine AW_getI dX12_findsClasses_116 gfX12_173 (hS2.cel rfl) ?_
            (repeat (first | rw [up_r _ _ _ _ (by decide)] | rw [up_j _ _ _ (by decide)] | rw [up_at]))
            refine AW_iast dX12_findsClasses_119 (hS2.cel rfl) (by omega) (by omega) ?_
            refine AW_iload_n dX12_findsClasses_120 rfl ?_
            refine AW_if_eq (tgt := 135) dX12_findsClasses_121 (by decide) (fun c_121 => ?_) (fun c_121 => ?_)
            · skip
              refine AW_iconst dX12_findsClasses_135 ?_
              refine AW_istore3 dX12_findsClasses_136 ?_
              refine AW_iload_n dX12_findsClasses_137 rfl ?_
              refine AW_if_ne (tgt := 144) dX12_findsClasses_138 (by decide) (fun c_138 => ?_) (fun c_138 => ?_)
              · skip
                have t0 : ((chT D (Int.toNat 0) (clA D m).1).1 : Int) < D 0 0 := (chT_in hW (s := 0) (by decide) (show ((clA D m).1 : Int) < D 0 0 by omega)).1.2
                have t1 : ((chT D (Int.toNat 1) (clA D m).2).1 : Int) < D 0 1 := (chT_in hW (s := 1) (by decide) (show ((clA D m).2 : Int) < D 0 1 by omega)).1.2
                refine AW_aload_n dX12_findsClasses_144 rfl ?_
                refine AW_getR (a := 99) dX12_findsClasses_145 gfX12_35 (hS2.cel rfl) (hS2.rf rfl) ?_
                refine AW_iload dX12_findsClasses_148 rfl ?_
                refine AW_iload dX12_findsClasses_150 rfl ?_
                refine AW_iast dX12_findsClasses_152 (hS2.cel rfl) (by omega) (by omega) ?_
                refine AW_aload_n dX12_findsClasses_153 rfl ?_
                refine AW_getR (a := 99) dX12_findsClasses_154 gfX12_35 (hS2.cel rfl) (hS2.rf rfl) ?_
                refine AW_bipush dX12_findsClasses_157 ?_
                refine AW_iload dX12_findsClasses_159 rfl ?_
                refine AW_iaddE dX12_findsClasses_161 (by omega) (by omega) ?_
                refine AW_iload dX12_findsClasses_162 rfl ?_
                refine AW_iast dX12_findsClasses_164 (hS2.cel rfl) (by omega) (by omega) ?_
                refine AW_aload_n dX12_findsClasses_165 rfl ?_
                refine AW_aload_n dX12_findsClasses_166 rfl ?_
                refine AW_getI dX12_findsClasses_167 gfX12_179 (hS2.cel rfl) ?_
                (repeat (first | rw [up_r _ _ _ _ (by decide)] | rw [up_j _ _ _ (by decide)] | rw [up_at]))
                refine AW_iconst dX12_findsClasses_170 ?_
                refine AW_iaddE dX12_findsClasses_171 (by omega) (by omega) ?_
                refine AW_putI dX12_findsClasses_172 (Or.inl pfX12_179) (hS2.cel rfl) ?_
                refine AW_iload dX12_findsClasses_175 rfl ?_
                refine AW_iconst dX12_findsClasses_177 ?_
                refine AW_iaddE dX12_findsClasses_178 (by omega) (by omega) ?_
                refine AW_istore1 dX12_findsClasses_179 ?_
                refine AW_iload dX12_findsClasses_180 rfl ?_
                refine AW_iconst dX12_findsClasses_182 ?_
                refine AW_iaddE dX12_findsClasses_183 (by omega) (by omega) ?_
                refine AW_istore2 dX12_findsClasses_184 ?_
                refine AW_goto (tgt := 11) dX12_findsClasses_185 (by decide) ?_
                first
                | (exfalso; omega)
                | (have hc : clOk D m := ⟨by omega, by omega, (by omega : 0 ≤ clCol D m 2), (by omega : 0 ≤ clCol D m 4)⟩
                   rw [show ((chT D (Int.toNat 0) (clA D m).1).1 : Int) + 1 = ((clA D (m + 1)).1 : Int) from rfl, show ((chT D (Int.toNat 1) (clA D m).2).1 : Int) + 1 = ((clA D (m + 1)).2 : Int) from rfl]
                   rw [show ((chT D (Int.toNat 0) (clA D m).1).1 : Int) = clCol D m 0 from rfl, show ((chT D (Int.toNat 1) (clA D m).2).1 : Int) = clCol D m 1 from rfl]
                   refine ih (m + 1) _ _ _ 1 _ _ _ (by rw [if_neg (by decide)]; omega) (((((hFc.ua (by decide) (by decide) _ _).ua (by decide) (by decide) _ _).ua (by decide) (by decide) _ _).ua (by decide) (by decide) _ _).uf (by decide) _) ⟨?_, fun k hk => ?_, fun k hk => ?_⟩ (Or.inl ⟨rfl, rfl, rfl⟩)
                   · rw [up_at, m2]; rfl
                   · by_cases hkm : k < m
                     · obtain ⟨g0, g1, g2, g3, g4, g5⟩ := hI.2.1 k hkm
                       refine ⟨?_, ?_, ?_, ?_, ?_, ?_⟩
                       · rw [up_r _ _ _ _ (by decide), up_if, if_neg (by omega), up_if, if_neg (by omega), up_r _ _ _ _ (by decide), up_r _ _ _ _ (by decide), c99]; exact g0
                       · rw [up_r _ _ _ _ (by decide), up_if, if_neg (by omega), up_if, if_neg (by omega), up_r _ _ _ _ (by decide), up_r _ _ _ _ (by decide), c99]; exact g1
                       · rw [up_r _ _ _ _ (by decide), up_r _ _ _ _ (by decide), up_r _ _ _ _ (by decide), up_r _ _ _ _ (by decide), up_if, if_neg (by omega), c100, if_neg (by omega)]; exact g2
                       · rw [up_r _ _ _ _ (by decide), up_r _ _ _ _ (by decide), up_r _ _ _ _ (by decide), up_if, if_neg (by omega), up_r _ _ _ _ (by decide), c101, if_neg (by omega)]; exact g3
                       · rw [up_r _ _ _ _ (by decide), up_r _ _ _ _ (by decide), up_r _ _ _ _ (by decide), up_r _ _ _ _ (by decide), up_if, if_neg (by omega), c100, if_neg (by omega)]; exact g4
                       · rw [up_r _ _ _ _ (by decide), up_r _ _ _ _ (by decide), up_r _ _ _ _ (by decide), up_if, if_neg (by omega), up_r _ _ _ _ (by decide), c101, if_neg (by omega)]; exact g5
                     · obtain rfl : k = m := by omega
                       refine ⟨?_, ?_, ?_, ?_, ?_, ?_⟩
                       · rw [up_r _ _ _ _ (by decide), up_if, if_neg (by omega), up_if, if_pos (by omega)]
                       · rw [up_r _ _ _ _ (by decide), up_if, if_pos (by omega)]
                       · rw [up_r _ _ _ _ (by decide), up_r _ _ _ _ (by decide), up_r _ _ _ _ (by decide), up_r _ _ _ _ (by decide), up_if, if_neg (by omega), c100, if_pos rfl]
                       · rw [up_r _ _ _ _ (by decide), up_r _ _ _ _ (by decide), up_r _ _ _ _ (by decide), up_if, if_neg (by omega), up_r _ _ _ _ (by decide), c101, if_pos rfl]
                       · rw [up_r _ _ _ _ (by decide), up_r _ _ _ _ (by decide), up_r _ _ _ _ (by decide), up_r _ _ _ _ (by decide), up_if, if_pos (by omega), b2]
                       · rw [up_r _ _ _ _ (by decide), up_r _ _ _ _ (by decide), up_r _ _ _ _ (by decide), up_if, if_pos (by omega), b3]
                   · by_cases hkm : k < m
                     · exact hI.2.2 k hkm
                     · rw [show k = m by omega]; exact hc)
              · skip
                refine AW_goto (tgt := 11) dX12_findsClasses_141 (by decide) ?_
                first
                | (exfalso; omega)
                | (have hno : ¬ clOk D m := fun hc => by
                     have h3 : 0 ≤ clCol D m 2 := hc.2.2.1
                     have h4 : 0 ≤ clCol D m 4 := hc.2.2.2
                     omega
                   refine ih m _ _ _ 0 _ _ _ (by rw [if_pos rfl]; omega) ((hFc.ua (by decide) (by decide) _ _).ua (by decide) (by decide) _ _) ⟨?_, fun k hk => ?_, hI.2.2⟩ (Or.inr ⟨rfl, hno⟩)
                   · rw [up_r _ _ _ _ (by decide), up_r _ _ _ _ (by decide)]; exact m2
                   · obtain ⟨g0, g1, g2, g3, g4, g5⟩ := hI.2.1 k hk
                     refine ⟨?_, ?_, ?_, ?_, ?_, ?_⟩
                     · rw [up_r _ _ _ _ (by decide), up_r _ _ _ _ (by decide), c99]; exact g0
                     · rw [up_r _ _ _ _ (by decide), up_r _ _ _ _ (by decide), c99]; exact g1
                     · rw [up_r _ _ _ _ (by decide), up_if, if_neg (by omega), c100, if_neg (by omega)]; exact g2
                     · rw [up_if, if_neg (by omega), up_r _ _ _ _ (by decide), c101, if_neg (by omega)]; exact g3
                     · rw [up_r _ _ _ _ (by decide), up_if, if_neg (by omega), c100, if_neg (by omega)]; exact g4
                     · rw [up_if, if_neg (by omega), up_r _ _ _ _ (by decide), c101, if_neg (by omega)]; exact g5)
            · skip
              refine AW_aload_n dX12_findsClasses_124 rfl ?_
              refine AW_getI dX12_findsClasses_125 gfX12_176 (hS2.cel rfl) ?_
              (repeat (first | rw [up_r _ _ _ _ (by decide)] | rw [up_j _ _ _ (by decide)] | rw [up_at]))
              refine AW_if_lt (tgt := 135) dX12_findsClasses_128 (by decide) (fun c_128 => ?_) (fun c_128 => ?_)
              · skip
                refine AW_iconst dX12_findsClasses_135 ?_
                refine AW_istore3 dX12_findsClasses_136 ?_
                refine AW_iload_n dX12_findsClasses_137 rfl ?_
                refine AW_if_ne (tgt := 144) dX12_findsClasses_138 (by decide) (fun c_138 => ?_) (fun c_138 => ?_)
                · skip
                  have t0 : ((chT D (Int.toNat 0) (clA D m).1).1 : Int) < D 0 0 := (chT_in hW (s := 0) (by decide) (show ((clA D m).1 : Int) < D 0 0 by omega)).1.2
                  have t1 : ((chT D (Int.toNat 1) (clA D m).2).1 : Int) < D 0 1 := (chT_in hW (s := 1) (by decide) (show ((clA D m).2 : Int) < D 0 1 by omega)).1.2
                  refine AW_aload_n dX12_findsClasses_144 rfl ?_
                  refine AW_getR (a := 99) dX12_findsClasses_145 gfX12_35 (hS2.cel rfl) (hS2.rf rfl) ?_
                  refine AW_iload dX12_findsClasses_148 rfl ?_
                  refine AW_iload dX12_findsClasses_150 rfl ?_
                  refine AW_iast dX12_findsClasses_152 (hS2.cel rfl) (by omega) (by omega) ?_
                  refine AW_aload_n dX12_findsClasses_153 rfl ?_
                  refine AW_getR (a := 99) dX12_findsClasses_154 gfX12_35 (hS2.cel rfl) (hS2.rf rfl) ?_
                  refine AW_bipush dX12_findsClasses_157 ?_
                  refine AW_iload dX12_findsClasses_159 rfl ?_
                  refine AW_iaddE dX12_findsClasses_161 (by omega) (by omega) ?_
                  refine AW_iload dX12_findsClasses_162 rfl ?_
                  refine AW_iast dX12_findsClasses_164 (hS2.cel rfl) (by omega) (by omega) ?_
                  refine AW_aload_n dX12_findsClasses_165 rfl ?_
                  refine AW_aload_n dX12_findsClasses_166 rfl ?_
                  refine AW_getI dX12_findsClasses_167 gfX12_179 (hS2.cel rfl) ?_
                  (repeat (first | rw [up_r _ _ _ _ (by decide)] | rw [up_j _ _ _ (by decide)] | rw [up_at]))
                  refine AW_iconst dX12_findsClasses_170 ?_
                  refine AW_iaddE dX12_findsClasses_171 (by omega) (by omega) ?_
                  refine AW_putI dX12_findsClasses_172 (Or.inl pfX12_179) (hS2.cel rfl) ?_
                  refine AW_iload dX12_findsClasses_175 rfl ?_
                  refine AW_iconst dX12_findsClasses_177 ?_
                  refine AW_iaddE dX12_findsClasses_178 (by omega) (by omega) ?_
                  refine AW_istore1 dX12_findsClasses_179 ?_
                  refine AW_iload dX12_findsClasses_180 rfl ?_
                  refine AW_iconst dX12_findsClasses_182 ?_
                  refine AW_iaddE dX12_findsClasses_183 (by omega) (by omega) ?_
                  refine AW_istore2 dX12_findsClasses_184 ?_
                  refine AW_goto (tgt := 11) dX12_findsClasses_185 (by decide) ?_
                  first
                  | (exfalso; omega)
                  | (have hc : clOk D m := ⟨by omega, by omega, (by omega : 0 ≤ clCol D m 2), (by omega : 0 ≤ clCol D m 4)⟩
                     rw [show ((chT D (Int.toNat 0) (clA D m).1).1 : Int) + 1 = ((clA D (m + 1)).1 : Int) from rfl, show ((chT D (Int.toNat 1) (clA D m).2).1 : Int) + 1 = ((clA D (m + 1)).2 : Int) from rfl]
                     rw [show ((chT D (Int.toNat 0) (clA D m).1).1 : Int) = clCol D m 0 from rfl, show ((chT D (Int.toNat 1) (clA D m).2).1 : Int) = clCol D m 1 from rfl]
                     refine ih (m + 1) _ _ _ 1 _ _ _ (by rw [if_neg (by decide)]; omega) (((((hFc.ua (by decide) (by decide) _ _).ua (by decide) (by decide) _ _).ua (by decide) (by decide) _ _).ua (by decide) (by decide) _ _).uf (by decide) _) ⟨?_, fun k hk => ?_, fun k hk => ?_⟩ (Or.inl ⟨rfl, rfl, rfl⟩)
                     · rw [up_at, m2]; rfl
                     · by_cases hkm : k < m
                       · obtain ⟨g0, g1, g2, g3, g4, g5⟩ := hI.2.1 k hkm
                         refine ⟨?_, ?_, ?_, ?_, ?_, ?_⟩
                         · rw [up_r _ _ _ _ (by decide), up_if, if_neg (by omega), up_if, if_neg (by omega), up_r _ _ _ _ (by decide), up_r _ _ _ _ (by decide), c99]; exact g0
                         · rw [up_r _ _ _ _ (by decide), up_if, if_neg (by omega), up_if, if_neg (by omega), up_r _ _ _ _ (by decide), up_r _ _ _ _ (by decide), c99]; exact g1
                         · rw [up_r _ _ _ _ (by decide), up_r _ _ _ _ (by decide), up_r _ _ _ _ (by decide), up_r _ _ _ _ (by decide), up_if, if_neg (by omega), c100, if_neg (by omega)]; exact g2
                         · rw [up_r _ _ _ _ (by decide), up_r _ _ _ _ (by decide), up_r _ _ _ _ (by decide), up_if, if_neg (by omega), up_r _ _ _ _ (by decide), c101, if_neg (by omega)]; exact g3
                         · rw [up_r _ _ _ _ (by decide), up_r _ _ _ _ (by decide), up_r _ _ _ _ (by decide), up_r _ _ _ _ (by decide), up_if, if_neg (by omega), c100, if_neg (by omega)]; exact g4
                         · rw [up_r _ _ _ _ (by decide), up_r _ _ _ _ (by decide), up_r _ _ _ _ (by decide), up_if, if_neg (by omega), up_r _ _ _ _ (by decide), c101, if_neg (by omega)]; exact g5
                       · obtain rfl : k = m := by omega
                         refine ⟨?_, ?_, ?_, ?_, ?_, ?_⟩
                         · rw [up_r _ _ _ _ (by decide), up_if, if_neg (by omega), up_if, if_pos (by omega)]
                         · rw [up_r _ _ _ _ (by decide), up_if, if_pos (by omega)]
                         · rw [up_r _ _ _ _ (by decide), up_r _ _ _ _ (by decide), up_r _ _ _ _ (by decide), up_r _ _ _ _ (by decide), up_if, if_neg (by omega), c100, if_pos rfl]
                         · rw [up_r _ _ _ _ (by decide), up_r _ _ _ _ (by decide), up_r _ _ _ _ (by decide), up_if, if_neg (by omega), up_r _ _ _ _ (by decide), c101, if_pos rfl]
                         · rw [up_r _ _ _ _ (by decide), up_r _ _ _ _ (by decide), up_r _ _ _ _ (by decide), up_r _ _ _ _ (by decide), up_if, if_pos (by omega), b2]
                         · rw [up_r _ _ _ _ (by decide), up_r _ _ _ _ (by decide), up_r _ _ _ _ (by decide), up_if, if_pos (by omega), b3]
                     · by_cases hkm : k < m
                       · exact hI.2.2 k hkm
                       · rw [show k = m by omega]; exact hc)
                · skip
                  refine AW_goto (tgt := 11) dX12_findsClasses_141 (by decide) ?_
                  first
                  | (exfalso; omega)
                  | (have hno : ¬ clOk D m := fun hc => by
                       have h3 : 0 ≤ clCol D m 2 := hc.2.2.1
                       have h4 : 0 ≤ clCol D m 4 := hc.2.2.2
                       omega
                     refine ih m _ _ _ 0 _ _ _ (by rw [if_pos rfl]; omega) ((hFc.ua (by decide) (by decide) _ _).ua (by decide) (by decide) _ _) ⟨?_, fun k hk => ?_, hI.2.2⟩ (Or.inr ⟨rfl, hno⟩)
                     · rw [up_r _ _ _ _ (by decide), up_r _ _ _ _ (by decide)]; exact m2
                     · obtain ⟨g0, g1, g2, g3, g4, g5⟩ := hI.2.1 k hk
                       refine ⟨?_, ?_, ?_, ?_, ?_, ?_⟩
                       · rw [up_r _ _ _ _ (by decide), up_r _ _ _ _ (by decide), c99]; exact g0
                       · rw [up_r _ _ _ _ (by decide), up_r _ _ _ _ (by decide), c99]; exact g1
                       · rw [up_r _ _ _ _ (by decide), up_if, if_neg (by omega), c100, if_neg (by omega)]; exact g2
                       · rw [up_if, if_neg (by omega), up_r _ _ _ _ (by decide), c101, if_neg (by omega)]; exact g3
                       · rw [up_r _ _ _ _ (by decide), up_if, if_neg (by omega), c100, if_neg (by omega)]; exact g4
                       · rw [up_if, if_neg (by omega), up_r _ _ _ _ (by decide), c101, if_neg (by omega)]; exact g5)
              · skip
                refine AW_iconst dX12_findsClasses_131 ?_
                refine AW_goto (tgt := 136) dX12_findsClasses_132 (by decide) ?_
                refine AW_istore3 dX12_findsClasses_136 ?_
                refine AW_iload_n dX12_findsClasses_137 rfl ?_
                refine AW_if_ne (tgt := 144) dX12_findsClasses_138 (by decide) (fun c_138 => ?_) (fun c_138 => ?_)
                · skip
                  have t0 : ((chT D (Int.toNat 0) (clA D m).1).1 : Int) < D 0 0 := (chT_in hW (s := 0) (by decide) (show ((clA D m).1 : Int) < D 0 0 by omega)).1.2
                  have t1 : ((chT D (Int.toNat 1) (clA D m).2).1 : Int) < D 0 1 := (chT_in hW (s := 1) (by decide) (show ((clA D m).2 : Int) < D 0 1 by omega)).1.2
                  refine AW_aload_n dX12_findsClasses_144 rfl ?_
                  refine AW_getR (a := 99) dX12_findsClasses_145 gfX12_35 (hS2.cel rfl) (hS2.rf rfl) ?_
                  refine AW_iload dX12_findsClasses_148 rfl ?_
                  refine AW_iload dX12_findsClasses_150 rfl ?_
                  refine AW_iast dX12_findsClasses_152 (hS2.cel rfl) (by omega) (by omega) ?_
                  refine AW_aload_n dX12_findsClasses_153 rfl ?_
                  refine AW_getR (a := 99) dX12_findsClasses_154 gfX12_35 (hS2.cel rfl) (hS2.rf rfl) ?_
                  refine AW_bipush dX12_findsClasses_157 ?_
                  refine AW_iload dX12_findsClasses_159 rfl ?_
                  refine AW_iaddE dX12_findsClasses_161 (by omega) (by omega) ?_
                  refine AW_iload dX12_findsClasses_162 rfl ?_
                  refine AW_iast dX12_findsClasses_164 (hS2.cel rfl) (by omega) (by omega) ?_
                  refine AW_aload_n dX12_findsClasses_165 rfl ?_
                  refine AW_aload_n dX12_findsClasses_166 rfl ?_
                  refine AW_getI dX12_findsClasses_167 gfX12_179 (hS2.cel rfl) ?_
                  (repeat (first | rw [up_r _ _ _ _ (by decide)] | rw [up_j _ _ _ (by decide)] | rw [up_at]))
                  refine AW_iconst dX12_findsClasses_170 ?_
                  refine AW_iaddE dX12_findsClasses_171 (by omega) (by omega) ?_
                  refine AW_putI dX12_findsClasses_172 (Or.inl pfX12_179) (hS2.cel rfl) ?_
                  refine AW_iload dX12_findsClasses_175 rfl ?_
                  refine AW_iconst dX12_findsClasses_177 ?_
                  refine AW_iaddE dX12_findsClasses_178 (by omega) (by omega) ?_
                  refine AW_istore1 dX12_findsClasses_179 ?_
                  refine AW_iload dX12_findsClasses_180 rfl ?_
                  refine AW_iconst dX12_findsClasses_182 ?_
                  refine AW_iaddE dX12_findsClasses_183 (by omega) (by omega) ?_
                  refine AW_istore2 dX12_findsClasses_184 ?_
                  refine AW_goto (tgt := 11) dX12_findsClasses_185 (by decide) ?_
                  first
                  | (exfalso; omega)
                  | (have hc : clOk D m := ⟨by omega, by omega, (by omega : 0 ≤ clCol D m 2), (by omega : 0 ≤ clCol D m 4)⟩
                     rw [show ((chT D (Int.toNat 0) (clA D m).1).1 : Int) + 1 = ((clA D (m + 1)).1 : Int) from rfl, show ((chT D (Int.toNat 1) (clA D m).2).1 : Int) + 1 = ((clA D (m + 1)).2 : Int) from rfl]
                     rw [show ((chT D (Int.toNat 0) (clA D m).1).1 : Int) = clCol D m 0 from rfl, show ((chT D (Int.toNat 1) (clA D m).2).1 : Int) = clCol D m 1 from rfl]
                     refine ih (m + 1) _ _ _ 1 _ _ _ (by rw [if_neg (by decide)]; omega) (((((hFc.ua (by decide) (by decide) _ _).ua (by decide) (by decide) _ _).ua (by decide) (by decide) _ _).ua (by decide) (by decide) _ _).uf (by decide) _) ⟨?_, fun k hk => ?_, fun k hk => ?_⟩ (Or.inl ⟨rfl, rfl, rfl⟩)
                     · rw [up_at, m2]; rfl
                     · by_cases hkm : k < m
                       · obtain ⟨g0, g1, g2, g3, g4, g5⟩ := hI.2.1 k hkm
                         refine ⟨?_, ?_, ?_, ?_, ?_, ?_⟩
                         · rw [up_r _ _ _ _ (by decide), up_if, if_neg (by omega), up_if, if_neg (by omega), up_r _ _ _ _ (by decide), up_r _ _ _ _ (by decide), c99]; exact g0
                         · rw [up_r _ _ _ _ (by decide), up_if, if_neg (by omega), up_if, if_neg (by omega), up_r _ _ _ _ (by decide), up_r _ _ _ _ (by decide), c99]; exact g1
                         · rw [up_r _ _ _ _ (by decide), up_r _ _ _ _ (by decide), up_r _ _ _ _ (by decide), up_r _ _ _ _ (by decide), up_if, if_neg (by omega), c100, if_neg (by omega)]; exact g2
                         · rw [up_r _ _ _ _ (by decide), up_r _ _ _ _ (by decide), up_r _ _ _ _ (by decide), up_if, if_neg (by omega), up_r _ _ _ _ (by decide), c101, if_neg (by omega)]; exact g3
                         · rw [up_r _ _ _ _ (by decide), up_r _ _ _ _ (by decide), up_r _ _ _ _ (by decide), up_r _ _ _ _ (by decide), up_if, if_neg (by omega), c100, if_neg (by omega)]; exact g4
                         · rw [up_r _ _ _ _ (by decide), up_r _ _ _ _ (by decide), up_r _ _ _ _ (by decide), up_if, if_neg (by omega), up_r _ _ _ _ (by decide), c101, if_neg (by omega)]; exact g5
                       · obtain rfl : k = m := by omega
                         refine ⟨?_, ?_, ?_, ?_, ?_, ?_⟩
                         · rw [up_r _ _ _ _ (by decide), up_if, if_neg (by omega), up_if, if_pos (by omega)]
                         · rw [up_r _ _ _ _ (by decide), up_if, if_pos (by omega)]
                         · rw [up_r _ _ _ _ (by decide), up_r _ _ _ _ (by decide), up_r _ _ _ _ (by decide), up_r _ _ _ _ (by decide), up_if, if_neg (by omega), c100, if_pos rfl]
                         · rw [up_r _ _ _ _ (by decide), up_r _ _ _ _ (by decide), up_r _ _ _ _ (by decide), up_if, if_neg (by omega), up_r _ _ _ _ (by decide), c101, if_pos rfl]
                         · rw [up_r _ _ _ _ (by decide), up_r _ _ _ _ (by decide), up_r _ _ _ _ (by decide), up_r _ _ _ _ (by decide), up_if, if_pos (by omega), b2]
                         · rw [up_r _ _ _ _ (by decide), up_r _ _ _ _ (by decide), up_r _ _ _ _ (by decide), up_if, if_pos (by omega), b3]
                     · by_cases hkm : k < m
                       · exact hI.2.2 k hkm
                       · rw [show k = m by omega]; exact hc)
                · skip
                  refine AW_goto (tgt := 11) dX12_findsClasses_141 (by decide) ?_
                  first
                  | (exfalso; omega)
                  | (have hno : ¬ clOk D m := fun hc => by
                       have h3 : 0 ≤ clCol D m 2 := hc.2.2.1
                       have h4 : 0 ≤ clCol D m 4 := hc.2.2.2
                       omega
                     refine ih m _ _ _ 0 _ _ _ (by rw [if_pos rfl]; omega) ((hFc.ua (by decide) (by decide) _ _).ua (by decide) (by decide) _ _) ⟨?_, fun k hk => ?_, hI.2.2⟩ (Or.inr ⟨rfl, hno⟩)
                     · rw [up_r _ _ _ _ (by decide), up_r _ _ _ _ (by decide)]; exact m2
                     · obtain ⟨g0, g1, g2, g3, g4, g5⟩ := hI.2.1 k hk
                       refine ⟨?_, ?_, ?_, ?_, ?_, ?_⟩
                       · rw [up_r _ _ _ _ (by decide), up_r _ _ _ _ (by decide), c99]; exact g0
                       · rw [up_r _ _ _ _ (by decide), up_r _ _ _ _ (by decide), c99]; exact g1
                       · rw [up_r _ _ _ _ (by decide), up_if, if_neg (by omega), c100, if_neg (by omega)]; exact g2
                       · rw [up_if, if_neg (by omega), up_r _ _ _ _ (by decide), c101, if_neg (by omega)]; exact g3
                       · rw [up_r _ _ _ _ (by decide), up_if, if_neg (by omega), c100, if_neg (by omega)]; exact g4
                       · rw [up_if, if_neg (by omega), up_r _ _ _ _ (by decide), c101, if_neg (by omega)]; exact g5)
theorem n_fc {G : Gt} {d : Nat} {σ : St} (hd : 2 ≤ d) {D : Mk} (hS : Sta σ) (hR : RepM D σ) (hW : WFm D)  : AM mX12_findsClasses G d 0 0 [vR 94] σ (fun ro ρ => ro = none ∧ Fm [12, 16, 17] [99, 100, 101] σ ρ ∧ ∃ m, isCnt D m ∧ mclI D ρ m) := by
  refine AM.intro (by decide +kernel) (by simp [nLg]) (Nat.le_of_ble_eq_true rfl) (fun hO => ?_)
  show AW _ _ _ _ _ _ 0 [some (vR 94), none, none, none, none, none, none] [] σ
  refine AW_aload_n dX12_findsClasses_0 rfl ?_
  refine AW_iconst dX12_findsClasses_1 ?_
  refine AW_putI dX12_findsClasses_2 (Or.inl pfX12_179) (hS.cel rfl) ?_
  refine AW_iconst dX12_findsClasses_5 ?_
  refine AW_istore1 dX12_findsClasses_6 ?_
  refine AW_iconst dX12_findsClasses_7 ?_
  refine AW_istore2 dX12_findsClasses_8 ?_
  refine AW_iconst dX12_findsClasses_9 ?_
  refine AW_istore3 dX12_findsClasses_10 ?_
  exact ln_fc hS hR hW hd 9 0 none none none 1 0 0 _ (by decide) (Fm.rf.uf (by decide) _) ⟨up_at _ _ _ _, fun k hk => absurd hk (by omega), fun k hk => absurd hk (by omega)⟩ (Or.inl ⟨rfl, rfl, rfl⟩)
theorem m_classes {G : Gt} {d : Nat} {σ : St} (hd : 3 ≤ d) {D : Mk} (hS : Sta σ) (hR : RepM D σ) (hW : WFm D) (k what : Int)  : AM mX12_classes G d 0 0 [vR 94, vI k, vI what] σ (fun ro ρ => ∃ z : Int, ro = some (vI z) ∧ clAns D k what z ∧ Fm [0, 12, 16, 17] [99, 100, 101] σ ρ) := by
  refine AM.intro (by decide +kernel) (by simp [nLg]) (Nat.le_of_ble_eq_true rfl) (fun hO => ?_)
  have i_k : -2147483648 ≤ k ∧ k < 2147483648 := hO (vI k) (by simp)
  have i_what : -2147483648 ≤ what ∧ what < 2147483648 := hO (vI what) (by simp)
  show AW _ _ _ _ _ _ 0 [some (vR 94), some (vI k), some (vI what), none] [] σ
  refine AW_aload_n dX12_classes_0 rfl ?_
  refine AW_iconst dX12_classes_1 ?_
  refine AW_putI dX12_classes_2 (Or.inl pfX12_142) (hS.cel rfl) ?_
  have hF1 : Fm [0] [] σ (upI σ 94 0 0) := Fm.rf.uf (by decide) _
  have hS1 : Sta (upI σ 94 0 0) := hS
  have hR1 : RepM D (upI σ 94 0 0) := hR.fm hF1
  generalize upI σ 94 0 0 = σ1 at hF1 hS1 hR1 ⊢
  refine AW_aload_n dX12_classes_5 rfl ?_
  refine AW_iload_n dX12_classes_6 rfl ?_
  refine AW_iconst dX12_classes_7 ?_
  refine AW_bipush dX12_classes_8 ?_
  refine AW_callV3 (d' := d - 1) dX12_classes_10 (Or.inl lkX12_149) mfX12_isIn (hS1.cel rfl) ⟨_, rfl, rfl⟩ (n_isIn what 0 8) (by omega) (Nat.le_of_ble_eq_true rfl) ?_
  rintro _ _ ⟨e_, rfl⟩ -
  rw [e_]
  clear e_
  refine AW_if_ne (tgt := 19) dX12_classes_13 (by decide) (fun c_13 => ?_) (fun c_13 => ?_)
  · skip
    replace c_13 := bz1 c_13
    refine AW_aload_n dX12_classes_19 rfl ?_
    refine AW_callV0 (d' := d - 1) dX12_classes_20 (Or.inl lkX12_187) mfX12_areFalling (hS1.cel rfl) ⟨_, rfl, rfl⟩ (n_af hS1 hR1 hW) (by omega) (Nat.le_of_ble_eq_true rfl) ?_
    rintro r1 ρ1 ⟨e_, hf⟩ -
    rw [e_]
    clear e_ ρ1
    have hz : ∃ z : Int, r1 = some (vI z) ∧ ((z = 1 ∧ fallsP D 0 ∧ fallsP D 1) ∨ (z = 0 ∧ ¬ (fallsP D 0 ∧ fallsP D 1))) := by
      rcases hf with ⟨g1, g2⟩ | ⟨g1, g2⟩
      · exact ⟨1, g1, Or.inl ⟨rfl, g2⟩⟩
      · exact ⟨0, g1, Or.inr ⟨rfl, g2⟩⟩
    obtain ⟨z0, rfl, hz0⟩ := hz
    clear hf
    refine AW_if_ne (tgt := 37) dX12_classes_23 (by decide) (fun c_23 => ?_) (fun c_23 => ?_)
    · skip
      refine AW_aload_n dX12_classes_37 rfl ?_
      refine AW_callV0 (d' := d - 1) dX12_classes_38 (Or.inl lkX12_191) mfX12_findsClasses (hS1.cel rfl) ⟨_, rfl, rfl⟩ (n_fc (by omega) hS1 hR1 hW) (by omega) (Nat.le_of_ble_eq_true rfl) ?_
      rintro _ ρ ⟨rfl, hF2, m, hm1, hm2⟩ -
      have hS2 := hF2.sta hS1
      have hF3 : Fm [0, 12, 16, 17] [99, 100, 101] σ ρ := (hF1.mo (by decide) (by decide)).tr (hF2.mo (by decide) (by decide))
      have hR2 := hR1.fm hF2
      have hm6 := cnt_six hW hm1.1
      have hfl : fallsP D 0 ∧ fallsP D 1 := by
        rcases hz0 with q | q
        · exact q.2
        · exact absurd q.1 c_23
      have e4 := hm2.1
      have hcl := clA_in hW m hm1.1
      have hb0 := hW.1 0 (by decide)
      have hb1 := hW.1 1 (by decide)
      refine AW_iload_n dX12_classes_41 rfl ?_
      refine AW_if_ne (tgt := 50) dX12_classes_42 (by decide) (fun c_42 => ?_) (fun c_42 => ?_)
      · skip
        refine AW_iload_n dX12_classes_50 rfl ?_
        refine AW_bipush dX12_classes_51 ?_
        refine AW_icmp_le (tgt := 98) dX12_classes_53 (by decide) (fun c_53 => ?_) (fun c_53 => ?_)
        · skip
          refine AW_aload_n dX12_classes_98 rfl ?_
          refine AW_iload_n dX12_classes_99 rfl ?_
          refine AW_iconst dX12_classes_100 ?_
          refine AW_aload_n dX12_classes_101 rfl ?_
          refine AW_getI dX12_classes_102 gfX12_179 (hS2.cel rfl) ?_
          refine AW_iconst dX12_classes_105 ?_
          refine AW_isubE dX12_classes_106 (by omega) (by omega) ?_
          refine AW_callV3 (d' := d - 1) dX12_classes_107 (Or.inl lkX12_149) mfX12_isIn (hS2.cel rfl) ⟨_, rfl, rfl⟩ (n_isIn k 0 _) (by omega) (Nat.le_of_ble_eq_true rfl) ?_
          rintro _ _ ⟨e_, rfl⟩ -
          rw [e_]
          clear e_
          refine AW_if_ne (tgt := 116) dX12_classes_110 (by decide) (fun c_110 => ?_) (fun c_110 => ?_)
          · skip
            replace c_110 := bz1 c_110
            obtain ⟨g0, g1, g2, g3, g4, g5⟩ := hm2.2.1 k.toNat (by omega)
            refine AW_iload_n dX12_classes_116 rfl ?_
            refine AW_iconst dX12_classes_117 ?_
            refine AW_icmp_ge (tgt := 135) dX12_classes_118 (by decide) (fun c_118 => ?_) (fun c_118 => ?_)
            · skip
              refine AW_iload_n dX12_classes_135 rfl ?_
              refine AW_iconst dX12_classes_136 ?_
              refine AW_isubE dX12_classes_137 (by omega) (by omega) ?_
              refine AW_iconst dX12_classes_138 ?_
              refine AW_idiv dX12_classes_139 (by decide) ?_
              have q1 : 0 ≤ wr ((what - 3).tdiv 2) ∧ wr ((what - 3).tdiv 2) ≤ 1 := by
                rcases (show what = 3 ∨ what = 4 ∨ what = 5 ∨ what = 6 by omega) with rfl | rfl | rfl | rfl <;> decide
              refine AW_istore3 dX12_classes_140 ?_
              refine AW_iload_n dX12_classes_141 rfl ?_
              refine AW_iconst dX12_classes_142 ?_
              refine AW_irem dX12_classes_143 (by decide) ?_
              refine AW_iconst dX12_classes_144 ?_
              refine AW_icmp_ne (tgt := 162) dX12_classes_145 (by decide) (fun c_145 => ?_) (fun c_145 => ?_)
              · skip
                skip
                refine AW_aload_n dX12_classes_162 rfl ?_
                refine AW_getR (a := 101) dX12_classes_163 gfX12_41 (hS2.cel rfl) (hS2.rf rfl) ?_
                refine AW_bipush dX12_classes_166 ?_
                refine AW_iload_n dX12_classes_168 rfl ?_
                refine AW_imulE dX12_classes_169 (by omega) (by omega) ?_
                refine AW_iload_n dX12_classes_170 rfl ?_
                refine AW_iaddE dX12_classes_171 (by omega) (by omega) ?_
                refine AW_iald dX12_classes_172 (hS2.cel rfl) (by omega) (by omega) ?_
                refine AW_iret dX12_classes_173 rfl ?_
                refine ⟨_, rfl, Or.inr ⟨by omega, Or.inr ⟨hfl, m, hm1, hm6, ?_⟩⟩, hF3⟩
                rw [if_neg (by omega), if_neg (by omega), if_pos (by omega)]
                rcases (show what = 3 ∨ what = 4 ∨ what = 5 ∨ what = 6 by omega) with rfl | rfl | rfl | rfl
                · first | exact absurd rfl c_145 | (rw [show (6 * wr (Int.tdiv (3 - 3) 2) + k).toNat = k.toNat by rw [show wr (Int.tdiv (3 - 3) 2) = 0 by decide]; omega, g2]; rfl)
                · first | exact absurd c_145 (by decide) | (rw [show (6 * wr (Int.tdiv (4 - 3) 2) + k).toNat = k.toNat by rw [show wr (Int.tdiv (4 - 3) 2) = 0 by decide]; omega, g3]; rfl)
                · first | exact absurd rfl c_145 | (rw [show (6 * wr (Int.tdiv (5 - 3) 2) + k).toNat = 6 + k.toNat by rw [show wr (Int.tdiv (5 - 3) 2) = 1 by decide]; omega, g4]; rfl)
                · first | exact absurd c_145 (by decide) | (rw [show (6 * wr (Int.tdiv (6 - 3) 2) + k).toNat = 6 + k.toNat by rw [show wr (Int.tdiv (6 - 3) 2) = 1 by decide]; omega, g5]; rfl)
              · skip
                refine AW_aload_n dX12_classes_148 rfl ?_
                refine AW_getR (a := 100) dX12_classes_149 gfX12_38 (hS2.cel rfl) (hS2.rf rfl) ?_
                refine AW_bipush dX12_classes_152 ?_
                refine AW_iload_n dX12_classes_154 rfl ?_
                refine AW_imulE dX12_classes_155 (by omega) (by omega) ?_
                refine AW_iload_n dX12_classes_156 rfl ?_
                refine AW_iaddE dX12_classes_157 (by omega) (by omega) ?_
                refine AW_iald dX12_classes_158 (hS2.cel rfl) (by omega) (by omega) ?_
                refine AW_goto (tgt := 173) dX12_classes_159 (by decide) ?_
                refine AW_iret dX12_classes_173 rfl ?_
                refine ⟨_, rfl, Or.inr ⟨by omega, Or.inr ⟨hfl, m, hm1, hm6, ?_⟩⟩, hF3⟩
                rw [if_neg (by omega), if_neg (by omega), if_pos (by omega)]
                rcases (show what = 3 ∨ what = 4 ∨ what = 5 ∨ what = 6 by omega) with rfl | rfl | rfl | rfl
                · first | exact absurd rfl c_145 | (rw [show (6 * wr (Int.tdiv (3 - 3) 2) + k).toNat = k.toNat by rw [show wr (Int.tdiv (3 - 3) 2) = 0 by decide]; omega, g2]; rfl)
                · first | exact absurd c_145 (by decide) | (rw [show (6 * wr (Int.tdiv (4 - 3) 2) + k).toNat = k.toNat by rw [show wr (Int.tdiv (4 - 3) 2) = 0 by decide]; omega, g3]; rfl)
                · first | exact absurd rfl c_145 | (rw [show (6 * wr (Int.tdiv (5 - 3) 2) + k).toNat = 6 + k.toNat by rw [show wr (Int.tdiv (5 - 3) 2) = 1 by decide]; omega, g4]; rfl)
                · first | exact absurd c_145 (by decide) | (rw [show (6 * wr (Int.tdiv (6 - 3) 2) + k).toNat = 6 + k.toNat by rw [show wr (Int.tdiv (6 - 3) 2) = 1 by decide]; omega, g5]; rfl)
            · skip
              refine AW_aload_n dX12_classes_121 rfl ?_
              refine AW_getR (a := 99) dX12_classes_122 gfX12_35 (hS2.cel rfl) (hS2.rf rfl) ?_
              refine AW_bipush dX12_classes_125 ?_
              refine AW_iload_n dX12_classes_127 rfl ?_
              refine AW_iconst dX12_classes_128 ?_
              refine AW_isubE dX12_classes_129 (by omega) (by omega) ?_
              refine AW_imulE dX12_classes_130 (by omega) (by omega) ?_
              refine AW_iload_n dX12_classes_131 rfl ?_
              refine AW_iaddE dX12_classes_132 (by omega) (by omega) ?_
              refine AW_iald dX12_classes_133 (hS2.cel rfl) (by omega) (by omega) ?_
              refine AW_iret dX12_classes_134 rfl ?_
              refine ⟨_, rfl, Or.inr ⟨by omega, Or.inr ⟨hfl, m, hm1, hm6, ?_⟩⟩, hF3⟩
              rw [if_neg (by omega), if_neg (by omega), if_pos (by omega)]
              rcases (show what = 1 ∨ what = 2 by omega) with rfl | rfl
              · rw [show (6 * ((1 : Int) - 1) + k).toNat = k.toNat by omega, g0]; rfl
              · rw [show (6 * ((2 : Int) - 1) + k).toNat = 6 + k.toNat by omega, g1]; rfl
          · skip
            replace c_110 := bz0 c_110
            refine AW_ldc (-10000000) dX12_classes_113 ctX12_186 ?_
            refine AW_iret dX12_classes_115 rfl ?_
            exact ⟨_, rfl, Or.inr ⟨by omega, Or.inr ⟨hfl, m, hm1, hm6, by rw [if_neg (by omega), if_neg (by omega), if_neg (by omega)]⟩⟩, hF3⟩
        · skip
          have hs7 : what = 7 ∨ what = 8 := by omega
          have r0 := hR2.1 (what - 7).toNat (by omega)
          have hbs := hW.1 (what - 7).toNat (by omega)
          refine AW_iload_n dX12_classes_56 rfl ?_
          refine AW_bipush dX12_classes_57 ?_
          refine AW_isubE dX12_classes_59 (by omega) (by omega) ?_
          refine AW_istore3 dX12_classes_60 ?_
          refine AW_aload_n dX12_classes_61 rfl ?_
          refine AW_getR (a := 95) dX12_classes_62 gfX12_7 (hS2.cel rfl) (hS2.rf rfl) ?_
          refine AW_iload_n dX12_classes_65 rfl ?_
          refine AW_iald dX12_classes_66 (hS2.cel rfl) (by omega) (by omega) ?_
          refine AW_aload_n dX12_classes_67 rfl ?_
          refine AW_getI dX12_classes_68 gfX12_179 (hS2.cel rfl) ?_
          refine AW_if_ne (tgt := 78) dX12_classes_71 (by decide) (fun c_71 => ?_) (fun c_71 => ?_)
          · skip
            have hm0 : 0 < m := by omega
            have hq7 : ρ.2.1 99 (6 * (what - 7) + ρ.2.1 94 12 - 1).toNat = (if what = 7 then ((clA D m).1 : Int) else ((clA D m).2 : Int)) - 1 := by
              obtain ⟨g0, g1, -⟩ := hm2.2.1 (m - 1) (by omega)
              have em : m - 1 + 1 = m := by omega
              have a0 : ((clA D m).1 : Int) = clCol D (m - 1) 0 + 1 := by rw [← em]; rfl
              have a1 : ((clA D m).2 : Int) = clCol D (m - 1) 1 + 1 := by rw [← em]; rfl
              rcases hs7 with rfl | rfl
              · rw [if_pos rfl, a0, show (6 * ((7 : Int) - 7) + ρ.2.1 94 12 - 1).toNat = m - 1 by omega, g0]; omega
              · rw [if_neg (by decide), a1, show (6 * ((8 : Int) - 7) + ρ.2.1 94 12 - 1).toNat = 6 + (m - 1) by omega, g1]; omega
            refine AW_aload_n dX12_classes_78 rfl ?_
            refine AW_getR (a := 99) dX12_classes_79 gfX12_35 (hS2.cel rfl) (hS2.rf rfl) ?_
            refine AW_bipush dX12_classes_82 ?_
            refine AW_iload_n dX12_classes_84 rfl ?_
            refine AW_imulE dX12_classes_85 (by omega) (by omega) ?_
            refine AW_aload_n dX12_classes_86 rfl ?_
            refine AW_getI dX12_classes_87 gfX12_179 (hS2.cel rfl) ?_
            refine AW_iaddE dX12_classes_90 (by omega) (by omega) ?_
            refine AW_iconst dX12_classes_91 ?_
            refine AW_isubE dX12_classes_92 (by omega) (by omega) ?_
            refine AW_iald dX12_classes_93 (hS2.cel rfl) (by omega) (by omega) ?_
            refine AW_iconst dX12_classes_94 ?_
            refine AW_iaddE dX12_classes_95 (by rw [hq7]; split <;> omega) (by rw [hq7]; split <;> omega) ?_
            first | rw [hq7] | skip
            refine AW_isubE dX12_classes_96 (by first | omega | (split <;> omega)) (by first | omega | (split <;> omega)) ?_
            refine AW_iret dX12_classes_97 rfl ?_
            refine ⟨_, rfl, Or.inr ⟨by omega, Or.inr ⟨hfl, m, hm1, hm6, ?_⟩⟩, hF3⟩
            rw [if_neg (show ¬ what = 0 by omega), if_pos (show 7 ≤ what by omega), r0]
            unfold clLeft
            first
            | (have hm0 : m = 0 := by omega
               subst hm0
               rcases hs7 with rfl | rfl <;> rfl)
            | (rcases hs7 with rfl | rfl
               · rw [if_pos rfl, show Int.toNat (7 - 7) = 0 from rfl, if_pos rfl]; omega
               · rw [if_neg (by decide), show Int.toNat (8 - 7) = 1 from rfl, if_neg (by decide)]; omega)
          · skip
            refine AW_iconst dX12_classes_74 ?_
            refine AW_goto (tgt := 96) dX12_classes_75 (by decide) ?_
            first | rw [hq7] | skip
            refine AW_isubE dX12_classes_96 (by first | omega | (split <;> omega)) (by first | omega | (split <;> omega)) ?_
            refine AW_iret dX12_classes_97 rfl ?_
            refine ⟨_, rfl, Or.inr ⟨by omega, Or.inr ⟨hfl, m, hm1, hm6, ?_⟩⟩, hF3⟩
            rw [if_neg (show ¬ what = 0 by omega), if_pos (show 7 ≤ what by omega), r0]
            unfold clLeft
            first
            | (have hm0 : m = 0 := by omega
               subst hm0
               rcases hs7 with rfl | rfl <;> rfl)
            | (rcases hs7 with rfl | rfl
               · rw [if_pos rfl, show Int.toNat (7 - 7) = 0 from rfl, if_pos rfl]; omega
               · rw [if_neg (by decide), show Int.toNat (8 - 7) = 1 from rfl, if_neg (by decide)]; omega)
      · skip
        refine AW_aload_n dX12_classes_45 rfl ?_
        refine AW_getI dX12_classes_46 gfX12_179 (hS2.cel rfl) ?_
        refine AW_iret dX12_classes_49 rfl ?_
        exact ⟨_, rfl, Or.inr ⟨by omega, Or.inr ⟨hfl, m, hm1, hm6, by rw [if_pos (by omega), e4]⟩⟩, hF3⟩
    · skip
      have hnf : ¬ (fallsP D 0 ∧ fallsP D 1) := by
        rcases hz0 with q | q
        · exact absurd c_23 (by omega)
        · exact q.2
      refine AW_iload_n dX12_classes_26 rfl ?_
      refine AW_if_ne (tgt := 34) dX12_classes_27 (by decide) (fun c_27 => ?_) (fun c_27 => ?_)
      · skip
        refine AW_ldc (-10000000) dX12_classes_34 ctX12_186 ?_
        refine AW_iret dX12_classes_36 rfl ?_
        exact ⟨_, rfl, Or.inr ⟨by omega, Or.inl ⟨hnf, by first | rw [if_pos (by omega)] | rw [if_neg (by omega)]⟩⟩, hF1.mo (by decide) (by decide)⟩
      · skip
        refine AW_iconst dX12_classes_30 ?_
        refine AW_goto (tgt := 36) dX12_classes_31 (by decide) ?_
        refine AW_iret dX12_classes_36 rfl ?_
        exact ⟨_, rfl, Or.inr ⟨by omega, Or.inl ⟨hnf, by first | rw [if_pos (by omega)] | rw [if_neg (by omega)]⟩⟩, hF1.mo (by decide) (by decide)⟩
  · skip
    replace c_13 := bz0 c_13
    refine AW_ldc (-10000000) dX12_classes_16 ctX12_186 ?_
    refine AW_iret dX12_classes_18 rfl ?_
    exact ⟨_, rfl, Or.inl ⟨by omega, rfl⟩, hF1.mo (by decide) (by decide)⟩
