theorem k_about {G : Gt} {d : Nat} {σ : St} (hd : 5 ≤ d) {D : Mk} {Ws : Nat → Wy} {n : Nat} {pc : Nat → Nat} {w : Tw} (hS : Sta σ) (hC : CtC D Ws σ) (hT : TwC n pc w σ) {p : Nat} (hw : WFP D n w.1) (hp : p < n) (h99 : 0 ≤ w.2.1 0 ∧ w.2.1 0 ≤ 99) (what : Int) (hwh : 0 ≤ what ∧ what ≤ 7) : AM mX1_about G d 0 0 [vR 41, vI (p : Int), vI what] σ (fun ro ρ => ro = some (vI (aboutV D Ws w p what)) ∧ Fr [43, 44] σ ρ) := by
  refine AM.intro (by decide +kernel) (by simp [nLg]) (Nat.le_of_ble_eq_true rfl) (fun hO => ?_)
  have i_what : -2147483648 ≤ what ∧ what < 2147483648 := hO (vI what) (by simp)
  show AW _ _ _ _ _ _ 0 [some (vR 41), some (vI (p : Int)), some (vI what), none] [] σ
  have hn40 := hw.1
  obtain ⟨ea, N, e1, e2, e3, e4⟩ := hT.1.ls hp
  refine AW_iload_n dX1_about_0 rfl ?_
  refine AW_if_lt (tgt := 15) dX1_about_1 (by decide) (fun c_1 => ?_) (fun c_1 => ?_)
  · skip
    exact absurd c_1 (by omega)
  · skip
    refine AW_iload_n dX1_about_4 rfl ?_
    refine AW_aload_n dX1_about_5 rfl ?_
    refine AW_getR (a := 46) dX1_about_6 gfX1_25 (hS.cel rfl) (hS.rf rfl) ?_
    refine AW_callV0 (d' := d - 1) dX1_about_9 (Or.inl lkX1_47) mfJx4a65c_size_8abf5 (hS.cel rfl) ⟨_, rfl, rfl⟩ (k_ALsize (hS.cel rfl)) (by omega) (Nat.le_of_ble_eq_true rfl) ?_
    rintro _ _ ⟨e_, rfl⟩ -
    rw [e_]
    clear e_
    rw [hT.1.1.1]
    refine AW_icmp_lt (tgt := 18) dX1_about_12 (by decide) (fun c_12 => ?_) (fun c_12 => ?_)
    · skip
      refine AW_aload_n dX1_about_18 rfl ?_
      refine AW_getR (a := 46) dX1_about_19 gfX1_25 (hS.cel rfl) (hS.rf rfl) ?_
      refine AW_iload_n dX1_about_22 rfl ?_
      refine AW_callV1 (d' := d - 1) dX1_about_23 (Or.inl lkX1_59) mfJx4a65c_get_915e3 (hS.cel rfl) ⟨_, rfl, rfl⟩ (k_ALget (by omega) (hS.cel rfl) e1 e2 _ (by omega) (by omega) (by rw [hT.1.1.1]; omega)) (by omega) (Nat.le_of_ble_eq_true rfl) ?_
      rintro _ _ ⟨e_, rfl⟩ -
      rw [e_]
      clear e_
      rw [Int.toNat_natCast, e4 p (by omega)]
      refine AW_cast dX1_about_26 (hT.1.cel (show p < n by omega)) ⟨_, rfl, cl_P⟩ ?_
      refine AW_astore3 dX1_about_29 ?_
      refine AW_iload_n dX1_about_30 rfl ?_
      refine (Classical.em (what = 0)).elim (fun c_31_0 => ?_) (fun c_31_0 => ?_)
      · skip
        refine AW_tableIn (off := 45) (tgt := 76) dX1_about_31 (by rw [c_31_0]; decide) (by rw [c_31_0]; decide) (by rw [c_31_0]; rfl) (by decide) ?_
        refine AW_aload_n dX1_about_76 rfl ?_
        refine AW_getR (a := orf pc (w.1 3 p)) dX1_about_77 gfX1_95 (hT.1.cel hp) (hT.1.own hp) ?_
        refine AW_ifnonnull (tgt := 87) dX1_about_80 (by decide) (fun c_80 => ?_) (fun c_80 => ?_)
        · skip
          have hn3 : ¬ w.1 3 p = -1 := fun e => c_80 (by rw [e, orf_m])
          obtain ⟨_, eo, _⟩ := hT.1.o0 hw hp hn3
          have ho := own_lt hw hp hn3
          refine AW_aload_n dX1_about_87 rfl ?_
          refine AW_getR (a := pc (w.1 3 p).toNat) dX1_about_88 gfX1_95 (hT.1.cel hp) ((hT.1.own hp).trans eo) ?_
          refine AW_getI dX1_about_91 gfX1_99 (hT.1.cel ho.1) ?_
          refine AW_iret dX1_about_94 rfl ?_
          refine ⟨?_, Fr.rf⟩
          unfold aboutV
          rw [if_pos (by omega)]
          first | rw [hn3] | (rw [(hT.1.2.2 _ ho.1).2.2.1, ← ho.2.2])
        · skip
          have hn3 : w.1 3 p = -1 := hT.1.o1 hw hp c_80
          refine AW_iconst dX1_about_83 ?_
          refine AW_goto (tgt := 94) dX1_about_84 (by decide) ?_
          refine AW_iret dX1_about_94 rfl ?_
          refine ⟨?_, Fr.rf⟩
          unfold aboutV
          rw [if_pos (by omega)]
          first | rw [hn3] | (rw [(hT.1.2.2 _ ho.1).2.2.1, ← ho.2.2])
      refine (Classical.em (what = 1)).elim (fun c_31_1 => ?_) (fun c_31_1 => ?_)
      · skip
        refine AW_tableIn (off := 64) (tgt := 95) dX1_about_31 (by rw [c_31_1]; decide) (by rw [c_31_1]; decide) (by rw [c_31_1]; rfl) (by decide) ?_
        refine AW_aload_n dX1_about_95 rfl ?_
        refine AW_getI dX1_about_96 gfX1_85 (hT.1.cel hp) ?_
        refine AW_iret dX1_about_99 rfl ?_
        refine ⟨?_, Fr.rf⟩
        unfold aboutV
        rw [if_neg (by omega), if_pos (by omega)]
        rw [hT.1.v4 hp]
      refine (Classical.em (what = 2)).elim (fun c_31_2 => ?_) (fun c_31_2 => ?_)
      · skip
        refine AW_tableIn (off := 69) (tgt := 100) dX1_about_31 (by rw [c_31_2]; decide) (by rw [c_31_2]; decide) (by rw [c_31_2]; rfl) (by decide) ?_
        refine AW_aload_n dX1_about_100 rfl ?_
        refine AW_getI dX1_about_101 gfX1_102 (hT.1.cel hp) ?_
        refine AW_iret dX1_about_104 rfl ?_
        refine ⟨?_, Fr.rf⟩
        unfold aboutV
        rw [if_neg (by omega), if_neg (by omega), if_pos (by omega)]
        rw [hT.1.v5 hp]
      refine (Classical.em (what = 3)).elim (fun c_31_3 => ?_) (fun c_31_3 => ?_)
      · skip
        refine AW_tableIn (off := 74) (tgt := 105) dX1_about_31 (by rw [c_31_3]; decide) (by rw [c_31_3]; decide) (by rw [c_31_3]; rfl) (by decide) ?_
        refine AW_aload_n dX1_about_105 rfl ?_
        refine AW_aload_n dX1_about_106 rfl ?_
        refine AW_callV1 (d' := d - 1) dX1_about_107 (Or.inl lkX1_105) mfX1_takeOf (hS.cel rfl) ⟨_, rfl, rfl⟩ (k_takeOf (by omega) hS hC hT hw hp h99) (by omega) (Nat.le_of_ble_eq_true rfl) ?_
        rintro _ ρ1 ⟨rfl, hG1⟩ -
        refine AW_iret dX1_about_110 rfl ?_
        refine ⟨?_, hG1⟩
        unfold aboutV
        rw [if_neg (by omega), if_neg (by omega), if_neg (by omega), if_pos (by omega)]
        rfl
      refine (Classical.em (what = 4)).elim (fun c_31_4 => ?_) (fun c_31_4 => ?_)
      · skip
        refine AW_tableIn (off := 80) (tgt := 111) dX1_about_31 (by rw [c_31_4]; decide) (by rw [c_31_4]; decide) (by rw [c_31_4]; rfl) (by decide) ?_
        refine AW_aload_n dX1_about_111 rfl ?_
        refine AW_aload_n dX1_about_112 rfl ?_
        refine AW_callV1 (d' := d - 1) dX1_about_113 (Or.inl lkX1_109) mfX1_leaveOf (hS.cel rfl) ⟨_, rfl, rfl⟩ (k_leaveOf (by omega) hS hC hT hw hp h99) (by omega) (Nat.le_of_ble_eq_true rfl) ?_
        rintro _ ρ1 ⟨rfl, hG1⟩ -
        refine AW_iret dX1_about_116 rfl ?_
        refine ⟨?_, hG1⟩
        unfold aboutV
        rw [if_neg (by omega), if_neg (by omega), if_neg (by omega), if_neg (by omega), if_pos (by omega)]
      refine (Classical.em (what = 5)).elim (fun c_31_5 => ?_) (fun c_31_5 => ?_)
      · skip
        refine AW_tableIn (off := 86) (tgt := 117) dX1_about_31 (by rw [c_31_5]; decide) (by rw [c_31_5]; decide) (by rw [c_31_5]; rfl) (by decide) ?_
        refine AW_aload_n dX1_about_117 rfl ?_
        refine AW_getR (a := orf pc (w.1 3 p)) dX1_about_118 gfX1_95 (hT.1.cel hp) (hT.1.own hp) ?_
        refine AW_ifnonnull (tgt := 128) dX1_about_121 (by decide) (fun c_121 => ?_) (fun c_121 => ?_)
        · skip
          have hn3 : ¬ w.1 3 p = -1 := fun e => c_121 (by rw [e, orf_m])
          obtain ⟨_, eo, _⟩ := hT.1.o0 hw hp hn3
          have ho := own_lt hw hp hn3
          refine AW_aload_n dX1_about_128 rfl ?_
          refine AW_aload_n dX1_about_129 rfl ?_
          refine AW_aload_n dX1_about_130 rfl ?_
          refine AW_getR (a := pc (w.1 3 p).toNat) dX1_about_131 gfX1_95 (hT.1.cel hp) ((hT.1.own hp).trans eo) ?_
          refine AW_callV2 (d' := d - 1) dX1_about_134 (Or.inl lkX1_112) mfX1_worthFor (hS.cel rfl) ⟨_, rfl, rfl⟩ (k_worthFor (by omega) hS hC.1 hC.2.1 hT.1 hw hp ho.1 ho.2.1) (by omega) (Nat.le_of_ble_eq_true rfl) ?_
          rintro _ _ ⟨e_, rfl⟩ -
          rw [e_]
          clear e_
          refine AW_iret dX1_about_137 rfl ?_
          refine ⟨?_, Fr.rf⟩
          unfold aboutV
          rw [if_neg (by omega), if_neg (by omega), if_neg (by omega), if_neg (by omega), if_neg (by omega), if_pos (by omega)]
          first | (rw [if_pos hn3]; done) | (rw [if_neg hn3]; done)
        · skip
          have hn3 : w.1 3 p = -1 := hT.1.o1 hw hp c_121
          refine AW_iconst dX1_about_124 ?_
          refine AW_goto (tgt := 137) dX1_about_125 (by decide) ?_
          refine AW_iret dX1_about_137 rfl ?_
          refine ⟨?_, Fr.rf⟩
          unfold aboutV
          rw [if_neg (by omega), if_neg (by omega), if_neg (by omega), if_neg (by omega), if_neg (by omega), if_pos (by omega)]
          first | (rw [if_pos hn3]; done) | (rw [if_neg hn3]; done)
      refine (Classical.em (what = 6)).elim (fun c_31_6 => ?_) (fun c_31_6 => ?_)
      · skip
        refine AW_tableIn (off := 107) (tgt := 138) dX1_about_31 (by rw [c_31_6]; decide) (by rw [c_31_6]; decide) (by rw [c_31_6]; rfl) (by decide) ?_
        refine AW_aload_n dX1_about_138 rfl ?_
        refine AW_getI dX1_about_139 gfX1_116 (hT.1.cel hp) ?_
        refine AW_iret dX1_about_142 rfl ?_
        refine ⟨?_, Fr.rf⟩
        unfold aboutV
        rw [if_neg (by omega), if_neg (by omega), if_neg (by omega), if_neg (by omega), if_neg (by omega), if_neg (by omega), if_pos (by omega)]
        rw [hT.1.v8 hp]
      refine (Classical.em (what = 7)).elim (fun c_31_7 => ?_) (fun c_31_7 => ?_)
      · skip
        refine AW_tableIn (off := 112) (tgt := 143) dX1_about_31 (by rw [c_31_7]; decide) (by rw [c_31_7]; decide) (by rw [c_31_7]; rfl) (by decide) ?_
        refine AW_aload_n dX1_about_143 rfl ?_
        refine AW_getI dX1_about_144 gfX1_119 (hT.1.cel hp) ?_
        refine AW_iret dX1_about_147 rfl ?_
        refine ⟨?_, Fr.rf⟩
        unfold aboutV
        rw [if_neg (by omega), if_neg (by omega), if_neg (by omega), if_neg (by omega), if_neg (by omega), if_neg (by omega), if_neg (by omega)]
        rw [hT.1.v9 hp]
      refine AW_tableOut (tgt := 148) dX1_about_31 (by omega) (by decide) ?_
      refine AW_ldc (-10000000) dX1_about_148 ctX1_94 ?_
      refine AW_iret dX1_about_150 rfl ?_
      exfalso
      omega
    · skip
      exact absurd c_12 (by omega)
theorem x_one {G : Gt} {d : Nat} {σ : St} (hd : 6 ≤ d) {D : Mk} {Ws : Nat → Wy} {n : Nat} {pc : Nat → Nat} {w : Tw} (hS : Sta σ) (hR : RepC D σ) (hW : WFm D) (hC : wtC D σ) (hY : ∀ k, k < 6 → WyC σ k (Ws k) ∧ wyOK (Ws k)) (hT : TwC n pc w σ) (hw : WFP D n w.1) (h99 : 0 ≤ w.2.1 0 ∧ w.2.1 0 ≤ 99) (p what : Int)  : AM mX11_one G d 0 0 [vR 16, vI p, vI what] σ (fun ro ρ => ∃ z : Int, ro = some (vI z) ∧ ((¬ ((0 ≤ p ∧ p < n) ∧ 0 ≤ what ∧ what ≤ 7) ∧ z = -10000000 ∧ ρ = σ) ∨ (((0 ≤ p ∧ p < n) ∧ 0 ≤ what ∧ what ≤ 7) ∧ z = aboutV D Ws w p.toNat what ∧ TwC n pc w ρ ∧ wtC D ρ ∧ Fr [26, 27, 28, 41, 43, 44, 47] σ ρ))) := by
  refine AM.intro (by decide +kernel) (by simp [nLg]) (Nat.le_of_ble_eq_true rfl) (fun hO => ?_)
  have i_p : -2147483648 ≤ p ∧ p < 2147483648 := hO (vI p) (by simp)
  have i_what : -2147483648 ≤ what ∧ what < 2147483648 := hO (vI what) (by simp)
  show AW _ _ _ _ _ _ 0 [some (vR 16), some (vI p), some (vI what)] [] σ
  refine AW_iload_n dX11_one_0 rfl ?_
  refine AW_if_lt (tgt := 25) dX11_one_1 (by decide) (fun c_1 => ?_) (fun c_1 => ?_)
  · skip
    refine AW_ldc (-10000000) dX11_one_25 ctX11_100 ?_
    refine AW_iret dX11_one_27 rfl ?_
    exact ⟨_, rfl, Or.inl ⟨by omega, rfl, rfl⟩⟩
  · skip
    refine AW_iload_n dX11_one_4 rfl ?_
    refine AW_aload_n dX11_one_5 rfl ?_
    refine AW_getR (a := 41) dX11_one_6 gfX11_53 (hS.cel rfl) (hS.rf rfl) ?_
    refine AW_callV0 (d' := d - 1) dX11_one_9 (Or.inl lkX11_77) mfX1_size (hS.cel rfl) ⟨_, rfl, rfl⟩ (k_folkSize (by omega) hS) (by omega) (Nat.le_of_ble_eq_true rfl) ?_
    rintro _ _ ⟨e_, rfl⟩ -
    rw [e_]
    clear e_
    rw [hT.1.1.1]
    refine AW_icmp_ge (tgt := 25) dX11_one_12 (by decide) (fun c_12 => ?_) (fun c_12 => ?_)
    · skip
      refine AW_ldc (-10000000) dX11_one_25 ctX11_100 ?_
      refine AW_iret dX11_one_27 rfl ?_
      exact ⟨_, rfl, Or.inl ⟨by omega, rfl, rfl⟩⟩
    · skip
      refine AW_iload_n dX11_one_15 rfl ?_
      refine AW_if_lt (tgt := 25) dX11_one_16 (by decide) (fun c_16 => ?_) (fun c_16 => ?_)
      · skip
        refine AW_ldc (-10000000) dX11_one_25 ctX11_100 ?_
        refine AW_iret dX11_one_27 rfl ?_
        exact ⟨_, rfl, Or.inl ⟨by omega, rfl, rfl⟩⟩
      · skip
        refine AW_iload_n dX11_one_19 rfl ?_
        refine AW_bipush dX11_one_20 ?_
        refine AW_icmp_le (tgt := 28) dX11_one_22 (by decide) (fun c_22 => ?_) (fun c_22 => ?_)
        · skip
          refine AW_aload_n dX11_one_28 rfl ?_
          refine AW_getR (a := 26) dX11_one_29 gfX11_28 (hS.cel rfl) (hS.rf rfl) ?_
          refine AW_callV0 (d' := d - 1) dX11_one_32 (Or.inl lkX11_122) mfX9_refresh (hS.cel rfl) ⟨_, rfl, rfl⟩ (k_wtref (by omega) hS hR hW hC) (by omega) (Nat.le_of_ble_eq_true rfl) ?_
          rintro _ ρ1 ⟨rfl, ht1, hv1, hG1⟩ -
          have hS1 := hG1.sta hS
          have hT1 := hT.fr hG1.1
          have hC1 : CtC D Ws ρ1 := ⟨hR.fr hG1.1, hW, ht1, fun k hk => ⟨(hY k hk).1.fr hG1.1 (fun r h1 h2 => by have := wcl_b hk; simp; omega), (hY k hk).2⟩⟩
          obtain ⟨pn, rfl⟩ : ∃ pn : Nat, p = (pn : Int) := ⟨p.toNat, by omega⟩
          refine AW_aload_n dX11_one_35 rfl ?_
          refine AW_getR (a := 41) dX11_one_36 gfX11_53 (hS1.cel rfl) (hS1.rf rfl) ?_
          refine AW_iload_n dX11_one_39 rfl ?_
          refine AW_iload_n dX11_one_40 rfl ?_
          refine AW_callV2 (d' := d - 1) dX11_one_41 (Or.inl lkX11_179) mfX1_about (hS1.cel rfl) ⟨_, rfl, rfl⟩ (k_about (p := pn) (by omega) hS1 hC1 hT1 hw (by omega) h99 what (by omega)) (by omega) (Nat.le_of_ble_eq_true rfl) ?_
          rintro _ ρ2 ⟨rfl, hG2⟩ -
          refine AW_iret dX11_one_44 rfl ?_
          refine ⟨_, rfl, Or.inr ⟨by omega, by rw [Int.toNat_natCast], hT1.fr hG2, ⟨?_, fun _ => ht1.fz hG2.z hS1⟩, (hG1.1.mo (by decide)).tr (hG2.mo (by decide))⟩⟩
          rw [hG2.iv 26 3, hG2.iv 17 5, hv1]
          exact Int.le_refl _
        · skip
          refine AW_ldc (-10000000) dX11_one_25 ctX11_100 ?_
          refine AW_iret dX11_one_27 rfl ?_
          exact ⟨_, rfl, Or.inl ⟨by omega, rfl, rfl⟩⟩
theorem l_tog {G : Gt} {d : Nat} {σ : St} {D : Mk} {n : Nat} {pc : Nat → Nat} {w : Tw} {side sort what : Int} (hd : 3 ≤ d) (hS : Sta σ) (hT : TwC n pc w σ) (hw : WFP D n w.1) (hwh : 0 ≤ what ∧ what ≤ 3) : ∀ (nn : Nat) (m i : Nat) (x9 : Option AV), m < nn → i + m = n →  AW mX1_together G d 0 0 (mq G (fun ro ρ => ρ = σ ∧ ro = some (vI (allF w.1 side sort what.toNat n)))) 15 [some (vR 41), some (vI side), some (vI sort), some (vI what), some (vI (allF w.1 side sort 0 i)), some (vI (allF w.1 side sort 1 i)), some (vI (allF w.1 side sort 2 i)), some (vI (allF w.1 side sort 3 i)), some (vI (i : Int)), x9] [] σ := by
  intro nn
  induction nn with
  | zero => intros; omega
  | succ nn ih =>
    intro m i x9 hn hi
    have hn40 := hw.1
    have hb0 := allF_b w.1 side sort (what := 0) (by decide) i
    have hb1 := allF_b w.1 side sort (what := 1) (by decide) i
    refine AW_iload dX1_together_15 rfl ?_
    refine AW_aload_n dX1_together_17 rfl ?_
    refine AW_getR (a := 46) dX1_together_18 gfX1_25 (hS.cel rfl) (hS.rf rfl) ?_
    refine AW_callV0 (d' := d - 1) dX1_together_21 (Or.inl lkX1_47) mfJx4a65c_size_8abf5 (hS.cel rfl) ⟨_, rfl, rfl⟩ (k_ALsize (hS.cel rfl)) (by omega) (Nat.le_of_ble_eq_true rfl) ?_
    rintro _ _ ⟨e_, rfl⟩ -
    rw [e_]
    clear e_
    rw [hT.1.1.1]
    refine AW_icmp_ge (tgt := 113) dX1_together_24 (by decide) (fun c_24 => ?_) (fun c_24 => ?_)
    · skip
      have hm : i = n := by omega
      subst hm
      refine AW_iload_n dX1_together_113 rfl ?_
      refine AW_iconst dX1_together_114 ?_
      refine AW_icmp_ge (tgt := 130) dX1_together_115 (by decide) (fun c_115 => ?_) (fun c_115 => ?_)
      · skip
        refine AW_iload_n dX1_together_130 rfl ?_
        refine AW_iconst dX1_together_131 ?_
        refine AW_icmp_ne (tgt := 140) dX1_together_132 (by decide) (fun c_132 => ?_) (fun c_132 => ?_)
        · skip
          refine AW_iload dX1_together_140 rfl ?_
          refine AW_iret dX1_together_142 rfl ?_
          refine ⟨rfl, ?_⟩
          first
          | (rw [show what.toNat = 0 by omega]; done)
          | (rw [show what.toNat = 1 by omega]; done)
          | (rw [show what.toNat = 2 by omega]; done)
          | (rw [show what.toNat = 3 by omega]; done)
        · skip
          refine AW_iload dX1_together_135 rfl ?_
          refine AW_goto (tgt := 142) dX1_together_137 (by decide) ?_
          refine AW_iret dX1_together_142 rfl ?_
          refine ⟨rfl, ?_⟩
          first
          | (rw [show what.toNat = 0 by omega]; done)
          | (rw [show what.toNat = 1 by omega]; done)
          | (rw [show what.toNat = 2 by omega]; done)
          | (rw [show what.toNat = 3 by omega]; done)
      · skip
        refine AW_iload_n dX1_together_118 rfl ?_
        refine AW_if_ne (tgt := 127) dX1_together_119 (by decide) (fun c_119 => ?_) (fun c_119 => ?_)
        · skip
          refine AW_iload dX1_together_127 rfl ?_
          refine AW_iret dX1_together_129 rfl ?_
          refine ⟨rfl, ?_⟩
          first
          | (rw [show what.toNat = 0 by omega]; done)
          | (rw [show what.toNat = 1 by omega]; done)
          | (rw [show what.toNat = 2 by omega]; done)
          | (rw [show what.toNat = 3 by omega]; done)
        · skip
          refine AW_iload dX1_together_122 rfl ?_
          refine AW_goto (tgt := 129) dX1_together_124 (by decide) ?_
          refine AW_iret dX1_together_129 rfl ?_
          refine ⟨rfl, ?_⟩
          first
          | (rw [show what.toNat = 0 by omega]; done)
          | (rw [show what.toNat = 1 by omega]; done)
          | (rw [show what.toNat = 2 by omega]; done)
          | (rw [show what.toNat = 3 by omega]; done)
    · skip
      obtain ⟨m1, rfl⟩ : ∃ m1, m = m1 + 1 := ⟨m - 1, by omega⟩
      obtain ⟨ea, N, e1, e2, e3, e4⟩ := hT.1.ls (show i < n by omega)
      refine AW_aload_n dX1_together_27 rfl ?_
      refine AW_getR (a := 46) dX1_together_28 gfX1_25 (hS.cel rfl) (hS.rf rfl) ?_
      refine AW_iload dX1_together_31 rfl ?_
      refine AW_callV1 (d' := d - 1) dX1_together_33 (Or.inl lkX1_59) mfJx4a65c_get_915e3 (hS.cel rfl) ⟨_, rfl, rfl⟩ (k_ALget (by omega) (hS.cel rfl) e1 e2 _ (by omega) (by omega) (by rw [hT.1.1.1]; omega)) (by omega) (Nat.le_of_ble_eq_true rfl) ?_
      rintro _ _ ⟨e_, rfl⟩ -
      rw [e_]
      clear e_
      rw [Int.toNat_natCast, e4 i (by omega)]
      refine AW_cast dX1_together_36 (hT.1.cel (show i < n by omega)) ⟨_, rfl, cl_P⟩ ?_
      refine AW_astore9 dX1_together_39 ?_
      refine AW_aload dX1_together_41 rfl ?_
      refine AW_getI dX1_together_43 gfX1_75 (hT.1.cel (show i < n by omega)) ?_
      refine AW_iload_n dX1_together_46 rfl ?_
      refine AW_icmp_ne (tgt := 107) dX1_together_47 (by decide) (fun c_47 => ?_) (fun c_47 => ?_)
      · skip
        rw [hT.1.v0 (show i < n by omega)] at c_47
        have hse : ¬ sel w.1 side sort i := fun q => c_47 q.1
        refine AW_iincE8 dX1_together_107 (by omega) (by omega) ?_
        refine AW_goto (tgt := 15) dX1_together_110 (by decide) ?_
        rw [show (i : Int) + 1 = ((i + 1 : Nat) : Int) by omega]
        first
        | (rw [← allF_n hse 0, ← allF_n hse 1, ← allF_n hse 2, ← allF_n hse 3]; exact ih m1 (i + 1) _ (by omega) (by omega))
        | (rw [← allF_y0 hse, ← allF_y2 hse, ← allF_y3 hse]
           have h1 := allF_y1 hse
           first
           | (rw [if_pos c_74] at h1; rw [← h1]; exact ih m1 (i + 1) _ (by omega) (by omega))
           | (rw [if_neg c_74] at h1; rw [← h1]; exact ih m1 (i + 1) _ (by omega) (by omega)))
      · skip
        rw [hT.1.v0 (show i < n by omega)] at c_47
        refine AW_iload_n dX1_together_50 rfl ?_
        refine AW_iconst dX1_together_51 ?_
        refine AW_icmp_eq (tgt := 64) dX1_together_52 (by decide) (fun c_52 => ?_) (fun c_52 => ?_)
        · skip
          have hse : sel w.1 side sort i := ⟨by omega, Or.inl c_52⟩
          refine AW_iincE4 dX1_together_64 (by omega) (by omega) ?_
          refine AW_iload dX1_together_67 rfl ?_
          refine AW_aload dX1_together_69 rfl ?_
          refine AW_callV0 (d' := d - 1) dX1_together_71 (Or.inl lkX1_78) mfX4_isSingle (hT.1.cel (show i < n by omega)) ⟨_, rfl, rfl⟩ (k_single hT.1 hw (show i < n by omega)) (by omega) (Nat.le_of_ble_eq_true rfl) ?_
          rintro _ _ ⟨e_, rfl⟩ -
          rw [e_]
          clear e_
          refine AW_if_eq (tgt := 81) dX1_together_74 (by decide) (fun c_74 => ?_) (fun c_74 => ?_)
          · skip
            replace c_74 := bz0 c_74
            refine AW_iconst dX1_together_81 ?_
            refine AW_iaddE dX1_together_82 (by omega) (by omega) ?_
            refine AW_istore5 dX1_together_83 ?_
            refine AW_iload dX1_together_85 rfl ?_
            refine AW_aload dX1_together_87 rfl ?_
            refine AW_getI dX1_together_89 gfX1_85 (hT.1.cel (show i < n by omega)) ?_
            rw [hT.1.v4 (show i < n by omega)]
            refine AW_iadd dX1_together_92 ?_
            refine AW_istore6 dX1_together_93 ?_
            refine AW_iload dX1_together_95 rfl ?_
            refine AW_aload dX1_together_97 rfl ?_
            refine AW_getI dX1_together_99 gfX1_85 (hT.1.cel (show i < n by omega)) ?_
            rw [hT.1.v4 (show i < n by omega)]
            refine AW_mmax dX1_together_102 lkX1_88 (by omega) (Nat.le_of_ble_eq_true rfl) ?_
            refine AW_istore7 dX1_together_105 ?_
            refine AW_iincE8 dX1_together_107 (by omega) (by omega) ?_
            refine AW_goto (tgt := 15) dX1_together_110 (by decide) ?_
            rw [show (i : Int) + 1 = ((i + 1 : Nat) : Int) by omega]
            first
            | (rw [← allF_n hse 0, ← allF_n hse 1, ← allF_n hse 2, ← allF_n hse 3]; exact ih m1 (i + 1) _ (by omega) (by omega))
            | (rw [← allF_y0 hse, ← allF_y2 hse, ← allF_y3 hse]
               have h1 := allF_y1 hse
               first
               | (rw [if_pos c_74] at h1; rw [← h1]; exact ih m1 (i + 1) _ (by omega) (by omega))
               | (rw [if_neg c_74] at h1; rw [← h1]; exact ih m1 (i + 1) _ (by omega) (by omega)))
          · skip
            replace c_74 := bz1 c_74
            refine AW_iconst dX1_together_77 ?_
            refine AW_goto (tgt := 82) dX1_together_78 (by decide) ?_
            refine AW_iaddE dX1_together_82 (by omega) (by omega) ?_
            refine AW_istore5 dX1_together_83 ?_
            refine AW_iload dX1_together_85 rfl ?_
            refine AW_aload dX1_together_87 rfl ?_
            refine AW_getI dX1_together_89 gfX1_85 (hT.1.cel (show i < n by omega)) ?_
            rw [hT.1.v4 (show i < n by omega)]
            refine AW_iadd dX1_together_92 ?_
            refine AW_istore6 dX1_together_93 ?_
            refine AW_iload dX1_together_95 rfl ?_
            refine AW_aload dX1_together_97 rfl ?_
            refine AW_getI dX1_together_99 gfX1_85 (hT.1.cel (show i < n by omega)) ?_
            rw [hT.1.v4 (show i < n by omega)]
            refine AW_mmax dX1_together_102 lkX1_88 (by omega) (Nat.le_of_ble_eq_true rfl) ?_
            refine AW_istore7 dX1_together_105 ?_
            refine AW_iincE8 dX1_together_107 (by omega) (by omega) ?_
            refine AW_goto (tgt := 15) dX1_together_110 (by decide) ?_
            rw [show (i : Int) + 1 = ((i + 1 : Nat) : Int) by omega]
            first
            | (rw [← allF_n hse 0, ← allF_n hse 1, ← allF_n hse 2, ← allF_n hse 3]; exact ih m1 (i + 1) _ (by omega) (by omega))
            | (rw [← allF_y0 hse, ← allF_y2 hse, ← allF_y3 hse]
               have h1 := allF_y1 hse
               first
               | (rw [if_pos c_74] at h1; rw [← h1]; exact ih m1 (i + 1) _ (by omega) (by omega))
               | (rw [if_neg c_74] at h1; rw [← h1]; exact ih m1 (i + 1) _ (by omega) (by omega)))
        · skip
          refine AW_aload dX1_together_55 rfl ?_
          refine AW_getI dX1_together_57 gfX1_82 (hT.1.cel (show i < n by omega)) ?_
          refine AW_iload_n dX1_together_60 rfl ?_
          refine AW_icmp_ne (tgt := 107) dX1_together_61 (by decide) (fun c_61 => ?_) (fun c_61 => ?_)
          · skip
            rw [hT.1.v1 (show i < n by omega)] at c_61
            have hse : ¬ sel w.1 side sort i := fun q => q.2.elim c_52 c_61
            refine AW_iincE8 dX1_together_107 (by omega) (by omega) ?_
            refine AW_goto (tgt := 15) dX1_together_110 (by decide) ?_
            rw [show (i : Int) + 1 = ((i + 1 : Nat) : Int) by omega]
            first
            | (rw [← allF_n hse 0, ← allF_n hse 1, ← allF_n hse 2, ← allF_n hse 3]; exact ih m1 (i + 1) _ (by omega) (by omega))
            | (rw [← allF_y0 hse, ← allF_y2 hse, ← allF_y3 hse]
               have h1 := allF_y1 hse
               first
               | (rw [if_pos c_74] at h1; rw [← h1]; exact ih m1 (i + 1) _ (by omega) (by omega))
               | (rw [if_neg c_74] at h1; rw [← h1]; exact ih m1 (i + 1) _ (by omega) (by omega)))
          · skip
            rw [hT.1.v1 (show i < n by omega)] at c_61
            have hse : sel w.1 side sort i := ⟨by omega, Or.inr (by omega)⟩
            refine AW_iincE4 dX1_together_64 (by omega) (by omega) ?_
            refine AW_iload dX1_together_67 rfl ?_
            refine AW_aload dX1_together_69 rfl ?_
            refine AW_callV0 (d' := d - 1) dX1_together_71 (Or.inl lkX1_78) mfX4_isSingle (hT.1.cel (show i < n by omega)) ⟨_, rfl, rfl⟩ (k_single hT.1 hw (show i < n by omega)) (by omega) (Nat.le_of_ble_eq_true rfl) ?_
            rintro _ _ ⟨e_, rfl⟩ -
            rw [e_]
            clear e_
            refine AW_if_eq (tgt := 81) dX1_together_74 (by decide) (fun c_74 => ?_) (fun c_74 => ?_)
            · skip
              replace c_74 := bz0 c_74
              refine AW_iconst dX1_together_81 ?_
              refine AW_iaddE dX1_together_82 (by omega) (by omega) ?_
              refine AW_istore5 dX1_together_83 ?_
              refine AW_iload dX1_together_85 rfl ?_
              refine AW_aload dX1_together_87 rfl ?_
              refine AW_getI dX1_together_89 gfX1_85 (hT.1.cel (show i < n by omega)) ?_
              rw [hT.1.v4 (show i < n by omega)]
              refine AW_iadd dX1_together_92 ?_
              refine AW_istore6 dX1_together_93 ?_
              refine AW_iload dX1_together_95 rfl ?_
              refine AW_aload dX1_together_97 rfl ?_
              refine AW_getI dX1_together_99 gfX1_85 (hT.1.cel (show i < n by omega)) ?_
              rw [hT.1.v4 (show i < n by omega)]
              refine AW_mmax dX1_together_102 lkX1_88 (by omega) (Nat.le_of_ble_eq_true rfl) ?_
              refine AW_istore7 dX1_together_105 ?_
              refine AW_iincE8 dX1_together_107 (by omega) (by omega) ?_
              refine AW_goto (tgt := 15) dX1_together_110 (by decide) ?_
              rw [show (i : Int) + 1 = ((i + 1 : Nat) : Int) by omega]
              first
              | (rw [← allF_n hse 0, ← allF_n hse 1, ← allF_n hse 2, ← allF_n hse 3]; exact ih m1 (i + 1) _ (by omega) (by omega))
              | (rw [← allF_y0 hse, ← allF_y2 hse, ← allF_y3 hse]
                 have h1 := allF_y1 hse
                 first
                 | (rw [if_pos c_74] at h1; rw [← h1]; exact ih m1 (i + 1) _ (by omega) (by omega))
                 | (rw [if_neg c_74] at h1; rw [← h1]; exact ih m1 (i + 1) _ (by omega) (by omega)))
            · skip
              replace c_74 := bz1 c_74
              refine AW_iconst dX1_together_77 ?_
              refine AW_goto (tgt := 82) dX1_together_78 (by decide) ?_
              refine AW_iaddE dX1_together_82 (by omega) (by omega) ?_
              refine AW_istore5 dX1_together_83 ?_
              refine AW_iload dX1_together_85 rfl ?_
              refine AW_aload dX1_together_87 rfl ?_
              refine AW_getI dX1_together_89 gfX1_85 (hT.1.cel (show i < n by omega)) ?_
              rw [hT.1.v4 (show i < n by omega)]
              refine AW_iadd dX1_together_92 ?_
              refine AW_istore6 dX1_together_93 ?_
              refine AW_iload dX1_together_95 rfl ?_
              refine AW_aload dX1_together_97 rfl ?_
              refine AW_getI dX1_together_99 gfX1_85 (hT.1.cel (show i < n by omega)) ?_
              rw [hT.1.v4 (show i < n by omega)]
              refine AW_mmax dX1_together_102 lkX1_88 (by omega) (Nat.le_of_ble_eq_true rfl) ?_
              refine AW_istore7 dX1_together_105 ?_
              refine AW_iincE8 dX1_together_107 (by omega) (by omega) ?_
              refine AW_goto (tgt := 15) dX1_together_110 (by decide) ?_
              rw [show (i : Int) + 1 = ((i + 1 : Nat) : Int) by omega]
              first
              | (rw [← allF_n hse 0, ← allF_n hse 1, ← allF_n hse 2, ← allF_n hse 3]; exact ih m1 (i + 1) _ (by omega) (by omega))
              | (rw [← allF_y0 hse, ← allF_y2 hse, ← allF_y3 hse]
                 have h1 := allF_y1 hse
                 first
                 | (rw [if_pos c_74] at h1; rw [← h1]; exact ih m1 (i + 1) _ (by omega) (by omega))
                 | (rw [if_neg c_74] at h1; rw [← h1]; exact ih m1 (i + 1) _ (by omega) (by omega)))
theorem k_tog {G : Gt} {d : Nat} {σ : St} (hd : 3 ≤ d) {D : Mk} {n : Nat} {pc : Nat → Nat} {w : Tw} (hS : Sta σ) (hT : TwC n pc w σ) (hw : WFP D n w.1) (side sort what : Int) (hwh : 0 ≤ what ∧ what ≤ 3) : AM mX1_together G d 0 0 [vR 41, vI side, vI sort, vI what] σ (fun ro ρ => ρ = σ ∧ ro = some (vI (allF w.1 side sort what.toNat n))) := by
  refine AM.intro (by decide +kernel) (by simp [nLg]) (Nat.le_of_ble_eq_true rfl) (fun hO => ?_)
  have i_side : -2147483648 ≤ side ∧ side < 2147483648 := hO (vI side) (by simp)
  have i_sort : -2147483648 ≤ sort ∧ sort < 2147483648 := hO (vI sort) (by simp)
  have i_what : -2147483648 ≤ what ∧ what < 2147483648 := hO (vI what) (by simp)
  show AW _ _ _ _ _ _ 0 [some (vR 41), some (vI side), some (vI sort), some (vI what), none, none, none, none, none, none] [] σ
  refine AW_iconst dX1_together_0 ?_
  refine AW_istore4 dX1_together_1 ?_
  refine AW_iconst dX1_together_3 ?_
  refine AW_istore5 dX1_together_4 ?_
  refine AW_iconst dX1_together_6 ?_
  refine AW_istore6 dX1_together_7 ?_
  refine AW_iconst dX1_together_9 ?_
  refine AW_istore7 dX1_together_10 ?_
  refine AW_iconst dX1_together_12 ?_
  refine AW_istore8 dX1_together_13 ?_
  exact l_tog hd hS hT hw hwh (n + 1) n 0 none (by omega) (by omega)
theorem x_all {G : Gt} {d : Nat} {σ : St} (hd : 4 ≤ d) {D : Mk} {n : Nat} {pc : Nat → Nat} {w : Tw} (hS : Sta σ) (hT : TwC n pc w σ) (hR : RepC D σ) (hw : WFP D n w.1) (side sort what : Int)  : AM mX11_all G d 0 0 [vR 16, vI side, vI sort, vI what] σ (fun r τ => τ = σ ∧ r = some (vI (if (((side = 0 ∨ side = 1) ∧ (sort = -1 ∨ 0 ≤ sort ∧ sort < D 0 side.toNat)) ∧ 0 ≤ what ∧ what ≤ 3) then allF w.1 side sort what.toNat n else -1))) := by
  refine AM.intro (by decide +kernel) (by simp [nLg]) (Nat.le_of_ble_eq_true rfl) (fun hO => ?_)
  have i_side : -2147483648 ≤ side ∧ side < 2147483648 := hO (vI side) (by simp)
  have i_sort : -2147483648 ≤ sort ∧ sort < 2147483648 := hO (vI sort) (by simp)
  have i_what : -2147483648 ≤ what ∧ what < 2147483648 := hO (vI what) (by simp)
  show AW _ _ _ _ _ _ 0 [some (vR 16), some (vI side), some (vI sort), some (vI what)] [] σ
  refine AW_aload_n dX11_all_0 rfl ?_
  refine AW_getR (a := 17) dX11_all_1 gfX11_12 (hS.cel rfl) (hS.rf rfl) ?_
  refine AW_iload_n dX11_all_4 rfl ?_
  refine AW_callV1 (d' := d - 1) dX11_all_5 (Or.inl lkX11_73) mfX3_isSide (hS.cel rfl) ⟨_, rfl, rfl⟩ (k_isSide hS side) (by omega) (Nat.le_of_ble_eq_true rfl) ?_
  rintro _ _ ⟨e_, rfl⟩ -
  rw [e_]
  clear e_
  refine AW_if_eq (tgt := 28) dX11_all_8 (by decide) (fun c_8 => ?_) (fun c_8 => ?_)
  · skip
    replace c_8 := bz0 c_8
    refine AW_iconst dX11_all_28 ?_
    refine AW_iret dX11_all_29 rfl ?_
    refine ⟨rfl, ?_⟩
    first | (rw [if_pos (by omega)]; done) | (rw [if_neg (by omega)]; done)
  · skip
    replace c_8 := bz1 c_8
    refine AW_iload_n dX11_all_11 rfl ?_
    refine AW_iconst dX11_all_12 ?_
    refine AW_icmp_eq (tgt := 30) dX11_all_13 (by decide) (fun c_13 => ?_) (fun c_13 => ?_)
    · skip
      refine AW_iload_n dX11_all_30 rfl ?_
      refine AW_if_lt (tgt := 39) dX11_all_31 (by decide) (fun c_31 => ?_) (fun c_31 => ?_)
      · skip
        refine AW_iconst dX11_all_39 ?_
        refine AW_goto (tgt := 53) dX11_all_40 (by decide) ?_
        refine AW_iret dX11_all_53 rfl ?_
        refine ⟨rfl, ?_⟩
        first | (rw [if_pos (by omega)]; done) | (rw [if_neg (by omega)]; done)
      · skip
        refine AW_iload_n dX11_all_34 rfl ?_
        refine AW_iconst dX11_all_35 ?_
        refine AW_icmp_le (tgt := 43) dX11_all_36 (by decide) (fun c_36 => ?_) (fun c_36 => ?_)
        · skip
          refine AW_aload_n dX11_all_43 rfl ?_
          refine AW_getR (a := 41) dX11_all_44 gfX11_53 (hS.cel rfl) (hS.rf rfl) ?_
          refine AW_iload_n dX11_all_47 rfl ?_
          refine AW_iload_n dX11_all_48 rfl ?_
          refine AW_iload_n dX11_all_49 rfl ?_
          refine AW_callV3 (d' := d - 1) dX11_all_50 (Or.inl lkX11_182) mfX1_together (hS.cel rfl) ⟨_, rfl, rfl⟩ (k_tog (by omega) hS hT hw side sort what (by omega)) (by omega) (Nat.le_of_ble_eq_true rfl) ?_
          rintro _ _ ⟨rfl, rfl⟩ -
          refine AW_iret dX11_all_53 rfl ?_
          refine ⟨rfl, ?_⟩
          first | (rw [if_pos (by omega)]; done) | (rw [if_neg (by omega)]; done)
        · skip
          refine AW_iconst dX11_all_39 ?_
          refine AW_goto (tgt := 53) dX11_all_40 (by decide) ?_
          refine AW_iret dX11_all_53 rfl ?_
          refine ⟨rfl, ?_⟩
          first | (rw [if_pos (by omega)]; done) | (rw [if_neg (by omega)]; done)
    · skip
      refine AW_aload_n dX11_all_16 rfl ?_
      refine AW_getR (a := 17) dX11_all_17 gfX11_12 (hS.cel rfl) (hS.rf rfl) ?_
      refine AW_iload_n dX11_all_20 rfl ?_
      refine AW_iload_n dX11_all_21 rfl ?_
      refine AW_callV2 (d' := d - 1) dX11_all_22 (Or.inl lkX11_85) mfX3_isSort (hS.cel rfl) ⟨_, rfl, rfl⟩ (k_isSort hS hR side sort) (by omega) (Nat.le_of_ble_eq_true rfl) ?_
      rintro _ _ ⟨e_, rfl⟩ -
      rw [e_]
      clear e_
      refine AW_if_ne (tgt := 30) dX11_all_25 (by decide) (fun c_25 => ?_) (fun c_25 => ?_)
      · skip
        replace c_25 := bz1 c_25
        refine AW_iload_n dX11_all_30 rfl ?_
        refine AW_if_lt (tgt := 39) dX11_all_31 (by decide) (fun c_31 => ?_) (fun c_31 => ?_)
        · skip
          refine AW_iconst dX11_all_39 ?_
          refine AW_goto (tgt := 53) dX11_all_40 (by decide) ?_
          refine AW_iret dX11_all_53 rfl ?_
          refine ⟨rfl, ?_⟩
          first | (rw [if_pos (by omega)]; done) | (rw [if_neg (by omega)]; done)
        · skip
          refine AW_iload_n dX11_all_34 rfl ?_
          refine AW_iconst dX11_all_35 ?_
          refine AW_icmp_le (tgt := 43) dX11_all_36 (by decide) (fun c_36 => ?_) (fun c_36 => ?_)
          · skip
            refine AW_aload_n dX11_all_43 rfl ?_
            refine AW_getR (a := 41) dX11_all_44 gfX11_53 (hS.cel rfl) (hS.rf rfl) ?_
            refine AW_iload_n dX11_all_47 rfl ?_
            refine AW_iload_n dX11_all_48 rfl ?_
            refine AW_iload_n dX11_all_49 rfl ?_
            refine AW_callV3 (d' := d - 1) dX11_all_50 (Or.inl lkX11_182) mfX1_together (hS.cel rfl) ⟨_, rfl, rfl⟩ (k_tog (by omega) hS hT hw side sort what (by omega)) (by omega) (Nat.le_of_ble_eq_true rfl) ?_
            rintro _ _ ⟨rfl, rfl⟩ -
            refine AW_iret dX11_all_53 rfl ?_
            refine ⟨rfl, ?_⟩
            first | (rw [if_pos (by omega)]; done) | (rw [if_neg (by omega)]; done)
          · skip
            refine AW_iconst dX11_all_39 ?_
            refine AW_goto (tgt := 53) dX11_all_40 (by decide) ?_
            refine AW_iret dX11_all_53 rfl ?_
            refine ⟨rfl, ?_⟩
            first | (rw [if_pos (by omega)]; done) | (rw [if_neg (by omega)]; done)
      · skip
        replace c_25 := bz0 c_25
        refine AW_iconst dX11_all_28 ?_
        refine AW_iret dX11_all_29 rfl ?_
        refine ⟨rfl, ?_⟩
        first | (rw [if_pos (by omega)]; done) | (rw [if_neg (by omega)]; done)
def townV (n : Nat) (w : Tw) (what : Int) : Int := if what = 0 then w.2.1 0 else if what = 1 then (n : Int) else if what = 2 then (prs w.1 n : Int) else if what = 3 then w.2.1 1 else if what = 4 then w.2.1 2 else if what = 5 then w.2.1 3 else if what = 6 then w.2.1 4 else if what = 7 then w.2.2 else -1
theorem x_town {G : Gt} {d : Nat} {σ : St} (hd : 4 ≤ d) {D : Mk} {n : Nat} {pc : Nat → Nat} {w : Tw} (hS : Sta σ) (hT : TwC n pc w σ) (hw : WFP D n w.1) (what : Int)  : AM mX11_town G d 0 0 [vR 16, vI what] σ (fun r τ => τ = σ ∧ r = some (vI (townV n w what))) := by
  refine AM.intro (by decide +kernel) (by simp [nLg]) (Nat.le_of_ble_eq_true rfl) (fun hO => ?_)
  have i_what : -2147483648 ≤ what ∧ what < 2147483648 := hO (vI what) (by simp)
  show AW _ _ _ _ _ _ 0 [some (vR 16), some (vI what)] [] σ
  refine AW_iload_n dX11_town_0 rfl ?_
  refine (Classical.em (what = 0)).elim (fun c_1_0 => ?_) (fun c_1_0 => ?_)
  · skip
    refine AW_tableIn (off := 47) (tgt := 48) dX11_town_1 (by rw [c_1_0]; decide) (by rw [c_1_0]; decide) (by rw [c_1_0]; rfl) (by decide) ?_
    refine AW_aload_n dX11_town_48 rfl ?_
    refine AW_getR (a := 41) dX11_town_49 gfX11_53 (hS.cel rfl) (hS.rf rfl) ?_
    refine AW_iconst dX11_town_52 ?_
    refine AW_callV1 (d' := d - 1) dX11_town_53 (Or.inl lkX11_170) mfX1_tally (hS.cel rfl) ⟨_, rfl, rfl⟩ (k_tally hS hT 0 (by decide) (by decide)) (by omega) (Nat.le_of_ble_eq_true rfl) ?_
    rintro _ _ ⟨e_, rfl⟩ -
    rw [e_]
    clear e_
    rw [show Int.toNat 0 = 0 from rfl]
    refine AW_iret dX11_town_56 rfl ?_
    refine ⟨rfl, ?_⟩
    unfold townV
    rw [if_pos (by omega)]
  refine (Classical.em (what = 1)).elim (fun c_1_1 => ?_) (fun c_1_1 => ?_)
  · skip
    refine AW_tableIn (off := 56) (tgt := 57) dX11_town_1 (by rw [c_1_1]; decide) (by rw [c_1_1]; decide) (by rw [c_1_1]; rfl) (by decide) ?_
    refine AW_aload_n dX11_town_57 rfl ?_
    refine AW_getR (a := 41) dX11_town_58 gfX11_53 (hS.cel rfl) (hS.rf rfl) ?_
    refine AW_callV0 (d' := d - 1) dX11_town_61 (Or.inl lkX11_77) mfX1_size (hS.cel rfl) ⟨_, rfl, rfl⟩ (k_folkSize (by omega) hS) (by omega) (Nat.le_of_ble_eq_true rfl) ?_
    rintro _ _ ⟨e_, rfl⟩ -
    rw [e_]
    clear e_
    rw [hT.1.1.1]
    refine AW_iret dX11_town_64 rfl ?_
    refine ⟨rfl, ?_⟩
    unfold townV
    rw [if_neg (by omega), if_pos (by omega)]
  refine (Classical.em (what = 2)).elim (fun c_1_2 => ?_) (fun c_1_2 => ?_)
  · skip
    refine AW_tableIn (off := 64) (tgt := 65) dX11_town_1 (by rw [c_1_2]; decide) (by rw [c_1_2]; decide) (by rw [c_1_2]; rfl) (by decide) ?_
    refine AW_aload_n dX11_town_65 rfl ?_
    refine AW_getR (a := 41) dX11_town_66 gfX11_53 (hS.cel rfl) (hS.rf rfl) ?_
    refine AW_callV0 (d' := d - 1) dX11_town_69 (Or.inl lkX11_176) mfX1_countPairs (hS.cel rfl) ⟨_, rfl, rfl⟩ (k_cp (by omega) hS hT hw) (by omega) (Nat.le_of_ble_eq_true rfl) ?_
    rintro _ _ ⟨rfl, rfl⟩ -
    refine AW_iret dX11_town_72 rfl ?_
    refine ⟨rfl, ?_⟩
    unfold townV
    rw [if_neg (by omega), if_neg (by omega), if_pos (by omega)]
  refine (Classical.em (what = 3)).elim (fun c_1_3 => ?_) (fun c_1_3 => ?_)
  · skip
    refine AW_tableIn (off := 72) (tgt := 73) dX11_town_1 (by rw [c_1_3]; decide) (by rw [c_1_3]; decide) (by rw [c_1_3]; rfl) (by decide) ?_
    refine AW_aload_n dX11_town_73 rfl ?_
    refine AW_getR (a := 41) dX11_town_74 gfX11_53 (hS.cel rfl) (hS.rf rfl) ?_
    refine AW_iconst dX11_town_77 ?_
    refine AW_callV1 (d' := d - 1) dX11_town_78 (Or.inl lkX11_170) mfX1_tally (hS.cel rfl) ⟨_, rfl, rfl⟩ (k_tally hS hT 1 (by decide) (by decide)) (by omega) (Nat.le_of_ble_eq_true rfl) ?_
    rintro _ _ ⟨e_, rfl⟩ -
    rw [e_]
    clear e_
    rw [show Int.toNat 1 = 1 from rfl]
    refine AW_iret dX11_town_81 rfl ?_
    refine ⟨rfl, ?_⟩
    unfold townV
    rw [if_neg (by omega), if_neg (by omega), if_neg (by omega), if_pos (by omega)]
  refine (Classical.em (what = 4)).elim (fun c_1_4 => ?_) (fun c_1_4 => ?_)
  · skip
    refine AW_tableIn (off := 81) (tgt := 82) dX11_town_1 (by rw [c_1_4]; decide) (by rw [c_1_4]; decide) (by rw [c_1_4]; rfl) (by decide) ?_
    refine AW_aload_n dX11_town_82 rfl ?_
    refine AW_getR (a := 41) dX11_town_83 gfX11_53 (hS.cel rfl) (hS.rf rfl) ?_
    refine AW_iconst dX11_town_86 ?_
    refine AW_callV1 (d' := d - 1) dX11_town_87 (Or.inl lkX11_170) mfX1_tally (hS.cel rfl) ⟨_, rfl, rfl⟩ (k_tally hS hT 2 (by decide) (by decide)) (by omega) (Nat.le_of_ble_eq_true rfl) ?_
    rintro _ _ ⟨e_, rfl⟩ -
    rw [e_]
    clear e_
    rw [show Int.toNat 2 = 2 from rfl]
    refine AW_iret dX11_town_90 rfl ?_
    refine ⟨rfl, ?_⟩
    unfold townV
    rw [if_neg (by omega), if_neg (by omega), if_neg (by omega), if_neg (by omega), if_pos (by omega)]
  refine (Classical.em (what = 5)).elim (fun c_1_5 => ?_) (fun c_1_5 => ?_)
  · skip
    refine AW_tableIn (off := 90) (tgt := 91) dX11_town_1 (by rw [c_1_5]; decide) (by rw [c_1_5]; decide) (by rw [c_1_5]; rfl) (by decide) ?_
    refine AW_aload_n dX11_town_91 rfl ?_
    refine AW_getR (a := 41) dX11_town_92 gfX11_53 (hS.cel rfl) (hS.rf rfl) ?_
    refine AW_iconst dX11_town_95 ?_
    refine AW_callV1 (d' := d - 1) dX11_town_96 (Or.inl lkX11_170) mfX1_tally (hS.cel rfl) ⟨_, rfl, rfl⟩ (k_tally hS hT 3 (by decide) (by decide)) (by omega) (Nat.le_of_ble_eq_true rfl) ?_
    rintro _ _ ⟨e_, rfl⟩ -
    rw [e_]
    clear e_
    rw [show Int.toNat 3 = 3 from rfl]
    refine AW_iret dX11_town_99 rfl ?_
    refine ⟨rfl, ?_⟩
    unfold townV
    rw [if_neg (by omega), if_neg (by omega), if_neg (by omega), if_neg (by omega), if_neg (by omega), if_pos (by omega)]
  refine (Classical.em (what = 6)).elim (fun c_1_6 => ?_) (fun c_1_6 => ?_)
  · skip
    refine AW_tableIn (off := 99) (tgt := 100) dX11_town_1 (by rw [c_1_6]; decide) (by rw [c_1_6]; decide) (by rw [c_1_6]; rfl) (by decide) ?_
    refine AW_aload_n dX11_town_100 rfl ?_
    refine AW_getR (a := 41) dX11_town_101 gfX11_53 (hS.cel rfl) (hS.rf rfl) ?_
    refine AW_iconst dX11_town_104 ?_
    refine AW_callV1 (d' := d - 1) dX11_town_105 (Or.inl lkX11_170) mfX1_tally (hS.cel rfl) ⟨_, rfl, rfl⟩ (k_tally hS hT 4 (by decide) (by decide)) (by omega) (Nat.le_of_ble_eq_true rfl) ?_
    rintro _ _ ⟨e_, rfl⟩ -
    rw [e_]
    clear e_
    rw [show Int.toNat 4 = 4 from rfl]
    refine AW_iret dX11_town_108 rfl ?_
    refine ⟨rfl, ?_⟩
    unfold townV
    rw [if_neg (by omega), if_neg (by omega), if_neg (by omega), if_neg (by omega), if_neg (by omega), if_neg (by omega), if_pos (by omega)]
  refine (Classical.em (what = 7)).elim (fun c_1_7 => ?_) (fun c_1_7 => ?_)
  · skip
    refine AW_tableIn (off := 108) (tgt := 109) dX11_town_1 (by rw [c_1_7]; decide) (by rw [c_1_7]; decide) (by rw [c_1_7]; rfl) (by decide) ?_
    refine AW_aload_n dX11_town_109 rfl ?_
    refine AW_getR (a := 41) dX11_town_110 gfX11_53 (hS.cel rfl) (hS.rf rfl) ?_
    refine AW_callV0 (d' := d - 1) dX11_town_113 (Or.inl lkX11_185) mfX1_stateNow (hS.cel rfl) ⟨_, rfl, rfl⟩ (k_stateNow hS hT) (by omega) (Nat.le_of_ble_eq_true rfl) ?_
    rintro _ _ ⟨e_, rfl⟩ -
    rw [e_]
    clear e_
    refine AW_iret dX11_town_116 rfl ?_
    refine ⟨rfl, ?_⟩
    unfold townV
    rw [if_neg (by omega), if_neg (by omega), if_neg (by omega), if_neg (by omega), if_neg (by omega), if_neg (by omega), if_neg (by omega), if_pos (by omega)]
  refine AW_tableOut (tgt := 117) dX11_town_1 (by omega) (by decide) ?_
  refine AW_iconst dX11_town_117 ?_
  refine AW_iret dX11_town_118 rfl ?_
  refine ⟨rfl, ?_⟩
  unfold townV
  rw [if_neg (by omega), if_neg (by omega), if_neg (by omega), if_neg (by omega), if_neg (by omega), if_neg (by omega), if_neg (by omega), if_neg (by omega)]
