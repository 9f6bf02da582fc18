theorem l_pw3 {G : Gt} {d : Nat} {σ : St} {D : Mk} {Ws : Nat → Wy} {n : Nat} {pc : Nat → Nat} {W : Tw} (hd : 8 ≤ d) (hS0 : Sta σ) (hC0 : CtC D Ws σ) : ∀ (nn : Nat) (m i : Nat) (w : Tw) (x2 : Option AV) (τ : St), m < nn → i + m = n → WFP D n w.1 → 0 ≤ w.2.1 0 ∧ w.2.1 0 ≤ 99 → TwC n pc w τ → Fz σ τ → itr ageS m i w = W →  AW mX1_passWeek G d 0 0 (mq G (fun ro ρ => ro = none ∧ TwC n pc (endW W) ρ ∧ Fz σ ρ)) 106 [some (vR 41), some (vI (i : Int)), x2] [] τ := by
  intro nn
  induction nn with
  | zero => intros; omega
  | succ nn ih =>
    intro m i w x2 τ hn hi hw h99 hT hF hW
    have hS := hF.sta hS0
    have hC := hC0.fz hF hS0
    have hn40 := hw.1
    refine AW_iload_n dX1_passWeek_106 rfl ?_
    refine AW_aload_n dX1_passWeek_107 rfl ?_
    refine AW_getR (a := 46) dX1_passWeek_108 gfX1_25 (hS.cel rfl) (hS.rf rfl) ?_
    refine AW_callV0 (d' := d - 1) dX1_passWeek_111 (Or.inl lkX1_47) mfJx4a65c_size_8abf5 (hS.cel rfl) ⟨_, rfl, rfl⟩ (k_ALsize (hS.cel rfl)) (by omega) (Nat.le_of_ble_eq_true rfl) ?_
    rintro _ _ ⟨e_, rfl⟩ -
    rw [e_]
    clear e_
    rw [hT.1.1.1]
    refine AW_icmp_ge (tgt := 165) dX1_passWeek_114 (by decide) (fun c_114 => ?_) (fun c_114 => ?_)
    · skip
      have hm : m = 0 := by omega
      subst hm
      refine AW_aload_n dX1_passWeek_165 rfl ?_
      refine AW_getR (a := 47) dX1_passWeek_166 gfX1_28 (hS.cel rfl) (hS.rf rfl) ?_
      refine AW_iconst dX1_passWeek_169 ?_
      refine AW_dup2 dX1_passWeek_170 ?_
      refine AW_ialdK 0 dX1_passWeek_171 (hS.cel rfl) (by decide) ?_
      refine AW_iconst dX1_passWeek_172 ?_
      rw [hT.2.1 0 (by decide)]
      refine AW_iadd dX1_passWeek_173 ?_
      refine AW_iastK 0 dX1_passWeek_174 (hS.cel rfl) (by decide) ?_
      refine AW_vret dX1_passWeek_175 rfl ?_
      rw [itr_0] at hW
      subst hW
      exact ⟨rfl, hT.tal 0 _, hF.ul (by decide) _ _⟩
    · skip
      obtain ⟨m1, rfl⟩ : ∃ m1, m = m1 + 1 := ⟨m - 1, by omega⟩
      rw [itr_s] at hW
      obtain ⟨ea, N, e1, e2, e3, e4⟩ := hT.1.ls (show i < n by omega)
      refine AW_aload_n dX1_passWeek_117 rfl ?_
      refine AW_getR (a := 46) dX1_passWeek_118 gfX1_25 (hS.cel rfl) (hS.rf rfl) ?_
      refine AW_iload_n dX1_passWeek_121 rfl ?_
      refine AW_callV1 (d' := d - 1) dX1_passWeek_122 (Or.inl lkX1_59) mfJx4a65c_get_915e3 (hS.cel rfl) ⟨_, rfl, rfl⟩ (k_ALget (by omega) (hS.cel rfl) e1 e2 _ (by omega) (by omega) (by rw [hT.1.1.1]; omega)) (by omega) (Nat.le_of_ble_eq_true rfl) ?_
      rintro _ _ ⟨e_, rfl⟩ -
      rw [e_]
      clear e_
      rw [Int.toNat_natCast, e4 i (by omega)]
      refine AW_cast dX1_passWeek_125 (hT.1.cel (show i < n by omega)) ⟨_, rfl, cl_P⟩ ?_
      refine AW_astore2 dX1_passWeek_128 ?_
      refine AW_aload_n dX1_passWeek_129 rfl ?_
      refine AW_callV0 (d' := d - 1) dX1_passWeek_130 (Or.inl lkX1_78) mfX4_isSingle (hT.1.cel (show i < n by omega)) ⟨_, rfl, rfl⟩ (k_single hT.1 hw (show i < n by omega)) (by omega) (Nat.le_of_ble_eq_true rfl) ?_
      rintro _ _ ⟨e_, rfl⟩ -
      rw [e_]
      clear e_
      refine AW_if_eq (tgt := 149) dX1_passWeek_133 (by decide) (fun c_133 => ?_) (fun c_133 => ?_)
      · skip
        replace c_133 := bz0 c_133
        rw [show ageS w i = (setP w.1 5 i (wr (w.1 5 i + 1)), w.2) by unfold ageS; rw [if_neg c_133]] at hW
        refine AW_aload_n dX1_passWeek_149 rfl ?_
        refine AW_dup dX1_passWeek_150 ?_
        refine AW_getI dX1_passWeek_151 gfX1_102 (hT.1.cel (show i < n by omega)) ?_
        refine AW_iconst dX1_passWeek_154 ?_
        rw [hT.1.v5 (show i < n by omega)]
        refine AW_iadd dX1_passWeek_155 ?_
        refine AW_putI dX1_passWeek_156 (Or.inr (Or.inr pfX1_102)) (hT.1.cel (show i < n by omega)) ?_
        refine AW_iincE1 dX1_passWeek_159 (by omega) (by omega) ?_
        refine AW_goto (tgt := 106) dX1_passWeek_162 (by decide) ?_
        rw [show (i : Int) + 1 = ((i + 1 : Nat) : Int) by omega]
        first
        | exact ih m1 (i + 1) (setP w.1 4 i (wr (w.1 4 i + 1)), w.2) _ _ (by omega) (by omega) (hw.se (show i < n by omega) 4 _) h99 (hT.uI (show i < n by omega) 4 _) (hF.uI (hT.1.cel (show i < n by omega)) _ _) hW
        | exact ih m1 (i + 1) (setP w.1 5 i (wr (w.1 5 i + 1)), w.2) _ _ (by omega) (by omega) (hw.se (show i < n by omega) 5 _) h99 (hT.uI (show i < n by omega) 5 _) (hF.uI (hT.1.cel (show i < n by omega)) _ _) hW
      · skip
        replace c_133 := bz1 c_133
        rw [show ageS w i = (setP w.1 4 i (wr (w.1 4 i + 1)), w.2) by unfold ageS; rw [if_pos c_133]] at hW
        refine AW_aload_n dX1_passWeek_136 rfl ?_
        refine AW_dup dX1_passWeek_137 ?_
        refine AW_getI dX1_passWeek_138 gfX1_85 (hT.1.cel (show i < n by omega)) ?_
        refine AW_iconst dX1_passWeek_141 ?_
        rw [hT.1.v4 (show i < n by omega)]
        refine AW_iadd dX1_passWeek_142 ?_
        refine AW_putI dX1_passWeek_143 (Or.inr (Or.inr pfX1_85)) (hT.1.cel (show i < n by omega)) ?_
        refine AW_goto (tgt := 159) dX1_passWeek_146 (by decide) ?_
        refine AW_iincE1 dX1_passWeek_159 (by omega) (by omega) ?_
        refine AW_goto (tgt := 106) dX1_passWeek_162 (by decide) ?_
        rw [show (i : Int) + 1 = ((i + 1 : Nat) : Int) by omega]
        first
        | exact ih m1 (i + 1) (setP w.1 4 i (wr (w.1 4 i + 1)), w.2) _ _ (by omega) (by omega) (hw.se (show i < n by omega) 4 _) h99 (hT.uI (show i < n by omega) 4 _) (hF.uI (hT.1.cel (show i < n by omega)) _ _) hW
        | exact ih m1 (i + 1) (setP w.1 5 i (wr (w.1 5 i + 1)), w.2) _ _ (by omega) (by omega) (hw.se (show i < n by omega) 5 _) h99 (hT.uI (show i < n by omega) 5 _) (hF.uI (hT.1.cel (show i < n by omega)) _ _) hW
theorem l_pw2 {G : Gt} {d : Nat} {σ : St} {D : Mk} {Ws : Nat → Wy} {n : Nat} {pc : Nat → Nat} {W : Tw} (hd : 8 ≤ d) (hS0 : Sta σ) (hC0 : CtC D Ws σ) : ∀ (nn : Nat) (m i : Nat) (w : Tw) (x2 : Option AV) (τ : St), m < nn → i + m = n → WFP D n w.1 → 0 ≤ w.2.1 0 ∧ w.2.1 0 ≤ 99 → TwC n pc w τ → Fz σ τ → itr ageS n 0 (itr (outS D Ws n) m i w) = W →  AW mX1_passWeek G d 0 0 (mq G (fun ro ρ => ro = none ∧ TwC n pc (endW W) ρ ∧ Fz σ ρ)) 56 [some (vR 41), some (vI (i : Int)), x2] [] τ := by
  intro nn
  induction nn with
  | zero => intros; omega
  | succ nn ih =>
    intro m i w x2 τ hn hi hw h99 hT hF hW
    have hS := hF.sta hS0
    have hC := hC0.fz hF hS0
    have hn40 := hw.1
    refine AW_iload_n dX1_passWeek_56 rfl ?_
    refine AW_aload_n dX1_passWeek_57 rfl ?_
    refine AW_getR (a := 46) dX1_passWeek_58 gfX1_25 (hS.cel rfl) (hS.rf rfl) ?_
    refine AW_callV0 (d' := d - 1) dX1_passWeek_61 (Or.inl lkX1_47) mfJx4a65c_size_8abf5 (hS.cel rfl) ⟨_, rfl, rfl⟩ (k_ALsize (hS.cel rfl)) (by omega) (Nat.le_of_ble_eq_true rfl) ?_
    rintro _ _ ⟨e_, rfl⟩ -
    rw [e_]
    clear e_
    rw [hT.1.1.1]
    refine AW_icmp_ge (tgt := 104) dX1_passWeek_64 (by decide) (fun c_64 => ?_) (fun c_64 => ?_)
    · skip
      have hm : m = 0 := by omega
      subst hm
      refine AW_iconst dX1_passWeek_104 ?_
      refine AW_istore1 dX1_passWeek_105 ?_
      rw [itr_0] at hW
      exact l_pw3 hd hS0 hC0 (n + 1) n 0 w _ τ (by omega) (by omega) hw h99 hT hF hW
    · skip
      obtain ⟨m1, rfl⟩ : ∃ m1, m = m1 + 1 := ⟨m - 1, by omega⟩
      rw [itr_s] at hW
      obtain ⟨ea, N, e1, e2, e3, e4⟩ := hT.1.ls (show i < n by omega)
      refine AW_aload_n dX1_passWeek_67 rfl ?_
      refine AW_getR (a := 46) dX1_passWeek_68 gfX1_25 (hS.cel rfl) (hS.rf rfl) ?_
      refine AW_iload_n dX1_passWeek_71 rfl ?_
      refine AW_callV1 (d' := d - 1) dX1_passWeek_72 (Or.inl lkX1_59) mfJx4a65c_get_915e3 (hS.cel rfl) ⟨_, rfl, rfl⟩ (k_ALget (by omega) (hS.cel rfl) e1 e2 _ (by omega) (by omega) (by rw [hT.1.1.1]; omega)) (by omega) (Nat.le_of_ble_eq_true rfl) ?_
      rintro _ _ ⟨e_, rfl⟩ -
      rw [e_]
      clear e_
      rw [Int.toNat_natCast, e4 i (by omega)]
      refine AW_cast dX1_passWeek_75 (hT.1.cel (show i < n by omega)) ⟨_, rfl, cl_P⟩ ?_
      refine AW_astore2 dX1_passWeek_78 ?_
      refine AW_aload_n dX1_passWeek_79 rfl ?_
      refine AW_getI dX1_passWeek_80 gfX1_75 (hT.1.cel (show i < n by omega)) ?_
      refine AW_if_ne (tgt := 98) dX1_passWeek_83 (by decide) (fun c_83 => ?_) (fun c_83 => ?_)
      · skip
        rw [hT.1.v0 (show i < n by omega)] at c_83
        have hT2 : TwC n pc (outS D Ws n w i) τ := by
          unfold outS
          rw [if_neg (fun q => c_83 q.1)]
          exact hT
        have hF2 := hF
        refine AW_iincE1 dX1_passWeek_98 (by omega) (by omega) ?_
        refine AW_goto (tgt := 56) dX1_passWeek_101 (by decide) ?_
        rw [show (i : Int) + 1 = ((i + 1 : Nat) : Int) by omega]
        exact ih m1 (i + 1) _ _ _ (by omega) (by omega) (hw.out (show i < n by omega)) (by rw [out_t0]; exact h99) hT2 hF2 hW
      · skip
        rw [hT.1.v0 (show i < n by omega)] at c_83
        refine AW_aload_n dX1_passWeek_86 rfl ?_
        refine AW_callV0 (d' := d - 1) dX1_passWeek_87 (Or.inl lkX1_78) mfX4_isSingle (hT.1.cel (show i < n by omega)) ⟨_, rfl, rfl⟩ (k_single hT.1 hw (show i < n by omega)) (by omega) (Nat.le_of_ble_eq_true rfl) ?_
        rintro _ _ ⟨e_, rfl⟩ -
        rw [e_]
        clear e_
        refine AW_if_eq (tgt := 98) dX1_passWeek_90 (by decide) (fun c_90 => ?_) (fun c_90 => ?_)
        · skip
          replace c_90 := bz0 c_90
          have hT2 : TwC n pc (outS D Ws n w i) τ := by
            unfold outS
            rw [if_neg (fun q => c_90 q.2)]
            exact hT
          have hF2 := hF
          refine AW_iincE1 dX1_passWeek_98 (by omega) (by omega) ?_
          refine AW_goto (tgt := 56) dX1_passWeek_101 (by decide) ?_
          rw [show (i : Int) + 1 = ((i + 1 : Nat) : Int) by omega]
          exact ih m1 (i + 1) _ _ _ (by omega) (by omega) (hw.out (show i < n by omega)) (by rw [out_t0]; exact h99) hT2 hF2 hW
        · skip
          replace c_90 := bz1 c_90
          refine AW_aload_n dX1_passWeek_93 rfl ?_
          refine AW_aload_n dX1_passWeek_94 rfl ?_
          refine AW_callV1 (d' := d - 1) dX1_passWeek_95 (Or.inl lkX1_126) mfX1_goOut (hS.cel rfl) ⟨_, rfl, rfl⟩ (k_goOut (by omega) hS hC hT hw (show i < n by omega) h99 (by omega)) (by omega) (Nat.le_of_ble_eq_true rfl) ?_
          rintro _ ρ1 ⟨rfl, hT1, hF1⟩ -
          have hT2 : TwC n pc (outS D Ws n w i) ρ1 := by
            unfold outS
            rw [if_pos ⟨by omega, c_90⟩]
            exact hT1
          have hF2 := hF.tr hF1
          refine AW_iincE1 dX1_passWeek_98 (by omega) (by omega) ?_
          refine AW_goto (tgt := 56) dX1_passWeek_101 (by decide) ?_
          rw [show (i : Int) + 1 = ((i + 1 : Nat) : Int) by omega]
          exact ih m1 (i + 1) _ _ _ (by omega) (by omega) (hw.out (show i < n by omega)) (by rw [out_t0]; exact h99) hT2 hF2 hW
theorem l_pw1 {G : Gt} {d : Nat} {σ : St} {D : Mk} {Ws : Nat → Wy} {n : Nat} {pc : Nat → Nat} {W : Tw} (hd : 8 ≤ d) (hS0 : Sta σ) (hC0 : CtC D Ws σ) : ∀ (nn : Nat) (m i : Nat) (w : Tw) (x2 : Option AV) (τ : St), m < nn → i + m = n → WFP D n w.1 → 0 ≤ w.2.1 0 ∧ w.2.1 0 ≤ 99 → TwC n pc w τ → Fz σ τ → itr ageS n 0 (itr (outS D Ws n) n 0 (itr (lookS D) m i w)) = W →  AW mX1_passWeek G d 0 0 (mq G (fun ro ρ => ro = none ∧ TwC n pc (endW W) ρ ∧ Fz σ ρ)) 2 [some (vR 41), some (vI (i : Int)), x2] [] τ := by
  intro nn
  induction nn with
  | zero => intros; omega
  | succ nn ih =>
    intro m i w x2 τ hn hi hw h99 hT hF hW
    have hS := hF.sta hS0
    have hC := hC0.fz hF hS0
    have hn40 := hw.1
    refine AW_iload_n dX1_passWeek_2 rfl ?_
    refine AW_aload_n dX1_passWeek_3 rfl ?_
    refine AW_getR (a := 46) dX1_passWeek_4 gfX1_25 (hS.cel rfl) (hS.rf rfl) ?_
    refine AW_callV0 (d' := d - 1) dX1_passWeek_7 (Or.inl lkX1_47) mfJx4a65c_size_8abf5 (hS.cel rfl) ⟨_, rfl, rfl⟩ (k_ALsize (hS.cel rfl)) (by omega) (Nat.le_of_ble_eq_true rfl) ?_
    rintro _ _ ⟨e_, rfl⟩ -
    rw [e_]
    clear e_
    rw [hT.1.1.1]
    refine AW_icmp_ge (tgt := 54) dX1_passWeek_10 (by decide) (fun c_10 => ?_) (fun c_10 => ?_)
    · skip
      have hm : m = 0 := by omega
      subst hm
      refine AW_iconst dX1_passWeek_54 ?_
      refine AW_istore1 dX1_passWeek_55 ?_
      rw [itr_0] at hW
      exact l_pw2 hd hS0 hC0 (n + 1) n 0 w _ τ (by omega) (by omega) hw h99 hT hF hW
    · skip
      obtain ⟨m1, rfl⟩ : ∃ m1, m = m1 + 1 := ⟨m - 1, by omega⟩
      rw [itr_s] at hW
      obtain ⟨ea, N, e1, e2, e3, e4⟩ := hT.1.ls (show i < n by omega)
      refine AW_aload_n dX1_passWeek_13 rfl ?_
      refine AW_getR (a := 46) dX1_passWeek_14 gfX1_25 (hS.cel rfl) (hS.rf rfl) ?_
      refine AW_iload_n dX1_passWeek_17 rfl ?_
      refine AW_callV1 (d' := d - 1) dX1_passWeek_18 (Or.inl lkX1_59) mfJx4a65c_get_915e3 (hS.cel rfl) ⟨_, rfl, rfl⟩ (k_ALget (by omega) (hS.cel rfl) e1 e2 _ (by omega) (by omega) (by rw [hT.1.1.1]; omega)) (by omega) (Nat.le_of_ble_eq_true rfl) ?_
      rintro _ _ ⟨e_, rfl⟩ -
      rw [e_]
      clear e_
      rw [Int.toNat_natCast, e4 i (by omega)]
      refine AW_cast dX1_passWeek_21 (hT.1.cel (show i < n by omega)) ⟨_, rfl, cl_P⟩ ?_
      refine AW_astore2 dX1_passWeek_24 ?_
      refine AW_aload_n dX1_passWeek_25 rfl ?_
      refine AW_getI dX1_passWeek_26 gfX1_75 (hT.1.cel (show i < n by omega)) ?_
      refine AW_if_ne (tgt := 48) dX1_passWeek_29 (by decide) (fun c_29 => ?_) (fun c_29 => ?_)
      · skip
        rw [hT.1.v0 (show i < n by omega)] at c_29
        have hT2 : TwC n pc (lookS D w i) τ := by
          unfold lookS
          rw [if_neg (fun q => c_29 q.1)]
          exact hT
        have hF2 := hF
        refine AW_iincE1 dX1_passWeek_48 (by omega) (by omega) ?_
        refine AW_goto (tgt := 2) dX1_passWeek_51 (by decide) ?_
        rw [show (i : Int) + 1 = ((i + 1 : Nat) : Int) by omega]
        exact ih m1 (i + 1) _ _ _ (by omega) (by omega) (hw.look (show i < n by omega)) (by rw [look_t0]; exact h99) hT2 hF2 hW
      · skip
        rw [hT.1.v0 (show i < n by omega)] at c_29
        refine AW_aload_n dX1_passWeek_32 rfl ?_
        refine AW_getR (a := orf pc (w.1 3 i)) dX1_passWeek_33 gfX1_95 (hT.1.cel (show i < n by omega)) (hT.1.own (show i < n by omega)) ?_
        refine AW_ifnull (tgt := 48) dX1_passWeek_36 (by decide) (fun c_36 => ?_) (fun c_36 => ?_)
        · skip
          have hn3 : w.1 3 i = -1 := hT.1.o1 hw (show i < n by omega) c_36
          have hT2 : TwC n pc (lookS D w i) τ := by
            unfold lookS
            rw [if_neg (fun q => q.2.1 hn3)]
            exact hT
          have hF2 := hF
          refine AW_iincE1 dX1_passWeek_48 (by omega) (by omega) ?_
          refine AW_goto (tgt := 2) dX1_passWeek_51 (by decide) ?_
          rw [show (i : Int) + 1 = ((i + 1 : Nat) : Int) by omega]
          exact ih m1 (i + 1) _ _ _ (by omega) (by omega) (hw.look (show i < n by omega)) (by rw [look_t0]; exact h99) hT2 hF2 hW
        · skip
          have hn3 : ¬ w.1 3 i = -1 := fun e => c_36 (by rw [e, orf_m])
          obtain ⟨_, eo, _⟩ := hT.1.o0 hw (show i < n by omega) hn3
          have ho := own_lt hw (show i < n by omega) hn3
          refine AW_aload_n dX1_passWeek_39 rfl ?_
          refine AW_aload_n dX1_passWeek_40 rfl ?_
          refine AW_aload_n dX1_passWeek_41 rfl ?_
          refine AW_getR (a := orf pc (w.1 3 i)) dX1_passWeek_42 gfX1_95 (hT.1.cel (show i < n by omega)) (hT.1.own (show i < n by omega)) ?_
          rw [eo]
          refine AW_callV2 (d' := d - 1) dX1_passWeek_45 (Or.inl lkX1_122) mfX1_lookAgain (hS.cel rfl) ⟨_, rfl, rfl⟩ (k_lookAgain (by omega) hS hC hT hw (show i < n by omega) ho.1 ho.2.1) (by omega) (Nat.le_of_ble_eq_true rfl) ?_
          rintro _ ρ1 ⟨rfl, hT1, hF1⟩ -
          have hT2 : TwC n pc (lookS D w i) ρ1 := by
            unfold lookS
            by_cases hl : lkC D w.1 i
            · rw [if_pos ⟨by omega, hn3, hl⟩]
              rw [if_pos hl] at hT1
              exact hT1
            · rw [if_neg (fun q => hl q.2.2)]
              rw [if_neg hl] at hT1
              exact hT1
          have hF2 := hF.tr hF1
          refine AW_iincE1 dX1_passWeek_48 (by omega) (by omega) ?_
          refine AW_goto (tgt := 2) dX1_passWeek_51 (by decide) ?_
          rw [show (i : Int) + 1 = ((i + 1 : Nat) : Int) by omega]
          exact ih m1 (i + 1) _ _ _ (by omega) (by omega) (hw.look (show i < n by omega)) (by rw [look_t0]; exact h99) hT2 hF2 hW
theorem k_passWeek {G : Gt} {d : Nat} {σ : St} (hd : 8 ≤ d) {D : Mk} {Ws : Nat → Wy} {n : Nat} {pc : Nat → Nat} {w : Tw} (hS : Sta σ) (hC : CtC D Ws σ) (hT : TwC n pc w σ) (hw : WFP D n w.1) (h99 : 0 ≤ w.2.1 0 ∧ w.2.1 0 ≤ 99)  : AM mX1_passWeek G d 0 0 [vR 41] σ (fun ro ρ => ro = none ∧ TwC n pc (weekS D Ws n w) ρ ∧ Fz σ ρ) := by
  refine AM.intro (by decide +kernel) (by simp [nLg]) (Nat.le_of_ble_eq_true rfl) (fun hO => ?_)
  show AW _ _ _ _ _ _ 0 [some (vR 41), none, none] [] σ
  refine AW_iconst dX1_passWeek_0 ?_
  refine AW_istore1 dX1_passWeek_1 ?_
  exact l_pw1 hd hS hC (n + 1) n 0 w _ σ (by omega) (by omega) hw h99 hT Fz.rf rfl
