theorem mop_v {x : Int} (h1 : -16 ≤ x) (h2 : x < -7) : (-14 ≤ x → mop x = -6 - x) ∧ (x = -15 → mop x = 10) ∧ (x = -16 → mop x = 11) := by
  unfold mop
  refine ⟨fun h => ?_, fun h => ?_, fun h => ?_⟩
  · rw [if_neg (by omega), if_neg (by omega), if_pos h]
  · rw [if_neg (by omega), if_neg (by omega), if_neg (by omega), if_pos h]
  · rw [if_neg (by omega), if_neg (by omega), if_neg (by omega), if_neg (by omega), if_pos h]
theorem mop_0 {x : Int} (h : 0 ≤ x) : mop x = 0 ∧ marg x = x := by unfold mop marg; rw [if_pos h, if_pos h]; exact ⟨rfl, rfl⟩
theorem mop_1 {x : Int} (h : -7 ≤ x) (h2 : x < 0) : mop x = 1 ∧ marg x = -1 - x := by unfold mop marg; rw [if_neg (by omega), if_pos h, if_neg (by omega), if_pos h]; exact ⟨rfl, rfl⟩
theorem mop_17 : mop (-17) = 9 := by decide
theorem mop_b {x : Int} (h2 : x < -7) : mop x ≠ 0 ∧ mop x ≠ 1 := by
  unfold mop
  rw [if_neg (by omega), if_neg (by omega)]
  constructor <;> (repeat' split) <;> omega
theorem or01 {a b : Int} (ha : a = 0 ∨ a = 1) (hb : b = 0 ∨ b = 1) (h : a + b ≤ 0) : a = 0 ∧ b = 0 := by omega
theorem n_twoOf {G : Gt} {d : Nat} {σ : St}  {x : Int} (w a b : Int) (e : w = mop x) (h1 : -16 ≤ x) (h2 : x < -7) (h3 : x = -11 → b ≠ 0) (h4 : x < -14 → (a = 0 ∨ a = 1) ∧ (b = 0 ∨ b = 1)) : AM mX12_twoOf G d 0 0 [vR 94, vI w, vI a, vI b] σ (fun r τ => τ = σ ∧ r = some (vI (jop x a b))) := by
  refine AM.intro (by decide +kernel) (by simp [nLg]) (Nat.le_of_ble_eq_true rfl) (fun hO => ?_)
  have i_w : -2147483648 ≤ w ∧ w < 2147483648 := hO (vI w) (by simp)
  have i_a : -2147483648 ≤ a ∧ a < 2147483648 := hO (vI a) (by simp)
  have i_b : -2147483648 ≤ b ∧ b < 2147483648 := hO (vI b) (by simp)
  show AW _ _ _ _ _ _ 0 [some (vR 94), some (vI w), some (vI a), some (vI b)] [] σ
  obtain ⟨m1, m2, m3⟩ := mop_v h1 h2
  rw [← e] at m1 m2 m3
  refine AW_iload_n dX12_twoOf_0 rfl ?_
  refine AW_iconst dX12_twoOf_1 ?_
  refine AW_icmp_ne (tgt := 9) dX12_twoOf_2 (by decide) (fun c_2 => ?_) (fun c_2 => ?_)
  · skip
    refine AW_iload_n dX12_twoOf_9 rfl ?_
    refine AW_iconst dX12_twoOf_10 ?_
    refine AW_icmp_ne (tgt := 18) dX12_twoOf_11 (by decide) (fun c_11 => ?_) (fun c_11 => ?_)
    · skip
      refine AW_iload_n dX12_twoOf_18 rfl ?_
      refine AW_iconst dX12_twoOf_19 ?_
      refine AW_icmp_ne (tgt := 27) dX12_twoOf_20 (by decide) (fun c_20 => ?_) (fun c_20 => ?_)
      · skip
        refine AW_iload_n dX12_twoOf_27 rfl ?_
        refine AW_iconst dX12_twoOf_28 ?_
        refine AW_icmp_ne (tgt := 36) dX12_twoOf_29 (by decide) (fun c_29 => ?_) (fun c_29 => ?_)
        · skip
          refine AW_iload_n dX12_twoOf_36 rfl ?_
          refine AW_bipush dX12_twoOf_37 ?_
          refine AW_icmp_ne (tgt := 53) dX12_twoOf_39 (by decide) (fun c_39 => ?_) (fun c_39 => ?_)
          · skip
            refine AW_iload_n dX12_twoOf_53 rfl ?_
            refine AW_bipush dX12_twoOf_54 ?_
            refine AW_icmp_ne (tgt := 70) dX12_twoOf_56 (by decide) (fun c_56 => ?_) (fun c_56 => ?_)
            · skip
              refine AW_iload_n dX12_twoOf_70 rfl ?_
              refine AW_bipush dX12_twoOf_71 ?_
              refine AW_icmp_ne (tgt := 87) dX12_twoOf_73 (by decide) (fun c_73 => ?_) (fun c_73 => ?_)
              · skip
                refine AW_iload_n dX12_twoOf_87 rfl ?_
                refine AW_bipush dX12_twoOf_88 ?_
                refine AW_icmp_ne (tgt := 99) dX12_twoOf_90 (by decide) (fun c_90 => ?_) (fun c_90 => ?_)
                · skip
                  refine AW_iload_n dX12_twoOf_99 rfl ?_
                  refine AW_iload_n dX12_twoOf_100 rfl ?_
                  refine AW_iaddE dX12_twoOf_101 (by have := h4 (by omega); omega) (by have := h4 (by omega); omega) ?_
                  refine AW_if_le (tgt := 109) dX12_twoOf_102 (by decide) (fun c_102 => ?_) (fun c_102 => ?_)
                  · skip
                    refine AW_iconst dX12_twoOf_109 ?_
                    refine AW_iret dX12_twoOf_110 rfl ?_
                    refine ⟨rfl, ?_⟩
                    obtain ⟨ha, hb⟩ := h4 (by omega)
                    first
                    | (have hx : x = -15 := by omega
                       subst hx
                       rw [jop_15]
                       rcases ha with rfl | rfl <;> rcases hb with rfl | rfl <;> decide +kernel)
                    | (rw [jop_16 (by omega)]
                       first | (rw [if_pos (by omega)]; done) | (rw [if_neg (by omega)]; done))
                  · skip
                    refine AW_iconst dX12_twoOf_105 ?_
                    refine AW_goto (tgt := 110) dX12_twoOf_106 (by decide) ?_
                    refine AW_iret dX12_twoOf_110 rfl ?_
                    refine ⟨rfl, ?_⟩
                    obtain ⟨ha, hb⟩ := h4 (by omega)
                    first
                    | (have hx : x = -15 := by omega
                       subst hx
                       rw [jop_15]
                       rcases ha with rfl | rfl <;> rcases hb with rfl | rfl <;> decide +kernel)
                    | (rw [jop_16 (by omega)]
                       first | (rw [if_pos (by omega)]; done) | (rw [if_neg (by omega)]; done))
                · skip
                  refine AW_iload_n dX12_twoOf_93 rfl ?_
                  refine AW_iload_n dX12_twoOf_94 rfl ?_
                  refine AW_imul dX12_twoOf_95 ?_
                  refine AW_goto (tgt := 110) dX12_twoOf_96 (by decide) ?_
                  refine AW_iret dX12_twoOf_110 rfl ?_
                  refine ⟨rfl, ?_⟩
                  obtain ⟨ha, hb⟩ := h4 (by omega)
                  first
                  | (have hx : x = -15 := by omega
                     subst hx
                     rw [jop_15]
                     rcases ha with rfl | rfl <;> rcases hb with rfl | rfl <;> decide +kernel)
                  | (rw [jop_16 (by omega)]
                     first | (rw [if_pos (by omega)]; done) | (rw [if_neg (by omega)]; done))
              · skip
                refine AW_iload_n dX12_twoOf_76 rfl ?_
                refine AW_iload_n dX12_twoOf_77 rfl ?_
                refine AW_icmp_le (tgt := 85) dX12_twoOf_78 (by decide) (fun c_78 => ?_) (fun c_78 => ?_)
                · skip
                  refine AW_iconst dX12_twoOf_85 ?_
                  refine AW_iret dX12_twoOf_86 rfl ?_
                  refine ⟨rfl, ?_⟩
                  have hx : x = -14 := by omega
                  subst hx
                  rw [jop_14]
                  first | rw [if_pos (by omega)] | rw [if_neg (by omega)]
                · skip
                  refine AW_iconst dX12_twoOf_81 ?_
                  refine AW_goto (tgt := 86) dX12_twoOf_82 (by decide) ?_
                  refine AW_iret dX12_twoOf_86 rfl ?_
                  refine ⟨rfl, ?_⟩
                  have hx : x = -14 := by omega
                  subst hx
                  rw [jop_14]
                  first | rw [if_pos (by omega)] | rw [if_neg (by omega)]
            · skip
              refine AW_iload_n dX12_twoOf_59 rfl ?_
              refine AW_iload_n dX12_twoOf_60 rfl ?_
              refine AW_icmp_ne (tgt := 68) dX12_twoOf_61 (by decide) (fun c_61 => ?_) (fun c_61 => ?_)
              · skip
                refine AW_iconst dX12_twoOf_68 ?_
                refine AW_iret dX12_twoOf_69 rfl ?_
                refine ⟨rfl, ?_⟩
                have hx : x = -13 := by omega
                subst hx
                rw [jop_13]
                first | rw [if_pos (by omega)] | rw [if_neg (by omega)]
              · skip
                refine AW_iconst dX12_twoOf_64 ?_
                refine AW_goto (tgt := 69) dX12_twoOf_65 (by decide) ?_
                refine AW_iret dX12_twoOf_69 rfl ?_
                refine ⟨rfl, ?_⟩
                have hx : x = -13 := by omega
                subst hx
                rw [jop_13]
                first | rw [if_pos (by omega)] | rw [if_neg (by omega)]
          · skip
            refine AW_iload_n dX12_twoOf_42 rfl ?_
            refine AW_iload_n dX12_twoOf_43 rfl ?_
            refine AW_icmp_ge (tgt := 51) dX12_twoOf_44 (by decide) (fun c_44 => ?_) (fun c_44 => ?_)
            · skip
              refine AW_iconst dX12_twoOf_51 ?_
              refine AW_iret dX12_twoOf_52 rfl ?_
              refine ⟨rfl, ?_⟩
              have hx : x = -12 := by omega
              subst hx
              rw [jop_12]
              first | rw [if_pos (by omega)] | rw [if_neg (by omega)]
            · skip
              refine AW_iconst dX12_twoOf_47 ?_
              refine AW_goto (tgt := 52) dX12_twoOf_48 (by decide) ?_
              refine AW_iret dX12_twoOf_52 rfl ?_
              refine ⟨rfl, ?_⟩
              have hx : x = -12 := by omega
              subst hx
              rw [jop_12]
              first | rw [if_pos (by omega)] | rw [if_neg (by omega)]
        · skip
          refine AW_iload_n dX12_twoOf_32 rfl ?_
          refine AW_iload_n dX12_twoOf_33 rfl ?_
          refine AW_idiv dX12_twoOf_34 (h3 (by omega)) ?_
          refine AW_iret dX12_twoOf_35 rfl ?_
          refine ⟨rfl, ?_⟩
          have hx : x = -11 := by omega
          subst hx
          rw [jop_11]
      · skip
        refine AW_iload_n dX12_twoOf_23 rfl ?_
        refine AW_iload_n dX12_twoOf_24 rfl ?_
        refine AW_imul dX12_twoOf_25 ?_
        refine AW_iret dX12_twoOf_26 rfl ?_
        refine ⟨rfl, ?_⟩
        have hx : x = -10 := by omega
        subst hx
        rw [jop_10]
    · skip
      refine AW_iload_n dX12_twoOf_14 rfl ?_
      refine AW_iload_n dX12_twoOf_15 rfl ?_
      refine AW_isub dX12_twoOf_16 ?_
      refine AW_iret dX12_twoOf_17 rfl ?_
      refine ⟨rfl, ?_⟩
      have hx : x = -9 := by omega
      subst hx
      rw [jop_9]
  · skip
    refine AW_iload_n dX12_twoOf_5 rfl ?_
    refine AW_iload_n dX12_twoOf_6 rfl ?_
    refine AW_iadd dX12_twoOf_7 ?_
    refine AW_iret dX12_twoOf_8 rfl ?_
    refine ⟨rfl, ?_⟩
    have hx : x = -8 := by omega
    subst hx
    rw [jop_8]
theorem ln_comes {G : Gt} {d : Nat} {σ : St} {k b t : Nat} {W : Wy} {f : Nat → Int} {v : Int} {x2 : Option AV} (hd : 1 ≤ d) (hk : k < 6) (hS0 : Sta σ) (hW : WyM σ k W) (hf : ∀ i, i < 7 → σ.2.1 123 i = f i) (hb : b ≤ W.2.2.1) : ∀ (nn : Nat) (m i : Nat) (s : List Int) (ts : List Nat) (tp : Int) (τ : St), m < nn → i + m = b → tp = (s.length : Int) → okT s ts → ts.length ≤ 32 → trun W.2.2.2 i m ts = some [t] → jrun f W.2.2.2 i m s = [v] → Sk τ 124 s → Fm [] [124] σ τ →  AW mX12_comesTo G d 0 0 (mq G (fun ro ρ => ro = some (vI v) ∧ Fm [] [124] σ ρ)) 12 [some (vR 94), some (vI (k : Int)), x2, some (vI (b : Int)), some (vI tp), some (vI (400 * (k : Int) + (i : Int)))] [] τ := by
  intro nn
  induction nn with
  | zero => intros; omega
  | succ nn ih =>
    intro m i s ts tp τ hn hi htp hok hl ht hj hSk hF
    have hS := hF.sta hS0
    have h400 := hW.2.2.1
    have hsl := okT_len s ts hok
    have htn : tp.toNat = s.length := by omega
    have hki : (400 * (k : Int) + (i : Int)).toNat = 400 * k + i := by omega
    refine AW_iload dX12_comesTo_12 rfl ?_
    refine AW_sipush dX12_comesTo_14 ?_
    refine AW_iload_n dX12_comesTo_17 rfl ?_
    refine AW_imulE dX12_comesTo_18 (by omega) (by omega) ?_
    refine AW_iload_n dX12_comesTo_19 rfl ?_
    refine AW_iaddE dX12_comesTo_20 (by omega) (by omega) ?_
    refine AW_icmp_ge (tgt := 176) dX12_comesTo_21 (by decide) (fun c_21 => ?_) (fun c_21 => ?_)
    · skip
      have hm : m = 0 := by omega
      subst hm
      rw [trun_0] at ht
      cases ht
      rw [jrun_0] at hj
      subst hj
      have hv0 : τ.2.1 124 0 = v := hSk.1
      refine AW_aload_n dX12_comesTo_176 rfl ?_
      refine AW_getR (a := 124) dX12_comesTo_177 gfX12_114 (hS.cel rfl) (hS.rf rfl) ?_
      refine AW_iconst dX12_comesTo_180 ?_
      refine AW_ialdK 0 dX12_comesTo_181 (hS.cel rfl) (by decide) ?_
      refine AW_iret dX12_comesTo_182 rfl ?_
      exact ⟨by rw [hv0], hF⟩
    · skip
      obtain ⟨m1, rfl⟩ : ∃ m1, m = m1 + 1 := ⟨m - 1, by omega⟩
      obtain ⟨ts2, e1, e2, e3⟩ := trun_inv ht
      have ok2 := okT_step (f := f) hok e1
      rw [jrun_s] at hj
      have hop := hW.2.2.2.2 i (by omega)
      rw [← hF.a 110 _, ← hF.a 111 _] at hop
      generalize W.2.2.2 i = x at e1 ok2 hj hop ⊢
      have hmb := @mop_b x
      have hm1 := @mop_1 x
      have hm0 := @mop_0 x
      refine AW_aload_n dX12_comesTo_24 rfl ?_
      refine AW_getR (a := 110) dX12_comesTo_25 gfX12_68 (hS.cel rfl) (hS.rf rfl) ?_
      refine AW_iload dX12_comesTo_28 rfl ?_
      refine AW_iald dX12_comesTo_30 (hS.cel rfl) (by omega) (by omega) ?_
      refine AW_if_eq (tgt := 45) dX12_comesTo_31 (by decide) (fun c_31 => ?_) (fun c_31 => ?_)
      · skip
        rw [hki, hop.1] at c_31
        have hx0 : 0 ≤ x := by
          by_cases q : 0 ≤ x
          · exact q
          · exfalso
            by_cases q2 : x < -7
            · exact (hmb q2).1 c_31
            · have := (hm1 (by omega) (by omega)).1; omega
        have P1 := hx0
        obtain ⟨t2, _, _, ets⟩ := ts_push (by omega) e1
        have hlt : ts.length < 32 := by rw [ets] at e2; simp at e2; omega
        refine AW_aload_n dX12_comesTo_45 rfl ?_
        refine AW_getR (a := 124) dX12_comesTo_46 gfX12_114 (hS.cel rfl) (hS.rf rfl) ?_
        refine AW_iload dX12_comesTo_49 rfl ?_
        refine AW_aload_n dX12_comesTo_51 rfl ?_
        refine AW_getR (a := 110) dX12_comesTo_52 gfX12_68 (hS.cel rfl) (hS.rf rfl) ?_
        refine AW_iload dX12_comesTo_55 rfl ?_
        refine AW_iald dX12_comesTo_57 (hS.cel rfl) (by omega) (by omega) ?_
        refine AW_if_ne (tgt := 71) dX12_comesTo_58 (by decide) (fun c_58 => ?_) (fun c_58 => ?_)
        · skip
          rw [hki, hop.1] at c_58
          first
          | (exfalso; exact c_58 (hm0 P1).1; done)
          | ( skip
              refine AW_aload_n dX12_comesTo_71 rfl ?_
              refine AW_getR (a := 123) dX12_comesTo_72 gfX12_111 (hS.cel rfl) (hS.rf rfl) ?_
              refine AW_aload_n dX12_comesTo_75 rfl ?_
              refine AW_getR (a := 111) dX12_comesTo_76 gfX12_71 (hS.cel rfl) (hS.rf rfl) ?_
              refine AW_iload dX12_comesTo_79 rfl ?_
              refine AW_iald dX12_comesTo_81 (hS.cel rfl) (by omega) (by omega) ?_
              refine AW_iald dX12_comesTo_82 (hS.cel rfl) (by rw [hki, hop.2]; first | (rw [(mop_1 P2.1 P2.2).2]; omega) | (exfalso; exact c_58 (hm0 P1).1)) (by rw [hki, hop.2]; first | (rw [(mop_1 P2.1 P2.2).2]; omega) | (exfalso; exact c_58 (hm0 P1).1)) ?_
              refine AW_iast dX12_comesTo_83 (hS.cel rfl) (by omega) (by omega) ?_
              refine AW_iload dX12_comesTo_84 rfl ?_
              refine AW_iconst dX12_comesTo_86 ?_
              refine AW_iaddE dX12_comesTo_87 (by omega) (by omega) ?_
              refine AW_istore4 dX12_comesTo_88 ?_
              refine AW_goto (tgt := 170) dX12_comesTo_90 (by decide) ?_
              refine AW_iincE5 dX12_comesTo_170 (by omega) (by omega) ?_
              refine AW_goto (tgt := 12) dX12_comesTo_173 (by decide) ?_
              rw [show 400 * (k : Int) + (i : Int) + 1 = 400 * (k : Int) + ((i + 1 : Nat) : Int) by omega]
              first
              | (have P := P1
                 rw [js_num f (by omega)] at ok2 hj
                 rw [htn, hki, hop.2, (mop_0 P1).2]
                 exact ih m1 (i + 1) (x :: s) ts2 _ _ (by omega) (by omega) (by simp; omega) ok2 e2 e3 hj ⟨up_at _ _ _ _, Sk.up _ _ _ (Nat.le_refl _) hSk⟩ (hF.ua (by decide) (by decide) _ _))
              | (have P := P2
                 rw [js_fact f (by omega) (by omega)] at ok2 hj
                 rw [htn, hki, hop.2, (mop_1 P2.1 P2.2).2, hF.a 123 _, hf _ (by omega)]
                 exact ih m1 (i + 1) (f (-1 - x).toNat :: s) ts2 _ _ (by omega) (by omega) (by simp; omega) ok2 e2 e3 hj ⟨up_at _ _ _ _, Sk.up _ _ _ (Nat.le_refl _) hSk⟩ (hF.ua (by decide) (by decide) _ _))
              | (have P := P3
                 rw [js_not] at ok2 hj
                 rw [ht1, hvb]
                 exact ih m1 (i + 1) ((1 - vb) :: s1) _ _ _ (by omega) (by omega) (by simp; omega) ok2 e2 e3 hj ⟨up_at _ _ _ _, Sk.up _ _ _ (Nat.le_refl _) hSk.2⟩ (hF.ua (by decide) (by decide) _ _))
              | (have P := P4
                 rw [js_bin f (by omega) P4] at ok2 hj
                 rw [show (tp - 1 - 1).toNat = s2.length by omega]
                 exact ih m1 (i + 1) (jop x va vb :: s2) _ _ _ (by omega) (by omega) (by simp; omega) ok2 e2 e3 hj ⟨up_at _ _ _ _, Sk.up _ _ _ (Nat.le_refl _) hSk.2.2⟩ (hF.ua (by decide) (by decide) _ _)))
        · skip
          rw [hki, hop.1] at c_58
          first
          | (exfalso; have := (hm1 P2.1 P2.2).1; omega; done)
          | ( skip
              refine AW_aload_n dX12_comesTo_61 rfl ?_
              refine AW_getR (a := 111) dX12_comesTo_62 gfX12_71 (hS.cel rfl) (hS.rf rfl) ?_
              refine AW_iload dX12_comesTo_65 rfl ?_
              refine AW_iald dX12_comesTo_67 (hS.cel rfl) (by omega) (by omega) ?_
              refine AW_goto (tgt := 83) dX12_comesTo_68 (by decide) ?_
              refine AW_iast dX12_comesTo_83 (hS.cel rfl) (by omega) (by omega) ?_
              refine AW_iload dX12_comesTo_84 rfl ?_
              refine AW_iconst dX12_comesTo_86 ?_
              refine AW_iaddE dX12_comesTo_87 (by omega) (by omega) ?_
              refine AW_istore4 dX12_comesTo_88 ?_
              refine AW_goto (tgt := 170) dX12_comesTo_90 (by decide) ?_
              refine AW_iincE5 dX12_comesTo_170 (by omega) (by omega) ?_
              refine AW_goto (tgt := 12) dX12_comesTo_173 (by decide) ?_
              rw [show 400 * (k : Int) + (i : Int) + 1 = 400 * (k : Int) + ((i + 1 : Nat) : Int) by omega]
              first
              | (have P := P1
                 rw [js_num f (by omega)] at ok2 hj
                 rw [htn, hki, hop.2, (mop_0 P1).2]
                 exact ih m1 (i + 1) (x :: s) ts2 _ _ (by omega) (by omega) (by simp; omega) ok2 e2 e3 hj ⟨up_at _ _ _ _, Sk.up _ _ _ (Nat.le_refl _) hSk⟩ (hF.ua (by decide) (by decide) _ _))
              | (have P := P2
                 rw [js_fact f (by omega) (by omega)] at ok2 hj
                 rw [htn, hki, hop.2, (mop_1 P2.1 P2.2).2, hF.a 123 _, hf _ (by omega)]
                 exact ih m1 (i + 1) (f (-1 - x).toNat :: s) ts2 _ _ (by omega) (by omega) (by simp; omega) ok2 e2 e3 hj ⟨up_at _ _ _ _, Sk.up _ _ _ (Nat.le_refl _) hSk⟩ (hF.ua (by decide) (by decide) _ _))
              | (have P := P3
                 rw [js_not] at ok2 hj
                 rw [ht1, hvb]
                 exact ih m1 (i + 1) ((1 - vb) :: s1) _ _ _ (by omega) (by omega) (by simp; omega) ok2 e2 e3 hj ⟨up_at _ _ _ _, Sk.up _ _ _ (Nat.le_refl _) hSk.2⟩ (hF.ua (by decide) (by decide) _ _))
              | (have P := P4
                 rw [js_bin f (by omega) P4] at ok2 hj
                 rw [show (tp - 1 - 1).toNat = s2.length by omega]
                 exact ih m1 (i + 1) (jop x va vb :: s2) _ _ _ (by omega) (by omega) (by simp; omega) ok2 e2 e3 hj ⟨up_at _ _ _ _, Sk.up _ _ _ (Nat.le_refl _) hSk.2.2⟩ (hF.ua (by decide) (by decide) _ _)))
      · skip
        rw [hki, hop.1] at c_31
        refine AW_aload_n dX12_comesTo_34 rfl ?_
        refine AW_getR (a := 110) dX12_comesTo_35 gfX12_68 (hS.cel rfl) (hS.rf rfl) ?_
        refine AW_iload dX12_comesTo_38 rfl ?_
        refine AW_iald dX12_comesTo_40 (hS.cel rfl) (by omega) (by omega) ?_
        refine AW_iconst dX12_comesTo_41 ?_
        refine AW_icmp_ne (tgt := 93) dX12_comesTo_42 (by decide) (fun c_42 => ?_) (fun c_42 => ?_)
        · skip
          rw [hki, hop.1] at c_42
          have hx7 : x < -7 := by
            by_cases q : 0 ≤ x
            · exact absurd (hm0 q).1 c_31
            · by_cases q2 : x < -7
              · exact q2
              · exact absurd (hm1 (by omega) (by omega)).1 c_42
          refine AW_aload_n dX12_comesTo_93 rfl ?_
          refine AW_getR (a := 110) dX12_comesTo_94 gfX12_68 (hS.cel rfl) (hS.rf rfl) ?_
          refine AW_iload dX12_comesTo_97 rfl ?_
          refine AW_iald dX12_comesTo_99 (hS.cel rfl) (by omega) (by omega) ?_
          refine AW_bipush dX12_comesTo_100 ?_
          refine AW_icmp_ne (tgt := 128) dX12_comesTo_102 (by decide) (fun c_102 => ?_) (fun c_102 => ?_)
          · skip
            rw [hki, hop.1] at c_102
            have P4 : x ≠ -17 := fun q => by rw [q] at c_102; exact c_102 mop_17
            obtain ⟨h16, b2, a2, u, t2, rfl, rfl, q1, q2, q3, q4⟩ := ts_bin hx7 P4 e1
            obtain ⟨vb, va, s2, rfl⟩ := okT_cons2 hok
            have hvb : τ.2.1 124 (s2.length + 1) = vb := hSk.1
            have hva : τ.2.1 124 s2.length = va := hSk.2.1
            have htp2 : tp = (s2.length : Int) + 2 := by rw [htp]; simp; omega
            have hs1 : s2.length + 2 ≤ 32 := by simp at hsl hl; omega
            refine AW_iload dX12_comesTo_128 rfl ?_
            refine AW_iconst dX12_comesTo_130 ?_
            refine AW_isubE dX12_comesTo_131 (by omega) (by omega) ?_
            refine AW_istore4 dX12_comesTo_132 ?_
            refine AW_aload_n dX12_comesTo_134 rfl ?_
            refine AW_getR (a := 124) dX12_comesTo_135 gfX12_114 (hS.cel rfl) (hS.rf rfl) ?_
            refine AW_iload dX12_comesTo_138 rfl ?_
            refine AW_iconst dX12_comesTo_140 ?_
            refine AW_isubE dX12_comesTo_141 (by omega) (by omega) ?_
            refine AW_aload_n dX12_comesTo_142 rfl ?_
            refine AW_aload_n dX12_comesTo_143 rfl ?_
            refine AW_getR (a := 110) dX12_comesTo_144 gfX12_68 (hS.cel rfl) (hS.rf rfl) ?_
            refine AW_iload dX12_comesTo_147 rfl ?_
            refine AW_iald dX12_comesTo_149 (hS.cel rfl) (by omega) (by omega) ?_
            refine AW_aload_n dX12_comesTo_150 rfl ?_
            refine AW_getR (a := 124) dX12_comesTo_151 gfX12_114 (hS.cel rfl) (hS.rf rfl) ?_
            refine AW_iload dX12_comesTo_154 rfl ?_
            refine AW_iconst dX12_comesTo_156 ?_
            refine AW_isubE dX12_comesTo_157 (by omega) (by omega) ?_
            refine AW_iald dX12_comesTo_158 (hS.cel rfl) (by omega) (by omega) ?_
            refine AW_aload_n dX12_comesTo_159 rfl ?_
            refine AW_getR (a := 124) dX12_comesTo_160 gfX12_114 (hS.cel rfl) (hS.rf rfl) ?_
            refine AW_iload dX12_comesTo_163 rfl ?_
            refine AW_iald dX12_comesTo_165 (hS.cel rfl) (by omega) (by omega) ?_
            rw [show (tp - 1 - 1).toNat = s2.length by omega, show (tp - 1).toNat = s2.length + 1 by omega, hva, hvb, hki, hop.1]
            refine AW_callV3 (d' := d - 1) dX12_comesTo_166 (Or.inl lkX12_311) mfX12_twoOf (hS.cel rfl) ⟨_, rfl, rfl⟩ (n_twoOf (x := x) _ va vb rfl (by omega) (by omega) (fun q => hok.2.1 (q1 q)) (fun q => ⟨hok.2.2.1 (q2 q).2, hok.1 (q2 q).1⟩)) (by omega) (Nat.le_of_ble_eq_true rfl) ?_
            rintro _ _ ⟨e_, rfl⟩ -
            rw [e_]
            clear e_
            refine AW_iast dX12_comesTo_169 (hS.cel rfl) (by omega) (by omega) ?_
            refine AW_iincE5 dX12_comesTo_170 (by omega) (by omega) ?_
            refine AW_goto (tgt := 12) dX12_comesTo_173 (by decide) ?_
            rw [show 400 * (k : Int) + (i : Int) + 1 = 400 * (k : Int) + ((i + 1 : Nat) : Int) by omega]
            first
            | (have P := P1
               rw [js_num f (by omega)] at ok2 hj
               rw [htn, hki, hop.2, (mop_0 P1).2]
               exact ih m1 (i + 1) (x :: s) ts2 _ _ (by omega) (by omega) (by simp; omega) ok2 e2 e3 hj ⟨up_at _ _ _ _, Sk.up _ _ _ (Nat.le_refl _) hSk⟩ (hF.ua (by decide) (by decide) _ _))
            | (have P := P2
               rw [js_fact f (by omega) (by omega)] at ok2 hj
               rw [htn, hki, hop.2, (mop_1 P2.1 P2.2).2, hF.a 123 _, hf _ (by omega)]
               exact ih m1 (i + 1) (f (-1 - x).toNat :: s) ts2 _ _ (by omega) (by omega) (by simp; omega) ok2 e2 e3 hj ⟨up_at _ _ _ _, Sk.up _ _ _ (Nat.le_refl _) hSk⟩ (hF.ua (by decide) (by decide) _ _))
            | (have P := P3
               rw [js_not] at ok2 hj
               rw [ht1, hvb]
               exact ih m1 (i + 1) ((1 - vb) :: s1) _ _ _ (by omega) (by omega) (by simp; omega) ok2 e2 e3 hj ⟨up_at _ _ _ _, Sk.up _ _ _ (Nat.le_refl _) hSk.2⟩ (hF.ua (by decide) (by decide) _ _))
            | (have P := P4
               rw [js_bin f (by omega) P4] at ok2 hj
               rw [show (tp - 1 - 1).toNat = s2.length by omega]
               exact ih m1 (i + 1) (jop x va vb :: s2) _ _ _ (by omega) (by omega) (by simp; omega) ok2 e2 e3 hj ⟨up_at _ _ _ _, Sk.up _ _ _ (Nat.le_refl _) hSk.2.2⟩ (hF.ua (by decide) (by decide) _ _))
          · skip
            rw [hki, hop.1] at c_102
            have hx17 : x = -17 := by
              by_cases q : x = -17
              · exact q
              · exfalso
                obtain ⟨h16, _⟩ := ts_bin hx7 q e1
                obtain ⟨m1, m2, m3⟩ := mop_v h16 hx7
                omega
            subst hx17
            have P3 := hx7
            obtain ⟨u, rfl, rfl⟩ := ts_17 e1
            obtain ⟨vb, s1, rfl⟩ := okT_cons hok
            have hvb : τ.2.1 124 s1.length = vb := hSk.1
            have hb01 := hok.1 rfl
            have htp2 : tp = (s1.length : Int) + 1 := by rw [htp]; simp
            have hs1 : s1.length + 1 ≤ 32 := by simp at hsl hl; omega
            have ht1 : (tp - 1).toNat = s1.length := by omega
            refine AW_aload_n dX12_comesTo_105 rfl ?_
            refine AW_getR (a := 124) dX12_comesTo_106 gfX12_114 (hS.cel rfl) (hS.rf rfl) ?_
            refine AW_iload dX12_comesTo_109 rfl ?_
            refine AW_iconst dX12_comesTo_111 ?_
            refine AW_isubE dX12_comesTo_112 (by omega) (by omega) ?_
            refine AW_iconst dX12_comesTo_113 ?_
            refine AW_aload_n dX12_comesTo_114 rfl ?_
            refine AW_getR (a := 124) dX12_comesTo_115 gfX12_114 (hS.cel rfl) (hS.rf rfl) ?_
            refine AW_iload dX12_comesTo_118 rfl ?_
            refine AW_iconst dX12_comesTo_120 ?_
            refine AW_isubE dX12_comesTo_121 (by omega) (by omega) ?_
            refine AW_iald dX12_comesTo_122 (hS.cel rfl) (by omega) (by omega) ?_
            refine AW_isubE dX12_comesTo_123 (by rw [ht1, hvb]; omega) (by rw [ht1, hvb]; omega) ?_
            refine AW_iast dX12_comesTo_124 (hS.cel rfl) (by omega) (by omega) ?_
            refine AW_goto (tgt := 170) dX12_comesTo_125 (by decide) ?_
            refine AW_iincE5 dX12_comesTo_170 (by omega) (by omega) ?_
            refine AW_goto (tgt := 12) dX12_comesTo_173 (by decide) ?_
            rw [show 400 * (k : Int) + (i : Int) + 1 = 400 * (k : Int) + ((i + 1 : Nat) : Int) by omega]
            first
            | (have P := P1
               rw [js_num f (by omega)] at ok2 hj
               rw [htn, hki, hop.2, (mop_0 P1).2]
               exact ih m1 (i + 1) (x :: s) ts2 _ _ (by omega) (by omega) (by simp; omega) ok2 e2 e3 hj ⟨up_at _ _ _ _, Sk.up _ _ _ (Nat.le_refl _) hSk⟩ (hF.ua (by decide) (by decide) _ _))
            | (have P := P2
               rw [js_fact f (by omega) (by omega)] at ok2 hj
               rw [htn, hki, hop.2, (mop_1 P2.1 P2.2).2, hF.a 123 _, hf _ (by omega)]
               exact ih m1 (i + 1) (f (-1 - x).toNat :: s) ts2 _ _ (by omega) (by omega) (by simp; omega) ok2 e2 e3 hj ⟨up_at _ _ _ _, Sk.up _ _ _ (Nat.le_refl _) hSk⟩ (hF.ua (by decide) (by decide) _ _))
            | (have P := P3
               rw [js_not] at ok2 hj
               rw [ht1, hvb]
               exact ih m1 (i + 1) ((1 - vb) :: s1) _ _ _ (by omega) (by omega) (by simp; omega) ok2 e2 e3 hj ⟨up_at _ _ _ _, Sk.up _ _ _ (Nat.le_refl _) hSk.2⟩ (hF.ua (by decide) (by decide) _ _))
            | (have P := P4
               rw [js_bin f (by omega) P4] at ok2 hj
               rw [show (tp - 1 - 1).toNat = s2.length by omega]
               exact ih m1 (i + 1) (jop x va vb :: s2) _ _ _ (by omega) (by omega) (by simp; omega) ok2 e2 e3 hj ⟨up_at _ _ _ _, Sk.up _ _ _ (Nat.le_refl _) hSk.2.2⟩ (hF.ua (by decide) (by decide) _ _))
        · skip
          rw [hki, hop.1] at c_42
          have P2 : -7 ≤ x ∧ x < 0 := by
            by_cases q : 0 ≤ x
            · exact absurd (hm0 q).1 c_31
            · by_cases q2 : x < -7
              · exact absurd c_42 (hmb q2).2
              · omega
          obtain ⟨t2, _, _, ets⟩ := ts_push (by omega) e1
          have hlt : ts.length < 32 := by rw [ets] at e2; simp at e2; omega
          refine AW_aload_n dX12_comesTo_45 rfl ?_
          refine AW_getR (a := 124) dX12_comesTo_46 gfX12_114 (hS.cel rfl) (hS.rf rfl) ?_
          refine AW_iload dX12_comesTo_49 rfl ?_
          refine AW_aload_n dX12_comesTo_51 rfl ?_
          refine AW_getR (a := 110) dX12_comesTo_52 gfX12_68 (hS.cel rfl) (hS.rf rfl) ?_
          refine AW_iload dX12_comesTo_55 rfl ?_
          refine AW_iald dX12_comesTo_57 (hS.cel rfl) (by omega) (by omega) ?_
          refine AW_if_ne (tgt := 71) dX12_comesTo_58 (by decide) (fun c_58 => ?_) (fun c_58 => ?_)
          · skip
            rw [hki, hop.1] at c_58
            first
            | (exfalso; exact c_58 (hm0 P1).1; done)
            | ( skip
                refine AW_aload_n dX12_comesTo_71 rfl ?_
                refine AW_getR (a := 123) dX12_comesTo_72 gfX12_111 (hS.cel rfl) (hS.rf rfl) ?_
                refine AW_aload_n dX12_comesTo_75 rfl ?_
                refine AW_getR (a := 111) dX12_comesTo_76 gfX12_71 (hS.cel rfl) (hS.rf rfl) ?_
                refine AW_iload dX12_comesTo_79 rfl ?_
                refine AW_iald dX12_comesTo_81 (hS.cel rfl) (by omega) (by omega) ?_
                refine AW_iald dX12_comesTo_82 (hS.cel rfl) (by rw [hki, hop.2]; first | (rw [(mop_1 P2.1 P2.2).2]; omega) | (exfalso; exact c_58 (hm0 P1).1)) (by rw [hki, hop.2]; first | (rw [(mop_1 P2.1 P2.2).2]; omega) | (exfalso; exact c_58 (hm0 P1).1)) ?_
                refine AW_iast dX12_comesTo_83 (hS.cel rfl) (by omega) (by omega) ?_
                refine AW_iload dX12_comesTo_84 rfl ?_
                refine AW_iconst dX12_comesTo_86 ?_
                refine AW_iaddE dX12_comesTo_87 (by omega) (by omega) ?_
                refine AW_istore4 dX12_comesTo_88 ?_
                refine AW_goto (tgt := 170) dX12_comesTo_90 (by decide) ?_
                refine AW_iincE5 dX12_comesTo_170 (by omega) (by omega) ?_
                refine AW_goto (tgt := 12) dX12_comesTo_173 (by decide) ?_
                rw [show 400 * (k : Int) + (i : Int) + 1 = 400 * (k : Int) + ((i + 1 : Nat) : Int) by omega]
                first
                | (have P := P1
                   rw [js_num f (by omega)] at ok2 hj
                   rw [htn, hki, hop.2, (mop_0 P1).2]
                   exact ih m1 (i + 1) (x :: s) ts2 _ _ (by omega) (by omega) (by simp; omega) ok2 e2 e3 hj ⟨up_at _ _ _ _, Sk.up _ _ _ (Nat.le_refl _) hSk⟩ (hF.ua (by decide) (by decide) _ _))
                | (have P := P2
                   rw [js_fact f (by omega) (by omega)] at ok2 hj
                   rw [htn, hki, hop.2, (mop_1 P2.1 P2.2).2, hF.a 123 _, hf _ (by omega)]
                   exact ih m1 (i + 1) (f (-1 - x).toNat :: s) ts2 _ _ (by omega) (by omega) (by simp; omega) ok2 e2 e3 hj ⟨up_at _ _ _ _, Sk.up _ _ _ (Nat.le_refl _) hSk⟩ (hF.ua (by decide) (by decide) _ _))
                | (have P := P3
                   rw [js_not] at ok2 hj
                   rw [ht1, hvb]
                   exact ih m1 (i + 1) ((1 - vb) :: s1) _ _ _ (by omega) (by omega) (by simp; omega) ok2 e2 e3 hj ⟨up_at _ _ _ _, Sk.up _ _ _ (Nat.le_refl _) hSk.2⟩ (hF.ua (by decide) (by decide) _ _))
                | (have P := P4
                   rw [js_bin f (by omega) P4] at ok2 hj
                   rw [show (tp - 1 - 1).toNat = s2.length by omega]
                   exact ih m1 (i + 1) (jop x va vb :: s2) _ _ _ (by omega) (by omega) (by simp; omega) ok2 e2 e3 hj ⟨up_at _ _ _ _, Sk.up _ _ _ (Nat.le_refl _) hSk.2.2⟩ (hF.ua (by decide) (by decide) _ _)))
          · skip
            rw [hki, hop.1] at c_58
            first
            | (exfalso; have := (hm1 P2.1 P2.2).1; omega; done)
            | ( skip
                refine AW_aload_n dX12_comesTo_61 rfl ?_
                refine AW_getR (a := 111) dX12_comesTo_62 gfX12_71 (hS.cel rfl) (hS.rf rfl) ?_
                refine AW_iload dX12_comesTo_65 rfl ?_
                refine AW_iald dX12_comesTo_67 (hS.cel rfl) (by omega) (by omega) ?_
                refine AW_goto (tgt := 83) dX12_comesTo_68 (by decide) ?_
                refine AW_iast dX12_comesTo_83 (hS.cel rfl) (by omega) (by omega) ?_
                refine AW_iload dX12_comesTo_84 rfl ?_
                refine AW_iconst dX12_comesTo_86 ?_
                refine AW_iaddE dX12_comesTo_87 (by omega) (by omega) ?_
                refine AW_istore4 dX12_comesTo_88 ?_
                refine AW_goto (tgt := 170) dX12_comesTo_90 (by decide) ?_
                refine AW_iincE5 dX12_comesTo_170 (by omega) (by omega) ?_
                refine AW_goto (tgt := 12) dX12_comesTo_173 (by decide) ?_
                rw [show 400 * (k : Int) + (i : Int) + 1 = 400 * (k : Int) + ((i + 1 : Nat) : Int) by omega]
                first
                | (have P := P1
                   rw [js_num f (by omega)] at ok2 hj
                   rw [htn, hki, hop.2, (mop_0 P1).2]
                   exact ih m1 (i + 1) (x :: s) ts2 _ _ (by omega) (by omega) (by simp; omega) ok2 e2 e3 hj ⟨up_at _ _ _ _, Sk.up _ _ _ (Nat.le_refl _) hSk⟩ (hF.ua (by decide) (by decide) _ _))
                | (have P := P2
                   rw [js_fact f (by omega) (by omega)] at ok2 hj
                   rw [htn, hki, hop.2, (mop_1 P2.1 P2.2).2, hF.a 123 _, hf _ (by omega)]
                   exact ih m1 (i + 1) (f (-1 - x).toNat :: s) ts2 _ _ (by omega) (by omega) (by simp; omega) ok2 e2 e3 hj ⟨up_at _ _ _ _, Sk.up _ _ _ (Nat.le_refl _) hSk⟩ (hF.ua (by decide) (by decide) _ _))
                | (have P := P3
                   rw [js_not] at ok2 hj
                   rw [ht1, hvb]
                   exact ih m1 (i + 1) ((1 - vb) :: s1) _ _ _ (by omega) (by omega) (by simp; omega) ok2 e2 e3 hj ⟨up_at _ _ _ _, Sk.up _ _ _ (Nat.le_refl _) hSk.2⟩ (hF.ua (by decide) (by decide) _ _))
                | (have P := P4
                   rw [js_bin f (by omega) P4] at ok2 hj
                   rw [show (tp - 1 - 1).toNat = s2.length by omega]
                   exact ih m1 (i + 1) (jop x va vb :: s2) _ _ _ (by omega) (by omega) (by simp; omega) ok2 e2 e3 hj ⟨up_at _ _ _ _, Sk.up _ _ _ (Nat.le_refl _) hSk.2.2⟩ (hF.ua (by decide) (by decide) _ _)))
theorem n_comes {G : Gt} {d : Nat} {σ : St} {k a n t : Nat} {W : Wy} {f : Nat → Int} (hd : 1 ≤ d) (hk : k < 6) (hS : Sta σ) (hW : WyM σ k W) (hf : ∀ i, i < 7 → σ.2.1 123 i = f i) (hb : a + n ≤ W.2.2.1) (ht : trun W.2.2.2 a n [] = some [t]) (a0 b0 : Int) (e1 : a0 = a) (e2 : b0 = ((a + n : Nat) : Int)) : AM mX12_comesTo G d 0 0 [vR 94, vI (k : Int), vI a0, vI b0] σ (fun ro ρ => ro = some (vI (jval f W.2.2.2 a0 b0)) ∧ Fm [] [124] σ ρ) := by
  have hj := jval_ok (f := f) ht e1 e2
  have h400 := hW.2.2.1
  subst e1
  subst e2
  refine AM.intro (by decide +kernel) (by simp [nLg]) (Nat.le_of_ble_eq_true rfl) (fun hO => ?_)
  show AW _ _ _ _ _ _ 0 [some (vR 94), some (vI (k : Int)), some (vI (a : Int)), some (vI ((a + n : Nat) : Int)), none, none] [] σ
  refine AW_iconst dX12_comesTo_0 ?_
  refine AW_istore4 dX12_comesTo_1 ?_
  refine AW_sipush dX12_comesTo_3 ?_
  refine AW_iload_n dX12_comesTo_6 rfl ?_
  refine AW_imulE dX12_comesTo_7 (by omega) (by omega) ?_
  refine AW_iload_n dX12_comesTo_8 rfl ?_
  refine AW_iaddE dX12_comesTo_9 (by omega) (by omega) ?_
  refine AW_istore5 dX12_comesTo_10 ?_
  exact ln_comes (t := t) hd hk hS hW hf hb (n + 1) n a [] [] 0 σ (by omega) rfl rfl trivial (by decide) ht hj trivial Fm.rf
theorem ln_says {G : Gt} {d : Nat} {σ : St} {k : Nat} {W : Wy} {f : Nat → Int} {h : Int} {T : Option Nat} {x1 : Option AV} (hd : 2 ≤ d) (hk : k < 6) (hS0 : Sta σ) (hW : WyM σ k W) (hO : wyOK W) (hf : ∀ i, i < 7 → σ.2.1 123 i = f i) (h61 : σ.2.1 94 61 = 1) : ∀ (nn : Nat) (n l : Nat) (τ : St), n < nn → l + n = W.1 → jfind f W h n l = T → Fm [] [124] σ τ →  AW mX12_saysOf G d 0 0 (mq G (fun ro ρ => ro = some (vI ((T.map (fun l => jval f W.2.2.2 (W.2.1 1 l) (W.2.1 2 l))).getD 0)) ∧ ρ.2.1 94 61 = (if T.isSome = true then 1 else 0) ∧ Fm [61] [124] σ ρ)) 23 [some (vR 94), x1, some (vI (h - 256)), some (vI (k : Int)), some (vI (12 * (k : Int) + (l : Int)))] [] τ := by
  intro nn
  induction nn with
  | zero => intros; omega
  | succ nn ih =>
    intro n l τ hn hl hT hF
    have hS := hF.sta hS0
    have h12 := hW.2.1
    have hW1 : WyM τ k W := hW.fm hF
    have hkl : (12 * (k : Int) + (l : Int)).toNat = 12 * k + l := by omega
    have hn0 := hW1.1
    have g61 := (hF.f 61).trans h61
    refine AW_iload dX12_saysOf_23 rfl ?_
    refine AW_bipush dX12_saysOf_25 ?_
    refine AW_iload_n dX12_saysOf_27 rfl ?_
    refine AW_imulE dX12_saysOf_28 (by omega) (by omega) ?_
    refine AW_aload_n dX12_saysOf_29 rfl ?_
    refine AW_getR (a := 105) dX12_saysOf_30 gfX12_53 (hS.cel rfl) (hS.rf rfl) ?_
    refine AW_iload_n dX12_saysOf_33 rfl ?_
    refine AW_iald dX12_saysOf_34 (hS.cel rfl) (by omega) (by omega) ?_
    rw [show (k : Int).toNat = k by omega, hn0]
    refine AW_iaddE dX12_saysOf_35 (by omega) (by omega) ?_
    refine AW_icmp_ge (tgt := 118) dX12_saysOf_36 (by decide) (fun c_36 => ?_) (fun c_36 => ?_)
    · skip
      have hm : n = 0 := by omega
      subst hm
      rw [jfind_0] at hT
      subst hT
      refine AW_aload_n dX12_saysOf_118 rfl ?_
      refine AW_iconst dX12_saysOf_119 ?_
      refine AW_putZ dX12_saysOf_120 (Or.inl pfX12_320) (hS.cel rfl) (by decide) ?_
      refine AW_iconst dX12_saysOf_123 ?_
      refine AW_iret dX12_saysOf_124 rfl ?_
      exact ⟨rfl, up_at _ _ _ _, (hF.mo (by decide) (by decide)).uf (by decide) _⟩
    · skip
      obtain ⟨n1, rfl⟩ : ∃ n1, n = n1 + 1 := ⟨n - 1, by omega⟩
      obtain ⟨_, a, k1, k2, t, g1, g2, g3, g4, g5, g6, hk2⟩ := hO l (by omega)
      have hln := hW1.2.2.2.1 l (by omega)
      rw [jfind_s] at hT
      refine AW_aload_n dX12_saysOf_39 rfl ?_
      refine AW_getR (a := 106) dX12_saysOf_40 gfX12_56 (hS.cel rfl) (hS.rf rfl) ?_
      refine AW_iload dX12_saysOf_43 rfl ?_
      refine AW_iald dX12_saysOf_45 (hS.cel rfl) (by omega) (by omega) ?_
      refine AW_iload_n dX12_saysOf_46 rfl ?_
      refine AW_icmp_eq (tgt := 53) dX12_saysOf_47 (by decide) (fun c_47 => ?_) (fun c_47 => ?_)
      · skip
        rw [hkl, hln.1] at c_47
        refine AW_aload_n dX12_saysOf_53 rfl ?_
        refine AW_getR (a := 109) dX12_saysOf_54 gfX12_65 (hS.cel rfl) (hS.rf rfl) ?_
        refine AW_iload dX12_saysOf_57 rfl ?_
        refine AW_iald dX12_saysOf_59 (hS.cel rfl) (by omega) (by omega) ?_
        refine AW_aload_n dX12_saysOf_60 rfl ?_
        refine AW_getR (a := 108) dX12_saysOf_61 gfX12_62 (hS.cel rfl) (hS.rf rfl) ?_
        refine AW_iload dX12_saysOf_64 rfl ?_
        refine AW_iald dX12_saysOf_66 (hS.cel rfl) (by omega) (by omega) ?_
        refine AW_icmp_eq (tgt := 92) dX12_saysOf_67 (by decide) (fun c_67 => ?_) (fun c_67 => ?_)
        · skip
          rw [hkl, hln.2.2.1, hln.2.2.2] at c_67
          have hG : Fm [] [124] τ τ := Fm.rf
          rw [if_pos ⟨by omega, Or.inl c_67.symm⟩] at hT
          refine AW_aload_n dX12_saysOf_92 rfl ?_
          refine AW_iload_n dX12_saysOf_93 rfl ?_
          refine AW_aload_n dX12_saysOf_94 rfl ?_
          refine AW_getR (a := 107) dX12_saysOf_95 gfX12_59 (hS.cel rfl) (hS.rf rfl) ?_
          refine AW_iload dX12_saysOf_98 rfl ?_
          refine AW_iald dX12_saysOf_100 (hS.cel rfl) (by omega) (by omega) ?_
          refine AW_aload_n dX12_saysOf_101 rfl ?_
          refine AW_getR (a := 108) dX12_saysOf_102 gfX12_62 (hS.cel rfl) (hS.rf rfl) ?_
          refine AW_iload dX12_saysOf_105 rfl ?_
          refine AW_iald dX12_saysOf_107 (hS.cel rfl) (by omega) (by omega) ?_
          rw [hkl, hG.a 107 _, hG.a 108 _, hln.2.1, hln.2.2.1]
          refine AW_callV3 (d' := d - 1) dX12_saysOf_108 (Or.inl lkX12_323) mfX12_comesTo (hS.cel rfl) ⟨_, rfl, rfl⟩ (n_comes (n := k1) (by omega) hk (hG.sta hS) (hW1.fm hG) (fun i hi => (hG.a 123 i).trans ((hF.a 123 i).trans (hf i hi))) (by omega) g6 _ _ g1 g2) (by omega) (Nat.le_of_ble_eq_true rfl) ?_
          rintro _ ρ2 ⟨rfl, hG2⟩ -
          refine AW_iret dX12_saysOf_111 rfl ?_
          subst hT
          exact ⟨rfl, by rw [hG2.f 61, hG.f 61]; exact g61, ((hF.tr hG).tr hG2).mo (by decide) (by decide)⟩
        · skip
          rw [hkl, hln.2.2.1, hln.2.2.2] at c_67
          refine AW_aload_n dX12_saysOf_70 rfl ?_
          refine AW_iload_n dX12_saysOf_71 rfl ?_
          refine AW_aload_n dX12_saysOf_72 rfl ?_
          refine AW_getR (a := 108) dX12_saysOf_73 gfX12_62 (hS.cel rfl) (hS.rf rfl) ?_
          refine AW_iload dX12_saysOf_76 rfl ?_
          refine AW_iald dX12_saysOf_78 (hS.cel rfl) (by omega) (by omega) ?_
          refine AW_aload_n dX12_saysOf_79 rfl ?_
          refine AW_getR (a := 109) dX12_saysOf_80 gfX12_65 (hS.cel rfl) (hS.rf rfl) ?_
          refine AW_iload dX12_saysOf_83 rfl ?_
          refine AW_iald dX12_saysOf_85 (hS.cel rfl) (by omega) (by omega) ?_
          rw [hkl, hln.2.2.1, hln.2.2.2]
          refine AW_callV3 (d' := d - 1) dX12_saysOf_86 (Or.inl lkX12_323) mfX12_comesTo (hS.cel rfl) ⟨_, rfl, rfl⟩ (n_comes (n := k2) (by omega) hk hS hW1 (fun i hi => (hF.a 123 i).trans (hf i hi)) (by omega) (hk2.resolve_left (by omega)) _ _ g2 g3) (by omega) (Nat.le_of_ble_eq_true rfl) ?_
          rintro _ ρ1 ⟨rfl, hG⟩ -
          have hF1 := hF.tr hG
          have hS1 := hG.sta hS
          refine AW_if_eq (tgt := 112) dX12_saysOf_89 (by decide) (fun c_89 => ?_) (fun c_89 => ?_)
          · skip
            rw [if_neg (fun q => q.2.elim (fun q2 => c_67 q2.symm) (fun q2 => q2 c_89))] at hT
            refine AW_iincE4 dX12_saysOf_112 (by omega) (by omega) ?_
            refine AW_goto (tgt := 23) dX12_saysOf_115 (by decide) ?_
            rw [show 12 * (k : Int) + (l : Int) + 1 = 12 * (k : Int) + ((l + 1 : Nat) : Int) by omega]
            exact ih n1 (l + 1) _ (by omega) (by omega) hT hF1
          · skip
            rw [if_pos ⟨by omega, Or.inr c_89⟩] at hT
            refine AW_aload_n dX12_saysOf_92 rfl ?_
            refine AW_iload_n dX12_saysOf_93 rfl ?_
            refine AW_aload_n dX12_saysOf_94 rfl ?_
            refine AW_getR (a := 107) dX12_saysOf_95 gfX12_59 (hS1.cel rfl) (hS1.rf rfl) ?_
            refine AW_iload dX12_saysOf_98 rfl ?_
            refine AW_iald dX12_saysOf_100 (hS1.cel rfl) (by omega) (by omega) ?_
            refine AW_aload_n dX12_saysOf_101 rfl ?_
            refine AW_getR (a := 108) dX12_saysOf_102 gfX12_62 (hS1.cel rfl) (hS1.rf rfl) ?_
            refine AW_iload dX12_saysOf_105 rfl ?_
            refine AW_iald dX12_saysOf_107 (hS1.cel rfl) (by omega) (by omega) ?_
            rw [hkl, hG.a 107 _, hG.a 108 _, hln.2.1, hln.2.2.1]
            refine AW_callV3 (d' := d - 1) dX12_saysOf_108 (Or.inl lkX12_323) mfX12_comesTo (hS1.cel rfl) ⟨_, rfl, rfl⟩ (n_comes (n := k1) (by omega) hk (hG.sta hS) (hW1.fm hG) (fun i hi => (hG.a 123 i).trans ((hF.a 123 i).trans (hf i hi))) (by omega) g6 _ _ g1 g2) (by omega) (Nat.le_of_ble_eq_true rfl) ?_
            rintro _ ρ2 ⟨rfl, hG2⟩ -
            refine AW_iret dX12_saysOf_111 rfl ?_
            subst hT
            exact ⟨rfl, by rw [hG2.f 61, hG.f 61]; exact g61, ((hF.tr hG).tr hG2).mo (by decide) (by decide)⟩
      · skip
        rw [hkl, hln.1] at c_47
        rw [if_neg (fun q => c_47 (by rw [q.1]))] at hT
        have hF1 := hF
        refine AW_goto (tgt := 112) dX12_saysOf_50 (by decide) ?_
        refine AW_iincE4 dX12_saysOf_112 (by omega) (by omega) ?_
        refine AW_goto (tgt := 23) dX12_saysOf_115 (by decide) ?_
        rw [show 12 * (k : Int) + (l : Int) + 1 = 12 * (k : Int) + ((l + 1 : Nat) : Int) by omega]
        exact ih n1 (l + 1) _ (by omega) (by omega) hT hF1
