theorem wfs {D : Mk} {n : Nat} {P : Pe} (hW : WFm D) (hw : WFP D n P) {p : Nat} (hp : p < n) : p < 40 ∧ (P 0 p = 0 ∨ P 0 p = 1) ∧ (0 ≤ P 1 p ∧ P 1 p < 6) ∧ (0 ≤ P 2 p ∧ P 2 p < 6) := by
  obtain ⟨a1, a2, a3, a4, a5⟩ := hw.2.1 p hp
  have h1 := hw.1
  have h2 := hW.1 (P 0 p).toNat (by omega)
  exact ⟨by omega, a1, ⟨a2.1, by omega⟩, a3⟩
theorem n_wf {G : Gt} {d : Nat} {σ : St} (hd : 1 ≤ d) {D : Mk} {n : Nat} {w : Tw} (hS : Sta σ) (hR : RepM D σ) (hW : WFm D) (hT : TwM n w σ) (hw : WFP D n w.1) {p q : Nat} (hp : p < n) (hq : q < n)  : AM mX12_worthFor G d 0 0 [vR 94, vI (p : Int), vI (q : Int)] σ (fun r τ => τ = σ ∧ r = some (vI (wf D w.1 p q))) := by
  refine AM.intro (by decide +kernel) (by simp [nLg]) (Nat.le_of_ble_eq_true rfl) (fun hO => ?_)
  show AW _ _ _ _ _ _ 0 [some (vR 94), some (vI (p : Int)), some (vI (q : Int))] [] σ
  obtain ⟨p1, p2, p3, p4⟩ := wfs hW hw hp
  obtain ⟨q1, q2, q3, q4⟩ := wfs hW hw hq
  refine AW_aload_n dX12_worthFor_0 rfl ?_
  refine AW_aload_n dX12_worthFor_1 rfl ?_
  refine AW_getR (a := 113) dX12_worthFor_2 gfX12_80 (hS.cel rfl) (hS.rf rfl) ?_
  refine AW_iload_n dX12_worthFor_5 rfl ?_
  refine AW_iald dX12_worthFor_6 (hS.cel rfl) (by omega) (by omega) ?_
  refine AW_aload_n dX12_worthFor_7 rfl ?_
  refine AW_getR (a := 114) dX12_worthFor_8 gfX12_83 (hS.cel rfl) (hS.rf rfl) ?_
  refine AW_iload_n dX12_worthFor_11 rfl ?_
  refine AW_iald dX12_worthFor_12 (hS.cel rfl) (by omega) (by omega) ?_
  refine AW_aload_n dX12_worthFor_13 rfl ?_
  refine AW_getR (a := 114) dX12_worthFor_14 gfX12_83 (hS.cel rfl) (hS.rf rfl) ?_
  refine AW_iload_n dX12_worthFor_17 rfl ?_
  refine AW_iald dX12_worthFor_18 (hS.cel rfl) (by omega) (by omega) ?_
  rw [Int.toNat_natCast, Int.toNat_natCast, hT.v0 p1, hT.v1 p1, hT.v1 q1]
  refine AW_callV3 (d' := d - 1) dX12_worthFor_19 (Or.inl lkX12_194) mfX12_worthTo (hS.cel rfl) ⟨_, rfl, rfl⟩ (n_worthTo hS hR hW _ _ _ (by omega)) (by omega) (Nat.le_of_ble_eq_true rfl) ?_
  rintro _ _ ⟨e_, rfl⟩ -
  rw [e_]
  clear e_
  refine AW_iret dX12_worthFor_22 rfl ?_
  exact ⟨rfl, rfl⟩
theorem n_draw {G : Gt} {d : Nat} {σ : St}  {n : Nat} {w : Tw} (hS : Sta σ) (hT : TwM n w σ) (m : Int) (hm : 0 < m) : AM mX12_draw G d 0 0 [vR 94, vI m] σ (fun ro ρ => ro = some (vI (drw (nxz w.2.2) m)) ∧ TwM n (w.1, w.2.1, nxz w.2.2) ρ ∧ Fm [53] [] σ ρ) := by
  refine AM.intro (by decide +kernel) (by simp [nLg]) (Nat.le_of_ble_eq_true rfl) (fun hO => ?_)
  have i_m : -2147483648 ≤ m ∧ m < 2147483648 := hO (vI m) (by simp)
  show AW _ _ _ _ _ _ 0 [some (vR 94), some (vI m)] [] σ
  refine AW_aload_n dX12_draw_0 rfl ?_
  refine AW_ldcw (1664525) dX12_draw_1 ctX12_326 ?_
  refine AW_aload_n dX12_draw_4 rfl ?_
  refine AW_getI dX12_draw_5 gfX12_308 (hS.cel rfl) ?_
  refine AW_imul dX12_draw_8 ?_
  refine AW_ldcw (1013904223) dX12_draw_9 ctX12_327 ?_
  refine AW_iadd dX12_draw_12 ?_
  rw [hT.2.2.2]
  refine AW_putI dX12_draw_13 (Or.inl pfX12_308) (hS.cel rfl) ?_
  refine AW_aload_n dX12_draw_16 rfl ?_
  refine AW_getI dX12_draw_17 gfX12_308 (hS.cel rfl) ?_
  rw [up_at]
  refine AW_bipush dX12_draw_20 ?_
  refine AW_iushr dX12_draw_22 ?_
  refine AW_iload_n dX12_draw_23 rfl ?_
  refine AW_irem dX12_draw_24 (by omega) ?_
  refine AW_iret dX12_draw_25 rfl ?_
  exact ⟨rfl, hT.uz _, Fm.rf.uf (by decide) _⟩
theorem n_frees {G : Gt} {d : Nat} {σ : St}  {n : Nat} {w : Tw} (hS : Sta σ) (hT : TwM n w σ) {p : Nat} (hp : p < 40)  : AM mX12_frees G d 0 0 [vR 94, vI (p : Int)] σ (fun ro ρ => ro = none ∧ TwM n (freP w.1 p, w.2.1, w.2.2) ρ ∧ Fm [] [116, 118] σ ρ) := by
  refine AM.intro (by decide +kernel) (by simp [nLg]) (Nat.le_of_ble_eq_true rfl) (fun hO => ?_)
  show AW _ _ _ _ _ _ 0 [some (vR 94), some (vI (p : Int))] [] σ
  refine AW_aload_n dX12_frees_0 rfl ?_
  refine AW_getR (a := 116) dX12_frees_1 gfX12_89 (hS.cel rfl) (hS.rf rfl) ?_
  refine AW_iload_n dX12_frees_4 rfl ?_
  refine AW_iconst dX12_frees_5 ?_
  refine AW_iast dX12_frees_6 (hS.cel rfl) (by omega) (by omega) ?_
  rw [Int.toNat_natCast]
  refine AW_aload_n dX12_frees_7 rfl ?_
  refine AW_getR (a := 118) dX12_frees_8 gfX12_95 (hS.cel rfl) (hS.rf rfl) ?_
  refine AW_iload_n dX12_frees_11 rfl ?_
  refine AW_iconst dX12_frees_12 ?_
  refine AW_iast dX12_frees_13 (hS.cel rfl) (by omega) (by omega) ?_
  rw [Int.toNat_natCast]
  refine AW_vret dX12_frees_14 rfl ?_
  exact ⟨rfl, (hT.uP 3 116 (-1)).uP 5 118 0, (Fm.rf.ua (by decide) (by decide) _ _).ua (by decide) (by decide) _ _⟩
theorem aNz_0 : aNz 0 = 0 := by decide +kernel
theorem aNz_1 : aNz 1 = 1 := by decide +kernel
theorem TwM.ext {n : Nat} {w w' : Tw} {σ : St} (h : TwM n w σ) (h1 : ∀ f p, w.1 f p = w'.1 f p) (h2 : w.2 = w'.2) : TwM n w' σ := ⟨fun f p hf hp => (h.1 f p hf hp).trans (h1 f p), h.2.1, by rw [← h2]; exact h.2.2.1, by rw [← h2]; exact h.2.2.2⟩
theorem pair_ext (P : Pe) {p q : Nat} (hne : p ≠ q) (tp tq : Int) (f x : Nat) : setP (setP (setP (setP (setP (setP (setP (setP P 3 p (q : Int)) 3 q (p : Int)) 6 p tp) 6 q tq) 5 p 0) 5 q 0) 7 p 0) 7 q 0 f x = bndP (bndP P p q tp) q p tq f x := by
  unfold bndP
  simp only [setP_if]
  by_cases h1 : x = p
  · subst h1
    have h2 : ¬ x = q := hne
    simp only [h2, and_false, if_false, and_true]
    by_cases f3 : f = 3
    · subst f3; simp
    · by_cases f5 : f = 5
      · subst f5; simp
      · by_cases f6 : f = 6
        · subst f6; simp
        · by_cases f7 : f = 7
          · subst f7; simp
          · simp [f3, f5, f6, f7]
  · by_cases h2 : x = q
    · subst h2
      simp only [h1, and_false, if_false, and_true]
      by_cases f3 : f = 3
      · subst f3; simp
      · by_cases f5 : f = 5
        · subst f5; simp
        · by_cases f6 : f = 6
          · subst f6; simp
          · by_cases f7 : f = 7
            · subst f7; simp
            · simp [f3, f5, f6, f7]
    · simp [h1, h2]
theorem n_pair {G : Gt} {d : Nat} {σ : St}  {n : Nat} {w : Tw} (hS : Sta σ) (hT : TwM n w σ) {p q : Nat} (hp : p < 40) (hq : q < 40) (hne : p ≠ q) (tp tq : Int)  : AM mX12_becomePair G d 0 0 [vR 94, vI (p : Int), vI (q : Int), vI tp, vI tq] σ (fun ro ρ => ro = none ∧ TwM n (pairS w p q tp tq) ρ ∧ Fm [56] [116, 118, 119, 120] σ ρ) := by
  refine AM.intro (by decide +kernel) (by simp [nLg]) (Nat.le_of_ble_eq_true rfl) (fun hO => ?_)
  have i_tp : -2147483648 ≤ tp ∧ tp < 2147483648 := hO (vI tp) (by simp)
  have i_tq : -2147483648 ≤ tq ∧ tq < 2147483648 := hO (vI tq) (by simp)
  show AW _ _ _ _ _ _ 0 [some (vR 94), some (vI (p : Int)), some (vI (q : Int)), some (vI tp), some (vI tq)] [] σ
  refine AW_aload_n dX12_becomePair_0 rfl ?_
  refine AW_getR (a := 116) dX12_becomePair_1 gfX12_89 (hS.cel rfl) (hS.rf rfl) ?_
  refine AW_iload_n dX12_becomePair_4 rfl ?_
  refine AW_iload_n dX12_becomePair_5 rfl ?_
  refine AW_iast dX12_becomePair_6 (hS.cel rfl) (by omega) (by omega) ?_
  rw [Int.toNat_natCast]
  refine AW_aload_n dX12_becomePair_7 rfl ?_
  refine AW_getR (a := 116) dX12_becomePair_8 gfX12_89 (hS.cel rfl) (hS.rf rfl) ?_
  refine AW_iload_n dX12_becomePair_11 rfl ?_
  refine AW_iload_n dX12_becomePair_12 rfl ?_
  refine AW_iast dX12_becomePair_13 (hS.cel rfl) (by omega) (by omega) ?_
  rw [Int.toNat_natCast]
  refine AW_aload_n dX12_becomePair_14 rfl ?_
  refine AW_getR (a := 119) dX12_becomePair_15 gfX12_98 (hS.cel rfl) (hS.rf rfl) ?_
  refine AW_iload_n dX12_becomePair_18 rfl ?_
  refine AW_iload_n dX12_becomePair_19 rfl ?_
  refine AW_iast dX12_becomePair_20 (hS.cel rfl) (by omega) (by omega) ?_
  skip
  refine AW_aload_n dX12_becomePair_21 rfl ?_
  refine AW_getR (a := 119) dX12_becomePair_22 gfX12_98 (hS.cel rfl) (hS.rf rfl) ?_
  refine AW_iload_n dX12_becomePair_25 rfl ?_
  refine AW_iload dX12_becomePair_26 rfl ?_
  refine AW_iast dX12_becomePair_28 (hS.cel rfl) (by omega) (by omega) ?_
  refine AW_aload_n dX12_becomePair_29 rfl ?_
  refine AW_getR (a := 118) dX12_becomePair_30 gfX12_95 (hS.cel rfl) (hS.rf rfl) ?_
  refine AW_iload_n dX12_becomePair_33 rfl ?_
  refine AW_iconst dX12_becomePair_34 ?_
  refine AW_iast dX12_becomePair_35 (hS.cel rfl) (by omega) (by omega) ?_
  refine AW_aload_n dX12_becomePair_36 rfl ?_
  refine AW_getR (a := 118) dX12_becomePair_37 gfX12_95 (hS.cel rfl) (hS.rf rfl) ?_
  refine AW_iload_n dX12_becomePair_40 rfl ?_
  refine AW_iconst dX12_becomePair_41 ?_
  refine AW_iast dX12_becomePair_42 (hS.cel rfl) (by omega) (by omega) ?_
  refine AW_aload_n dX12_becomePair_43 rfl ?_
  refine AW_getR (a := 120) dX12_becomePair_44 gfX12_101 (hS.cel rfl) (hS.rf rfl) ?_
  refine AW_iload_n dX12_becomePair_47 rfl ?_
  refine AW_iconst dX12_becomePair_48 ?_
  refine AW_zast dX12_becomePair_49 (hS.cel rfl) (by omega) (by omega) ?_
  rw [Int.toNat_natCast, aNz_0]
  refine AW_aload_n dX12_becomePair_50 rfl ?_
  refine AW_getR (a := 120) dX12_becomePair_51 gfX12_101 (hS.cel rfl) (hS.rf rfl) ?_
  refine AW_iload_n dX12_becomePair_54 rfl ?_
  refine AW_iconst dX12_becomePair_55 ?_
  refine AW_zast dX12_becomePair_56 (hS.cel rfl) (by omega) (by omega) ?_
  rw [aNz_0]
  refine AW_aload_n dX12_becomePair_57 rfl ?_
  refine AW_aload_n dX12_becomePair_58 rfl ?_
  refine AW_getI dX12_becomePair_59 gfX12_328 (hS.cel rfl) ?_
  (repeat (first | rw [up_r _ _ _ _ (by decide)] | rw [up_j _ _ _ (by decide)] | rw [up_at]))
  refine AW_iconst dX12_becomePair_62 ?_
  rw [hT.t2]
  refine AW_iadd dX12_becomePair_63 ?_
  refine AW_putI dX12_becomePair_64 (Or.inl pfX12_328) (hS.cel rfl) ?_
  refine AW_vret dX12_becomePair_67 rfl ?_
  repeat (rw [Int.toNat_natCast])
  refine ⟨rfl, ?_, ((((((((Fm.rf.ua (by decide) (by decide) _ _).ua (by decide) (by decide) _ _).ua (by decide) (by decide) _ _).ua (by decide) (by decide) _ _).ua (by decide) (by decide) _ _).ua (by decide) (by decide) _ _).ua (by decide) (by decide) _ _).ua (by decide) (by decide) _ _).uf (by decide) _⟩
  exact (((((((((hT.uP (p := p) 3 116 (q : Int)).uP (p := q) 3 116 (p : Int)).uP (p := p) 6 119 tp).uP (p := q) 6 119 tq).uP (p := p) 5 118 0).uP (p := q) 5 118 0).uP (p := p) 7 120 0).uP (p := q) 7 120 0).ext (w' := (bndP (bndP w.1 p q tp) q p tq, w.2.1, w.2.2)) (pair_ext w.1 hne tp tq) rfl).uT 2 56 _
theorem bestL_s (D : Mk) (s n : Nat) : bestL D s (n + 1) = if (n : Int) < D 0 s then (if bestL D s n < D 1 (6 * s + n) then D 1 (6 * s + n) else bestL D s n) else bestL D s n := rfl
theorem ln_asks {G : Gt} {d : Nat} {σ : St} {D : Mk} {n : Nat} {w : Tw} (hS : Sta σ) (hR : RepM D σ) (hW : WFm D) (hT : TwM n w σ) {p : Nat} (hw : WFP D n w.1) (hp : p < n) (h99 : 0 ≤ w.2.1 0 ∧ w.2.1 0 ≤ 99) (hm : mtab D σ 0) (hd : 1 ≤ d) : ∀ (nn : Nat) (j : Nat), (6 - j) < nn → j ≤ 6 → (j : Int) ≤ D 0 (1 - (w.1 0 p).toNat) →  AW mX12_asksOf G d 0 0 (mq G (fun ro ρ => ro = none ∧ (∀ i, i < 7 → ρ.2.1 123 i = fct D w.2.1 w.1 p i) ∧ Fm [] [123] σ ρ)) 16 [some (vR 94), some (vI (p : Int)), some (vI (w.1 0 p)), some (vI (bestL D (1 - (w.1 0 p).toNat) j)), some (vI (j : Int))] [] σ := by
  intro nn
  induction nn with
  | zero => intros; omega
  | succ nn ih =>
    intro j hn hj6 hj
    obtain ⟨p1, p2, p3, p4⟩ := wfs hW hw hp
    obtain ⟨a1, a2, a3, a4, a5⟩ := hw.2.1 p hp
    have hD := hW.1 (1 - (w.1 0 p).toNat) (by omega)
    have es : (1 - w.1 0 p).toNat = 1 - (w.1 0 p).toNat := by omega
    have hix : (6 * (1 - w.1 0 p) + (j : Int)).toNat = 6 * (1 - (w.1 0 p).toNat) + j := by omega
    have hT2 := hW.2.2.2.2.2.2.1
    have h95 := hR.1 (1 - (w.1 0 p).toNat) (by omega)
    have h947 : σ.2.1 94 7 = D 4 2 := hR.2.2.2.2 2 (by decide)
    refine AW_iload dX12_asksOf_16 rfl ?_
    refine AW_aload_n dX12_asksOf_18 rfl ?_
    refine AW_getR (a := 95) dX12_asksOf_19 gfX12_7 (hS.cel rfl) (hS.rf rfl) ?_
    refine AW_iconst dX12_asksOf_22 ?_
    refine AW_iload_n dX12_asksOf_23 rfl ?_
    refine AW_isubE dX12_asksOf_24 (by omega) (by omega) ?_
    refine AW_iald dX12_asksOf_25 (hS.cel rfl) (by omega) (by omega) ?_
    refine AW_icmp_ge (tgt := 68) dX12_asksOf_26 (by decide) (fun c_26 => ?_) (fun c_26 => ?_)
    · skip
      rw [es, h95] at c_26
      have hbs := bestL_stop (D := D) (s := 1 - (w.1 0 p).toNat) (6 - j) j (by omega)
      rw [show j + (6 - j) = 6 by omega] at hbs
      refine AW_aload_n dX12_asksOf_68 rfl ?_
      refine AW_getR (a := 123) dX12_asksOf_69 gfX12_111 (hS.cel rfl) (hS.rf rfl) ?_
      refine AW_iconst dX12_asksOf_72 ?_
      refine AW_aload_n dX12_asksOf_73 rfl ?_
      refine AW_getI dX12_asksOf_74 gfX12_314 (hS.cel rfl) ?_
      rw [hT.t0]
      refine AW_iastK 0 dX12_asksOf_77 (hS.cel rfl) (by decide) ?_
      refine AW_aload_n dX12_asksOf_78 rfl ?_
      refine AW_getR (a := 123) dX12_asksOf_79 gfX12_111 (hS.cel rfl) (hS.rf rfl) ?_
      refine AW_iconst dX12_asksOf_82 ?_
      refine AW_aload_n dX12_asksOf_83 rfl ?_
      refine AW_getR (a := 117) dX12_asksOf_84 gfX12_92 (hS.cel rfl) (hS.rf rfl) ?_
      refine AW_iload_n dX12_asksOf_87 rfl ?_
      refine AW_iald dX12_asksOf_88 (hS.cel rfl) (by omega) (by omega) ?_
      (repeat (first | rw [up_r _ _ _ _ (by decide)] | rw [up_j _ _ _ (by decide)] | rw [up_at]))
      rw [Int.toNat_natCast, hT.v4 p1]
      refine AW_iastK 1 dX12_asksOf_89 (hS.cel rfl) (by decide) ?_
      refine AW_aload_n dX12_asksOf_90 rfl ?_
      refine AW_getR (a := 123) dX12_asksOf_91 gfX12_111 (hS.cel rfl) (hS.rf rfl) ?_
      refine AW_iconst dX12_asksOf_94 ?_
      refine AW_aload_n dX12_asksOf_95 rfl ?_
      refine AW_getR (a := 114) dX12_asksOf_96 gfX12_83 (hS.cel rfl) (hS.rf rfl) ?_
      refine AW_iload_n dX12_asksOf_99 rfl ?_
      refine AW_iald dX12_asksOf_100 (hS.cel rfl) (by omega) (by omega) ?_
      (repeat (first | rw [up_r _ _ _ _ (by decide)] | rw [up_j _ _ _ (by decide)] | rw [up_at]))
      rw [Int.toNat_natCast, hT.v1 p1]
      refine AW_iastK 2 dX12_asksOf_101 (hS.cel rfl) (by decide) ?_
      refine AW_aload_n dX12_asksOf_102 rfl ?_
      refine AW_getR (a := 123) dX12_asksOf_103 gfX12_111 (hS.cel rfl) (hS.rf rfl) ?_
      refine AW_iconst dX12_asksOf_106 ?_
      refine AW_aload_n dX12_asksOf_107 rfl ?_
      refine AW_getR (a := 96) dX12_asksOf_108 gfX12_13 (hS.cel rfl) (hS.rf rfl) ?_
      refine AW_bipush dX12_asksOf_111 ?_
      refine AW_iload_n dX12_asksOf_113 rfl ?_
      refine AW_imulE dX12_asksOf_114 (by omega) (by omega) ?_
      refine AW_aload_n dX12_asksOf_115 rfl ?_
      refine AW_getR (a := 114) dX12_asksOf_116 gfX12_83 (hS.cel rfl) (hS.rf rfl) ?_
      refine AW_iload_n dX12_asksOf_119 rfl ?_
      refine AW_iald dX12_asksOf_120 (hS.cel rfl) (by omega) (by omega) ?_
      (repeat (first | rw [up_r _ _ _ _ (by decide)] | rw [up_j _ _ _ (by decide)] | rw [up_at]))
      rw [Int.toNat_natCast, hT.v1 p1]
      refine AW_iaddE dX12_asksOf_121 (by omega) (by omega) ?_
      refine AW_iald dX12_asksOf_122 (hS.cel rfl) (by omega) (by omega) ?_
      (repeat (first | rw [up_r _ _ _ _ (by decide)] | rw [up_j _ _ _ (by decide)] | rw [up_at]))
      rw [show (6 * w.1 0 p + w.1 1 p).toNat = 6 * (w.1 0 p).toNat + (w.1 1 p).toNat by omega, hR.2.1 _ (by omega)]
      refine AW_iastK 3 dX12_asksOf_123 (hS.cel rfl) (by decide) ?_
      refine AW_aload_n dX12_asksOf_124 rfl ?_
      refine AW_getR (a := 123) dX12_asksOf_125 gfX12_111 (hS.cel rfl) (hS.rf rfl) ?_
      refine AW_iconst dX12_asksOf_128 ?_
      refine AW_iload_n dX12_asksOf_129 rfl ?_
      rw [← hbs]
      refine AW_iastK 4 dX12_asksOf_130 (hS.cel rfl) (by decide) ?_
      refine AW_aload_n dX12_asksOf_131 rfl ?_
      refine AW_getR (a := 123) dX12_asksOf_132 gfX12_111 (hS.cel rfl) (hS.rf rfl) ?_
      refine AW_iconst dX12_asksOf_135 ?_
      refine AW_aload_n dX12_asksOf_136 rfl ?_
      refine AW_getI dX12_asksOf_137 gfX12_170 (hS.cel rfl) ?_
      (repeat (first | rw [up_r _ _ _ _ (by decide)] | rw [up_j _ _ _ (by decide)] | rw [up_at]))
      rw [show σ.2.1 94 11 = D 4 6 from hR.2.2.2.2 6 (by decide)]
      refine AW_iastK 5 dX12_asksOf_140 (hS.cel rfl) (by decide) ?_
      refine AW_aload_n dX12_asksOf_141 rfl ?_
      refine AW_getR (a := 123) dX12_asksOf_142 gfX12_111 (hS.cel rfl) (hS.rf rfl) ?_
      refine AW_bipush dX12_asksOf_145 ?_
      refine AW_aload_n dX12_asksOf_147 rfl ?_
      refine AW_getI dX12_asksOf_148 gfX12_314 (hS.cel rfl) ?_
      (repeat (first | rw [up_r _ _ _ _ (by decide)] | rw [up_j _ _ _ (by decide)] | rw [up_at]))
      refine AW_iconst dX12_asksOf_151 ?_
      rw [hT.t0]
      refine AW_iaddE dX12_asksOf_152 (by omega) (by omega) ?_
      refine AW_aload_n dX12_asksOf_153 rfl ?_
      refine AW_getI dX12_asksOf_154 gfX12_29 (hS.cel rfl) ?_
      (repeat (first | rw [up_r _ _ _ _ (by decide)] | rw [up_j _ _ _ (by decide)] | rw [up_at]))
      refine AW_icmp_ge (tgt := 180) dX12_asksOf_157 (by decide) (fun c_157 => ?_) (fun c_157 => ?_)
      · skip
        refine AW_iconst dX12_asksOf_180 ?_
        refine AW_iastK 6 dX12_asksOf_181 (hS.cel rfl) (by decide) ?_
        refine AW_vret dX12_asksOf_182 rfl ?_
        refine ⟨rfl, fun i hi => ?_, ((((((Fm.rf.ua (by decide) (by decide) _ _).ua (by decide) (by decide) _ _).ua (by decide) (by decide) _ _).ua (by decide) (by decide) _ _).ua (by decide) (by decide) _ _).ua (by decide) (by decide) _ _).ua (by decide) (by decide) _ _⟩
        have hi7 : i = 0 ∨ i = 1 ∨ i = 2 ∨ i = 3 ∨ i = 4 ∨ i = 5 ∨ i = 6 := by omega
        rcases hi7 with rfl | rfl | rfl | rfl | rfl | rfl | rfl
        · (repeat (first | rw [up_j _ _ _ (by decide)] | rw [up_at])); rfl
        · (repeat (first | rw [up_j _ _ _ (by decide)] | rw [up_at])); rfl
        · (repeat (first | rw [up_j _ _ _ (by decide)] | rw [up_at])); rfl
        · (repeat (first | rw [up_j _ _ _ (by decide)] | rw [up_at])); rfl
        · (repeat (first | rw [up_j _ _ _ (by decide)] | rw [up_at])); rfl
        · (repeat (first | rw [up_j _ _ _ (by decide)] | rw [up_at])); rfl
        · rw [up_at]
          show _ = if w.2.1 0 + 1 < D 4 2 then _ else 0
          first
          | (rw [if_pos (by omega)]; done)
          | (rw [if_neg (by omega)]; done)
      · skip
        refine AW_aload_n dX12_asksOf_160 rfl ?_
        refine AW_iload_n dX12_asksOf_161 rfl ?_
        refine AW_aload_n dX12_asksOf_162 rfl ?_
        refine AW_getR (a := 114) dX12_asksOf_163 gfX12_83 (hS.cel rfl) (hS.rf rfl) ?_
        refine AW_iload_n dX12_asksOf_166 rfl ?_
        refine AW_iald dX12_asksOf_167 (hS.cel rfl) (by omega) (by omega) ?_
        (repeat (first | rw [up_r _ _ _ _ (by decide)] | rw [up_j _ _ _ (by decide)] | rw [up_at]))
        refine AW_aload_n dX12_asksOf_168 rfl ?_
        refine AW_getI dX12_asksOf_169 gfX12_314 (hS.cel rfl) ?_
        (repeat (first | rw [up_r _ _ _ _ (by decide)] | rw [up_j _ _ _ (by decide)] | rw [up_at]))
        refine AW_iconst dX12_asksOf_172 ?_
        rw [hT.t0, Int.toNat_natCast, hT.v1 p1]
        refine AW_iaddE dX12_asksOf_173 (by omega) (by omega) ?_
        refine AW_callV3 (d' := d - 1) dX12_asksOf_174 (Or.inl lkX12_198) mfX12_waitOf (hS.cel rfl) ⟨_, rfl, rfl⟩ (n_waitOf (σ := upI (upI (upI (upI (upI (upI σ 123 0 (w.2.1 0)) 123 1 (w.1 4 p)) 123 2 (w.1 1 p)) 123 3 (D 1 (6 * (w.1 0 p).toNat + (w.1 1 p).toNat))) 123 4 (bestL D (1 - (w.1 0 p).toNat) 6)) 123 5 (D 4 6)) (t := 0) hS hW (hm.fm (τ := upI (upI (upI (upI (upI (upI σ 123 0 (w.2.1 0)) 123 1 (w.1 4 p)) 123 2 (w.1 1 p)) 123 3 (D 1 (6 * (w.1 0 p).toNat + (w.1 1 p).toNat))) 123 4 (bestL D (1 - (w.1 0 p).toNat) 6)) 123 5 (D 4 6)) (fs := []) (L := [123]) ((((((Fm.rf.ua (by decide) (by decide) _ _).ua (by decide) (by decide) _ _).ua (by decide) (by decide) _ _).ua (by decide) (by decide) _ _).ua (by decide) (by decide) _ _).ua (by decide) (by decide) _ _)) (w.1 0 p) (w.1 1 p) (w.2.1 0 + 1) (w.1 0 p).toNat (w.1 1 p).toNat (by omega) (by omega) (by omega) (by omega) (by omega)) (by omega) (Nat.le_of_ble_eq_true rfl) ?_
        rintro _ _ ⟨e_, rfl⟩ -
        rw [e_]
        clear e_
        refine AW_goto (tgt := 181) dX12_asksOf_177 (by decide) ?_
        refine AW_iastK 6 dX12_asksOf_181 (hS.cel rfl) (by decide) ?_
        refine AW_vret dX12_asksOf_182 rfl ?_
        refine ⟨rfl, fun i hi => ?_, ((((((Fm.rf.ua (by decide) (by decide) _ _).ua (by decide) (by decide) _ _).ua (by decide) (by decide) _ _).ua (by decide) (by decide) _ _).ua (by decide) (by decide) _ _).ua (by decide) (by decide) _ _).ua (by decide) (by decide) _ _⟩
        have hi7 : i = 0 ∨ i = 1 ∨ i = 2 ∨ i = 3 ∨ i = 4 ∨ i = 5 ∨ i = 6 := by omega
        rcases hi7 with rfl | rfl | rfl | rfl | rfl | rfl | rfl
        · (repeat (first | rw [up_j _ _ _ (by decide)] | rw [up_at])); rfl
        · (repeat (first | rw [up_j _ _ _ (by decide)] | rw [up_at])); rfl
        · (repeat (first | rw [up_j _ _ _ (by decide)] | rw [up_at])); rfl
        · (repeat (first | rw [up_j _ _ _ (by decide)] | rw [up_at])); rfl
        · (repeat (first | rw [up_j _ _ _ (by decide)] | rw [up_at])); rfl
        · (repeat (first | rw [up_j _ _ _ (by decide)] | rw [up_at])); rfl
        · rw [up_at]
          show _ = if w.2.1 0 + 1 < D 4 2 then _ else 0
          first
          | (rw [if_pos (by omega)]; done)
          | (rw [if_neg (by omega)]; done)
    · skip
      rw [es, h95] at c_26
      have h96 := hR.2.1 (6 * (1 - (w.1 0 p).toNat) + j) (by omega)
      refine AW_aload_n dX12_asksOf_29 rfl ?_
      refine AW_getR (a := 96) dX12_asksOf_30 gfX12_13 (hS.cel rfl) (hS.rf rfl) ?_
      refine AW_bipush dX12_asksOf_33 ?_
      refine AW_iconst dX12_asksOf_35 ?_
      refine AW_iload_n dX12_asksOf_36 rfl ?_
      refine AW_isubE dX12_asksOf_37 (by omega) (by omega) ?_
      refine AW_imulE dX12_asksOf_38 (by omega) (by omega) ?_
      refine AW_iload dX12_asksOf_39 rfl ?_
      refine AW_iaddE dX12_asksOf_41 (by omega) (by omega) ?_
      refine AW_iald dX12_asksOf_42 (hS.cel rfl) (by omega) (by omega) ?_
      refine AW_iload_n dX12_asksOf_43 rfl ?_
      refine AW_icmp_le (tgt := 62) dX12_asksOf_44 (by decide) (fun c_44 => ?_) (fun c_44 => ?_)
      · skip
        rw [hix, h96] at c_44
        have hbl := bestL_s D (1 - (w.1 0 p).toNat) j
        rw [if_pos (by omega), if_neg (by omega)] at hbl
        refine AW_iincE4 dX12_asksOf_62 (by omega) (by omega) ?_
        refine AW_goto (tgt := 16) dX12_asksOf_65 (by decide) ?_
        rw [show (j : Int) + 1 = ((j + 1 : Nat) : Int) by omega, ← hbl]
        exact ih (j + 1) (by omega) (by omega) (by omega)
      · skip
        rw [hix, h96] at c_44
        have hbl := bestL_s D (1 - (w.1 0 p).toNat) j
        rw [if_pos (by omega), if_pos (by omega)] at hbl
        refine AW_aload_n dX12_asksOf_47 rfl ?_
        refine AW_getR (a := 96) dX12_asksOf_48 gfX12_13 (hS.cel rfl) (hS.rf rfl) ?_
        refine AW_bipush dX12_asksOf_51 ?_
        refine AW_iconst dX12_asksOf_53 ?_
        refine AW_iload_n dX12_asksOf_54 rfl ?_
        refine AW_isubE dX12_asksOf_55 (by omega) (by omega) ?_
        refine AW_imulE dX12_asksOf_56 (by omega) (by omega) ?_
        refine AW_iload dX12_asksOf_57 rfl ?_
        refine AW_iaddE dX12_asksOf_59 (by omega) (by omega) ?_
        refine AW_iald dX12_asksOf_60 (hS.cel rfl) (by omega) (by omega) ?_
        rw [hix, h96]
        refine AW_istore3 dX12_asksOf_61 ?_
        refine AW_iincE4 dX12_asksOf_62 (by omega) (by omega) ?_
        refine AW_goto (tgt := 16) dX12_asksOf_65 (by decide) ?_
        rw [show (j : Int) + 1 = ((j + 1 : Nat) : Int) by omega, ← hbl]
        exact ih (j + 1) (by omega) (by omega) (by omega)
theorem n_asks {G : Gt} {d : Nat} {σ : St} (hd : 4 ≤ d) {D : Mk} {Ws : Nat → Wy} {n : Nat} {w : Tw} (hS : Sta σ) (hC : CtM D Ws σ) (hT : TwM n w σ) {p : Nat} (hw : WFP D n w.1) (hp : p < n) (h99 : 0 ≤ w.2.1 0 ∧ w.2.1 0 ≤ 99)  : AM mX12_asksOf G d 0 0 [vR 94, vI (p : Int)] σ (fun ro ρ => ro = none ∧ (∀ i, i < 7 → ρ.2.1 123 i = fct D w.2.1 w.1 p i) ∧ mwC D ρ ∧ Fm [18] [102, 123] σ ρ) := by
  refine AM.intro (by decide +kernel) (by simp [nLg]) (Nat.le_of_ble_eq_true rfl) (fun hO => ?_)
  show AW _ _ _ _ _ _ 0 [some (vR 94), some (vI (p : Int)), none, none, none] [] σ
  obtain ⟨p1, p2, p3, p4⟩ := wfs hC.2.1 hw hp
  have hD := hC.2.1.1 (1 - (w.1 0 p).toNat) (by omega)
  refine AW_aload_n dX12_asksOf_0 rfl ?_
  refine AW_callV0 (d' := d - 1) dX12_asksOf_1 (Or.inl lkX12_208) mfX12_findsWaits (hS.cel rfl) ⟨_, rfl, rfl⟩ (n_fw (by omega) hS hC.1 hC.2.1 hC.2.2.1) (by omega) (Nat.le_of_ble_eq_true rfl) ?_
  rintro _ ρ1 ⟨rfl, hm1, h18, hG1⟩ -
  have hS1 := hG1.sta hS
  have hT1 := hT.fm hG1
  refine AW_aload_n dX12_asksOf_4 rfl ?_
  refine AW_getR (a := 113) dX12_asksOf_5 gfX12_80 (hS1.cel rfl) (hS1.rf rfl) ?_
  refine AW_iload_n dX12_asksOf_8 rfl ?_
  refine AW_iald dX12_asksOf_9 (hS1.cel rfl) (by omega) (by omega) ?_
  rw [Int.toNat_natCast, hT1.v0 p1]
  refine AW_istore2 dX12_asksOf_10 ?_
  refine AW_iconst dX12_asksOf_11 ?_
  refine AW_istore3 dX12_asksOf_12 ?_
  refine AW_iconst dX12_asksOf_13 ?_
  refine AW_istore4 dX12_asksOf_14 ?_
  refine AW_mq (fun r τ q => ?_) (ln_asks hS1 (hC.1.fm hG1) hC.2.1 hT1 hw hp h99 hm1 (by omega) 7 0 (by omega) (by omega) (by omega))
  obtain ⟨q1, q2, q3⟩ := q
  exact ⟨q1, q2, Or.inr ⟨(q3.f 18).trans h18, hm1.fm q3⟩, (hG1.mo (by decide) (by decide)).tr (q3.mo (by decide) (by decide))⟩
theorem n_says {G : Gt} {d : Nat} {σ : St} (hd : 5 ≤ d) {D : Mk} {Ws : Nat → Wy} {n : Nat} {w : Tw} (hS : Sta σ) (hC : CtM D Ws σ) (hT : TwM n w σ) {p : Nat} (hw : WFP D n w.1) (hp : p < n) (h99 : 0 ≤ w.2.1 0 ∧ w.2.1 0 ≤ 99) {h : Int}  : AM mX12_saysOf G d 0 0 [vR 94, vI (p : Int), vI (h - 256)] σ (fun ro ρ => ro = some (vI ((sy D Ws w p h).getD 0)) ∧ ρ.2.1 94 61 = (if (sy D Ws w p h).isSome = true then 1 else 0) ∧ CtM D Ws ρ ∧ TwM n w ρ ∧ Fm [18, 61] [102, 123, 124] σ ρ) := by
  refine AM.intro (by decide +kernel) (by simp [nLg]) (Nat.le_of_ble_eq_true rfl) (fun hO => ?_)
  show AW _ _ _ _ _ _ 0 [some (vR 94), some (vI (p : Int)), some (vI (h - 256)), none, none] [] σ
  obtain ⟨p1, p2, p3, p4⟩ := wfs hC.2.1 hw hp
  have hk6 : (w.1 2 p).toNat < 6 := by omega
  refine AW_aload_n dX12_saysOf_0 rfl ?_
  refine AW_iload_n dX12_saysOf_1 rfl ?_
  refine AW_callV1 (d' := d - 1) dX12_saysOf_2 (Or.inl lkX12_317) mfX12_asksOf (hS.cel rfl) ⟨_, rfl, rfl⟩ (n_asks (by omega) hS hC hT hw hp h99) (by omega) (Nat.le_of_ble_eq_true rfl) ?_
  rintro _ ρ1 ⟨rfl, hk1, hm1, hG1⟩ -
  have hS1 := hG1.sta hS
  have hT1 := hT.fm hG1
  have hC1 := hC.fw hG1 hm1
  refine AW_aload_n dX12_saysOf_5 rfl ?_
  refine AW_getR (a := 115) dX12_saysOf_6 gfX12_86 (hS1.cel rfl) (hS1.rf rfl) ?_
  refine AW_iload_n dX12_saysOf_9 rfl ?_
  refine AW_iald dX12_saysOf_10 (hS1.cel rfl) (by omega) (by omega) ?_
  rw [Int.toNat_natCast, hT1.v2 p1, show w.1 2 p = ((w.1 2 p).toNat : Int) by omega]
  refine AW_istore3 dX12_saysOf_11 ?_
  refine AW_aload_n dX12_saysOf_12 rfl ?_
  refine AW_iconst dX12_saysOf_13 ?_
  refine AW_putZ dX12_saysOf_14 (Or.inl pfX12_320) (hS1.cel rfl) (by decide) ?_
  have hF2 : Fm [61] [] ρ1 (upI ρ1 94 61 1) := Fm.rf.uf (by decide) _
  have hS2 := hF2.sta hS1
  have hT2 := hT1.fm hF2
  have hC2 := hC1.fm hF2
  have h61 : (upI ρ1 94 61 1).2.1 94 61 = 1 := up_at _ _ _ _
  have hk2 := fun i hi => (hF2.a 123 i).trans (hk1 i hi)
  generalize upI ρ1 94 61 1 = σ2 at hF2 hS2 hT2 hC2 h61 hk2 ⊢
  refine AW_bipush dX12_saysOf_17 ?_
  refine AW_iload_n dX12_saysOf_19 rfl ?_
  refine AW_imulE dX12_saysOf_20 (by omega) (by omega) ?_
  refine AW_istore4 dX12_saysOf_21 ?_
  rw [show 12 * ((w.1 2 p).toNat : Int) = 12 * ((w.1 2 p).toNat : Int) + ((0 : Nat) : Int) by omega]
  refine AW_mq (fun r τ q => ?_) (ln_says (h := h) (T := jfind (fct D w.2.1 w.1 p) (Ws (w.1 2 p).toNat) h (Ws (w.1 2 p).toNat).1 0) (by omega) hk6 hS2 (hC2.2.2.2 _ hk6).1 (hC2.2.2.2 _ hk6).2 hk2 h61 ((Ws (w.1 2 p).toNat).1 + 1) (Ws (w.1 2 p).toNat).1 0 σ2 (by omega) (by omega) rfl Fm.rf)
  obtain ⟨q1, q2, q3⟩ := q
  refine ⟨q1, ?_, hC2.fm q3, hT2.fm q3, ((hG1.mo (by decide) (by decide)).tr (hF2.mo (by decide) (by decide))).tr (q3.mo (by decide) (by decide))⟩
  rw [q2]
  unfold sy jsay
  rw [Option.isSome_map]
