def rkOK (D : Mk) (σ : St) : Prop := ((fallsP D 0 ∧ fallsP D 1) ∧ σ.2.1 23 5 = 1 ∧ ∃ m, isCnt D m ∧ rkI D σ m) ∨ (¬ (fallsP D 0 ∧ fallsP D 1) ∧ σ.2.1 23 5 = 0)
/-- the CLASSES that are kept are the market's, where they are of its version -/
def rkC (D : Mk) (σ : St) : Prop := σ.2.1 23 3 ≤ σ.2.1 17 5 ∧ (σ.2.1 23 3 = σ.2.1 17 5 → rkOK D σ)
theorem rk_six {D : Mk} (hW : WFm D) (h : ∀ k, k < 6 → clOk D k) : isCnt D 6 := by
  refine ⟨h, fun hc => ?_⟩
  have := clA_in hW 6 h
  have h0 := hW.1 0 (by decide)
  have := hc.1
  omega
theorem l_rkref {G : Gt} {d : Nat} {D : Mk} {σ : St} (hd : 5 ≤ d) (hS : Sta σ) (hR : RepC D σ) (hW : WFm D) (hfl : fallsP D 0 ∧ fallsP D 1) : ∀ (nn : Nat) (more i : Int) (τ : St), ((6 : Int) - i).toNat < nn → 0 ≤ i → i ≤ 6 → Fo 23 [3, 4, 5, 6, 7, 8] [24, 25] σ τ → τ.2.1 23 3 = τ.2.1 17 5 → τ.2.1 23 5 = 1 → ((more = 1 ∧ rkI D τ i.toNat) ∨ (more = 0 ∧ ∃ m, isCnt D m ∧ rkI D τ m)) →  AW mX6_refresh G d 0 0 (mq G (fun ro ρ => ro = none ∧ rkOK D ρ ∧ ρ.2.1 23 3 = ρ.2.1 17 5 ∧ Fo 23 [3, 4, 5, 6, 7, 8] [24, 25] σ ρ)) 83 [some (vR 23), some (vI more), some (vI i)] [] τ := by
  intro nn
  induction nn with
  | zero => intros; omega
  | succ nn ih =>
    intro more i τ hn h0 hi hF hv h5 hI
    refine AW_iload_n dX6_refresh_83 rfl ?_
    refine AW_bipush dX6_refresh_84 ?_
    refine AW_icmp_ge (tgt := 104) dX6_refresh_86 (by decide) (fun c_86 => ?_) (fun c_86 => ?_)
    · skip
      refine AW_vret dX6_refresh_104 rfl ?_
      refine ⟨rfl, Or.inl ⟨hfl, h5, ?_⟩, hv, hF⟩
      rcases hI with ⟨q1, q2⟩ | q
      · refine ⟨6, ?_, ?_⟩
        · exact rk_six hW (fun k hk => q2.2.2.2.2 k (by omega))
        · rw [show i.toNat = 6 by omega] at q2
          exact q2
      · exact q.2
    · skip
      refine AW_iload_n dX6_refresh_89 rfl ?_
      refine AW_if_eq (tgt := 104) dX6_refresh_90 (by decide) (fun c_90 => ?_) (fun c_90 => ?_)
      · skip
        refine AW_vret dX6_refresh_104 rfl ?_
        refine ⟨rfl, Or.inl ⟨hfl, h5, ?_⟩, hv, hF⟩
        rcases hI with ⟨q1, q2⟩ | q
        · refine ⟨6, ?_, ?_⟩
          · exact rk_six hW (fun k hk => q2.2.2.2.2 k (by omega))
          · rw [show i.toNat = 6 by omega] at q2
            exact q2
        · exact q.2
      · skip
        have hK : rkI D τ i.toNat := by
          rcases hI with q | q
          · exact q.2
          · exact absurd q.1 c_90
        refine AW_aload_n dX6_refresh_93 rfl ?_
        refine AW_callV0 (d' := d - 1) dX6_refresh_94 (Or.inl lkX6_49) mfX6_addClass ((hF.sta hS).cel rfl) ⟨_, rfl, rfl⟩ (k_addClass (m := i.toNat) (by omega) (hF.sta hS) (hR.fr hF.1) hW hK) (by omega) (Nat.le_of_ble_eq_true rfl) ?_
        rintro ro ρ ⟨hF2, hr⟩ -
        have hz : ∃ z : Int, ro = some (vI z) ∧ ((z = 1 ∧ rkI D ρ (i + 1).toNat) ∨ (z = 0 ∧ ∃ m, isCnt D m ∧ rkI D ρ m)) := by
          rcases hr with ⟨g1, g2, g3⟩ | ⟨g1, g2, g3⟩
          · exact ⟨1, g2, Or.inl ⟨rfl, by rw [show (i + 1).toNat = i.toNat + 1 by omega]; exact g3⟩⟩
          · exact ⟨0, g2, Or.inr ⟨rfl, i.toNat, ⟨g3.2.2.2.2, g1⟩, g3⟩⟩
        obtain ⟨z, rfl, hz⟩ := hz
        refine AW_istore1 dX6_refresh_97 ?_
        refine AW_iincE2 dX6_refresh_98 (by omega) (by omega) ?_
        refine AW_goto (tgt := 83) dX6_refresh_101 (by decide) ?_
        exact ih z (i + 1) ρ (by omega) (by omega) (by omega) (hF.tr (hF2.mo (by decide) (by decide))) (by rw [hF2.f 3, hF2.a 17 5]; exact hv) (by rw [hF2.f 5]; exact h5) hz
theorem k_rkref {G : Gt} {d : Nat} {σ : St} (hd : 5 ≤ d) {D : Mk} (hS : Sta σ) (hR : RepC D σ) (hW : WFm D) (hC : rkC D σ)  : AM mX6_refresh G d 0 0 [vR 23] σ (fun ro ρ => ro = none ∧ rkOK D ρ ∧ ρ.2.1 23 3 = ρ.2.1 17 5 ∧ Fo 23 [3, 4, 5, 6, 7, 8] [24, 25] σ ρ) := by
  refine AM.intro (by decide +kernel) (by simp [nLg]) (Nat.le_of_ble_eq_true rfl) (fun hO => ?_)
  show AW _ _ _ _ _ _ 0 [some (vR 23), none, none] [] σ
  refine AW_aload_n dX6_refresh_0 rfl ?_
  refine AW_getI dX6_refresh_1 gfX6_20 (hS.cel rfl) ?_
  refine AW_aload_n dX6_refresh_4 rfl ?_
  refine AW_getR (a := 17) dX6_refresh_5 gfX6_24 (hS.cel rfl) (hS.rf rfl) ?_
  refine AW_callV0 (d' := d - 1) dX6_refresh_8 (Or.inl lkX6_43) mfX3_version (hS.cel rfl) ⟨_, rfl, rfl⟩ (k_version hS) (by omega) (Nat.le_of_ble_eq_true rfl) ?_
  rintro _ _ ⟨e_, rfl⟩ -
  rw [e_]
  clear e_
  refine AW_icmp_ne (tgt := 15) dX6_refresh_11 (by decide) (fun c_11 => ?_) (fun c_11 => ?_)
  · skip
    refine AW_aload_n dX6_refresh_15 rfl ?_
    refine AW_aload_n dX6_refresh_16 rfl ?_
    refine AW_getR (a := 17) dX6_refresh_17 gfX6_24 (hS.cel rfl) (hS.rf rfl) ?_
    refine AW_callV0 (d' := d - 1) dX6_refresh_20 (Or.inl lkX6_43) mfX3_version (hS.cel rfl) ⟨_, rfl, rfl⟩ (k_version hS) (by omega) (Nat.le_of_ble_eq_true rfl) ?_
    rintro _ _ ⟨e_, rfl⟩ -
    rw [e_]
    clear e_
    refine AW_putI dX6_refresh_23 (Or.inl pfX6_20) (hS.cel rfl) ?_
    refine AW_aload_n dX6_refresh_26 rfl ?_
    refine AW_iconst dX6_refresh_27 ?_
    refine AW_putI dX6_refresh_28 (Or.inl pfX6_32) (hS.cel rfl) ?_
    refine AW_aload_n dX6_refresh_31 rfl ?_
    refine AW_getR (a := 25) dX6_refresh_32 gfX6_17 (hS.cel rfl) (hS.rf rfl) ?_
    refine AW_iconst dX6_refresh_35 ?_
    refine AW_iconst dX6_refresh_36 ?_
    refine AW_iastK 0 dX6_refresh_37 (hS.cel rfl) (by decide) ?_
    refine AW_aload_n dX6_refresh_38 rfl ?_
    refine AW_getR (a := 25) dX6_refresh_39 gfX6_17 (hS.cel rfl) (hS.rf rfl) ?_
    refine AW_iconst dX6_refresh_42 ?_
    refine AW_iconst dX6_refresh_43 ?_
    refine AW_iastK 1 dX6_refresh_44 (hS.cel rfl) (by decide) ?_
    have hFb : Fo 23 [3, 4, 5, 6, 7, 8] [24, 25] σ (upI (upI (upI (upI σ 23 3 (σ.2.1 17 5)) 23 4 0) 25 0 0) 25 1 0) := (((Fo.rf.uf (by decide) _).uf (by decide) _).ua (by decide) (by decide) _ _).ua (by decide) (by decide) _ _
    have hSb := hFb.sta hS
    have hRb := hR.fr hFb.1
    have hb3 : (upI (upI (upI (upI σ 23 3 (σ.2.1 17 5)) 23 4 0) 25 0 0) 25 1 0).2.1 23 3 = σ.2.1 17 5 := by
      rw [up_r _ _ _ _ (by decide), up_r _ _ _ _ (by decide), up_j _ _ _ (by decide), up_at]
    have hbI : ∀ z, rkI D (upI (upI (upI (upI (upI σ 23 3 (σ.2.1 17 5)) 23 4 0) 25 0 0) 25 1 0) 23 5 z) 0 := by
      intro z
      refine ⟨?_, ?_, ?_, fun k hk => absurd hk (by omega), fun k hk => absurd hk (by omega)⟩
      · rw [up_j _ _ _ (by decide), up_r _ _ _ _ (by decide), up_r _ _ _ _ (by decide), up_at]; rfl
      · rw [up_r _ _ _ _ (by decide), up_j _ _ _ (by decide), up_at]; rfl
      · rw [up_r _ _ _ _ (by decide), up_at]; rfl
    generalize upI (upI (upI (upI σ 23 3 (σ.2.1 17 5)) 23 4 0) 25 0 0) 25 1 0 = σ1 at hFb hSb hRb hb3 hbI ⊢
    have hb5 : σ1.2.1 17 5 = σ.2.1 17 5 := hFb.a 17 5
    refine AW_aload_n dX6_refresh_45 rfl ?_
    refine AW_aload_n dX6_refresh_46 rfl ?_
    refine AW_getR (a := 17) dX6_refresh_47 gfX6_24 (hSb.cel rfl) (hSb.rf rfl) ?_
    refine AW_iconst dX6_refresh_50 ?_
    refine AW_callV1 (d' := d - 1) dX6_refresh_51 (Or.inl lkX6_46) mfX3_falls (hSb.cel rfl) ⟨_, rfl, rfl⟩ (k_falls (by omega) hSb hRb hW 0 (by decide)) (by omega) (Nat.le_of_ble_eq_true rfl) ?_
    rintro r1 ρ1 ⟨rfl, hf0⟩ -
    have hz : ∃ z : Int, r1 = some (vI z) ∧ ((z = 1 ∧ fallsP D 0) ∨ (z = 0 ∧ ¬ fallsP D 0)) := by
      rcases hf0 with ⟨g1, g2⟩ | ⟨g1, g2⟩
      · exact ⟨1, g1, Or.inl ⟨rfl, g2⟩⟩
      · exact ⟨0, g1, Or.inr ⟨rfl, g2⟩⟩
    obtain ⟨z0, rfl, hz0⟩ := hz
    refine AW_if_eq (tgt := 72) dX6_refresh_54 (by decide) (fun c_54 => ?_) (fun c_54 => ?_)
    · skip
      refine AW_iconst dX6_refresh_72 ?_
      refine AW_putZ dX6_refresh_73 (Or.inl pfX6_28) (hSb.cel rfl) (by decide) ?_
      refine AW_aload_n dX6_refresh_76 rfl ?_
      refine AW_getI dX6_refresh_77 gfX6_28 (hSb.cel rfl) ?_
      (repeat (first | rw [up_r _ _ _ _ (by decide)] | rw [up_j _ _ _ (by decide)] | rw [up_at]))
      refine AW_istore1 dX6_refresh_80 ?_
      refine AW_iconst dX6_refresh_81 ?_
      refine AW_istore2 dX6_refresh_82 ?_
      by_cases hfl : fallsP D 0 ∧ fallsP D 1
      · first
        | exact l_rkref hd hS hR hW hfl 7 1 0 _ (by omega) (by omega) (by omega) (hFb.uf (by decide) _) (by rw [up_j _ _ _ (by decide), up_r _ _ _ _ (by decide), hb3, hb5]) (up_at _ _ _ _) (Or.inl ⟨rfl, hbI _⟩)
        | (exfalso; rcases hz0 with ⟨q1, q2⟩ | ⟨q1, q2⟩ <;> first | (exfalso; omega) | exact q2 hfl.1 | (rcases hz1 with ⟨p1, p2⟩ | ⟨p1, p2⟩ <;> first | (exfalso; omega) | exact p2 hfl.2))
      · first
        | (exfalso; rcases hz0 with ⟨q1, q2⟩ | ⟨q1, q2⟩ <;> rcases hz1 with ⟨p1, p2⟩ | ⟨p1, p2⟩ <;> first | exact hfl ⟨q2, p2⟩ | (exfalso; omega); done)
        | (refine AW_iload_n dX6_refresh_83 rfl ?_
           refine AW_bipush dX6_refresh_84 ?_
           refine AW_icmp_ge (tgt := 104) dX6_refresh_86 (by decide) (fun c_86 => absurd c_86 (by decide)) (fun c_86 => ?_)
           refine AW_iload_n dX6_refresh_89 rfl ?_
           refine AW_if_eq (tgt := 104) dX6_refresh_90 (by decide) (fun c_90 => ?_) (fun c_90 => absurd rfl c_90)
           refine AW_vret dX6_refresh_104 rfl ?_
           exact ⟨rfl, Or.inr ⟨hfl, up_at _ _ _ _⟩, by rw [up_j _ _ _ (by decide), up_r _ _ _ _ (by decide), hb3, hb5], hFb.uf (by decide) _⟩)
    · skip
      refine AW_aload_n dX6_refresh_57 rfl ?_
      refine AW_getR (a := 17) dX6_refresh_58 gfX6_24 (hSb.cel rfl) (hSb.rf rfl) ?_
      refine AW_iconst dX6_refresh_61 ?_
      refine AW_callV1 (d' := d - 1) dX6_refresh_62 (Or.inl lkX6_46) mfX3_falls (hSb.cel rfl) ⟨_, rfl, rfl⟩ (k_falls (by omega) hSb hRb hW 1 (by decide)) (by omega) (Nat.le_of_ble_eq_true rfl) ?_
      rintro r2 ρ2 ⟨rfl, hf1⟩ -
      have hz : ∃ z : Int, r2 = some (vI z) ∧ ((z = 1 ∧ fallsP D 1) ∨ (z = 0 ∧ ¬ fallsP D 1)) := by
        rcases hf1 with ⟨g1, g2⟩ | ⟨g1, g2⟩
        · exact ⟨1, g1, Or.inl ⟨rfl, g2⟩⟩
        · exact ⟨0, g1, Or.inr ⟨rfl, g2⟩⟩
      obtain ⟨z1, rfl, hz1⟩ := hz
      refine AW_if_eq (tgt := 72) dX6_refresh_65 (by decide) (fun c_65 => ?_) (fun c_65 => ?_)
      · skip
        refine AW_iconst dX6_refresh_72 ?_
        refine AW_putZ dX6_refresh_73 (Or.inl pfX6_28) (hSb.cel rfl) (by decide) ?_
        refine AW_aload_n dX6_refresh_76 rfl ?_
        refine AW_getI dX6_refresh_77 gfX6_28 (hSb.cel rfl) ?_
        (repeat (first | rw [up_r _ _ _ _ (by decide)] | rw [up_j _ _ _ (by decide)] | rw [up_at]))
        refine AW_istore1 dX6_refresh_80 ?_
        refine AW_iconst dX6_refresh_81 ?_
        refine AW_istore2 dX6_refresh_82 ?_
        by_cases hfl : fallsP D 0 ∧ fallsP D 1
        · first
          | exact l_rkref hd hS hR hW hfl 7 1 0 _ (by omega) (by omega) (by omega) (hFb.uf (by decide) _) (by rw [up_j _ _ _ (by decide), up_r _ _ _ _ (by decide), hb3, hb5]) (up_at _ _ _ _) (Or.inl ⟨rfl, hbI _⟩)
          | (exfalso; rcases hz0 with ⟨q1, q2⟩ | ⟨q1, q2⟩ <;> first | (exfalso; omega) | exact q2 hfl.1 | (rcases hz1 with ⟨p1, p2⟩ | ⟨p1, p2⟩ <;> first | (exfalso; omega) | exact p2 hfl.2))
        · first
          | (exfalso; rcases hz0 with ⟨q1, q2⟩ | ⟨q1, q2⟩ <;> rcases hz1 with ⟨p1, p2⟩ | ⟨p1, p2⟩ <;> first | exact hfl ⟨q2, p2⟩ | (exfalso; omega); done)
          | (refine AW_iload_n dX6_refresh_83 rfl ?_
             refine AW_bipush dX6_refresh_84 ?_
             refine AW_icmp_ge (tgt := 104) dX6_refresh_86 (by decide) (fun c_86 => absurd c_86 (by decide)) (fun c_86 => ?_)
             refine AW_iload_n dX6_refresh_89 rfl ?_
             refine AW_if_eq (tgt := 104) dX6_refresh_90 (by decide) (fun c_90 => ?_) (fun c_90 => absurd rfl c_90)
             refine AW_vret dX6_refresh_104 rfl ?_
             exact ⟨rfl, Or.inr ⟨hfl, up_at _ _ _ _⟩, by rw [up_j _ _ _ (by decide), up_r _ _ _ _ (by decide), hb3, hb5], hFb.uf (by decide) _⟩)
      · skip
        refine AW_iconst dX6_refresh_68 ?_
        refine AW_goto (tgt := 73) dX6_refresh_69 (by decide) ?_
        refine AW_putZ dX6_refresh_73 (Or.inl pfX6_28) (hSb.cel rfl) (by decide) ?_
        refine AW_aload_n dX6_refresh_76 rfl ?_
        refine AW_getI dX6_refresh_77 gfX6_28 (hSb.cel rfl) ?_
        (repeat (first | rw [up_r _ _ _ _ (by decide)] | rw [up_j _ _ _ (by decide)] | rw [up_at]))
        refine AW_istore1 dX6_refresh_80 ?_
        refine AW_iconst dX6_refresh_81 ?_
        refine AW_istore2 dX6_refresh_82 ?_
        by_cases hfl : fallsP D 0 ∧ fallsP D 1
        · first
          | exact l_rkref hd hS hR hW hfl 7 1 0 _ (by omega) (by omega) (by omega) (hFb.uf (by decide) _) (by rw [up_j _ _ _ (by decide), up_r _ _ _ _ (by decide), hb3, hb5]) (up_at _ _ _ _) (Or.inl ⟨rfl, hbI _⟩)
          | (exfalso; rcases hz0 with ⟨q1, q2⟩ | ⟨q1, q2⟩ <;> first | (exfalso; omega) | exact q2 hfl.1 | (rcases hz1 with ⟨p1, p2⟩ | ⟨p1, p2⟩ <;> first | (exfalso; omega) | exact p2 hfl.2))
        · first
          | (exfalso; rcases hz0 with ⟨q1, q2⟩ | ⟨q1, q2⟩ <;> rcases hz1 with ⟨p1, p2⟩ | ⟨p1, p2⟩ <;> first | exact hfl ⟨q2, p2⟩ | (exfalso; omega); done)
          | (refine AW_iload_n dX6_refresh_83 rfl ?_
             refine AW_bipush dX6_refresh_84 ?_
             refine AW_icmp_ge (tgt := 104) dX6_refresh_86 (by decide) (fun c_86 => absurd c_86 (by decide)) (fun c_86 => ?_)
             refine AW_iload_n dX6_refresh_89 rfl ?_
             refine AW_if_eq (tgt := 104) dX6_refresh_90 (by decide) (fun c_90 => ?_) (fun c_90 => absurd rfl c_90)
             refine AW_vret dX6_refresh_104 rfl ?_
             exact ⟨rfl, Or.inr ⟨hfl, up_at _ _ _ _⟩, by rw [up_j _ _ _ (by decide), up_r _ _ _ _ (by decide), hb3, hb5], hFb.uf (by decide) _⟩)
  · skip
    refine AW_vret dX6_refresh_14 rfl ?_
    exact ⟨rfl, hC.2 c_11, c_11, Fo.rf⟩
theorem k_rkcount {G : Gt} {d : Nat} {σ : St}  (hS : Sta σ)  : AM mX6_count G d 0 0 [vR 23] σ (fun r τ => τ = σ ∧ r = some (vI (σ.2.1 23 4))) := by
  refine AM.intro (by decide +kernel) (by simp [nLg]) (Nat.le_of_ble_eq_true rfl) (fun hO => ?_)
  show AW _ _ _ _ _ _ 0 [some (vR 23)] [] σ
  refine AW_aload_n dX6_count_0 rfl ?_
  refine AW_getI dX6_count_1 gfX6_32 (hS.cel rfl) ?_
  refine AW_iret dX6_count_4 rfl ?_
  exact ⟨rfl, rfl⟩
theorem k_rkfall {G : Gt} {d : Nat} {σ : St}  (hS : Sta σ) (hz : σ.2.1 23 5 = 0 ∨ σ.2.1 23 5 = 1)  : AM mX6_falling G d 0 0 [vR 23] σ (fun r τ => τ = σ ∧ r = some (vI (σ.2.1 23 5))) := by
  refine AM.intro (by decide +kernel) (by simp [nLg]) (Nat.le_of_ble_eq_true rfl) (fun hO => ?_)
  show AW _ _ _ _ _ _ 0 [some (vR 23)] [] σ
  refine AW_aload_n dX6_falling_0 rfl ?_
  refine AW_getI dX6_falling_1 gfX6_28 (hS.cel rfl) ?_
  refine AW_zret dX6_falling_4 rfl hz ?_
  exact ⟨rfl, rfl⟩
theorem k_detail {G : Gt} {d : Nat} {σ : St}  {m : Nat} (hS : Sta σ) (hm : σ.2.1 23 4 = m) (h6 : m ≤ 6) (k c : Int)  : AM mX6_detail G d 0 0 [vR 23, vI k, vI c] σ (fun r τ => τ = σ ∧ r = some (vI (if 0 ≤ k ∧ k < m ∧ 0 ≤ c ∧ c < 6 then σ.2.1 24 (6 * k.toNat + c.toNat) else -10000000))) := by
  refine AM.intro (by decide +kernel) (by simp [nLg]) (Nat.le_of_ble_eq_true rfl) (fun hO => ?_)
  have i_k : -2147483648 ≤ k ∧ k < 2147483648 := hO (vI k) (by simp)
  have i_c : -2147483648 ≤ c ∧ c < 2147483648 := hO (vI c) (by simp)
  show AW _ _ _ _ _ _ 0 [some (vR 23), some (vI k), some (vI c)] [] σ
  refine AW_iload_n dX6_detail_0 rfl ?_
  refine AW_if_lt (tgt := 22) dX6_detail_1 (by decide) (fun c_1 => ?_) (fun c_1 => ?_)
  · skip
    refine AW_ldc (-10000000) dX6_detail_22 ctX6_35 ?_
    refine AW_iret dX6_detail_24 rfl ?_
    refine ⟨rfl, ?_⟩
    first | (rw [if_neg (by omega)]; done) | (rw [if_pos (by omega), show (k * 6 + c).toNat = 6 * k.toNat + c.toNat by omega])
  · skip
    refine AW_iload_n dX6_detail_4 rfl ?_
    refine AW_aload_n dX6_detail_5 rfl ?_
    refine AW_getI dX6_detail_6 gfX6_32 (hS.cel rfl) ?_
    refine AW_icmp_ge (tgt := 22) dX6_detail_9 (by decide) (fun c_9 => ?_) (fun c_9 => ?_)
    · skip
      refine AW_ldc (-10000000) dX6_detail_22 ctX6_35 ?_
      refine AW_iret dX6_detail_24 rfl ?_
      refine ⟨rfl, ?_⟩
      first | (rw [if_neg (by omega)]; done) | (rw [if_pos (by omega), show (k * 6 + c).toNat = 6 * k.toNat + c.toNat by omega])
    · skip
      refine AW_iload_n dX6_detail_12 rfl ?_
      refine AW_if_lt (tgt := 22) dX6_detail_13 (by decide) (fun c_13 => ?_) (fun c_13 => ?_)
      · skip
        refine AW_ldc (-10000000) dX6_detail_22 ctX6_35 ?_
        refine AW_iret dX6_detail_24 rfl ?_
        refine ⟨rfl, ?_⟩
        first | (rw [if_neg (by omega)]; done) | (rw [if_pos (by omega), show (k * 6 + c).toNat = 6 * k.toNat + c.toNat by omega])
      · skip
        refine AW_iload_n dX6_detail_16 rfl ?_
        refine AW_bipush dX6_detail_17 ?_
        refine AW_icmp_lt (tgt := 25) dX6_detail_19 (by decide) (fun c_19 => ?_) (fun c_19 => ?_)
        · skip
          refine AW_aload_n dX6_detail_25 rfl ?_
          refine AW_getR (a := 24) dX6_detail_26 gfX6_13 (hS.cel rfl) (hS.rf rfl) ?_
          refine AW_iload_n dX6_detail_29 rfl ?_
          refine AW_bipush dX6_detail_30 ?_
          refine AW_imulE dX6_detail_32 (by omega) (by omega) ?_
          refine AW_iload_n dX6_detail_33 rfl ?_
          refine AW_iaddE dX6_detail_34 (by omega) (by omega) ?_
          refine AW_iald dX6_detail_35 (hS.cel rfl) (by omega) (by omega) ?_
          refine AW_iret dX6_detail_36 rfl ?_
          refine ⟨rfl, ?_⟩
          first | (rw [if_neg (by omega)]; done) | (rw [if_pos (by omega), show (k * 6 + c).toNat = 6 * k.toNat + c.toNat by omega])
        · skip
          refine AW_ldc (-10000000) dX6_detail_22 ctX6_35 ?_
          refine AW_iret dX6_detail_24 rfl ?_
          refine ⟨rfl, ?_⟩
          first | (rw [if_neg (by omega)]; done) | (rw [if_pos (by omega), show (k * 6 + c).toNat = 6 * k.toNat + c.toNat by omega])
theorem k_inNone {G : Gt} {d : Nat} {σ : St} (hd : 3 ≤ d) {D : Mk} (hS : Sta σ) (hR : RepC D σ) (hW : WFm D) (hx : ∀ s, s < 2 → 0 ≤ σ.2.1 25 s ∧ σ.2.1 25 s ≤ 6) (side : Int) (hs : side = 0 ∨ side = 1)  : AM mX6_inNone G d 0 0 [vR 23, vI side] σ (fun r τ => τ = σ ∧ r = some (vI (D 0 side.toNat - σ.2.1 25 side.toNat))) := by
  refine AM.intro (by decide +kernel) (by simp [nLg]) (Nat.le_of_ble_eq_true rfl) (fun hO => ?_)
  have i_side : -2147483648 ≤ side ∧ side < 2147483648 := hO (vI side) (by simp)
  show AW _ _ _ _ _ _ 0 [some (vR 23), some (vI side)] [] σ
  have hb := hW.1 side.toNat (by omega)
  have hx2 := hx side.toNat (by omega)
  refine AW_aload_n dX6_inNone_0 rfl ?_
  refine AW_getR (a := 17) dX6_inNone_1 gfX6_24 (hS.cel rfl) (hS.rf rfl) ?_
  refine AW_iload_n dX6_inNone_4 rfl ?_
  refine AW_callV1 (d' := d - 1) dX6_inNone_5 (Or.inl lkX6_36) mfX3_isSide (hS.cel rfl) ⟨_, rfl, rfl⟩ (k_isSide hS side) (by omega) (Nat.le_of_ble_eq_true rfl) ?_
  rintro _ _ ⟨e_, rfl⟩ -
  rw [e_]
  clear e_
  refine AW_if_eq (tgt := 29) dX6_inNone_8 (by decide) (fun c_8 => ?_) (fun c_8 => ?_)
  · skip
    replace c_8 := bz0 c_8
    exact absurd hs c_8
  · skip
    replace c_8 := bz1 c_8
    refine AW_aload_n dX6_inNone_11 rfl ?_
    refine AW_getR (a := 17) dX6_inNone_12 gfX6_24 (hS.cel rfl) (hS.rf rfl) ?_
    refine AW_iload_n dX6_inNone_15 rfl ?_
    refine AW_callV1 (d' := d - 1) dX6_inNone_16 (Or.inl lkX6_40) mfX3_count (hS.cel rfl) ⟨_, rfl, rfl⟩ (k_count (by omega) hS hR side) (by omega) (Nat.le_of_ble_eq_true rfl) ?_
    rintro _ _ ⟨e_, rfl⟩ -
    rw [e_]
    clear e_
    rw [if_pos hs]
    refine AW_aload_n dX6_inNone_19 rfl ?_
    refine AW_getR (a := 25) dX6_inNone_20 gfX6_17 (hS.cel rfl) (hS.rf rfl) ?_
    refine AW_iload_n dX6_inNone_23 rfl ?_
    refine AW_iald dX6_inNone_24 (hS.cel rfl) (by omega) (by omega) ?_
    refine AW_isubE dX6_inNone_25 (by omega) (by omega) ?_
    refine AW_goto (tgt := 30) dX6_inNone_26 (by decide) ?_
    refine AW_iret dX6_inNone_30 rfl ?_
    exact ⟨rfl, rfl⟩
/-- the number in column c of CLASS k: 0, 1 the last SORTS, 2, 3 WAITING of SIDE 0's choice, 4, 5 of SIDE 1's -/
def clCol (D : Mk) (k c : Nat) : Int := match c with
  | 0 => (chT D 0 (clA D k).1).1
  | 1 => (chT D 1 (clA D k).2).1
  | 2 => (chT D 1 (clA D k).2).2.1
  | 3 => (chT D 1 (clA D k).2).2.2
  | 4 => (chT D 0 (clA D k).1).2.1
  | _ => (chT D 0 (clA D k).1).2.2
def clLeft (D : Mk) (m s : Nat) : Int := D 0 s - (if s = 0 then ((clA D m).1 : Int) else ((clA D m).2 : Int))
/-- what classes(k, what) answers -/
def clAns (D : Mk) (k what : Int) (z : Int) : Prop := (¬ (0 ≤ what ∧ what ≤ 8) ∧ z = -10000000) ∨ ((0 ≤ what ∧ what ≤ 8) ∧ ((¬ (fallsP D 0 ∧ fallsP D 1) ∧ z = if what = 0 then -1 else -10000000) ∨ ((fallsP D 0 ∧ fallsP D 1) ∧ ∃ m, isCnt D m ∧ m ≤ 6 ∧ z = if what = 0 then (m : Int) else if 7 ≤ what then clLeft D m (what - 7).toNat else if 0 ≤ k ∧ k < m then clCol D k.toNat (what - 1).toNat else -10000000)))
theorem clAns_one {D : Mk} {k what z z' : Int} (h : clAns D k what z) (h' : clAns D k what z') : z = z' := by
  rcases h with ⟨a1, a2⟩ | ⟨a1, ⟨a2, a3⟩ | ⟨a2, m, a3, a5, a4⟩⟩ <;> rcases h' with ⟨b1, b2⟩ | ⟨b1, ⟨b2, b3⟩ | ⟨b2, m', b3, b5, b4⟩⟩
  · rw [a2, b2]
  · exact absurd b1 a1
  · exact absurd b1 a1
  · exact absurd a1 b1
  · rw [a3, b3]
  · exact absurd b2 a2
  · exact absurd a1 b1
  · exact absurd a2 b2
  · rw [a4, b4, isCnt_one a3 b3]
theorem cnt_six {D : Mk} (hW : WFm D) {m : Nat} (h : ∀ k, k < m → clOk D k) : m ≤ 6 := by
  have := clA_in hW m h
  have h0 := hW.1 0 (by decide)
  omega
theorem rows_col {D : Mk} {σ : St} {m k c : Nat} (h : rowsOK D σ m) (hk : k < m) (hc : c < 6) : σ.2.1 24 (6 * k + c) = clCol D k c := by
  obtain ⟨h0, h1, h2, h3, h4, h5⟩ := h k hk
  rcases (show c = 0 ∨ c = 1 ∨ c = 2 ∨ c = 3 ∨ c = 4 ∨ c = 5 by omega) with rfl | rfl | rfl | rfl | rfl | rfl <;> assumption
theorem x_classes {G : Gt} {d : Nat} {σ : St} (hd : 6 ≤ d) {D : Mk} (hS : Sta σ) (hR : RepC D σ) (hW : WFm D) (hC : rkC D σ) (k what : Int)  : AM mX11_classes G d 0 0 [vR 16, vI k, vI what] σ (fun ro ρ => ∃ z : Int, ro = some (vI z) ∧ clAns D k what z ∧ rkC D ρ ∧ Fo 23 [3, 4, 5, 6, 7, 8] [24, 25] σ ρ) := by
  refine AM.intro (by decide +kernel) (by simp [nLg]) (Nat.le_of_ble_eq_true rfl) (fun hO => ?_)
  have i_k : -2147483648 ≤ k ∧ k < 2147483648 := hO (vI k) (by simp)
  have i_what : -2147483648 ≤ what ∧ what < 2147483648 := hO (vI what) (by simp)
  show AW _ _ _ _ _ _ 0 [some (vR 16), some (vI k), some (vI what)] [] σ
  refine AW_iload_n dX11_classes_0 rfl ?_
  refine AW_if_lt (tgt := 10) dX11_classes_1 (by decide) (fun c_1 => ?_) (fun c_1 => ?_)
  · skip
    refine AW_ldc (-10000000) dX11_classes_10 ctX11_100 ?_
    refine AW_iret dX11_classes_12 rfl ?_
    exact ⟨_, rfl, Or.inl ⟨by omega, rfl⟩, hC, Fo.rf⟩
  · skip
    refine AW_iload_n dX11_classes_4 rfl ?_
    refine AW_bipush dX11_classes_5 ?_
    refine AW_icmp_le (tgt := 13) dX11_classes_7 (by decide) (fun c_7 => ?_) (fun c_7 => ?_)
    · skip
      refine AW_aload_n dX11_classes_13 rfl ?_
      refine AW_getR (a := 23) dX11_classes_14 gfX11_21 (hS.cel rfl) (hS.rf rfl) ?_
      refine AW_callV0 (d' := d - 1) dX11_classes_17 (Or.inl lkX11_101) mfX6_refresh (hS.cel rfl) ⟨_, rfl, rfl⟩ (k_rkref (by omega) hS hR hW hC) (by omega) (Nat.le_of_ble_eq_true rfl) ?_
      rintro _ ρ1 ⟨rfl, hK, hv1, hF⟩ -
      have hS1 := hF.sta hS
      have hR1 := hR.fr hF.1
      have hz : ρ1.2.1 23 5 = 0 ∨ ρ1.2.1 23 5 = 1 := by
        rcases hK with q | q
        · exact Or.inr q.2.1
        · exact Or.inl q.2
      refine AW_iload_n dX11_classes_20 rfl ?_
      refine AW_if_ne (tgt := 46) dX11_classes_21 (by decide) (fun c_21 => ?_) (fun c_21 => ?_)
      · skip
        refine AW_aload_n dX11_classes_46 rfl ?_
        refine AW_getR (a := 23) dX11_classes_47 gfX11_21 (hS1.cel rfl) (hS1.rf rfl) ?_
        refine AW_callV0 (d' := d - 1) dX11_classes_50 (Or.inl lkX11_104) mfX6_falling (hS1.cel rfl) ⟨_, rfl, rfl⟩ (k_rkfall hS1 hz) (by omega) (Nat.le_of_ble_eq_true rfl) ?_
        rintro _ _ ⟨e_, rfl⟩ -
        rw [e_]
        clear e_
        refine AW_if_ne (tgt := 59) dX11_classes_53 (by decide) (fun c_53 => ?_) (fun c_53 => ?_)
        · skip
          obtain ⟨hfl, m, hm1, hm2⟩ : (fallsP D 0 ∧ fallsP D 1) ∧ ∃ m, isCnt D m ∧ rkI D ρ1 m := by
            rcases hK with q | q
            · exact ⟨q.1, q.2.2⟩
            · exact absurd q.2 c_53
          have hm6 := cnt_six hW hm1.1
          have hcl := clA_in hW m hm1.1
          have hb0 := hW.1 0 (by decide)
          have hb1 := hW.1 1 (by decide)
          refine AW_iload_n dX11_classes_59 rfl ?_
          refine AW_bipush dX11_classes_60 ?_
          refine AW_icmp_lt (tgt := 77) dX11_classes_62 (by decide) (fun c_62 => ?_) (fun c_62 => ?_)
          · skip
            refine AW_iload_n dX11_classes_77 rfl ?_
            refine AW_if_lt (tgt := 106) dX11_classes_78 (by decide) (fun c_78 => ?_) (fun c_78 => ?_)
            · skip
              refine AW_ldc (-10000000) dX11_classes_106 ctX11_100 ?_
              refine AW_iret dX11_classes_108 rfl ?_
              refine ⟨_, rfl, Or.inr ⟨by omega, Or.inr ⟨hfl, m, hm1, hm6, ?_⟩⟩, (⟨by omega, fun _ => hK⟩ : rkC D ρ1), hF⟩
              have e4 := hm2.1
              first
              | (rw [if_pos (show 0 ≤ k ∧ k < (m : Int) ∧ 0 ≤ what - 1 ∧ what - 1 < 6 by omega), if_neg (by omega), if_neg (by omega), if_pos (by omega)]; exact rows_col hm2.2.2.2.1 (by omega) (by omega))
              | (rw [if_neg (by omega), if_neg (by omega), if_neg (by omega)]; done)
            · skip
              refine AW_iload_n dX11_classes_81 rfl ?_
              refine AW_aload_n dX11_classes_82 rfl ?_
              refine AW_getR (a := 23) dX11_classes_83 gfX11_21 (hS1.cel rfl) (hS1.rf rfl) ?_
              refine AW_callV0 (d' := d - 1) dX11_classes_86 (Or.inl lkX11_108) mfX6_count (hS1.cel rfl) ⟨_, rfl, rfl⟩ (k_rkcount hS1) (by omega) (Nat.le_of_ble_eq_true rfl) ?_
              rintro _ _ ⟨e_, rfl⟩ -
              rw [e_]
              clear e_
              refine AW_icmp_ge (tgt := 106) dX11_classes_89 (by decide) (fun c_89 => ?_) (fun c_89 => ?_)
              · skip
                refine AW_ldc (-10000000) dX11_classes_106 ctX11_100 ?_
                refine AW_iret dX11_classes_108 rfl ?_
                refine ⟨_, rfl, Or.inr ⟨by omega, Or.inr ⟨hfl, m, hm1, hm6, ?_⟩⟩, (⟨by omega, fun _ => hK⟩ : rkC D ρ1), hF⟩
                have e4 := hm2.1
                first
                | (rw [if_pos (show 0 ≤ k ∧ k < (m : Int) ∧ 0 ≤ what - 1 ∧ what - 1 < 6 by omega), if_neg (by omega), if_neg (by omega), if_pos (by omega)]; exact rows_col hm2.2.2.2.1 (by omega) (by omega))
                | (rw [if_neg (by omega), if_neg (by omega), if_neg (by omega)]; done)
              · skip
                refine AW_aload_n dX11_classes_92 rfl ?_
                refine AW_getR (a := 23) dX11_classes_93 gfX11_21 (hS1.cel rfl) (hS1.rf rfl) ?_
                refine AW_iload_n dX11_classes_96 rfl ?_
                refine AW_iload_n dX11_classes_97 rfl ?_
                refine AW_iconst dX11_classes_98 ?_
                refine AW_isubE dX11_classes_99 (by omega) (by omega) ?_
                refine AW_callV2 (d' := d - 1) dX11_classes_100 (Or.inl lkX11_115) mfX6_detail (hS1.cel rfl) ⟨_, rfl, rfl⟩ (k_detail hS1 hm2.1 hm6 k (what - 1)) (by omega) (Nat.le_of_ble_eq_true rfl) ?_
                rintro _ _ ⟨e_, rfl⟩ -
                rw [e_]
                clear e_
                refine AW_goto (tgt := 108) dX11_classes_103 (by decide) ?_
                refine AW_iret dX11_classes_108 rfl ?_
                refine ⟨_, rfl, Or.inr ⟨by omega, Or.inr ⟨hfl, m, hm1, hm6, ?_⟩⟩, (⟨by omega, fun _ => hK⟩ : rkC D ρ1), hF⟩
                have e4 := hm2.1
                first
                | (rw [if_pos (show 0 ≤ k ∧ k < (m : Int) ∧ 0 ≤ what - 1 ∧ what - 1 < 6 by omega), if_neg (by omega), if_neg (by omega), if_pos (by omega)]; exact rows_col hm2.2.2.2.1 (by omega) (by omega))
                | (rw [if_neg (by omega), if_neg (by omega), if_neg (by omega)]; done)
          · skip
            refine AW_aload_n dX11_classes_65 rfl ?_
            refine AW_getR (a := 23) dX11_classes_66 gfX11_21 (hS1.cel rfl) (hS1.rf rfl) ?_
            refine AW_iload_n dX11_classes_69 rfl ?_
            refine AW_bipush dX11_classes_70 ?_
            refine AW_isubE dX11_classes_72 (by omega) (by omega) ?_
            have hx : ∀ s, s < 2 → 0 ≤ ρ1.2.1 25 s ∧ ρ1.2.1 25 s ≤ 6 := by
              intro s hs
              rcases (show s = 0 ∨ s = 1 by omega) with rfl | rfl
              · rw [hm2.2.1]; omega
              · rw [hm2.2.2.1]; omega
            refine AW_callV1 (d' := d - 1) dX11_classes_73 (Or.inl lkX11_111) mfX6_inNone (hS1.cel rfl) ⟨_, rfl, rfl⟩ (k_inNone (by omega) hS1 hR1 hW hx (what - 7) (by omega)) (by omega) (Nat.le_of_ble_eq_true rfl) ?_
            rintro _ _ ⟨e_, rfl⟩ -
            rw [e_]
            clear e_
            refine AW_iret dX11_classes_76 rfl ?_
            refine ⟨_, rfl, Or.inr ⟨by omega, Or.inr ⟨hfl, m, hm1, hm6, ?_⟩⟩, (⟨by omega, fun _ => hK⟩ : rkC D ρ1), hF⟩
            rw [if_neg (by omega), if_pos (by omega)]
            unfold clLeft
            rcases (show what = 7 ∨ what = 8 by omega) with rfl | rfl
            · rw [show Int.toNat (7 - 7) = 0 from rfl, if_pos rfl, hm2.2.1]
            · rw [show Int.toNat (8 - 7) = 1 from rfl, if_neg (by decide), hm2.2.2.1]
        · skip
          have hnf : ¬ (fallsP D 0 ∧ fallsP D 1) := by
            rcases hK with q | q
            · rw [q.2.1] at c_53
              exact absurd c_53 (by decide)
            · exact q.1
          refine AW_ldc (-10000000) dX11_classes_56 ctX11_100 ?_
          refine AW_iret dX11_classes_58 rfl ?_
          exact ⟨_, rfl, Or.inr ⟨by omega, Or.inl ⟨hnf, by rw [if_neg (by omega)]⟩⟩, (⟨by omega, fun _ => hK⟩ : rkC D ρ1), hF⟩
      · skip
        refine AW_aload_n dX11_classes_24 rfl ?_
        refine AW_getR (a := 23) dX11_classes_25 gfX11_21 (hS1.cel rfl) (hS1.rf rfl) ?_
        refine AW_callV0 (d' := d - 1) dX11_classes_28 (Or.inl lkX11_104) mfX6_falling (hS1.cel rfl) ⟨_, rfl, rfl⟩ (k_rkfall hS1 hz) (by omega) (Nat.le_of_ble_eq_true rfl) ?_
        rintro _ _ ⟨e_, rfl⟩ -
        rw [e_]
        clear e_
        refine AW_if_eq (tgt := 44) dX11_classes_31 (by decide) (fun c_31 => ?_) (fun c_31 => ?_)
        · skip
          have hnf : ¬ (fallsP D 0 ∧ fallsP D 1) := by
            rcases hK with q | q
            · rw [q.2.1] at c_31
              exact absurd c_31 (by decide)
            · exact q.1
          refine AW_iconst dX11_classes_44 ?_
          refine AW_iret dX11_classes_45 rfl ?_
          first
          | exact ⟨_, rfl, Or.inr ⟨by omega, Or.inl ⟨hnf, by rw [if_pos (by omega)]⟩⟩, (⟨by omega, fun _ => hK⟩ : rkC D ρ1), hF⟩
          | exact ⟨_, rfl, Or.inr ⟨by omega, Or.inr ⟨hfl, m, hm1, hm6, by rw [if_pos (by omega), hm2.1]⟩⟩, (⟨by omega, fun _ => hK⟩ : rkC D ρ1), hF⟩
        · skip
          obtain ⟨hfl, m, hm1, hm2⟩ : (fallsP D 0 ∧ fallsP D 1) ∧ ∃ m, isCnt D m ∧ rkI D ρ1 m := by
            rcases hK with q | q
            · exact ⟨q.1, q.2.2⟩
            · exact absurd q.2 c_31
          have hm6 := cnt_six hW hm1.1
          have hcl := clA_in hW m hm1.1
          have hb0 := hW.1 0 (by decide)
          have hb1 := hW.1 1 (by decide)
          refine AW_aload_n dX11_classes_34 rfl ?_
          refine AW_getR (a := 23) dX11_classes_35 gfX11_21 (hS1.cel rfl) (hS1.rf rfl) ?_
          refine AW_callV0 (d' := d - 1) dX11_classes_38 (Or.inl lkX11_108) mfX6_count (hS1.cel rfl) ⟨_, rfl, rfl⟩ (k_rkcount hS1) (by omega) (Nat.le_of_ble_eq_true rfl) ?_
          rintro _ _ ⟨e_, rfl⟩ -
          rw [e_]
          clear e_
          refine AW_goto (tgt := 45) dX11_classes_41 (by decide) ?_
          refine AW_iret dX11_classes_45 rfl ?_
          first
          | exact ⟨_, rfl, Or.inr ⟨by omega, Or.inl ⟨hnf, by rw [if_pos (by omega)]⟩⟩, (⟨by omega, fun _ => hK⟩ : rkC D ρ1), hF⟩
          | exact ⟨_, rfl, Or.inr ⟨by omega, Or.inr ⟨hfl, m, hm1, hm6, by rw [if_pos (by omega), hm2.1]⟩⟩, (⟨by omega, fun _ => hK⟩ : rkC D ρ1), hF⟩
    · skip
      refine AW_ldc (-10000000) dX11_classes_10 ctX11_100 ?_
      refine AW_iret dX11_classes_12 rfl ?_
      exact ⟨_, rfl, Or.inl ⟨by omega, rfl⟩, hC, Fo.rf⟩
