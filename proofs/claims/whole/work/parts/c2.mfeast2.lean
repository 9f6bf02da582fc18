theorem ln_fe2 {G : Gt} {d : Nat} {σ : St} {n0 : Int} (hS0 : Sta σ) : ∀ (nn : Nat) (m i : Nat) (τ : St), m < nn → i + m = 7 → Fm [] [126] σ τ → (∀ x, x < i → τ.2.1 126 x = 0) →  AW mX12_feast G d 0 0 (mq G (fun ro ρ => ro = some (vI 1) ∧ Fm [65] [126] σ ρ ∧ (∀ x, x < 7 → ρ.2.1 126 x = 0) ∧ ρ.2.1 94 65 = 0)) 46 [some (vR 94), some (vI n0), some (vI (i : Int))] [] τ := by
  intro nn
  induction nn with
  | zero => intros; omega
  | succ nn ih =>
    intro m i τ hn hi hF hq
    have hS := hF.sta hS0
    refine AW_iload_n dX12_feast_46 rfl ?_
    refine AW_bipush dX12_feast_47 ?_
    refine AW_icmp_ge (tgt := 65) dX12_feast_49 (by decide) (fun c_49 => ?_) (fun c_49 => ?_)
    · skip
      have hm : i = 7 := by omega
      subst hm
      refine AW_aload_n dX12_feast_65 rfl ?_
      refine AW_iconst dX12_feast_66 ?_
      refine AW_putZ dX12_feast_67 (Or.inl pfX12_380) (hS.cel rfl) (by decide) ?_
      refine AW_iconst dX12_feast_70 ?_
      refine AW_zret dX12_feast_71 rfl (by decide) ?_
      exact ⟨rfl, (hF.mo (by decide) (by decide)).uf (by decide) _, fun x hx => by rw [up_r _ _ _ _ (by decide)]; exact hq x hx, up_at _ _ _ _⟩
    · skip
      obtain ⟨m1, rfl⟩ : ∃ m1, m = m1 + 1 := ⟨m - 1, by omega⟩
      refine AW_aload_n dX12_feast_52 rfl ?_
      refine AW_getR (a := 126) dX12_feast_53 gfX12_123 (hS.cel rfl) (hS.rf rfl) ?_
      refine AW_iload_n dX12_feast_56 rfl ?_
      refine AW_iconst dX12_feast_57 ?_
      refine AW_iast dX12_feast_58 (hS.cel rfl) (by omega) (by omega) ?_
      refine AW_iincE2 dX12_feast_59 (by omega) (by omega) ?_
      refine AW_goto (tgt := 46) dX12_feast_62 (by decide) ?_
      rw [show (i : Int) + 1 = ((i + 1 : Nat) : Int) by omega, Int.toNat_natCast]
      refine ih m1 (i + 1) _ (by omega) (by omega) (hF.ua (by decide) (by decide) _ _) (fun x hx => ?_)
      rw [up_if]
      by_cases hc : x = i
      · rw [if_pos ⟨rfl, hc⟩]
      · rw [if_neg (fun q => hc q.2), hq x (by omega)]
theorem ln_fe1 {G : Gt} {d : Nat} {σ : St} {n0 : Int} (hS0 : Sta σ) : ∀ (nn : Nat) (m i : Nat) (τ : St), m < nn → i + m = 98 → Fm [] [125] σ τ → (∀ x, x < i → τ.2.1 125 x = 0) →  AW mX12_feast G d 0 0 (mq G (fun ro ρ => ro = some (vI 1) ∧ Fm [65] [125, 126] σ ρ ∧ (∀ x, x < 98 → ρ.2.1 125 x = 0) ∧ (∀ x, x < 7 → ρ.2.1 126 x = 0) ∧ ρ.2.1 94 65 = 0)) 25 [some (vR 94), some (vI n0), some (vI (i : Int))] [] τ := by
  intro nn
  induction nn with
  | zero => intros; omega
  | succ nn ih =>
    intro m i τ hn hi hF hq
    have hS := hF.sta hS0
    refine AW_iload_n dX12_feast_25 rfl ?_
    refine AW_bipush dX12_feast_26 ?_
    refine AW_icmp_ge (tgt := 44) dX12_feast_28 (by decide) (fun c_28 => ?_) (fun c_28 => ?_)
    · skip
      have hm : i = 98 := by omega
      subst hm
      refine AW_iconst dX12_feast_44 ?_
      refine AW_istore2 dX12_feast_45 ?_
      refine AW_mq (fun r ρ q => ⟨q.1, (hF.mo (by decide) (by decide)).tr (q.2.1.mo (by decide) (by decide)), fun x hx => (q.2.1.a 125 x).trans (hq x hx), q.2.2⟩) (ln_fe2 hS 8 7 0 τ (by omega) (by omega) Fm.rf (fun x hx => absurd hx (Nat.not_lt_zero x)))
    · skip
      obtain ⟨m1, rfl⟩ : ∃ m1, m = m1 + 1 := ⟨m - 1, by omega⟩
      refine AW_aload_n dX12_feast_31 rfl ?_
      refine AW_getR (a := 125) dX12_feast_32 gfX12_120 (hS.cel rfl) (hS.rf rfl) ?_
      refine AW_iload_n dX12_feast_35 rfl ?_
      refine AW_iconst dX12_feast_36 ?_
      refine AW_iast dX12_feast_37 (hS.cel rfl) (by omega) (by omega) ?_
      refine AW_iincE2 dX12_feast_38 (by omega) (by omega) ?_
      refine AW_goto (tgt := 25) dX12_feast_41 (by decide) ?_
      rw [show (i : Int) + 1 = ((i + 1 : Nat) : Int) by omega, Int.toNat_natCast]
      refine ih m1 (i + 1) _ (by omega) (by omega) (hF.ua (by decide) (by decide) _ _) (fun x hx => ?_)
      rw [up_if]
      by_cases hc : x = i
      · rw [if_pos ⟨rfl, hc⟩]
      · rw [if_neg (fun q => hc q.2), hq x (by omega)]
theorem m_feast {G : Gt} {d : Nat} {σ : St} (hd : 1 ≤ d) (hS : Sta σ) (n0 : Int)  : AM mX12_feast G d 0 0 [vR 94, vI n0] σ (fun ro ρ => ∃ z : Int, ro = some (vI z) ∧ ((¬ (1 ≤ n0 ∧ n0 ≤ 7) ∧ z = 0 ∧ Fm [0] [] σ ρ) ∨ ((1 ≤ n0 ∧ n0 ≤ 7) ∧ z = 1 ∧ FeM n0.toNat (fun _ => 0) ρ ∧ PrM (fun _ => 0) ρ ∧ Fm [0, 62, 65] [125, 126] σ ρ))) := by
  refine AM.intro (by decide +kernel) (by simp [nLg]) (Nat.le_of_ble_eq_true rfl) (fun hO => ?_)
  have i_n0 : -2147483648 ≤ n0 ∧ n0 < 2147483648 := hO (vI n0) (by simp)
  show AW _ _ _ _ _ _ 0 [some (vR 94), some (vI n0), none] [] σ
  refine AW_aload_n dX12_feast_0 rfl ?_
  refine AW_iconst dX12_feast_1 ?_
  refine AW_putI dX12_feast_2 (Or.inl pfX12_142) (hS.cel rfl) ?_
  have hF1 : Fm [0] [] σ (upI σ 94 0 0) := Fm.rf.uf (by decide) _
  have hS1 : Sta (upI σ 94 0 0) := hS
  generalize upI σ 94 0 0 = σ1 at hF1 hS1 ⊢
  refine AW_aload_n dX12_feast_5 rfl ?_
  refine AW_iload_n dX12_feast_6 rfl ?_
  refine AW_iconst dX12_feast_7 ?_
  refine AW_bipush dX12_feast_8 ?_
  refine AW_callV3 (d' := d - 1) dX12_feast_10 (Or.inl lkX12_149) mfX12_isIn (hS1.cel rfl) ⟨_, rfl, rfl⟩ (n_isIn n0 1 7) (by omega) (Nat.le_of_ble_eq_true rfl) ?_
  rintro _ _ ⟨e_, rfl⟩ -
  rw [e_]
  clear e_
  refine AW_if_ne (tgt := 18) dX12_feast_13 (by decide) (fun c_13 => ?_) (fun c_13 => ?_)
  · skip
    replace c_13 := bz1 c_13
    refine AW_aload_n dX12_feast_18 rfl ?_
    refine AW_iload_n dX12_feast_19 rfl ?_
    refine AW_putI dX12_feast_20 (Or.inl pfX12_117) (hS1.cel rfl) ?_
    refine AW_iconst dX12_feast_23 ?_
    refine AW_istore2 dX12_feast_24 ?_
    have hF2 : Fm [62] [] σ1 (upI σ1 94 62 n0) := Fm.rf.uf (by decide) _
    refine AW_mq (fun r ρ q => ?_) (ln_fe1 (hF2.sta hS1) 99 98 0 _ (by omega) (by omega) Fm.rf (fun x hx => absurd hx (Nat.not_lt_zero x)))
    obtain ⟨q1, q2, q3, q4, q5⟩ := q
    refine ⟨1, q1, Or.inr ⟨by omega, rfl, ⟨⟨?_, ⟨by omega, by omega⟩, q3, fun i => ⟨show (0 : Int) ≤ 0 by decide, show (0 : Int) ≤ 99 by decide⟩⟩, Or.inl q5⟩, ⟨q4, fun j => ⟨show (0 : Int) ≤ 0 by decide, show (0 : Int) ≤ 999 by decide⟩⟩, ((hF1.mo (by decide) (by decide)).tr (hF2.mo (by decide) (by decide))).tr (q2.mo (by decide) (by decide))⟩⟩
    rw [q2.f 62, up_at]
    omega
  · skip
    replace c_13 := bz0 c_13
    refine AW_iconst dX12_feast_16 ?_
    refine AW_zret dX12_feast_17 rfl (by decide) ?_
    exact ⟨0, rfl, Or.inl ⟨by omega, rfl, hF1⟩⟩
theorem m_likes {G : Gt} {d : Nat} {σ : St} (hd : 1 ≤ d) {n : Nat} {K : Nat → Int} (hS : Sta σ) (hL : LkM n K σ) (side k j v : Int)  : AM mX12_likes G d 0 0 [vR 94, vI side, vI k, vI j, vI v] σ (fun ro ρ => ∃ z : Int, ro = some (vI z) ∧ ((¬ ((side = 0 ∨ side = 1) ∧ (0 ≤ k ∧ k < n) ∧ (0 ≤ j ∧ j < n) ∧ 0 ≤ v ∧ v ≤ 99) ∧ z = 0 ∧ Fm [0] [] σ ρ) ∨ (((side = 0 ∨ side = 1) ∧ (0 ≤ k ∧ k < n) ∧ (0 ≤ j ∧ j < n) ∧ 0 ≤ v ∧ v ≤ 99) ∧ z = 1 ∧ FeM n (kPut K (49 * side.toNat + 7 * k.toNat + j.toNat) v) ρ ∧ Fm [0, 65] [125] σ ρ))) := by
  refine AM.intro (by decide +kernel) (by simp [nLg]) (Nat.le_of_ble_eq_true rfl) (fun hO => ?_)
  have i_side : -2147483648 ≤ side ∧ side < 2147483648 := hO (vI side) (by simp)
  have i_k : -2147483648 ≤ k ∧ k < 2147483648 := hO (vI k) (by simp)
  have i_j : -2147483648 ≤ j ∧ j < 2147483648 := hO (vI j) (by simp)
  have i_v : -2147483648 ≤ v ∧ v < 2147483648 := hO (vI v) (by simp)
  show AW _ _ _ _ _ _ 0 [some (vR 94), some (vI side), some (vI k), some (vI j), some (vI v)] [] σ
  have h7 := hL.2.1
  refine AW_aload_n dX12_likes_0 rfl ?_
  refine AW_iconst dX12_likes_1 ?_
  refine AW_putI dX12_likes_2 (Or.inl pfX12_142) (hS.cel rfl) ?_
  have hF1 : Fm [0] [] σ (upI σ 94 0 0) := Fm.rf.uf (by decide) _
  have hS1 : Sta (upI σ 94 0 0) := hS
  have hL1 := hL.fm hF1
  generalize upI σ 94 0 0 = σ1 at hF1 hS1 hL1 ⊢
  refine AW_aload_n dX12_likes_5 rfl ?_
  refine AW_iload_n dX12_likes_6 rfl ?_
  refine AW_callV1 (d' := d - 1) dX12_likes_7 (Or.inl lkX12_145) mfX12_isSide (hS1.cel rfl) ⟨_, rfl, rfl⟩ (n_isSide side) (by omega) (Nat.le_of_ble_eq_true rfl) ?_
  rintro _ _ ⟨e_, rfl⟩ -
  rw [e_]
  clear e_
  refine AW_if_eq (tgt := 41) dX12_likes_10 (by decide) (fun c_10 => ?_) (fun c_10 => ?_)
  · skip
    replace c_10 := bz0 c_10
    refine AW_iconst dX12_likes_41 ?_
    refine AW_zret dX12_likes_42 rfl (by decide) ?_
    exact ⟨0, rfl, Or.inl ⟨by omega, rfl, hF1⟩⟩
  · skip
    replace c_10 := bz1 c_10
    refine AW_aload_n dX12_likes_13 rfl ?_
    refine AW_iload_n dX12_likes_14 rfl ?_
    refine AW_callV1 (d' := d - 1) dX12_likes_15 (Or.inl lkX12_383) mfX12_isGuest (hS1.cel rfl) ⟨_, rfl, rfl⟩ (n_isGuest hS1 hL1 k) (by omega) (Nat.le_of_ble_eq_true rfl) ?_
    rintro _ _ ⟨e_, rfl⟩ -
    rw [e_]
    clear e_
    refine AW_if_eq (tgt := 41) dX12_likes_18 (by decide) (fun c_18 => ?_) (fun c_18 => ?_)
    · skip
      replace c_18 := bz0 c_18
      refine AW_iconst dX12_likes_41 ?_
      refine AW_zret dX12_likes_42 rfl (by decide) ?_
      exact ⟨0, rfl, Or.inl ⟨by omega, rfl, hF1⟩⟩
    · skip
      replace c_18 := bz1 c_18
      refine AW_aload_n dX12_likes_21 rfl ?_
      refine AW_iload_n dX12_likes_22 rfl ?_
      refine AW_callV1 (d' := d - 1) dX12_likes_23 (Or.inl lkX12_383) mfX12_isGuest (hS1.cel rfl) ⟨_, rfl, rfl⟩ (n_isGuest hS1 hL1 j) (by omega) (Nat.le_of_ble_eq_true rfl) ?_
      rintro _ _ ⟨e_, rfl⟩ -
      rw [e_]
      clear e_
      refine AW_if_eq (tgt := 41) dX12_likes_26 (by decide) (fun c_26 => ?_) (fun c_26 => ?_)
      · skip
        replace c_26 := bz0 c_26
        refine AW_iconst dX12_likes_41 ?_
        refine AW_zret dX12_likes_42 rfl (by decide) ?_
        exact ⟨0, rfl, Or.inl ⟨by omega, rfl, hF1⟩⟩
      · skip
        replace c_26 := bz1 c_26
        refine AW_aload_n dX12_likes_29 rfl ?_
        refine AW_iload dX12_likes_30 rfl ?_
        refine AW_iconst dX12_likes_32 ?_
        refine AW_bipush dX12_likes_33 ?_
        refine AW_callV3 (d' := d - 1) dX12_likes_35 (Or.inl lkX12_149) mfX12_isIn (hS1.cel rfl) ⟨_, rfl, rfl⟩ (n_isIn v 0 99) (by omega) (Nat.le_of_ble_eq_true rfl) ?_
        rintro _ _ ⟨e_, rfl⟩ -
        rw [e_]
        clear e_
        refine AW_if_ne (tgt := 43) dX12_likes_38 (by decide) (fun c_38 => ?_) (fun c_38 => ?_)
        · skip
          replace c_38 := bz1 c_38
          refine AW_aload_n dX12_likes_43 rfl ?_
          refine AW_getR (a := 125) dX12_likes_44 gfX12_120 (hS1.cel rfl) (hS1.rf rfl) ?_
          refine AW_bipush dX12_likes_47 ?_
          refine AW_iload_n dX12_likes_49 rfl ?_
          refine AW_imulE dX12_likes_50 (by omega) (by omega) ?_
          refine AW_bipush dX12_likes_51 ?_
          refine AW_iload_n dX12_likes_53 rfl ?_
          refine AW_imulE dX12_likes_54 (by omega) (by omega) ?_
          refine AW_iaddE dX12_likes_55 (by omega) (by omega) ?_
          refine AW_iload_n dX12_likes_56 rfl ?_
          refine AW_iaddE dX12_likes_57 (by omega) (by omega) ?_
          refine AW_iload dX12_likes_58 rfl ?_
          have hgd : ((side = 0 ∨ side = 1) ∧ (0 ≤ k ∧ k < n) ∧ (0 ≤ j ∧ j < n) ∧ 0 ≤ v ∧ v ≤ 99) := by omega
          refine AW_iast dX12_likes_60 (hS1.cel rfl) (by omega) (by omega) ?_
          rw [show (49 * side + 7 * k + j).toNat = 49 * side.toNat + 7 * k.toNat + j.toNat by omega]
          refine AW_aload_n dX12_likes_61 rfl ?_
          refine AW_iconst dX12_likes_62 ?_
          refine AW_putZ dX12_likes_63 (Or.inl pfX12_380) (hS1.cel rfl) (by decide) ?_
          refine AW_iconst dX12_likes_66 ?_
          refine AW_zret dX12_likes_67 rfl (by decide) ?_
          refine ⟨1, rfl, Or.inr ⟨hgd, rfl, ⟨⟨?_, hL.2.1, fun i hi => ?_, fun i => ?_⟩, Or.inl (up_at _ _ _ _)⟩, ((hF1.mo (by decide) (by decide)).ua (by decide) (by decide) _ _).uf (by decide) _⟩⟩
          · rw [up_j _ _ _ (by decide), up_r _ _ _ _ (by decide)]; exact hL1.1
          · rw [up_r _ _ _ _ (by decide), up_if]
            unfold kPut
            by_cases hc : i = 49 * side.toNat + 7 * k.toNat + j.toNat
            · rw [if_pos ⟨rfl, hc⟩, if_pos hc]
            · rw [if_neg (fun q => hc q.2), if_neg hc]; exact hL1.2.2.1 i hi
          · unfold kPut
            split
            · exact hgd.2.2.2
            · exact hL.2.2.2 i
        · skip
          replace c_38 := bz0 c_38
          refine AW_iconst dX12_likes_41 ?_
          refine AW_zret dX12_likes_42 rfl (by decide) ?_
          exact ⟨0, rfl, Or.inl ⟨by omega, rfl, hF1⟩⟩
theorem m_price {G : Gt} {d : Nat} {σ : St} (hd : 1 ≤ d) {n : Nat} {K : Nat → Int} (hS : Sta σ) (hL : LkM n K σ) {Q : Nat → Int} (hP : PrM Q σ) (w v : Int)  : AM mX12_price G d 0 0 [vR 94, vI w, vI v] σ (fun ro ρ => ∃ z : Int, ro = some (vI z) ∧ ((¬ ((0 ≤ w ∧ w < n) ∧ 0 ≤ v ∧ v ≤ 999) ∧ z = 0 ∧ Fm [0] [] σ ρ) ∨ (((0 ≤ w ∧ w < n) ∧ 0 ≤ v ∧ v ≤ 999) ∧ z = 1 ∧ PrM (kPut Q w.toNat v) ρ ∧ Fm [0] [126] σ ρ))) := by
  refine AM.intro (by decide +kernel) (by simp [nLg]) (Nat.le_of_ble_eq_true rfl) (fun hO => ?_)
  have i_w : -2147483648 ≤ w ∧ w < 2147483648 := hO (vI w) (by simp)
  have i_v : -2147483648 ≤ v ∧ v < 2147483648 := hO (vI v) (by simp)
  show AW _ _ _ _ _ _ 0 [some (vR 94), some (vI w), some (vI v)] [] σ
  have h7 := hL.2.1
  refine AW_aload_n dX12_price_0 rfl ?_
  refine AW_iconst dX12_price_1 ?_
  refine AW_putI dX12_price_2 (Or.inl pfX12_142) (hS.cel rfl) ?_
  have hF1 : Fm [0] [] σ (upI σ 94 0 0) := Fm.rf.uf (by decide) _
  have hS1 : Sta (upI σ 94 0 0) := hS
  have hL1 := hL.fm hF1
  have hP1 := hP.fm hF1
  generalize upI σ 94 0 0 = σ1 at hF1 hS1 hL1 hP1 ⊢
  refine AW_aload_n dX12_price_5 rfl ?_
  refine AW_iload_n dX12_price_6 rfl ?_
  refine AW_callV1 (d' := d - 1) dX12_price_7 (Or.inl lkX12_383) mfX12_isGuest (hS1.cel rfl) ⟨_, rfl, rfl⟩ (n_isGuest hS1 hL1 w) (by omega) (Nat.le_of_ble_eq_true rfl) ?_
  rintro _ _ ⟨e_, rfl⟩ -
  rw [e_]
  clear e_
  refine AW_if_eq (tgt := 25) dX12_price_10 (by decide) (fun c_10 => ?_) (fun c_10 => ?_)
  · skip
    replace c_10 := bz0 c_10
    refine AW_iconst dX12_price_25 ?_
    refine AW_zret dX12_price_26 rfl (by decide) ?_
    exact ⟨0, rfl, Or.inl ⟨by omega, rfl, hF1⟩⟩
  · skip
    replace c_10 := bz1 c_10
    refine AW_aload_n dX12_price_13 rfl ?_
    refine AW_iload_n dX12_price_14 rfl ?_
    refine AW_iconst dX12_price_15 ?_
    refine AW_sipush dX12_price_16 ?_
    refine AW_callV3 (d' := d - 1) dX12_price_19 (Or.inl lkX12_149) mfX12_isIn (hS1.cel rfl) ⟨_, rfl, rfl⟩ (n_isIn v 0 999) (by omega) (Nat.le_of_ble_eq_true rfl) ?_
    rintro _ _ ⟨e_, rfl⟩ -
    rw [e_]
    clear e_
    refine AW_if_ne (tgt := 27) dX12_price_22 (by decide) (fun c_22 => ?_) (fun c_22 => ?_)
    · skip
      replace c_22 := bz1 c_22
      refine AW_aload_n dX12_price_27 rfl ?_
      refine AW_getR (a := 126) dX12_price_28 gfX12_123 (hS1.cel rfl) (hS1.rf rfl) ?_
      refine AW_iload_n dX12_price_31 rfl ?_
      refine AW_iload_n dX12_price_32 rfl ?_
      refine AW_iast dX12_price_33 (hS1.cel rfl) (by omega) (by omega) ?_
      refine AW_iconst dX12_price_34 ?_
      refine AW_zret dX12_price_35 rfl (by decide) ?_
      refine ⟨1, rfl, Or.inr ⟨by omega, rfl, ⟨fun j hj => ?_, fun j => ?_⟩, (hF1.mo (by decide) (by decide)).ua (by decide) (by decide) _ _⟩⟩
      · rw [up_if]
        unfold kPut
        by_cases hc : j = w.toNat
        · rw [if_pos ⟨rfl, hc⟩, if_pos hc]
        · rw [if_neg (fun q => hc q.2), if_neg hc]; exact hP1.1 j hj
      · unfold kPut
        split
        · omega
        · exact hP.2 j
    · skip
      replace c_22 := bz0 c_22
      refine AW_iconst dX12_price_25 ?_
      refine AW_zret dX12_price_26 rfl (by decide) ?_
      exact ⟨0, rfl, Or.inl ⟨by omega, rfl, hF1⟩⟩
theorem fkR_s (r : Nat → Nat) (k : Nat) : fkR r (k + 1) = if r (k + 1) < r k then fkR r k else k + 1 := rfl
theorem fjR_s (r : Nat → Nat) (v j : Nat) : fjR r v (j + 1) = if r (j + 1) < v then fjR r v j else j + 1 := rfl
theorem rvR_s (f : Nat) (r : Nat → Nat) (a b : Nat) : rvR (f + 1) r a b = if a < b then rvR f (swp r a b) (a + 1) (b - 1) else r := rfl
theorem rvR_0 (f : Nat) (r : Nat → Nat) {a b : Nat} (h : ¬ a < b) : rvR f r a b = r := by
  cases f with
  | zero => rfl
  | succ f => rw [rvR_s, if_neg h]
theorem swp_st {σ : St} {r : Nat → Nat} {n a b : Nat} (h : ∀ i, i < n → σ.2.1 129 i = (r i : Int)) (ha : a < n) (hb : b < n) (hne : a ≠ b) : ∀ i, i < n → (upI (upI σ 129 a (σ.2.1 129 b)) 129 b (σ.2.1 129 a)).2.1 129 i = (swp r a b i : Int) := by
  intro i hi
  rw [up_if, up_if]
  unfold swp
  by_cases h1 : i = a
  · rw [if_neg (fun q => hne (h1.symm.trans q.2)), if_pos ⟨rfl, h1⟩, if_pos h1, h b hb]
  · by_cases h2 : i = b
    · rw [if_pos ⟨rfl, h2⟩, if_neg h1, if_pos h2, h a ha]
    · rw [if_neg (fun q => h2 q.2), if_neg (fun q => h1 q.2), if_neg h1, if_neg h2, h i hi]
theorem ln_nr3 {G : Gt} {d : Nat} {σ : St} {n : Nat} {K : Nat → Int} (hS0 : Sta σ) (hL0 : LkM n K σ) {F : Nat → Nat} {x1 x2 : Option AV} : ∀ (nn : Nat) (f a b : Nat) (s : Nat → Nat) (x3 : Option AV) (τ : St), f < nn → b - a ≤ f → b < n → a ≤ n → (∀ i, i < n → τ.2.1 129 i = (s i : Int)) → rvR f s a b = F → Fm [] [129] σ τ →  AW mX12_nextRow G d 0 0 (mq G (fun ro ρ => ro = some (vI 1) ∧ (∀ i, i < n → ρ.2.1 129 i = (F i : Int)) ∧ Fm [] [129] σ ρ)) 109 [some (vR 94), x1, x2, x3, some (vI (a : Int)), some (vI (b : Int))] [] τ := by
  intro nn
  induction nn with
  | zero => intros; omega
  | succ nn ih =>
    intro f a b s x3 τ hn hf hb ha hs hR hF
    have hS := hF.sta hS0
    have hL := hL0.fm hF
    have h7 := hL.2.1
    refine AW_iload dX12_nextRow_109 rfl ?_
    refine AW_iload dX12_nextRow_111 rfl ?_
    refine AW_icmp_ge (tgt := 161) dX12_nextRow_113 (by decide) (fun c_113 => ?_) (fun c_113 => ?_)
    · skip
      rw [rvR_0 _ _ (by omega)] at hR
      refine AW_iconst dX12_nextRow_161 ?_
      refine AW_zret dX12_nextRow_162 rfl (by decide) ?_
      exact ⟨rfl, fun i hi => by rw [← hR]; exact hs i hi, hF⟩
    · skip
      obtain ⟨f1, rfl⟩ : ∃ f1, f = f1 + 1 := ⟨f - 1, by omega⟩
      rw [rvR_s, if_pos (by omega)] at hR
      refine AW_aload_n dX12_nextRow_116 rfl ?_
      refine AW_getR (a := 129) dX12_nextRow_117 gfX12_133 (hS.cel rfl) (hS.rf rfl) ?_
      refine AW_iload dX12_nextRow_120 rfl ?_
      refine AW_iald dX12_nextRow_122 (hS.cel rfl) (by omega) (by omega) ?_
      refine AW_istore3 dX12_nextRow_123 ?_
      refine AW_aload_n dX12_nextRow_124 rfl ?_
      refine AW_getR (a := 129) dX12_nextRow_125 gfX12_133 (hS.cel rfl) (hS.rf rfl) ?_
      refine AW_iload dX12_nextRow_128 rfl ?_
      refine AW_aload_n dX12_nextRow_130 rfl ?_
      refine AW_getR (a := 129) dX12_nextRow_131 gfX12_133 (hS.cel rfl) (hS.rf rfl) ?_
      refine AW_iload dX12_nextRow_134 rfl ?_
      refine AW_iald dX12_nextRow_136 (hS.cel rfl) (by omega) (by omega) ?_
      refine AW_iast dX12_nextRow_137 (hS.cel rfl) (by omega) (by omega) ?_
      refine AW_aload_n dX12_nextRow_138 rfl ?_
      refine AW_getR (a := 129) dX12_nextRow_139 gfX12_133 (hS.cel rfl) (hS.rf rfl) ?_
      refine AW_iload dX12_nextRow_142 rfl ?_
      refine AW_iload_n dX12_nextRow_144 rfl ?_
      refine AW_iast dX12_nextRow_145 (hS.cel rfl) (by omega) (by omega) ?_
      refine AW_iload dX12_nextRow_146 rfl ?_
      refine AW_iconst dX12_nextRow_148 ?_
      refine AW_iaddE dX12_nextRow_149 (by omega) (by omega) ?_
      refine AW_istore4 dX12_nextRow_150 ?_
      refine AW_iload dX12_nextRow_152 rfl ?_
      refine AW_iconst dX12_nextRow_154 ?_
      refine AW_isubE dX12_nextRow_155 (by omega) (by omega) ?_
      refine AW_istore5 dX12_nextRow_156 ?_
      refine AW_goto (tgt := 109) dX12_nextRow_158 (by decide) ?_
      rw [show (a : Int) + 1 = ((a + 1 : Nat) : Int) by omega, show (b : Int) - 1 = ((b - 1 : Nat) : Int) by omega, Int.toNat_natCast, Int.toNat_natCast]
      exact ih f1 (a + 1) (b - 1) _ _ _ (by omega) (by omega) (by omega) (by omega) (swp_st hs (by omega) hb (by omega)) hR ((hF.ua (by decide) (by decide) _ _).ua (by decide) (by decide) _ _)
theorem ln_nr2 {G : Gt} {d : Nat} {σ : St} {n : Nat} {K : Nat → Int} (hS : Sta σ) (hL : LkM n K σ) {l : List Nat} (hRo : ∀ i, i < n → σ.2.1 129 i = (l.getD i 0 : Int)) {k : Nat} (hk1 : k + 1 < n) (hk : fkR (fun i => l.getD i 0) (n - 1) = k + 1) (hup : ¬ l.getD (k + 1) 0 < l.getD k 0) : ∀ (nn : Nat) (j : Nat), j < nn → j < n → k + 1 ≤ j → fjR (fun i => l.getD i 0) (l.getD k 0) (n - 1) = fjR (fun i => l.getD i 0) (l.getD k 0) j →  AW mX12_nextRow G d 0 0 (mq G (fun ro ρ => (nxL n l = none ∧ ro = some (vI 0) ∧ ρ = σ) ∨ (∃ l2, nxL n l = some l2 ∧ ro = some (vI 1) ∧ (∀ i, i < n → ρ.2.1 129 i = (l2.getD i 0 : Int)) ∧ Fm [] [129] σ ρ))) 48 [some (vR 94), some (vI (k : Int)), some (vI (j : Int)), none, none, none] [] σ := by
  intro nn
  induction nn with
  | zero => intros; omega
  | succ nn ih =>
    intro j hn hj hkj he
    have h7 := hL.2.1
    have h62 := hL.1
    obtain ⟨j1, rfl⟩ : ∃ j1, j = j1 + 1 := ⟨j - 1, by omega⟩
    have hvj := hRo (j1 + 1) hj
    have hvk := hRo k (by omega)
    rw [fjR_s] at he
    refine AW_aload_n dX12_nextRow_48 rfl ?_
    refine AW_getR (a := 129) dX12_nextRow_49 gfX12_133 (hS.cel rfl) (hS.rf rfl) ?_
    refine AW_iload_n dX12_nextRow_52 rfl ?_
    refine AW_iald dX12_nextRow_53 (hS.cel rfl) (by omega) (by omega) ?_
    refine AW_aload_n dX12_nextRow_54 rfl ?_
    refine AW_getR (a := 129) dX12_nextRow_55 gfX12_133 (hS.cel rfl) (hS.rf rfl) ?_
    refine AW_iload_n dX12_nextRow_58 rfl ?_
    refine AW_iald dX12_nextRow_59 (hS.cel rfl) (by omega) (by omega) ?_
    refine AW_icmp_ge (tgt := 70) dX12_nextRow_60 (by decide) (fun c_60 => ?_) (fun c_60 => ?_)
    · skip
      rw [Int.toNat_natCast, Int.toNat_natCast, hvj, hvk] at c_60
      rw [if_neg (by omega)] at he
      refine AW_aload_n dX12_nextRow_70 rfl ?_
      refine AW_getR (a := 129) dX12_nextRow_71 gfX12_133 (hS.cel rfl) (hS.rf rfl) ?_
      refine AW_iload_n dX12_nextRow_74 rfl ?_
      refine AW_iald dX12_nextRow_75 (hS.cel rfl) (by omega) (by omega) ?_
      refine AW_istore3 dX12_nextRow_76 ?_
      refine AW_aload_n dX12_nextRow_77 rfl ?_
      refine AW_getR (a := 129) dX12_nextRow_78 gfX12_133 (hS.cel rfl) (hS.rf rfl) ?_
      refine AW_iload_n dX12_nextRow_81 rfl ?_
      refine AW_aload_n dX12_nextRow_82 rfl ?_
      refine AW_getR (a := 129) dX12_nextRow_83 gfX12_133 (hS.cel rfl) (hS.rf rfl) ?_
      refine AW_iload_n dX12_nextRow_86 rfl ?_
      refine AW_iald dX12_nextRow_87 (hS.cel rfl) (by omega) (by omega) ?_
      refine AW_iast dX12_nextRow_88 (hS.cel rfl) (by omega) (by omega) ?_
      refine AW_aload_n dX12_nextRow_89 rfl ?_
      refine AW_getR (a := 129) dX12_nextRow_90 gfX12_133 (hS.cel rfl) (hS.rf rfl) ?_
      refine AW_iload_n dX12_nextRow_93 rfl ?_
      refine AW_iload_n dX12_nextRow_94 rfl ?_
      refine AW_iast dX12_nextRow_95 (hS.cel rfl) (by omega) (by omega) ?_
      refine AW_iload_n dX12_nextRow_96 rfl ?_
      refine AW_iconst dX12_nextRow_97 ?_
      refine AW_iaddE dX12_nextRow_98 (by omega) (by omega) ?_
      refine AW_istore4 dX12_nextRow_99 ?_
      refine AW_aload_n dX12_nextRow_101 rfl ?_
      refine AW_getI dX12_nextRow_102 gfX12_117 (hS.cel rfl) ?_
      rw [up_r _ _ _ _ (by decide), up_r _ _ _ _ (by decide), h62]
      refine AW_iconst dX12_nextRow_105 ?_
      refine AW_isubE dX12_nextRow_106 (by omega) (by omega) ?_
      refine AW_istore5 dX12_nextRow_107 ?_
      rw [show (k : Int) + 1 = ((k + 1 : Nat) : Int) by omega, show (n : Int) - 1 = ((n - 1 : Nat) : Int) by omega, Int.toNat_natCast, Int.toNat_natCast]
      refine AW_mq (fun r ρ q => Or.inr ⟨(List.range n).map (nxF n (fun i => l.getD i 0) k), by unfold nxL; rw [hk], q.1, fun i hi => ?_, q.2.2⟩) (ln_nr3 (F := nxF n (fun i => l.getD i 0) k) hS hL (n + 1) n (k + 1) (n - 1) _ _ _ (by omega) (by omega) (by omega) (by omega) (swp_st (r := (fun i => l.getD i 0)) hRo (show k < n by omega) (show j1 + 1 < n by omega) (by omega)) (by unfold nxF; rw [show ((fun i => l.getD i 0) k) = l.getD k 0 from rfl, he]) ((Fm.rf.ua (by decide) (by decide) _ _).ua (by decide) (by decide) _ _))
      rw [q.2.1 i hi]
      congr 1
      simp [List.getD, hi]
    · skip
      rw [Int.toNat_natCast, Int.toNat_natCast, hvj, hvk] at c_60
      rw [if_pos (by omega)] at he
      have hjk : j1 ≠ k := fun q => hup (by rw [← q]; rw [← q] at c_60; omega)
      refine AW_iload_n dX12_nextRow_63 rfl ?_
      refine AW_iconst dX12_nextRow_64 ?_
      refine AW_isubE dX12_nextRow_65 (by omega) (by omega) ?_
      refine AW_istore2 dX12_nextRow_66 ?_
      refine AW_goto (tgt := 48) dX12_nextRow_67 (by decide) ?_
      rw [show ((j1 + 1 : Nat) : Int) - 1 = (j1 : Int) by omega]
      exact ih j1 (by omega) (by omega) (by omega) he
theorem ln_nr1 {G : Gt} {d : Nat} {σ : St} {n : Nat} {K : Nat → Int} (hS : Sta σ) (hL : LkM n K σ) {l : List Nat} (hRo : ∀ i, i < n → σ.2.1 129 i = (l.getD i 0 : Int)) : ∀ (nn : Nat) (k : Nat), k < nn → k < n → fkR (fun i => l.getD i 0) (n - 1) = fkR (fun i => l.getD i 0) k →  AW mX12_nextRow G d 0 0 (mq G (fun ro ρ => (nxL n l = none ∧ ro = some (vI 0) ∧ ρ = σ) ∨ (∃ l2, nxL n l = some l2 ∧ ro = some (vI 1) ∧ (∀ i, i < n → ρ.2.1 129 i = (l2.getD i 0 : Int)) ∧ Fm [] [129] σ ρ))) 7 [some (vR 94), some (vI ((k : Int) - 1)), none, none, none, none] [] σ := by
  intro nn
  induction nn with
  | zero => intros; omega
  | succ nn ih =>
    intro k hn hk he
    have h7 := hL.2.1
    have h62 := hL.1
    refine AW_iload_n dX12_nextRow_7 rfl ?_
    refine AW_if_lt (tgt := 35) dX12_nextRow_8 (by decide) (fun c_8 => ?_) (fun c_8 => ?_)
    · skip
      have hk0 : k = 0 := by omega
      subst hk0
      refine AW_iload_n dX12_nextRow_35 rfl ?_
      refine AW_if_ge (tgt := 41) dX12_nextRow_36 (by decide) (fun c_36 => ?_) (fun c_36 => ?_)
      · skip
        first
        | (exfalso; omega; done)
        | ( skip
            refine AW_aload_n dX12_nextRow_41 rfl ?_
            refine AW_getI dX12_nextRow_42 gfX12_117 (hS.cel rfl) ?_
            refine AW_iconst dX12_nextRow_45 ?_
            refine AW_isubE dX12_nextRow_46 (by omega) (by omega) ?_
            refine AW_istore2 dX12_nextRow_47 ?_
            rw [h62, show (n : Int) - 1 = ((n - 1 : Nat) : Int) by omega]
            exact ln_nr2 hS hL hRo (by omega) he (by omega) n (n - 1) (by omega) (by omega) (by omega) rfl)
      · skip
        first
        | (exfalso; omega; done)
        | ( skip
            refine AW_iconst dX12_nextRow_39 ?_
            refine AW_zret dX12_nextRow_40 rfl (by decide) ?_
            refine Or.inl ⟨?_, rfl, rfl⟩
            unfold nxL
            rw [he]
            rfl)
    · skip
      obtain ⟨k1, rfl⟩ : ∃ k1, k = k1 + 1 := ⟨k - 1, by omega⟩
      rw [fkR_s] at he
      have hv1 := hRo k1 (by omega)
      have hv2 := hRo (k1 + 1) (by omega)
      rw [show ((k1 + 1 : Nat) : Int) - 1 = (k1 : Int) by omega]
      refine AW_aload_n dX12_nextRow_11 rfl ?_
      refine AW_getR (a := 129) dX12_nextRow_12 gfX12_133 (hS.cel rfl) (hS.rf rfl) ?_
      refine AW_iload_n dX12_nextRow_15 rfl ?_
      refine AW_iald dX12_nextRow_16 (hS.cel rfl) (by omega) (by omega) ?_
      refine AW_aload_n dX12_nextRow_17 rfl ?_
      refine AW_getR (a := 129) dX12_nextRow_18 gfX12_133 (hS.cel rfl) (hS.rf rfl) ?_
      refine AW_iload_n dX12_nextRow_21 rfl ?_
      refine AW_iconst dX12_nextRow_22 ?_
      refine AW_iaddE dX12_nextRow_23 (by omega) (by omega) ?_
      refine AW_iald dX12_nextRow_24 (hS.cel rfl) (by omega) (by omega) ?_
      refine AW_icmp_le (tgt := 35) dX12_nextRow_25 (by decide) (fun c_25 => ?_) (fun c_25 => ?_)
      · skip
        rw [Int.toNat_natCast, show ((k1 : Int) + 1).toNat = k1 + 1 by omega, hv1, hv2] at c_25
        rw [if_neg (by omega)] at he
        refine AW_iload_n dX12_nextRow_35 rfl ?_
        refine AW_if_ge (tgt := 41) dX12_nextRow_36 (by decide) (fun c_36 => ?_) (fun c_36 => ?_)
        · skip
          first
          | (exfalso; omega; done)
          | ( skip
              refine AW_aload_n dX12_nextRow_41 rfl ?_
              refine AW_getI dX12_nextRow_42 gfX12_117 (hS.cel rfl) ?_
              refine AW_iconst dX12_nextRow_45 ?_
              refine AW_isubE dX12_nextRow_46 (by omega) (by omega) ?_
              refine AW_istore2 dX12_nextRow_47 ?_
              rw [h62, show (n : Int) - 1 = ((n - 1 : Nat) : Int) by omega]
              exact ln_nr2 hS hL hRo (by omega) he (by omega) n (n - 1) (by omega) (by omega) (by omega) rfl)
        · skip
          first
          | (exfalso; omega; done)
          | ( skip
              refine AW_iconst dX12_nextRow_39 ?_
              refine AW_zret dX12_nextRow_40 rfl (by decide) ?_
              refine Or.inl ⟨?_, rfl, rfl⟩
              unfold nxL
              rw [he]
              rfl)
      · skip
        rw [Int.toNat_natCast, show ((k1 : Int) + 1).toNat = k1 + 1 by omega, hv1, hv2] at c_25
        rw [if_pos (by omega)] at he
        refine AW_iload_n dX12_nextRow_28 rfl ?_
        refine AW_iconst dX12_nextRow_29 ?_
        refine AW_isubE dX12_nextRow_30 (by omega) (by omega) ?_
        refine AW_istore1 dX12_nextRow_31 ?_
        refine AW_goto (tgt := 7) dX12_nextRow_32 (by decide) ?_
        exact ih k1 (by omega) (by omega) he
theorem n_next {G : Gt} {d : Nat} {σ : St}  {n : Nat} {K : Nat → Int} (hS : Sta σ) (hL : LkM n K σ) {l : List Nat} (hRo : ∀ i, i < n → σ.2.1 129 i = (l.getD i 0 : Int))  : AM mX12_nextRow G d 0 0 [vR 94] σ (fun ro ρ => (nxL n l = none ∧ ro = some (vI 0) ∧ ρ = σ) ∨ (∃ l2, nxL n l = some l2 ∧ ro = some (vI 1) ∧ (∀ i, i < n → ρ.2.1 129 i = (l2.getD i 0 : Int)) ∧ Fm [] [129] σ ρ)) := by
  refine AM.intro (by decide +kernel) (by simp [nLg]) (Nat.le_of_ble_eq_true rfl) (fun hO => ?_)
  show AW _ _ _ _ _ _ 0 [some (vR 94), none, none, none, none, none] [] σ
  have h7 := hL.2.1
  have h62 := hL.1
  refine AW_aload_n dX12_nextRow_0 rfl ?_
  refine AW_getI dX12_nextRow_1 gfX12_117 (hS.cel rfl) ?_
  refine AW_iconst dX12_nextRow_4 ?_
  refine AW_isubE dX12_nextRow_5 (by omega) (by omega) ?_
  refine AW_istore1 dX12_nextRow_6 ?_
  rw [h62, show (n : Int) - 2 = ((n - 1 : Nat) : Int) - 1 by omega]
  exact ln_nr1 hS hL hRo n (n - 1) (by omega) (by omega) rfl
