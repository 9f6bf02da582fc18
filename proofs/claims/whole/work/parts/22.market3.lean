def fallsP (D : Mk) (s : Nat) : Prop := ∀ i : Nat, 1 ≤ i → (i : Int) < D 0 s → D 1 (6 * s + i) ≤ D 1 (6 * s + (i - 1))
theorem l_falls {G : Gt} {d : Nat} {D : Mk} {σ : St} {side : Int} (hd : 2 ≤ d) (hS : Sta σ) (hR : RepC D σ) (hW : WFm D) (hs : side = 0 ∨ side = 1) : ∀ (nn : Nat) (i : Int), ((7 : Int) - i).toNat < nn → 1 ≤ i → i ≤ 6 → (∀ k : Nat, 1 ≤ k → (k : Int) < i → D 1 (6 * side.toNat + k) ≤ D 1 (6 * side.toNat + (k - 1))) →  AW mX3_falls G d 0 0 (mq G (fun ro ρ => ρ = σ ∧ ((ro = some (vI 1) ∧ fallsP D side.toNat) ∨ (ro = some (vI 0) ∧ ¬ fallsP D side.toNat)))) 2 [some (vR 17), some (vI side), some (vI i)] [] σ := by
  intro nn
  induction nn with
  | zero => intros; omega
  | succ nn ih =>
    intro i hn h0 hi hp
    have hb := hW.1 side.toNat (by omega)
    refine AW_iload_n dX3_falls_2 rfl ?_
    refine AW_aload_n dX3_falls_3 rfl ?_
    refine AW_iload_n dX3_falls_4 rfl ?_
    refine AW_callV1 (d' := d - 1) dX3_falls_5 (Or.inl lkX3_57) mfX3_count (hS.cel rfl) ⟨_, rfl, rfl⟩ (k_count (by omega) hS hR side) (by omega) (Nat.le_of_ble_eq_true rfl) ?_
    rintro _ _ ⟨rfl, rfl⟩ -
    rw [if_pos (by omega)]
    refine AW_icmp_ge (tgt := 36) dX3_falls_8 (by decide) (fun c_8 => ?_) (fun c_8 => ?_)
    · skip
      refine AW_iconst dX3_falls_36 ?_
      refine AW_zret dX3_falls_37 rfl (by decide) ?_
      refine ⟨rfl, Or.inl ⟨rfl, fun k h1 h2 => hp k h1 (by omega)⟩⟩
    · skip
      refine AW_aload_n dX3_falls_11 rfl ?_
      refine AW_iload_n dX3_falls_12 rfl ?_
      refine AW_iload_n dX3_falls_13 rfl ?_
      refine AW_callV2 (d' := d - 1) dX3_falls_14 (Or.inl lkX3_61) mfX3_lookOf (hS.cel rfl) ⟨_, rfl, rfl⟩ (k_lookOf (by omega) hS hR hW side i) (by omega) (Nat.le_of_ble_eq_true rfl) ?_
      rintro _ _ ⟨rfl, rfl⟩ -
      refine AW_aload_n dX3_falls_17 rfl ?_
      refine AW_iload_n dX3_falls_18 rfl ?_
      refine AW_iload_n dX3_falls_19 rfl ?_
      refine AW_iconst dX3_falls_20 ?_
      refine AW_isubE dX3_falls_21 (by omega) (by omega) ?_
      refine AW_callV2 (d' := d - 1) dX3_falls_22 (Or.inl lkX3_61) mfX3_lookOf (hS.cel rfl) ⟨_, rfl, rfl⟩ (k_lookOf (by omega) hS hR hW side (i - 1)) (by omega) (Nat.le_of_ble_eq_true rfl) ?_
      rintro _ _ ⟨rfl, rfl⟩ -
      rw [if_pos (by omega), if_pos (by omega)]
      refine AW_icmp_le (tgt := 30) dX3_falls_25 (by decide) (fun c_25 => ?_) (fun c_25 => ?_)
      · skip
        refine AW_iincE2 dX3_falls_30 (by omega) (by omega) ?_
        refine AW_goto (tgt := 2) dX3_falls_33 (by decide) ?_
        exact ih (i + 1) (by omega) (by omega) (by omega) (fun k h1 h2 => by
          by_cases hk : (k : Int) < i
          · exact hp k h1 hk
          · rw [show k = i.toNat by omega]
            rw [show (i - 1).toNat = i.toNat - 1 by omega] at c_25
            exact c_25)
      · skip
        refine AW_iconst dX3_falls_28 ?_
        refine AW_zret dX3_falls_29 rfl (by decide) ?_
        refine ⟨rfl, Or.inr ⟨rfl, fun h => ?_⟩⟩
        have h2 := h i.toNat (by omega) (by omega)
        rw [show (i - 1).toNat = i.toNat - 1 by omega] at c_25
        exact c_25 h2
theorem k_falls {G : Gt} {d : Nat} {σ : St} (hd : 2 ≤ d) {D : Mk} (hS : Sta σ) (hR : RepC D σ) (hW : WFm D) (side : Int) (hs : side = 0 ∨ side = 1)  : AM mX3_falls G d 0 0 [vR 17, vI side] σ (fun r τ => τ = σ ∧ ((r = some (vI 1) ∧ fallsP D side.toNat) ∨ (r = some (vI 0) ∧ ¬ fallsP D side.toNat))) := by
  refine AM.intro (by decide +kernel) (by simp [nLg]) (Nat.le_of_ble_eq_true rfl) (fun hO => ?_)
  have i_side : -2147483648 ≤ side ∧ side < 2147483648 := hO (vI side) (by simp)
  show AW _ _ _ _ _ _ 0 [some (vR 17), some (vI side), none] [] σ
  refine AW_iconst dX3_falls_0 ?_
  refine AW_istore2 dX3_falls_1 ?_
  exact l_falls hd hS hR hW hs 7 1 (by omega) (by omega) (by omega) (fun k h1 h2 => by omega)
theorem l_resize {G : Gt} {d : Nat} {D : Mk} {σ : St} {side n : Int} (hd : 2 ≤ d) (hS : Sta σ) (hR : RepC D σ) (hs : side = 0 ∨ side = 1) (hv : 0 ≤ σ.2.1 17 5 ∧ σ.2.1 17 5 < 1000000) : ∀ (nn : Nat) (i : Int) (τ : St), ((6 : Int) - i).toNat < nn → 0 ≤ i → i ≤ 6 → Fr [18, 19, 20] σ τ → (∀ k : Nat, k < 2 → τ.2.1 18 k = if k = side.toNat then n else D 0 k) ∧ (∀ k : Nat, k < 12 → τ.2.1 19 k = if 6 * side.toNat ≤ k ∧ (k : Int) < 6 * side.toNat + i then 0 else D 1 k) ∧ (∀ k : Nat, k < 12 → τ.2.1 20 k = if 6 * side.toNat ≤ k ∧ (k : Int) < 6 * side.toNat + i then 0 else D 2 k) →  AW mX3_resize G d 0 0 (mq G (fun ro ρ => ro = none ∧ RepC (dSorts D side.toNat n) ρ ∧ ρ.2.1 17 5 = σ.2.1 17 5 + 1 ∧ Fr [17, 18, 19, 20, 21] σ ρ)) 24 [some (vR 17), some (vI side), some (vI n), some (vI (side * 6)), some (vI i)] [] τ := by
  intro nn
  induction nn with
  | zero => intros; omega
  | succ nn ih =>
    intro i τ hm h0 hi hF hp
    refine AW_iload dX3_resize_24 rfl ?_
    refine AW_bipush dX3_resize_26 ?_
    refine AW_icmp_ge (tgt := 57) dX3_resize_28 (by decide) (fun c_28 => ?_) (fun c_28 => ?_)
    · skip
      refine AW_aload_n dX3_resize_57 rfl ?_
      refine AW_getR (a := 21) dX3_resize_58 gfX3_21 ((hF.sta hS).cel rfl) ((hF.sta hS).rf rfl) ?_
      refine AW_iconst dX3_resize_61 ?_
      refine AW_callS2 (d' := d - 1) dX3_resize_62 lkX3_27 mfJ7_fill_53178 (k_fill (v := -1) ((hF.sta hS).cel rfl) (by decide)) (by omega) (Nat.le_of_ble_eq_true rfl) ?_
      rintro _ ρ ⟨rfl, hF2, hfill⟩ -
      have hF3 : Fr [17, 18, 19, 20, 21] σ ρ := (hF.mo (by decide)).tr (hF2.mo (by decide))
      have ev : ρ.2.1 17 5 = σ.2.1 17 5 := by rw [hF2.iv 17 5, hF.iv 17 5]
      refine AW_aload_n dX3_resize_65 rfl ?_
      refine AW_dup dX3_resize_66 ?_
      refine AW_getI dX3_resize_67 gfX3_33 ((hF3.sta hS).cel rfl) ?_
      refine AW_iconst dX3_resize_70 ?_
      refine AW_iaddE dX3_resize_71 (by rw [ev]; omega) (by rw [ev]; omega) ?_
      refine AW_putI dX3_resize_72 (Or.inl pfX3_33) ((hF3.sta hS).cel rfl) ?_
      refine AW_vret dX3_resize_75 rfl ?_
      refine ⟨rfl, ⟨fun k hk => ?_, fun k hk => ?_, fun k hk => ?_, fun k hk => ?_, fun k hk => ?_⟩, ?_, hF3.up (by decide) _ _⟩
      · rw [up_r _ _ _ _ (by decide), hF2.iv 18 k, hp.1 k hk]; rfl
      · rw [up_r _ _ _ _ (by decide), hF2.iv 19 k, hp.2.1 k hk]
        show _ = (if 6 * side.toNat ≤ k ∧ k < 6 * side.toNat + 6 then 0 else D 1 k)
        by_cases hc : 6 * side.toNat ≤ k ∧ k < 6 * side.toNat + 6
        · rw [if_pos hc, if_pos (by omega)]
        · rw [if_neg hc, if_neg (by omega)]
      · rw [up_r _ _ _ _ (by decide), hF2.iv 20 k, hp.2.2 k hk]
        show _ = (if 6 * side.toNat ≤ k ∧ k < 6 * side.toNat + 6 then 0 else D 2 k)
        by_cases hc : 6 * side.toNat ≤ k ∧ k < 6 * side.toNat + 6
        · rw [if_pos hc, if_pos (by omega)]
        · rw [if_neg hc, if_neg (by omega)]
      · rw [up_r _ _ _ _ (by decide), hfill k hk]; rfl
      · rw [up_r _ _ _ _ (by decide), hF2.iv 22 k, hF.iv 22 k, hR.2.2.2.2 k hk]; rfl
      · rw [up_at, ev]
    · skip
      refine AW_aload_n dX3_resize_31 rfl ?_
      refine AW_getR (a := 19) dX3_resize_32 gfX3_15 ((hF.sta hS).cel rfl) ((hF.sta hS).rf rfl) ?_
      refine AW_iload_n dX3_resize_35 rfl ?_
      refine AW_iload dX3_resize_36 rfl ?_
      refine AW_iaddE dX3_resize_38 (by omega) (by omega) ?_
      refine AW_iconst dX3_resize_39 ?_
      refine AW_iast dX3_resize_40 ((hF.sta hS).cel rfl) (by omega) (by omega) ?_
      refine AW_aload_n dX3_resize_41 rfl ?_
      refine AW_getR (a := 20) dX3_resize_42 gfX3_18 ((hF.sta hS).cel rfl) ((hF.sta hS).rf rfl) ?_
      refine AW_iload_n dX3_resize_45 rfl ?_
      refine AW_iload dX3_resize_46 rfl ?_
      refine AW_iaddE dX3_resize_48 (by omega) (by omega) ?_
      refine AW_iconst dX3_resize_49 ?_
      refine AW_iast dX3_resize_50 ((hF.sta hS).cel rfl) (by omega) (by omega) ?_
      refine AW_iincE4 dX3_resize_51 (by omega) (by omega) ?_
      refine AW_goto (tgt := 24) dX3_resize_54 (by decide) ?_
      have e0 : (side * 6 + i).toNat = 6 * side.toNat + i.toNat := by omega
      rw [e0]
      refine ih (i + 1) _ (by omega) (by omega) (by omega) ((hF.up (by decide) _ _).up (by decide) _ _) ⟨fun k hk => ?_, fun k hk => ?_, fun k hk => ?_⟩
      · rw [up_r _ _ _ _ (by decide), up_r _ _ _ _ (by decide)]; exact hp.1 k hk
      · rw [up_r _ _ _ _ (by decide), up_if, hp.2.1 k hk]
        by_cases hc : k = 6 * side.toNat + i.toNat
        · rw [if_pos ⟨rfl, hc⟩, if_pos (by omega)]
        · rw [if_neg (by omega)]
          by_cases hc2 : 6 * side.toNat ≤ k ∧ (k : Int) < 6 * side.toNat + i
          · rw [if_pos hc2, if_pos (by omega)]
          · rw [if_neg hc2, if_neg (by omega)]
      · rw [up_if, up_r _ _ _ _ (by decide), hp.2.2 k hk]
        by_cases hc : k = 6 * side.toNat + i.toNat
        · rw [if_pos ⟨rfl, hc⟩, if_pos (by omega)]
        · rw [if_neg (by omega)]
          by_cases hc2 : 6 * side.toNat ≤ k ∧ (k : Int) < 6 * side.toNat + i
          · rw [if_pos hc2, if_pos (by omega)]
          · rw [if_neg hc2, if_neg (by omega)]
theorem k_resize {G : Gt} {d : Nat} {σ : St} (hd : 2 ≤ d) {D : Mk} (hS : Sta σ) (hR : RepC D σ) (hv : 0 ≤ σ.2.1 17 5 ∧ σ.2.1 17 5 < 1000000) (side n : Int) (hs : side = 0 ∨ side = 1)  : AM mX3_resize G d 0 0 [vR 17, vI side, vI n] σ (fun ro ρ => ro = none ∧ RepC (dSorts D side.toNat n) ρ ∧ ρ.2.1 17 5 = σ.2.1 17 5 + 1 ∧ Fr [17, 18, 19, 20, 21] σ ρ) := by
  refine AM.intro (by decide +kernel) (by simp [nLg]) (Nat.le_of_ble_eq_true rfl) (fun hO => ?_)
  have i_side : -2147483648 ≤ side ∧ side < 2147483648 := hO (vI side) (by simp)
  have i_n : -2147483648 ≤ n ∧ n < 2147483648 := hO (vI n) (by simp)
  show AW _ _ _ _ _ _ 0 [some (vR 17), some (vI side), some (vI n), none, none] [] σ
  refine AW_aload_n dX3_resize_0 rfl ?_
  refine AW_iload_n dX3_resize_1 rfl ?_
  refine AW_callV1 (d' := d - 1) dX3_resize_2 (Or.inl lkX3_37) mfX3_isSide (hS.cel rfl) ⟨_, rfl, rfl⟩ (k_isSide hS side) (by omega) (Nat.le_of_ble_eq_true rfl) ?_
  rintro _ _ ⟨rfl, rfl⟩ -
  refine AW_if_ne (tgt := 9) dX3_resize_5 (by decide) (fun c_5 => ?_) (fun c_5 => ?_)
  · skip
    replace c_5 := bz1 c_5
    refine AW_aload_n dX3_resize_9 rfl ?_
    refine AW_getR (a := 18) dX3_resize_10 gfX3_9 (hS.cel rfl) (hS.rf rfl) ?_
    refine AW_iload_n dX3_resize_13 rfl ?_
    refine AW_iload_n dX3_resize_14 rfl ?_
    refine AW_iast dX3_resize_15 (hS.cel rfl) (by omega) (by omega) ?_
    refine AW_iload_n dX3_resize_16 rfl ?_
    refine AW_bipush dX3_resize_17 ?_
    refine AW_imulE dX3_resize_19 (by omega) (by omega) ?_
    refine AW_istore3 dX3_resize_20 ?_
    refine AW_iconst dX3_resize_21 ?_
    refine AW_istore4 dX3_resize_22 ?_
    refine l_resize hd hS hR hs hv 7 0 _ (by omega) (by omega) (by omega) (Fr.rf.up (by decide) _ _) ⟨fun k hk => ?_, fun k hk => ?_, fun k hk => ?_⟩
    · rw [up_if, hR.1 k hk]
      by_cases hc : k = side.toNat
      · rw [if_pos ⟨rfl, hc⟩, if_pos hc]
      · rw [if_neg (by omega), if_neg hc]
    · rw [up_r _ _ _ _ (by decide), hR.2.1 k hk, if_neg (by omega)]
    · rw [up_r _ _ _ _ (by decide), hR.2.2.1 k hk, if_neg (by omega)]
  · skip
    replace c_5 := bz0 c_5
    exact absurd hs c_5
