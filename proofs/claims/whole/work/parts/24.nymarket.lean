theorem k_ALsize {G : Gt} {d : Nat} {σ : St}  {r : Nat} (hk : Cel σ r (13, 3))  : AM mJx4a65c_size_8abf5 G d 0 0 [(vR r)] σ (fun ro τ => τ = σ ∧ ro = some (vI (σ.2.1 r 2))) := by
  refine AM.intro (by decide +kernel) (by simp [nLg]) (Nat.le_of_ble_eq_true rfl) (fun hO => ?_)
  show AW _ _ _ _ _ _ 0 [some ((vR r))] [] σ
  refine AW_aload_n dJx4a65c_size_8abf5_0 rfl ?_
  refine AW_getI dJx4a65c_size_8abf5_1 gfJx4a65c_48 hk ?_
  refine AW_iret dJx4a65c_size_8abf5_4 rfl ?_
  exact ⟨rfl, rfl⟩
theorem k_folkSize {G : Gt} {d : Nat} {σ : St} (hd : 1 ≤ d) (hS : Sta σ)  : AM mX1_size G d 0 0 [vR 41] σ (fun r τ => τ = σ ∧ r = some (vI (σ.2.1 46 2))) := by
  refine AM.intro (by decide +kernel) (by simp [nLg]) (Nat.le_of_ble_eq_true rfl) (fun hO => ?_)
  show AW _ _ _ _ _ _ 0 [some (vR 41)] [] σ
  refine AW_aload_n dX1_size_0 rfl ?_
  refine AW_getR (a := 46) dX1_size_1 gfX1_25 (hS.cel rfl) (hS.rf rfl) ?_
  refine AW_callV0 (d' := d - 1) dX1_size_4 (Or.inl lkX1_47) mfJx4a65c_size_8abf5 (hS.cel rfl) ⟨_, rfl, rfl⟩ (k_ALsize (hS.cel rfl)) (by omega) (Nat.le_of_ble_eq_true rfl) ?_
  rintro _ _ ⟨rfl, rfl⟩ -
  refine AW_iret dX1_size_7 rfl ?_
  exact ⟨rfl, rfl⟩
theorem x_sorts {G : Gt} {d : Nat} {σ : St} (hd : 3 ≤ d) {D : Mk} (hS : Sta σ) (hR : RepC D σ) (hW : WFm D) (hv : 0 ≤ σ.2.1 17 5 ∧ σ.2.1 17 5 < 1000000) (side n : Int)  : AM mX11_sorts G d 0 0 [vR 16, vI side, vI n] σ (fun ro ρ => (¬ ((side = 0 ∨ side = 1) ∧ 1 ≤ n ∧ n ≤ 6 ∧ σ.2.1 46 2 ≤ 0) ∧ ro = some (vI 0) ∧ ρ = σ) ∨ (((side = 0 ∨ side = 1) ∧ 1 ≤ n ∧ n ≤ 6 ∧ σ.2.1 46 2 ≤ 0) ∧ ro = some (vI 1) ∧ RepC (dSorts D side.toNat n) ρ ∧ ρ.2.1 17 5 = σ.2.1 17 5 + 1 ∧ Fr [17, 18, 19, 20, 21] σ ρ)) := by
  refine AM.intro (by decide +kernel) (by simp [nLg]) (Nat.le_of_ble_eq_true rfl) (fun hO => ?_)
  have i_side : -2147483648 ≤ side ∧ side < 2147483648 := hO (vI side) (by simp)
  have i_n : -2147483648 ≤ n ∧ n < 2147483648 := hO (vI n) (by simp)
  show AW _ _ _ _ _ _ 0 [some (vR 16), some (vI side), some (vI n)] [] σ
  refine AW_aload_n dX11_sorts_0 rfl ?_
  refine AW_getR (a := 17) dX11_sorts_1 gfX11_12 (hS.cel rfl) (hS.rf rfl) ?_
  refine AW_iload_n dX11_sorts_4 rfl ?_
  refine AW_callV1 (d' := d - 1) dX11_sorts_5 (Or.inl lkX11_73) mfX3_isSide (hS.cel rfl) ⟨_, rfl, rfl⟩ (k_isSide hS side) (by omega) (Nat.le_of_ble_eq_true rfl) ?_
  rintro _ _ ⟨rfl, rfl⟩ -
  refine AW_if_eq (tgt := 32) dX11_sorts_8 (by decide) (fun c_8 => ?_) (fun c_8 => ?_)
  · skip
    replace c_8 := bz0 c_8
    refine AW_iconst dX11_sorts_32 ?_
    refine AW_zret dX11_sorts_33 rfl (by decide) ?_
    first | exact Or.inl ⟨by omega, rfl, rfl⟩ | exact Or.inr ⟨by omega, rfl, hR2, hv2, hF⟩
  · skip
    replace c_8 := bz1 c_8
    refine AW_iload_n dX11_sorts_11 rfl ?_
    refine AW_iconst dX11_sorts_12 ?_
    refine AW_icmp_lt (tgt := 32) dX11_sorts_13 (by decide) (fun c_13 => ?_) (fun c_13 => ?_)
    · skip
      refine AW_iconst dX11_sorts_32 ?_
      refine AW_zret dX11_sorts_33 rfl (by decide) ?_
      first | exact Or.inl ⟨by omega, rfl, rfl⟩ | exact Or.inr ⟨by omega, rfl, hR2, hv2, hF⟩
    · skip
      refine AW_iload_n dX11_sorts_16 rfl ?_
      refine AW_bipush dX11_sorts_17 ?_
      refine AW_icmp_gt (tgt := 32) dX11_sorts_19 (by decide) (fun c_19 => ?_) (fun c_19 => ?_)
      · skip
        refine AW_iconst dX11_sorts_32 ?_
        refine AW_zret dX11_sorts_33 rfl (by decide) ?_
        first | exact Or.inl ⟨by omega, rfl, rfl⟩ | exact Or.inr ⟨by omega, rfl, hR2, hv2, hF⟩
      · skip
        refine AW_aload_n dX11_sorts_22 rfl ?_
        refine AW_getR (a := 41) dX11_sorts_23 gfX11_53 (hS.cel rfl) (hS.rf rfl) ?_
        refine AW_callV0 (d' := d - 1) dX11_sorts_26 (Or.inl lkX11_77) mfX1_size (hS.cel rfl) ⟨_, rfl, rfl⟩ (k_folkSize (by omega) hS) (by omega) (Nat.le_of_ble_eq_true rfl) ?_
        rintro _ _ ⟨rfl, rfl⟩ -
        refine AW_if_le (tgt := 34) dX11_sorts_29 (by decide) (fun c_29 => ?_) (fun c_29 => ?_)
        · skip
          refine AW_aload_n dX11_sorts_34 rfl ?_
          refine AW_getR (a := 17) dX11_sorts_35 gfX11_12 (hS.cel rfl) (hS.rf rfl) ?_
          refine AW_iload_n dX11_sorts_38 rfl ?_
          refine AW_iload_n dX11_sorts_39 rfl ?_
          refine AW_callV2 (d' := d - 1) dX11_sorts_40 (Or.inl lkX11_81) mfX3_resize (hS.cel rfl) ⟨_, rfl, rfl⟩ (k_resize (by omega) hS hR hv side n (by omega)) (by omega) (Nat.le_of_ble_eq_true rfl) ?_
          rintro _ ρ ⟨rfl, hR2, hv2, hF⟩ -
          refine AW_iconst dX11_sorts_43 ?_
          refine AW_zret dX11_sorts_44 rfl (by decide) ?_
          first | exact Or.inl ⟨by omega, rfl, rfl⟩ | exact Or.inr ⟨by omega, rfl, hR2, hv2, hF⟩
        · skip
          refine AW_iconst dX11_sorts_32 ?_
          refine AW_zret dX11_sorts_33 rfl (by decide) ?_
          first | exact Or.inl ⟨by omega, rfl, rfl⟩ | exact Or.inr ⟨by omega, rfl, hR2, hv2, hF⟩
theorem x_look {G : Gt} {d : Nat} {σ : St} (hd : 3 ≤ d) {D : Mk} (hS : Sta σ) (hR : RepC D σ) (hW : WFm D) (hv : 0 ≤ σ.2.1 17 5 ∧ σ.2.1 17 5 < 1000000) (side sort look often : Int)  : AM mX11_look G d 0 0 [vR 16, vI side, vI sort, vI look, vI often] σ (fun ro ρ => (¬ (((side = 0 ∨ side = 1) ∧ 0 ≤ sort ∧ sort < D 0 side.toNat) ∧ 0 ≤ look ∧ look ≤ 999 ∧ 0 ≤ often ∧ often ≤ 999 ∧ oSum D side.toNat sort.toNat often 6 ≤ 1000) ∧ ro = some (vI 0) ∧ ρ = σ) ∨ ((((side = 0 ∨ side = 1) ∧ 0 ≤ sort ∧ sort < D 0 side.toNat) ∧ 0 ≤ look ∧ look ≤ 999 ∧ 0 ≤ often ∧ often ≤ 999 ∧ oSum D side.toNat sort.toNat often 6 ≤ 1000) ∧ ro = some (vI 1) ∧ RepC (dLook D (6 * side.toNat + sort.toNat) look often) ρ ∧ ρ.2.1 17 5 = σ.2.1 17 5 + 1 ∧ Fr [17, 19, 20] σ ρ)) := by
  refine AM.intro (by decide +kernel) (by simp [nLg]) (Nat.le_of_ble_eq_true rfl) (fun hO => ?_)
  have i_side : -2147483648 ≤ side ∧ side < 2147483648 := hO (vI side) (by simp)
  have i_sort : -2147483648 ≤ sort ∧ sort < 2147483648 := hO (vI sort) (by simp)
  have i_look : -2147483648 ≤ look ∧ look < 2147483648 := hO (vI look) (by simp)
  have i_often : -2147483648 ≤ often ∧ often < 2147483648 := hO (vI often) (by simp)
  show AW _ _ _ _ _ _ 0 [some (vR 16), some (vI side), some (vI sort), some (vI look), some (vI often)] [] σ
  refine AW_aload_n dX11_look_0 rfl ?_
  refine AW_getR (a := 17) dX11_look_1 gfX11_12 (hS.cel rfl) (hS.rf rfl) ?_
  refine AW_iload_n dX11_look_4 rfl ?_
  refine AW_iload_n dX11_look_5 rfl ?_
  refine AW_callV2 (d' := d - 1) dX11_look_6 (Or.inl lkX11_85) mfX3_isSort (hS.cel rfl) ⟨_, rfl, rfl⟩ (k_isSort hS hR side sort) (by omega) (Nat.le_of_ble_eq_true rfl) ?_
  rintro _ _ ⟨rfl, rfl⟩ -
  refine AW_if_eq (tgt := 36) dX11_look_9 (by decide) (fun c_9 => ?_) (fun c_9 => ?_)
  · skip
    replace c_9 := bz0 c_9
    refine AW_iconst dX11_look_36 ?_
    refine AW_zret dX11_look_37 rfl (by decide) ?_
    exact Or.inl ⟨by omega, rfl, rfl⟩
  · skip
    replace c_9 := bz1 c_9
    refine AW_iload_n dX11_look_12 rfl ?_
    refine AW_if_lt (tgt := 36) dX11_look_13 (by decide) (fun c_13 => ?_) (fun c_13 => ?_)
    · skip
      refine AW_iconst dX11_look_36 ?_
      refine AW_zret dX11_look_37 rfl (by decide) ?_
      exact Or.inl ⟨by omega, rfl, rfl⟩
    · skip
      refine AW_iload_n dX11_look_16 rfl ?_
      refine AW_sipush dX11_look_17 ?_
      refine AW_icmp_gt (tgt := 36) dX11_look_20 (by decide) (fun c_20 => ?_) (fun c_20 => ?_)
      · skip
        refine AW_iconst dX11_look_36 ?_
        refine AW_zret dX11_look_37 rfl (by decide) ?_
        exact Or.inl ⟨by omega, rfl, rfl⟩
      · skip
        refine AW_iload dX11_look_23 rfl ?_
        refine AW_if_lt (tgt := 36) dX11_look_25 (by decide) (fun c_25 => ?_) (fun c_25 => ?_)
        · skip
          refine AW_iconst dX11_look_36 ?_
          refine AW_zret dX11_look_37 rfl (by decide) ?_
          exact Or.inl ⟨by omega, rfl, rfl⟩
        · skip
          refine AW_iload dX11_look_28 rfl ?_
          refine AW_sipush dX11_look_30 ?_
          refine AW_icmp_le (tgt := 38) dX11_look_33 (by decide) (fun c_33 => ?_) (fun c_33 => ?_)
          · skip
            refine AW_aload_n dX11_look_38 rfl ?_
            refine AW_getR (a := 17) dX11_look_39 gfX11_12 (hS.cel rfl) (hS.rf rfl) ?_
            refine AW_iload_n dX11_look_42 rfl ?_
            refine AW_iload_n dX11_look_43 rfl ?_
            refine AW_iload_n dX11_look_44 rfl ?_
            refine AW_iload dX11_look_45 rfl ?_
            refine AW_callV4 (d' := d - 1) dX11_look_47 (Or.inl lkX11_89) mfX3_describe (hS.cel rfl) ⟨_, rfl, rfl⟩ (k_describe (by omega) hS hR hW hv side sort look often (by omega) (by omega) (by omega)) (by omega) (Nat.le_of_ble_eq_true rfl) ?_
            rintro ro ρ h -
            have hr : ∃ z : Int, ro = some (vI z) ∧ (z = 0 ∨ z = 1) := by
              rcases h with h | h
              · exact ⟨0, h.2.1, Or.inl rfl⟩
              · exact ⟨1, h.2.1, Or.inr rfl⟩
            obtain ⟨z, rfl, hz⟩ := hr
            refine AW_zret dX11_look_50 rfl hz ?_
            rcases h with ⟨h1, h2, h3⟩ | ⟨h1, h2⟩
            · exact Or.inl ⟨by omega, h2, h3⟩
            · exact Or.inr ⟨by omega, h2⟩
          · skip
            refine AW_iconst dX11_look_36 ?_
            refine AW_zret dX11_look_37 rfl (by decide) ?_
            exact Or.inl ⟨by omega, rfl, rfl⟩
theorem x_worth {G : Gt} {d : Nat} {σ : St} (hd : 3 ≤ d) {D : Mk} (hS : Sta σ) (hR : RepC D σ) (hW : WFm D) (hv : 0 ≤ σ.2.1 17 5 ∧ σ.2.1 17 5 < 1000000) (side i j v : Int)  : AM mX11_worth G d 0 0 [vR 16, vI side, vI i, vI j, vI v] σ (fun ro ρ => (¬ ((((side = 0 ∨ side = 1) ∧ 0 ≤ i ∧ i < D 0 side.toNat) ∧ 0 ≤ j ∧ j < D 0 (1 - side).toNat) ∧ -1 ≤ v ∧ v ≤ 999) ∧ ro = some (vI 0) ∧ ρ = σ) ∨ (((((side = 0 ∨ side = 1) ∧ 0 ≤ i ∧ i < D 0 side.toNat) ∧ 0 ≤ j ∧ j < D 0 (1 - side).toNat) ∧ -1 ≤ v ∧ v ≤ 999) ∧ ro = some (vI 1) ∧ RepC (dPut D 3 (36 * side.toNat + 6 * i.toNat + j.toNat) v) ρ ∧ ρ.2.1 17 5 = σ.2.1 17 5 + 1 ∧ Fr [17, 21] σ ρ)) := by
  refine AM.intro (by decide +kernel) (by simp [nLg]) (Nat.le_of_ble_eq_true rfl) (fun hO => ?_)
  have i_side : -2147483648 ≤ side ∧ side < 2147483648 := hO (vI side) (by simp)
  have i_i : -2147483648 ≤ i ∧ i < 2147483648 := hO (vI i) (by simp)
  have i_j : -2147483648 ≤ j ∧ j < 2147483648 := hO (vI j) (by simp)
  have i_v : -2147483648 ≤ v ∧ v < 2147483648 := hO (vI v) (by simp)
  show AW _ _ _ _ _ _ 0 [some (vR 16), some (vI side), some (vI i), some (vI j), some (vI v)] [] σ
  refine AW_aload_n dX11_worth_0 rfl ?_
  refine AW_getR (a := 17) dX11_worth_1 gfX11_12 (hS.cel rfl) (hS.rf rfl) ?_
  refine AW_iload_n dX11_worth_4 rfl ?_
  refine AW_iload_n dX11_worth_5 rfl ?_
  refine AW_callV2 (d' := d - 1) dX11_worth_6 (Or.inl lkX11_85) mfX3_isSort (hS.cel rfl) ⟨_, rfl, rfl⟩ (k_isSort hS hR side i) (by omega) (Nat.le_of_ble_eq_true rfl) ?_
  rintro _ _ ⟨rfl, rfl⟩ -
  refine AW_if_eq (tgt := 40) dX11_worth_9 (by decide) (fun c_9 => ?_) (fun c_9 => ?_)
  · skip
    replace c_9 := bz0 c_9
    refine AW_iconst dX11_worth_40 ?_
    refine AW_zret dX11_worth_41 rfl (by decide) ?_
    exact Or.inl ⟨by omega, rfl, rfl⟩
  · skip
    replace c_9 := bz1 c_9
    refine AW_aload_n dX11_worth_12 rfl ?_
    refine AW_getR (a := 17) dX11_worth_13 gfX11_12 (hS.cel rfl) (hS.rf rfl) ?_
    refine AW_iconst dX11_worth_16 ?_
    refine AW_iload_n dX11_worth_17 rfl ?_
    refine AW_isubE dX11_worth_18 (by omega) (by omega) ?_
    refine AW_iload_n dX11_worth_19 rfl ?_
    refine AW_callV2 (d' := d - 1) dX11_worth_20 (Or.inl lkX11_85) mfX3_isSort (hS.cel rfl) ⟨_, rfl, rfl⟩ (k_isSort hS hR (1 - side) j) (by omega) (Nat.le_of_ble_eq_true rfl) ?_
    rintro _ _ ⟨rfl, rfl⟩ -
    refine AW_if_eq (tgt := 40) dX11_worth_23 (by decide) (fun c_23 => ?_) (fun c_23 => ?_)
    · skip
      replace c_23 := bz0 c_23
      refine AW_iconst dX11_worth_40 ?_
      refine AW_zret dX11_worth_41 rfl (by decide) ?_
      exact Or.inl ⟨by omega, rfl, rfl⟩
    · skip
      replace c_23 := bz1 c_23
      refine AW_iload dX11_worth_26 rfl ?_
      refine AW_iconst dX11_worth_28 ?_
      refine AW_icmp_lt (tgt := 40) dX11_worth_29 (by decide) (fun c_29 => ?_) (fun c_29 => ?_)
      · skip
        refine AW_iconst dX11_worth_40 ?_
        refine AW_zret dX11_worth_41 rfl (by decide) ?_
        exact Or.inl ⟨by omega, rfl, rfl⟩
      · skip
        refine AW_iload dX11_worth_32 rfl ?_
        refine AW_sipush dX11_worth_34 ?_
        refine AW_icmp_le (tgt := 42) dX11_worth_37 (by decide) (fun c_37 => ?_) (fun c_37 => ?_)
        · skip
          refine AW_aload_n dX11_worth_42 rfl ?_
          refine AW_getR (a := 17) dX11_worth_43 gfX11_12 (hS.cel rfl) (hS.rf rfl) ?_
          refine AW_iload_n dX11_worth_46 rfl ?_
          refine AW_iload_n dX11_worth_47 rfl ?_
          refine AW_iload_n dX11_worth_48 rfl ?_
          refine AW_iload dX11_worth_49 rfl ?_
          refine AW_callV4 (d' := d - 1) dX11_worth_51 (Or.inl lkX11_93) mfX3_tell (hS.cel rfl) ⟨_, rfl, rfl⟩ (k_tell (by omega) hS hR hW hv side i j v (by omega)) (by omega) (Nat.le_of_ble_eq_true rfl) ?_
          rintro _ ρ ⟨rfl, hR2, hv2, hF⟩ -
          refine AW_iconst dX11_worth_54 ?_
          refine AW_zret dX11_worth_55 rfl (by decide) ?_
          exact Or.inr ⟨by omega, rfl, hR2, hv2, hF⟩
        · skip
          refine AW_iconst dX11_worth_40 ?_
          refine AW_zret dX11_worth_41 rfl (by decide) ?_
          exact Or.inl ⟨by omega, rfl, rfl⟩
theorem x_set {G : Gt} {d : Nat} {σ : St} (hd : 3 ≤ d) {D : Mk} (hS : Sta σ) (hR : RepC D σ) (hW : WFm D) (hv : 0 ≤ σ.2.1 17 5 ∧ σ.2.1 17 5 < 1000000) (what v : Int)  : AM mX11_set G d 0 0 [vR 16, vI what, vI v] σ (fun ro ρ => (¬ (0 ≤ what ∧ what < 7 ∧ lowS what.toNat ≤ v ∧ v ≤ higS what.toNat) ∧ ro = some (vI 0) ∧ ρ = σ) ∨ ((0 ≤ what ∧ what < 7 ∧ lowS what.toNat ≤ v ∧ v ≤ higS what.toNat) ∧ ro = some (vI 1) ∧ RepC (dPut D 4 what.toNat v) ρ ∧ ρ.2.1 17 5 = σ.2.1 17 5 + 1 ∧ Fr [17, 22] σ ρ)) := by
  refine AM.intro (by decide +kernel) (by simp [nLg]) (Nat.le_of_ble_eq_true rfl) (fun hO => ?_)
  have i_what : -2147483648 ≤ what ∧ what < 2147483648 := hO (vI what) (by simp)
  have i_v : -2147483648 ≤ v ∧ v < 2147483648 := hO (vI v) (by simp)
  show AW _ _ _ _ _ _ 0 [some (vR 16), some (vI what), some (vI v)] [] σ
  refine AW_aload_n dX11_set_0 rfl ?_
  refine AW_getR (a := 17) dX11_set_1 gfX11_12 (hS.cel rfl) (hS.rf rfl) ?_
  refine AW_iload_n dX11_set_4 rfl ?_
  refine AW_iload_n dX11_set_5 rfl ?_
  refine AW_callV2 (d' := d - 1) dX11_set_6 (Or.inl lkX11_97) mfX3_change (hS.cel rfl) ⟨_, rfl, rfl⟩ (k_change (by omega) hS hR hW hv what v) (by omega) (Nat.le_of_ble_eq_true rfl) ?_
  rintro ro ρ h -
  have hr : ∃ z : Int, ro = some (vI z) ∧ (z = 0 ∨ z = 1) := by
    rcases h with h | h
    · exact ⟨0, h.2.1, Or.inl rfl⟩
    · exact ⟨1, h.2.1, Or.inr rfl⟩
  obtain ⟨z, rfl, hz⟩ := hr
  refine AW_zret dX11_set_9 rfl hz ?_
  exact h
