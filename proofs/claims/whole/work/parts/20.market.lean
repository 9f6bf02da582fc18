def isSrB (D : Mk) (side sort : Int) : Int := if (side = 0 ∨ side = 1) ∧ 0 ≤ sort ∧ sort < D 0 side.toNat then 1 else 0
theorem k_isSide {G : Gt} {d : Nat} {σ : St}  (hS : Sta σ) (side : Int)  : AM mX3_isSide G d 0 0 [vR 17, vI side] σ (fun r τ => τ = σ ∧ r = some (vI (if side = 0 ∨ side = 1 then 1 else 0))) := by
  refine AM.intro rfl (by simp [nLg]) (Nat.le_of_ble_eq_true rfl) (fun hO => ?_)
  have i_side : -2147483648 ≤ side ∧ side < 2147483648 := hO (vI side) (by simp)
  show AW _ _ _ _ _ _ 0 [some (vR 17), some (vI side)] [] σ
  refine AW_iload_n dX3_isSide_0 rfl ?_
  refine AW_if_eq (tgt := 9) dX3_isSide_1 (by decide) (fun c_1 => ?_) (fun c_1 => ?_)
  · skip
    refine AW_iconst dX3_isSide_9 ?_
    refine AW_goto (tgt := 14) dX3_isSide_10 (by decide) ?_
    refine AW_zret dX3_isSide_14 rfl (by decide) ?_
    refine ⟨rfl, ?_⟩
    first | rw [if_pos (by omega)] | rw [if_neg (by omega)]
  · skip
    refine AW_iload_n dX3_isSide_4 rfl ?_
    refine AW_iconst dX3_isSide_5 ?_
    refine AW_icmp_ne (tgt := 13) dX3_isSide_6 (by decide) (fun c_6 => ?_) (fun c_6 => ?_)
    · skip
      refine AW_iconst dX3_isSide_13 ?_
      refine AW_zret dX3_isSide_14 rfl (by decide) ?_
      refine ⟨rfl, ?_⟩
      first | rw [if_pos (by omega)] | rw [if_neg (by omega)]
    · skip
      refine AW_iconst dX3_isSide_9 ?_
      refine AW_goto (tgt := 14) dX3_isSide_10 (by decide) ?_
      refine AW_zret dX3_isSide_14 rfl (by decide) ?_
      refine ⟨rfl, ?_⟩
      first | rw [if_pos (by omega)] | rw [if_neg (by omega)]
theorem k_isSort {G : Gt} {d : Nat} {σ : St}  {D : Mk} (hS : Sta σ) (hR : RepC D σ) (side sort : Int)  : AM mX3_isSort G d 0 0 [vR 17, vI side, vI sort] σ (fun r τ => τ = σ ∧ r = some (vI (if (side = 0 ∨ side = 1) ∧ 0 ≤ sort ∧ sort < D 0 side.toNat then 1 else 0))) := by
  refine AM.intro rfl (by simp [nLg]) (Nat.le_of_ble_eq_true rfl) (fun hO => ?_)
  have i_side : -2147483648 ≤ side ∧ side < 2147483648 := hO (vI side) (by simp)
  have i_sort : -2147483648 ≤ sort ∧ sort < 2147483648 := hO (vI sort) (by simp)
  show AW _ _ _ _ _ _ 0 [some (vR 17), some (vI side), some (vI sort)] [] σ
  refine AW_iload_n dX3_isSort_0 rfl ?_
  refine AW_if_eq (tgt := 9) dX3_isSort_1 (by decide) (fun c_1 => ?_) (fun c_1 => ?_)
  · skip
    refine AW_iload_n dX3_isSort_9 rfl ?_
    refine AW_if_lt (tgt := 27) dX3_isSort_10 (by decide) (fun c_10 => ?_) (fun c_10 => ?_)
    · skip
      refine AW_iconst dX3_isSort_27 ?_
      refine AW_zret dX3_isSort_28 rfl (by decide) ?_
      refine ⟨rfl, ?_⟩
      first | rw [if_pos (by omega)] | rw [if_neg (by omega)]
    · skip
      refine AW_iload_n dX3_isSort_13 rfl ?_
      refine AW_aload_n dX3_isSort_14 rfl ?_
      refine AW_getR (a := 18) dX3_isSort_15 gfX3_9 (hS.cel rfl) (hS.rf rfl) ?_
      refine AW_iload_n dX3_isSort_18 rfl ?_
      refine AW_iald dX3_isSort_19 (hS.cel rfl) (by omega) (by omega) ?_
      refine AW_icmp_ge (tgt := 27) dX3_isSort_20 (by decide) (fun c_20 => ?_) (fun c_20 => ?_)
      · skip
        rw [hR.1 _ (by omega)] at c_20
        refine AW_iconst dX3_isSort_27 ?_
        refine AW_zret dX3_isSort_28 rfl (by decide) ?_
        refine ⟨rfl, ?_⟩
        first | rw [if_pos (by omega)] | rw [if_neg (by omega)]
      · skip
        rw [hR.1 _ (by omega)] at c_20
        refine AW_iconst dX3_isSort_23 ?_
        refine AW_goto (tgt := 28) dX3_isSort_24 (by decide) ?_
        refine AW_zret dX3_isSort_28 rfl (by decide) ?_
        refine ⟨rfl, ?_⟩
        first | rw [if_pos (by omega)] | rw [if_neg (by omega)]
  · skip
    refine AW_iload_n dX3_isSort_4 rfl ?_
    refine AW_iconst dX3_isSort_5 ?_
    refine AW_icmp_ne (tgt := 27) dX3_isSort_6 (by decide) (fun c_6 => ?_) (fun c_6 => ?_)
    · skip
      refine AW_iconst dX3_isSort_27 ?_
      refine AW_zret dX3_isSort_28 rfl (by decide) ?_
      refine ⟨rfl, ?_⟩
      first | rw [if_pos (by omega)] | rw [if_neg (by omega)]
    · skip
      refine AW_iload_n dX3_isSort_9 rfl ?_
      refine AW_if_lt (tgt := 27) dX3_isSort_10 (by decide) (fun c_10 => ?_) (fun c_10 => ?_)
      · skip
        refine AW_iconst dX3_isSort_27 ?_
        refine AW_zret dX3_isSort_28 rfl (by decide) ?_
        refine ⟨rfl, ?_⟩
        first | rw [if_pos (by omega)] | rw [if_neg (by omega)]
      · skip
        refine AW_iload_n dX3_isSort_13 rfl ?_
        refine AW_aload_n dX3_isSort_14 rfl ?_
        refine AW_getR (a := 18) dX3_isSort_15 gfX3_9 (hS.cel rfl) (hS.rf rfl) ?_
        refine AW_iload_n dX3_isSort_18 rfl ?_
        refine AW_iald dX3_isSort_19 (hS.cel rfl) (by omega) (by omega) ?_
        refine AW_icmp_ge (tgt := 27) dX3_isSort_20 (by decide) (fun c_20 => ?_) (fun c_20 => ?_)
        · skip
          rw [hR.1 _ (by omega)] at c_20
          refine AW_iconst dX3_isSort_27 ?_
          refine AW_zret dX3_isSort_28 rfl (by decide) ?_
          refine ⟨rfl, ?_⟩
          first | rw [if_pos (by omega)] | rw [if_neg (by omega)]
        · skip
          rw [hR.1 _ (by omega)] at c_20
          refine AW_iconst dX3_isSort_23 ?_
          refine AW_goto (tgt := 28) dX3_isSort_24 (by decide) ?_
          refine AW_zret dX3_isSort_28 rfl (by decide) ?_
          refine ⟨rfl, ?_⟩
          first | rw [if_pos (by omega)] | rw [if_neg (by omega)]
theorem k_version {G : Gt} {d : Nat} {σ : St}  (hS : Sta σ)  : AM mX3_version G d 0 0 [vR 17] σ (fun r τ => τ = σ ∧ r = some (vI (σ.2.1 17 5))) := by
  refine AM.intro rfl (by simp [nLg]) (Nat.le_of_ble_eq_true rfl) (fun hO => ?_)
  show AW _ _ _ _ _ _ 0 [some (vR 17)] [] σ
  refine AW_aload_n dX3_version_0 rfl ?_
  refine AW_getI dX3_version_1 gfX3_33 (hS.cel rfl) ?_
  refine AW_iret dX3_version_4 rfl ?_
  exact ⟨rfl, rfl⟩
theorem k_count {G : Gt} {d : Nat} {σ : St} (hd : 1 ≤ d) {D : Mk} (hS : Sta σ) (hR : RepC D σ) (side : Int)  : AM mX3_count G d 0 0 [vR 17, vI side] σ (fun r τ => τ = σ ∧ r = some (vI (if side = 0 ∨ side = 1 then D 0 side.toNat else 0))) := by
  refine AM.intro rfl (by simp [nLg]) (Nat.le_of_ble_eq_true rfl) (fun hO => ?_)
  have i_side : -2147483648 ≤ side ∧ side < 2147483648 := hO (vI side) (by simp)
  show AW _ _ _ _ _ _ 0 [some (vR 17), some (vI side)] [] σ
  refine AW_aload_n dX3_count_0 rfl ?_
  refine AW_iload_n dX3_count_1 rfl ?_
  refine AW_callV1 (d' := d - 1) dX3_count_2 (Or.inl lkX3_37) mfX3_isSide (hS.cel rfl) ⟨_, rfl, rfl⟩ (k_isSide hS side) (by omega) (Nat.le_of_ble_eq_true rfl) ?_
  rintro _ _ ⟨rfl, rfl⟩ -
  refine AW_if_eq (tgt := 17) dX3_count_5 (by decide) (fun c_5 => ?_) (fun c_5 => ?_)
  · skip
    replace c_5 := bz0 c_5
    refine AW_iconst dX3_count_17 ?_
    refine AW_iret dX3_count_18 rfl ?_
    refine ⟨rfl, ?_⟩
    first | (rw [if_pos (by omega), hR.1 _ (by omega)]; done) | rw [if_neg (by omega)]
  · skip
    replace c_5 := bz1 c_5
    refine AW_aload_n dX3_count_8 rfl ?_
    refine AW_getR (a := 18) dX3_count_9 gfX3_9 (hS.cel rfl) (hS.rf rfl) ?_
    refine AW_iload_n dX3_count_12 rfl ?_
    refine AW_iald dX3_count_13 (hS.cel rfl) (by omega) (by omega) ?_
    refine AW_goto (tgt := 18) dX3_count_14 (by decide) ?_
    refine AW_iret dX3_count_18 rfl ?_
    refine ⟨rfl, ?_⟩
    first | (rw [if_pos (by omega), hR.1 _ (by omega)]; done) | rw [if_neg (by omega)]
theorem k_setting {G : Gt} {d : Nat} {σ : St}  {D : Mk} (hS : Sta σ) (hR : RepC D σ) (what : Int)  : AM mX3_setting G d 0 0 [vR 17, vI what] σ (fun r τ => τ = σ ∧ r = some (vI (if 0 ≤ what ∧ what < 7 then D 4 what.toNat else 0))) := by
  refine AM.intro rfl (by simp [nLg]) (Nat.le_of_ble_eq_true rfl) (fun hO => ?_)
  have i_what : -2147483648 ≤ what ∧ what < 2147483648 := hO (vI what) (by simp)
  show AW _ _ _ _ _ _ 0 [some (vR 17), some (vI what)] [] σ
  refine AW_iload_n dX3_setting_0 rfl ?_
  refine AW_if_lt (tgt := 22) dX3_setting_1 (by decide) (fun c_1 => ?_) (fun c_1 => ?_)
  · skip
    refine AW_iconst dX3_setting_22 ?_
    refine AW_iret dX3_setting_23 rfl ?_
    refine ⟨rfl, ?_⟩
    first | (rw [if_pos (by omega), hR.2.2.2.2 _ (by omega)]; done) | rw [if_neg (by omega)]
  · skip
    refine AW_iload_n dX3_setting_4 rfl ?_
    refine AW_aload_n dX3_setting_5 rfl ?_
    refine AW_getR (a := 22) dX3_setting_6 gfX3_24 (hS.cel rfl) (hS.rf rfl) ?_
    refine AW_alen dX3_setting_9 (hS.cel rfl) (by decide) (by decide) ?_
    refine AW_icmp_ge (tgt := 22) dX3_setting_10 (by decide) (fun c_10 => ?_) (fun c_10 => ?_)
    · skip
      refine AW_iconst dX3_setting_22 ?_
      refine AW_iret dX3_setting_23 rfl ?_
      refine ⟨rfl, ?_⟩
      first | (rw [if_pos (by omega), hR.2.2.2.2 _ (by omega)]; done) | rw [if_neg (by omega)]
    · skip
      refine AW_aload_n dX3_setting_13 rfl ?_
      refine AW_getR (a := 22) dX3_setting_14 gfX3_24 (hS.cel rfl) (hS.rf rfl) ?_
      refine AW_iload_n dX3_setting_17 rfl ?_
      refine AW_iald dX3_setting_18 (hS.cel rfl) (by omega) (by omega) ?_
      refine AW_goto (tgt := 23) dX3_setting_19 (by decide) ?_
      refine AW_iret dX3_setting_23 rfl ?_
      refine ⟨rfl, ?_⟩
      first | (rw [if_pos (by omega), hR.2.2.2.2 _ (by omega)]; done) | rw [if_neg (by omega)]
theorem k_lookOf {G : Gt} {d : Nat} {σ : St} (hd : 1 ≤ d) {D : Mk} (hS : Sta σ) (hR : RepC D σ) (hW : WFm D) (side sort : Int)  : AM mX3_lookOf G d 0 0 [vR 17, vI side, vI sort] σ (fun r τ => τ = σ ∧ r = some (vI (if (side = 0 ∨ side = 1) ∧ 0 ≤ sort ∧ sort < D 0 side.toNat then D 1 (6 * side.toNat + sort.toNat) else 0))) := by
  refine AM.intro rfl (by simp [nLg]) (Nat.le_of_ble_eq_true rfl) (fun hO => ?_)
  have i_side : -2147483648 ≤ side ∧ side < 2147483648 := hO (vI side) (by simp)
  have i_sort : -2147483648 ≤ sort ∧ sort < 2147483648 := hO (vI sort) (by simp)
  show AW _ _ _ _ _ _ 0 [some (vR 17), some (vI side), some (vI sort)] [] σ
  refine AW_aload_n dX3_lookOf_0 rfl ?_
  refine AW_iload_n dX3_lookOf_1 rfl ?_
  refine AW_iload_n dX3_lookOf_2 rfl ?_
  refine AW_callV2 (d' := d - 1) dX3_lookOf_3 (Or.inl lkX3_41) mfX3_isSort (hS.cel rfl) ⟨_, rfl, rfl⟩ (k_isSort hS hR side sort) (by omega) (Nat.le_of_ble_eq_true rfl) ?_
  rintro _ _ ⟨rfl, rfl⟩ -
  refine AW_if_eq (tgt := 23) dX3_lookOf_6 (by decide) (fun c_6 => ?_) (fun c_6 => ?_)
  · skip
    replace c_6 := bz0 c_6
    refine AW_iconst dX3_lookOf_23 ?_
    refine AW_iret dX3_lookOf_24 rfl ?_
    refine ⟨rfl, ?_⟩
    first | (rw [if_pos (by omega), hR.2.1 _ (by omega)]; congr 4; omega) | rw [if_neg (by omega)]
  · skip
    replace c_6 := bz1 c_6
    have hb := hW.1 side.toNat (by omega)
    refine AW_aload_n dX3_lookOf_9 rfl ?_
    refine AW_getR (a := 19) dX3_lookOf_10 gfX3_15 (hS.cel rfl) (hS.rf rfl) ?_
    refine AW_iload_n dX3_lookOf_13 rfl ?_
    refine AW_bipush dX3_lookOf_14 ?_
    refine AW_imulE dX3_lookOf_16 (by omega) (by omega) ?_
    refine AW_iload_n dX3_lookOf_17 rfl ?_
    refine AW_iaddE dX3_lookOf_18 (by omega) (by omega) ?_
    refine AW_iald dX3_lookOf_19 (hS.cel rfl) (by omega) (by omega) ?_
    refine AW_goto (tgt := 24) dX3_lookOf_20 (by decide) ?_
    refine AW_iret dX3_lookOf_24 rfl ?_
    refine ⟨rfl, ?_⟩
    first | (rw [if_pos (by omega), hR.2.1 _ (by omega)]; congr 4; omega) | rw [if_neg (by omega)]
theorem k_oftenOf {G : Gt} {d : Nat} {σ : St} (hd : 1 ≤ d) {D : Mk} (hS : Sta σ) (hR : RepC D σ) (hW : WFm D) (side sort : Int)  : AM mX3_oftenOf G d 0 0 [vR 17, vI side, vI sort] σ (fun r τ => τ = σ ∧ r = some (vI (if (side = 0 ∨ side = 1) ∧ 0 ≤ sort ∧ sort < D 0 side.toNat then D 2 (6 * side.toNat + sort.toNat) else 0))) := by
  refine AM.intro rfl (by simp [nLg]) (Nat.le_of_ble_eq_true rfl) (fun hO => ?_)
  have i_side : -2147483648 ≤ side ∧ side < 2147483648 := hO (vI side) (by simp)
  have i_sort : -2147483648 ≤ sort ∧ sort < 2147483648 := hO (vI sort) (by simp)
  show AW _ _ _ _ _ _ 0 [some (vR 17), some (vI side), some (vI sort)] [] σ
  refine AW_aload_n dX3_oftenOf_0 rfl ?_
  refine AW_iload_n dX3_oftenOf_1 rfl ?_
  refine AW_iload_n dX3_oftenOf_2 rfl ?_
  refine AW_callV2 (d' := d - 1) dX3_oftenOf_3 (Or.inl lkX3_41) mfX3_isSort (hS.cel rfl) ⟨_, rfl, rfl⟩ (k_isSort hS hR side sort) (by omega) (Nat.le_of_ble_eq_true rfl) ?_
  rintro _ _ ⟨rfl, rfl⟩ -
  refine AW_if_eq (tgt := 23) dX3_oftenOf_6 (by decide) (fun c_6 => ?_) (fun c_6 => ?_)
  · skip
    replace c_6 := bz0 c_6
    refine AW_iconst dX3_oftenOf_23 ?_
    refine AW_iret dX3_oftenOf_24 rfl ?_
    refine ⟨rfl, ?_⟩
    first | (rw [if_pos (by omega), hR.2.2.1 _ (by omega)]; congr 4; omega) | rw [if_neg (by omega)]
  · skip
    replace c_6 := bz1 c_6
    have hb := hW.1 side.toNat (by omega)
    refine AW_aload_n dX3_oftenOf_9 rfl ?_
    refine AW_getR (a := 20) dX3_oftenOf_10 gfX3_18 (hS.cel rfl) (hS.rf rfl) ?_
    refine AW_iload_n dX3_oftenOf_13 rfl ?_
    refine AW_bipush dX3_oftenOf_14 ?_
    refine AW_imulE dX3_oftenOf_16 (by omega) (by omega) ?_
    refine AW_iload_n dX3_oftenOf_17 rfl ?_
    refine AW_iaddE dX3_oftenOf_18 (by omega) (by omega) ?_
    refine AW_iald dX3_oftenOf_19 (hS.cel rfl) (by omega) (by omega) ?_
    refine AW_goto (tgt := 24) dX3_oftenOf_20 (by decide) ?_
    refine AW_iret dX3_oftenOf_24 rfl ?_
    refine ⟨rfl, ?_⟩
    first | (rw [if_pos (by omega), hR.2.2.1 _ (by omega)]; congr 4; omega) | rw [if_neg (by omega)]
