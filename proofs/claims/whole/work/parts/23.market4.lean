theorem oSum_in {D : Mk} (hW : WFm D) {s p : Nat} {v : Int} (hs : s < 2) (hv : 0 ≤ v ∧ v ≤ 999) : ∀ n, n ≤ 6 → 0 ≤ oSum D s p v n ∧ oSum D s p v n ≤ 999 + 999 * n := by
  intro n
  induction n with
  | zero => intro _; simp only [oSum]; omega
  | succ n ih =>
    intro hn
    have h1 := ih (by omega)
    have h2 := hW.2.2.1 (6 * s + n) (by omega)
    simp only [oSum]
    split <;> omega
theorem oSum_stop {D : Mk} (hW : WFm D) {s p : Nat} {v : Int} (hs : s < 2) : ∀ k n : Nat, D 0 s ≤ (n : Int) → n + k ≤ 6 → oSum D s p v (n + k) = oSum D s p v n := by
  intro k
  induction k with
  | zero => intro n _ _; rfl
  | succ k ih =>
    intro n h hk
    show oSum D s p v (n + k) + (if n + k = p then 0 else D 2 (6 * s + (n + k))) = _
    rw [ih n h (by omega), hW.2.2.2.2.2.2.2.2.2.2.2.1 s (n + k) hs (by omega) (by omega)]
    split <;> omega
theorem oSum_eq (D : Mk) (s p : Nat) (v : Int) (n : Nat) : oSum D s p v (n + 1) = oSum D s p v n + if n = p then 0 else D 2 (6 * s + n) := rfl
theorem l_describe {G : Gt} {d : Nat} {D : Mk} {σ : St} {side sort look often : Int} (hd : 2 ≤ d) (hS : Sta σ) (hR : RepC D σ) (hW : WFm D) (hv : 0 ≤ σ.2.1 17 5 ∧ σ.2.1 17 5 < 1000000) (hs : (side = 0 ∨ side = 1) ∧ 0 ≤ sort ∧ sort < D 0 side.toNat) (hl : 0 ≤ look ∧ look ≤ 999) (ho : 0 ≤ often ∧ often ≤ 999) : ∀ (nn : Nat) (i : Int), ((6 : Int) - i).toNat < nn → 0 ≤ i → i ≤ 6 →  AW mX3_describe G d 0 0 (mq G (fun ro ρ => (oSum D side.toNat sort.toNat often 6 > 1000 ∧ ro = some (vI 0) ∧ ρ = σ) ∨ (oSum D side.toNat sort.toNat often 6 ≤ 1000 ∧ ro = some (vI 1) ∧ RepC (dLook D (6 * side.toNat + sort.toNat) look often) ρ ∧ ρ.2.1 17 5 = σ.2.1 17 5 + 1 ∧ Fr [17, 19, 20] σ ρ))) 24 [some (vR 17), some (vI side), some (vI sort), some (vI look), some (vI often), some (vI (side * 6)), some (vI (oSum D side.toNat sort.toNat often i.toNat)), some (vI i)] [] σ := by
  intro nn
  induction nn with
  | zero => intros; omega
  | succ nn ih =>
    intro i hn h0 hi
    have hb := hW.1 side.toNat (by omega)
    have hos := oSum_in hW (s := side.toNat) (p := sort.toNat) (by omega) ho i.toNat (by omega)
    refine AW_iload dX3_describe_24 rfl ?_
    refine AW_bipush dX3_describe_26 ?_
    refine AW_icmp_ge (tgt := 62) dX3_describe_28 (by decide) (fun c_28 => ?_) (fun c_28 => ?_)
    · skip
      rw [show i.toNat = 6 by omega]
      refine AW_iload dX3_describe_62 rfl ?_
      refine AW_sipush dX3_describe_64 ?_
      refine AW_icmp_le (tgt := 72) dX3_describe_67 (by decide) (fun c_67 => ?_) (fun c_67 => ?_)
      · skip
        refine AW_aload_n dX3_describe_72 rfl ?_
        refine AW_getR (a := 19) dX3_describe_73 gfX3_15 (hS.cel rfl) (hS.rf rfl) ?_
        refine AW_iload dX3_describe_76 rfl ?_
        refine AW_iload_n dX3_describe_78 rfl ?_
        refine AW_iaddE dX3_describe_79 (by omega) (by omega) ?_
        refine AW_iload_n dX3_describe_80 rfl ?_
        refine AW_iast dX3_describe_81 (hS.cel rfl) (by omega) (by omega) ?_
        refine AW_aload_n dX3_describe_82 rfl ?_
        refine AW_getR (a := 20) dX3_describe_83 gfX3_18 (hS.cel rfl) (hS.rf rfl) ?_
        refine AW_iload dX3_describe_86 rfl ?_
        refine AW_iload_n dX3_describe_88 rfl ?_
        refine AW_iaddE dX3_describe_89 (by omega) (by omega) ?_
        refine AW_iload dX3_describe_90 rfl ?_
        refine AW_iast dX3_describe_92 (hS.cel rfl) (by omega) (by omega) ?_
        refine AW_aload_n dX3_describe_93 rfl ?_
        refine AW_dup dX3_describe_94 ?_
        refine AW_getI dX3_describe_95 gfX3_33 (hS.cel rfl) ?_
        refine AW_iconst dX3_describe_98 ?_
        refine AW_iaddE dX3_describe_99 (by rw [up_r _ _ _ _ (by decide), up_r _ _ _ _ (by decide)]; omega) (by rw [up_r _ _ _ _ (by decide), up_r _ _ _ _ (by decide)]; omega) ?_
        refine AW_putI dX3_describe_100 (Or.inl pfX3_33) (hS.cel rfl) ?_
        refine AW_iconst dX3_describe_103 ?_
        refine AW_zret dX3_describe_104 rfl (by decide) ?_
        refine Or.inr ⟨by omega, rfl, ⟨fun k hk => ?_, fun k hk => ?_, fun k hk => ?_, fun k hk => ?_, fun k hk => ?_⟩, ?_, ((Fr.rf.up (by decide) _ _).up (by decide) _ _).up (by decide) _ _⟩
        · rw [up_r _ _ _ _ (by decide), up_r _ _ _ _ (by decide), up_r _ _ _ _ (by decide)]; exact hR.1 k hk
        · rw [up_r _ _ _ _ (by decide), up_r _ _ _ _ (by decide), up_if, hR.2.1 k hk]
          show _ = (if k = 6 * side.toNat + sort.toNat then look else D 1 k)
          by_cases hc : k = 6 * side.toNat + sort.toNat
          · rw [if_pos hc, if_pos (by omega)]
          · rw [if_neg hc, if_neg (by omega)]
        · rw [up_r _ _ _ _ (by decide), up_if, up_r _ _ _ _ (by decide), hR.2.2.1 k hk]
          show _ = (if k = 6 * side.toNat + sort.toNat then often else D 2 k)
          by_cases hc : k = 6 * side.toNat + sort.toNat
          · rw [if_pos hc, if_pos (by omega)]
          · rw [if_neg hc, if_neg (by omega)]
        · rw [up_r _ _ _ _ (by decide), up_r _ _ _ _ (by decide), up_r _ _ _ _ (by decide)]; exact hR.2.2.2.1 k hk
        · rw [up_r _ _ _ _ (by decide), up_r _ _ _ _ (by decide), up_r _ _ _ _ (by decide)]; exact hR.2.2.2.2 k hk
        · rw [up_at, up_r _ _ _ _ (by decide), up_r _ _ _ _ (by decide)]
      · skip
        refine AW_iconst dX3_describe_70 ?_
        refine AW_zret dX3_describe_71 rfl (by decide) ?_
        exact Or.inl ⟨by omega, rfl, rfl⟩
    · skip
      refine AW_iload dX3_describe_31 rfl ?_
      refine AW_iload dX3_describe_33 rfl ?_
      refine AW_iload_n dX3_describe_35 rfl ?_
      refine AW_icmp_ne (tgt := 43) dX3_describe_36 (by decide) (fun c_36 => ?_) (fun c_36 => ?_)
      · skip
        have e6 : (side * 6 + i).toNat = 6 * side.toNat + i.toNat := by omega
        have e7 := hR.2.2.1 (6 * side.toNat + i.toNat) (by omega)
        have e8 := hW.2.2.1 (6 * side.toNat + i.toNat) (by omega)
        have e5 : oSum D side.toNat sort.toNat often (i + 1).toNat = oSum D side.toNat sort.toNat often i.toNat + D 2 (6 * side.toNat + i.toNat) := by
          rw [show (i + 1).toNat = i.toNat + 1 by omega, oSum_eq, if_neg (by omega)]
        refine AW_aload_n dX3_describe_43 rfl ?_
        refine AW_getR (a := 20) dX3_describe_44 gfX3_18 (hS.cel rfl) (hS.rf rfl) ?_
        refine AW_iload dX3_describe_47 rfl ?_
        refine AW_iload dX3_describe_49 rfl ?_
        refine AW_iaddE dX3_describe_51 (by omega) (by omega) ?_
        refine AW_iald dX3_describe_52 (hS.cel rfl) (by omega) (by omega) ?_
        first | rw [e6, e7] | skip
        refine AW_iaddE dX3_describe_53 (by omega) (by omega) ?_
        refine AW_istore6 dX3_describe_54 ?_
        refine AW_iincE7 dX3_describe_56 (by omega) (by omega) ?_
        refine AW_goto (tgt := 24) dX3_describe_59 (by decide) ?_
        rw [← e5]
        exact ih (i + 1) (by omega) (by omega) (by omega)
      · skip
        have e5 : oSum D side.toNat sort.toNat often (i + 1).toNat = oSum D side.toNat sort.toNat often i.toNat + 0 := by
          rw [show (i + 1).toNat = i.toNat + 1 by omega, oSum_eq, if_pos (by omega)]
        refine AW_iconst dX3_describe_39 ?_
        refine AW_goto (tgt := 53) dX3_describe_40 (by decide) ?_
        first | rw [e6, e7] | skip
        refine AW_iaddE dX3_describe_53 (by omega) (by omega) ?_
        refine AW_istore6 dX3_describe_54 ?_
        refine AW_iincE7 dX3_describe_56 (by omega) (by omega) ?_
        refine AW_goto (tgt := 24) dX3_describe_59 (by decide) ?_
        rw [← e5]
        exact ih (i + 1) (by omega) (by omega) (by omega)
theorem k_describe {G : Gt} {d : Nat} {σ : St} (hd : 2 ≤ d) {D : Mk} (hS : Sta σ) (hR : RepC D σ) (hW : WFm D) (hv : 0 ≤ σ.2.1 17 5 ∧ σ.2.1 17 5 < 1000000) (side sort look often : Int) (hs : (side = 0 ∨ side = 1) ∧ 0 ≤ sort ∧ sort < D 0 side.toNat) (hl : 0 ≤ look ∧ look ≤ 999) (ho : 0 ≤ often ∧ often ≤ 999)  : AM mX3_describe G d 0 0 [vR 17, vI side, vI sort, vI look, vI often] σ (fun ro ρ => (oSum D side.toNat sort.toNat often 6 > 1000 ∧ ro = some (vI 0) ∧ ρ = σ) ∨ (oSum D side.toNat sort.toNat often 6 ≤ 1000 ∧ ro = some (vI 1) ∧ RepC (dLook D (6 * side.toNat + sort.toNat) look often) ρ ∧ ρ.2.1 17 5 = σ.2.1 17 5 + 1 ∧ Fr [17, 19, 20] σ ρ)) := by
  refine AM.intro (by decide +kernel) (by simp [nLg]) (Nat.le_of_ble_eq_true rfl) (fun hO => ?_)
  have i_side : -2147483648 ≤ side ∧ side < 2147483648 := hO (vI side) (by simp)
  have i_sort : -2147483648 ≤ sort ∧ sort < 2147483648 := hO (vI sort) (by simp)
  have i_look : -2147483648 ≤ look ∧ look < 2147483648 := hO (vI look) (by simp)
  have i_often : -2147483648 ≤ often ∧ often < 2147483648 := hO (vI often) (by simp)
  show AW _ _ _ _ _ _ 0 [some (vR 17), some (vI side), some (vI sort), some (vI look), some (vI often), none, none, none] [] σ
  have hb := hW.1 side.toNat (by omega)
  refine AW_aload_n dX3_describe_0 rfl ?_
  refine AW_iload_n dX3_describe_1 rfl ?_
  refine AW_iload_n dX3_describe_2 rfl ?_
  refine AW_callV2 (d' := d - 1) dX3_describe_3 (Or.inl lkX3_41) mfX3_isSort (hS.cel rfl) ⟨_, rfl, rfl⟩ (k_isSort hS hR side sort) (by omega) (Nat.le_of_ble_eq_true rfl) ?_
  rintro _ _ ⟨rfl, rfl⟩ -
  refine AW_if_ne (tgt := 11) dX3_describe_6 (by decide) (fun c_6 => ?_) (fun c_6 => ?_)
  · skip
    replace c_6 := bz1 c_6
    refine AW_iload_n dX3_describe_11 rfl ?_
    refine AW_bipush dX3_describe_12 ?_
    refine AW_imulE dX3_describe_14 (by omega) (by omega) ?_
    refine AW_istore5 dX3_describe_15 ?_
    refine AW_iload dX3_describe_17 rfl ?_
    refine AW_istore6 dX3_describe_19 ?_
    refine AW_iconst dX3_describe_21 ?_
    refine AW_istore7 dX3_describe_22 ?_
    exact l_describe hd hS hR hW hv hs hl ho 7 0 (by omega) (by omega) (by omega)
  · skip
    replace c_6 := bz0 c_6
    exact absurd hs c_6
theorem k_tell {G : Gt} {d : Nat} {σ : St} (hd : 1 ≤ d) {D : Mk} (hS : Sta σ) (hR : RepC D σ) (hW : WFm D) (hv : 0 ≤ σ.2.1 17 5 ∧ σ.2.1 17 5 < 1000000) (side i j v : Int) (hs : ((side = 0 ∨ side = 1) ∧ 0 ≤ i ∧ i < D 0 side.toNat) ∧ 0 ≤ j ∧ j < D 0 (1 - side).toNat)  : AM mX3_tell G d 0 0 [vR 17, vI side, vI i, vI j, vI v] σ (fun ro ρ => ro = none ∧ RepC (dPut D 3 (36 * side.toNat + 6 * i.toNat + j.toNat) v) ρ ∧ ρ.2.1 17 5 = σ.2.1 17 5 + 1 ∧ Fr [17, 21] σ ρ) := by
  refine AM.intro (by decide +kernel) (by simp [nLg]) (Nat.le_of_ble_eq_true rfl) (fun hO => ?_)
  have i_side : -2147483648 ≤ side ∧ side < 2147483648 := hO (vI side) (by simp)
  have i_i : -2147483648 ≤ i ∧ i < 2147483648 := hO (vI i) (by simp)
  have i_j : -2147483648 ≤ j ∧ j < 2147483648 := hO (vI j) (by simp)
  have i_v : -2147483648 ≤ v ∧ v < 2147483648 := hO (vI v) (by simp)
  show AW _ _ _ _ _ _ 0 [some (vR 17), some (vI side), some (vI i), some (vI j), some (vI v)] [] σ
  have hb := hW.1 side.toNat (by omega)
  have hb2 := hW.1 (1 - side).toNat (by omega)
  refine AW_aload_n dX3_tell_0 rfl ?_
  refine AW_iload_n dX3_tell_1 rfl ?_
  refine AW_iload_n dX3_tell_2 rfl ?_
  refine AW_callV2 (d' := d - 1) dX3_tell_3 (Or.inl lkX3_41) mfX3_isSort (hS.cel rfl) ⟨_, rfl, rfl⟩ (k_isSort hS hR side i) (by omega) (Nat.le_of_ble_eq_true rfl) ?_
  rintro _ _ ⟨rfl, rfl⟩ -
  refine AW_if_eq (tgt := 48) dX3_tell_6 (by decide) (fun c_6 => ?_) (fun c_6 => ?_)
  · skip
    replace c_6 := bz0 c_6
    exact absurd hs.1 c_6
  · skip
    replace c_6 := bz1 c_6
    refine AW_aload_n dX3_tell_9 rfl ?_
    refine AW_iconst dX3_tell_10 ?_
    refine AW_iload_n dX3_tell_11 rfl ?_
    refine AW_isubE dX3_tell_12 (by omega) (by omega) ?_
    refine AW_iload_n dX3_tell_13 rfl ?_
    refine AW_callV2 (d' := d - 1) dX3_tell_14 (Or.inl lkX3_41) mfX3_isSort (hS.cel rfl) ⟨_, rfl, rfl⟩ (k_isSort hS hR (1 - side) j) (by omega) (Nat.le_of_ble_eq_true rfl) ?_
    rintro _ _ ⟨rfl, rfl⟩ -
    refine AW_if_eq (tgt := 48) dX3_tell_17 (by decide) (fun c_17 => ?_) (fun c_17 => ?_)
    · skip
      replace c_17 := bz0 c_17
      exact absurd ⟨by omega, hs.2⟩ c_17
    · skip
      replace c_17 := bz1 c_17
      refine AW_aload_n dX3_tell_20 rfl ?_
      refine AW_getR (a := 21) dX3_tell_21 gfX3_21 (hS.cel rfl) (hS.rf rfl) ?_
      refine AW_iload_n dX3_tell_24 rfl ?_
      refine AW_bipush dX3_tell_25 ?_
      refine AW_imulE dX3_tell_27 (by omega) (by omega) ?_
      refine AW_iload_n dX3_tell_28 rfl ?_
      refine AW_iaddE dX3_tell_29 (by omega) (by omega) ?_
      refine AW_bipush dX3_tell_30 ?_
      refine AW_imulE dX3_tell_32 (by omega) (by omega) ?_
      refine AW_iload_n dX3_tell_33 rfl ?_
      refine AW_iaddE dX3_tell_34 (by omega) (by omega) ?_
      refine AW_iload dX3_tell_35 rfl ?_
      refine AW_iast dX3_tell_37 (hS.cel rfl) (by omega) (by omega) ?_
      refine AW_aload_n dX3_tell_38 rfl ?_
      refine AW_dup dX3_tell_39 ?_
      refine AW_getI dX3_tell_40 gfX3_33 (hS.cel rfl) ?_
      refine AW_iconst dX3_tell_43 ?_
      refine AW_iaddE dX3_tell_44 (by rw [up_r _ _ _ _ (by decide)]; omega) (by rw [up_r _ _ _ _ (by decide)]; omega) ?_
      refine AW_putI dX3_tell_45 (Or.inl pfX3_33) (hS.cel rfl) ?_
      refine AW_vret dX3_tell_48 rfl ?_
      refine ⟨rfl, ⟨fun k hk => ?_, fun k hk => ?_, fun k hk => ?_, fun k hk => ?_, fun k hk => ?_⟩, ?_, (Fr.rf.up (by decide) _ _).up (by decide) _ _⟩
      · rw [up_r _ _ _ _ (by decide), up_r _ _ _ _ (by decide), hR.1 k hk]
        show _ = (if (0 : Nat) = 3 ∧ k = 36 * side.toNat + 6 * i.toNat + j.toNat then _ else _)
        rw [if_neg (by omega)]
      · rw [up_r _ _ _ _ (by decide), up_r _ _ _ _ (by decide), hR.2.1 k hk]
        show _ = (if (1 : Nat) = 3 ∧ k = 36 * side.toNat + 6 * i.toNat + j.toNat then _ else _)
        rw [if_neg (by omega)]
      · rw [up_r _ _ _ _ (by decide), up_r _ _ _ _ (by decide), hR.2.2.1 k hk]
        show _ = (if (2 : Nat) = 3 ∧ k = 36 * side.toNat + 6 * i.toNat + j.toNat then _ else _)
        rw [if_neg (by omega)]
      · rw [up_r _ _ _ _ (by decide), up_if, hR.2.2.2.1 k hk]
        show _ = (if (3 : Nat) = 3 ∧ k = 36 * side.toNat + 6 * i.toNat + j.toNat then v else D 3 k)
        by_cases hc : k = 36 * side.toNat + 6 * i.toNat + j.toNat
        · rw [if_pos ⟨rfl, by omega⟩, if_pos (by omega)]
        · rw [if_neg (by omega), if_neg (by omega)]
      · rw [up_r _ _ _ _ (by decide), up_r _ _ _ _ (by decide), hR.2.2.2.2 k hk]
        show _ = (if (4 : Nat) = 3 ∧ k = 36 * side.toNat + 6 * i.toNat + j.toNat then _ else _)
        rw [if_neg (by omega)]
      · rw [up_at, up_r _ _ _ _ (by decide)]
theorem k_change {G : Gt} {d : Nat} {σ : St} (hd : 1 ≤ d) {D : Mk} (hS : Sta σ) (hR : RepC D σ) (hW : WFm D) (hv : 0 ≤ σ.2.1 17 5 ∧ σ.2.1 17 5 < 1000000) (what v : Int)  : AM mX3_change G d 0 0 [vR 17, vI what, vI v] σ (fun ro ρ => (¬ (0 ≤ what ∧ what < 7 ∧ lowS what.toNat ≤ v ∧ v ≤ higS what.toNat) ∧ ro = some (vI 0) ∧ ρ = σ) ∨ ((0 ≤ what ∧ what < 7 ∧ lowS what.toNat ≤ v ∧ v ≤ higS what.toNat) ∧ ro = some (vI 1) ∧ RepC (dPut D 4 what.toNat v) ρ ∧ ρ.2.1 17 5 = σ.2.1 17 5 + 1 ∧ Fr [17, 22] σ ρ)) := by
  refine AM.intro (by decide +kernel) (by simp [nLg]) (Nat.le_of_ble_eq_true rfl) (fun hO => ?_)
  have i_what : -2147483648 ≤ what ∧ what < 2147483648 := hO (vI what) (by simp)
  have i_v : -2147483648 ≤ v ∧ v < 2147483648 := hO (vI v) (by simp)
  show AW _ _ _ _ _ _ 0 [some (vR 17), some (vI what), some (vI v)] [] σ
  refine AW_iload_n dX3_change_0 rfl ?_
  refine AW_if_lt (tgt := 31) dX3_change_1 (by decide) (fun c_1 => ?_) (fun c_1 => ?_)
  · skip
    refine AW_iconst dX3_change_31 ?_
    refine AW_zret dX3_change_32 rfl (by decide) ?_
    exact Or.inl ⟨by omega, rfl, rfl⟩
  · skip
    refine AW_iload_n dX3_change_4 rfl ?_
    refine AW_aload_n dX3_change_5 rfl ?_
    refine AW_getR (a := 22) dX3_change_6 gfX3_24 (hS.cel rfl) (hS.rf rfl) ?_
    refine AW_alen dX3_change_9 (hS.cel rfl) (by decide) (by decide) ?_
    refine AW_icmp_ge (tgt := 31) dX3_change_10 (by decide) (fun c_10 => ?_) (fun c_10 => ?_)
    · skip
      refine AW_iconst dX3_change_31 ?_
      refine AW_zret dX3_change_32 rfl (by decide) ?_
      exact Or.inl ⟨by omega, rfl, rfl⟩
    · skip
      refine AW_iload_n dX3_change_13 rfl ?_
      refine AW_gst (e := 1) dX3_change_14 gs_LEAST (fun s h => (kn_LEAST h).1) (by decide) (by decide) ?_
      refine AW_iload_n dX3_change_17 rfl ?_
      refine AW_xiald (e := 1) (v := lowS what.toNat) dX3_change_18 (fun s h => (kn_LEAST h).2) (by decide) (by decide) (by omega) (by omega) (lowS_v _ (by omega)).1 (lowS_v _ (by omega)).2 ?_
      refine AW_icmp_lt (tgt := 31) dX3_change_19 (by decide) (fun c_19 => ?_) (fun c_19 => ?_)
      · skip
        refine AW_iconst dX3_change_31 ?_
        refine AW_zret dX3_change_32 rfl (by decide) ?_
        exact Or.inl ⟨by omega, rfl, rfl⟩
      · skip
        refine AW_iload_n dX3_change_22 rfl ?_
        refine AW_gst (e := 2) dX3_change_23 gs_MOST (fun s h => (kn_MOST h).1) (by decide) (by decide) ?_
        refine AW_iload_n dX3_change_26 rfl ?_
        refine AW_xiald (e := 2) (v := higS what.toNat) dX3_change_27 (fun s h => (kn_MOST h).2) (by decide) (by decide) (by omega) (by omega) (higS_v _ (by omega)).1 (higS_v _ (by omega)).2 ?_
        refine AW_icmp_le (tgt := 33) dX3_change_28 (by decide) (fun c_28 => ?_) (fun c_28 => ?_)
        · skip
          refine AW_aload_n dX3_change_33 rfl ?_
          refine AW_getR (a := 22) dX3_change_34 gfX3_24 (hS.cel rfl) (hS.rf rfl) ?_
          refine AW_iload_n dX3_change_37 rfl ?_
          refine AW_iload_n dX3_change_38 rfl ?_
          refine AW_iast dX3_change_39 (hS.cel rfl) (by omega) (by omega) ?_
          refine AW_aload_n dX3_change_40 rfl ?_
          refine AW_dup dX3_change_41 ?_
          refine AW_getI dX3_change_42 gfX3_33 (hS.cel rfl) ?_
          refine AW_iconst dX3_change_45 ?_
          refine AW_iaddE dX3_change_46 (by rw [up_r _ _ _ _ (by decide)]; omega) (by rw [up_r _ _ _ _ (by decide)]; omega) ?_
          refine AW_putI dX3_change_47 (Or.inl pfX3_33) (hS.cel rfl) ?_
          refine AW_iconst dX3_change_50 ?_
          refine AW_zret dX3_change_51 rfl (by decide) ?_
          refine Or.inr ⟨by omega, rfl, ⟨fun k hk => ?_, fun k hk => ?_, fun k hk => ?_, fun k hk => ?_, fun k hk => ?_⟩, ?_, (Fr.rf.up (by decide) _ _).up (by decide) _ _⟩
          · rw [up_r _ _ _ _ (by decide), up_r _ _ _ _ (by decide), hR.1 k hk]
            show _ = (if (0 : Nat) = 4 ∧ k = what.toNat then _ else _)
            rw [if_neg (by omega)]
          · rw [up_r _ _ _ _ (by decide), up_r _ _ _ _ (by decide), hR.2.1 k hk]
            show _ = (if (1 : Nat) = 4 ∧ k = what.toNat then _ else _)
            rw [if_neg (by omega)]
          · rw [up_r _ _ _ _ (by decide), up_r _ _ _ _ (by decide), hR.2.2.1 k hk]
            show _ = (if (2 : Nat) = 4 ∧ k = what.toNat then _ else _)
            rw [if_neg (by omega)]
          · rw [up_r _ _ _ _ (by decide), up_r _ _ _ _ (by decide), hR.2.2.2.1 k hk]
            show _ = (if (3 : Nat) = 4 ∧ k = what.toNat then _ else _)
            rw [if_neg (by omega)]
          · rw [up_r _ _ _ _ (by decide), up_if, hR.2.2.2.2 k hk]
            show _ = (if (4 : Nat) = 4 ∧ k = what.toNat then v else D 4 k)
            by_cases hc : k = what.toNat
            · rw [if_pos ⟨rfl, by omega⟩, if_pos (by omega)]
            · rw [if_neg (by omega), if_neg (by omega)]
          · rw [up_at, up_r _ _ _ _ (by decide)]
        · skip
          refine AW_iconst dX3_change_31 ?_
          refine AW_zret dX3_change_32 rfl (by decide) ?_
          exact Or.inl ⟨by omega, rfl, rfl⟩
