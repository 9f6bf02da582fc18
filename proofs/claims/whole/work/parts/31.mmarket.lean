theorem n_isIn {G : Gt} {d : Nat} {σ : St}   (v low high : Int)  : AM mX12_isIn G d 0 0 [vR 94, vI v, vI low, vI high] σ (fun r τ => τ = σ ∧ r = some (vI (if low ≤ v ∧ v ≤ high then 1 else 0))) := by
  refine AM.intro (by decide +kernel) (by simp [nLg]) (Nat.le_of_ble_eq_true rfl) (fun hO => ?_)
  have i_v : -2147483648 ≤ v ∧ v < 2147483648 := hO (vI v) (by simp)
  have i_low : -2147483648 ≤ low ∧ low < 2147483648 := hO (vI low) (by simp)
  have i_high : -2147483648 ≤ high ∧ high < 2147483648 := hO (vI high) (by simp)
  show AW _ _ _ _ _ _ 0 [some (vR 94), some (vI v), some (vI low), some (vI high)] [] σ
  refine AW_iload_n dX12_isIn_0 rfl ?_
  refine AW_iload_n dX12_isIn_1 rfl ?_
  refine AW_icmp_lt (tgt := 14) dX12_isIn_2 (by decide) (fun c_2 => ?_) (fun c_2 => ?_)
  · skip
    refine AW_iconst dX12_isIn_14 ?_
    refine AW_zret dX12_isIn_15 rfl (by decide) ?_
    refine ⟨rfl, ?_⟩
    first | rw [if_pos (by omega)] | rw [if_neg (by omega)]
  · skip
    refine AW_iload_n dX12_isIn_5 rfl ?_
    refine AW_iload_n dX12_isIn_6 rfl ?_
    refine AW_icmp_gt (tgt := 14) dX12_isIn_7 (by decide) (fun c_7 => ?_) (fun c_7 => ?_)
    · skip
      refine AW_iconst dX12_isIn_14 ?_
      refine AW_zret dX12_isIn_15 rfl (by decide) ?_
      refine ⟨rfl, ?_⟩
      first | rw [if_pos (by omega)] | rw [if_neg (by omega)]
    · skip
      refine AW_iconst dX12_isIn_10 ?_
      refine AW_goto (tgt := 15) dX12_isIn_11 (by decide) ?_
      refine AW_zret dX12_isIn_15 rfl (by decide) ?_
      refine ⟨rfl, ?_⟩
      first | rw [if_pos (by omega)] | rw [if_neg (by omega)]
theorem n_isSide {G : Gt} {d : Nat} {σ : St}   (s : Int)  : AM mX12_isSide G d 0 0 [vR 94, vI s] σ (fun r τ => τ = σ ∧ r = some (vI (if s = 0 ∨ s = 1 then 1 else 0))) := by
  refine AM.intro (by decide +kernel) (by simp [nLg]) (Nat.le_of_ble_eq_true rfl) (fun hO => ?_)
  have i_s : -2147483648 ≤ s ∧ s < 2147483648 := hO (vI s) (by simp)
  show AW _ _ _ _ _ _ 0 [some (vR 94), some (vI s)] [] σ
  refine AW_iload_n dX12_isSide_0 rfl ?_
  refine AW_if_eq (tgt := 9) dX12_isSide_1 (by decide) (fun c_1 => ?_) (fun c_1 => ?_)
  · skip
    refine AW_iconst dX12_isSide_9 ?_
    refine AW_goto (tgt := 14) dX12_isSide_10 (by decide) ?_
    refine AW_zret dX12_isSide_14 rfl (by decide) ?_
    refine ⟨rfl, ?_⟩
    first | rw [if_pos (by omega)] | rw [if_neg (by omega)]
  · skip
    refine AW_iload_n dX12_isSide_4 rfl ?_
    refine AW_iconst dX12_isSide_5 ?_
    refine AW_icmp_ne (tgt := 13) dX12_isSide_6 (by decide) (fun c_6 => ?_) (fun c_6 => ?_)
    · skip
      refine AW_iconst dX12_isSide_13 ?_
      refine AW_zret dX12_isSide_14 rfl (by decide) ?_
      refine ⟨rfl, ?_⟩
      first | rw [if_pos (by omega)] | rw [if_neg (by omega)]
    · skip
      refine AW_iconst dX12_isSide_9 ?_
      refine AW_goto (tgt := 14) dX12_isSide_10 (by decide) ?_
      refine AW_zret dX12_isSide_14 rfl (by decide) ?_
      refine ⟨rfl, ?_⟩
      first | rw [if_pos (by omega)] | rw [if_neg (by omega)]
theorem n_isSort {G : Gt} {d : Nat} {σ : St} (hd : 1 ≤ d) {D : Mk} (hS : Sta σ) (hR : RepM D σ) (hW : WFm D) (s i : Int)  : AM mX12_isSort G d 0 0 [vR 94, vI s, vI i] σ (fun r τ => τ = σ ∧ r = some (vI (if (s = 0 ∨ s = 1) ∧ 0 ≤ i ∧ i < D 0 s.toNat then 1 else 0))) := by
  refine AM.intro (by decide +kernel) (by simp [nLg]) (Nat.le_of_ble_eq_true rfl) (fun hO => ?_)
  have i_s : -2147483648 ≤ s ∧ s < 2147483648 := hO (vI s) (by simp)
  have i_i : -2147483648 ≤ i ∧ i < 2147483648 := hO (vI i) (by simp)
  show AW _ _ _ _ _ _ 0 [some (vR 94), some (vI s), some (vI i)] [] σ
  refine AW_aload_n dX12_isSort_0 rfl ?_
  refine AW_iload_n dX12_isSort_1 rfl ?_
  refine AW_callV1 (d' := d - 1) dX12_isSort_2 (Or.inl lkX12_145) mfX12_isSide (hS.cel rfl) ⟨_, rfl, rfl⟩ (n_isSide s) (by omega) (Nat.le_of_ble_eq_true rfl) ?_
  rintro _ _ ⟨e_, rfl⟩ -
  rw [e_]
  clear e_
  refine AW_if_eq (tgt := 29) dX12_isSort_5 (by decide) (fun c_5 => ?_) (fun c_5 => ?_)
  · skip
    replace c_5 := bz0 c_5
    refine AW_iconst dX12_isSort_29 ?_
    refine AW_zret dX12_isSort_30 rfl (by decide) ?_
    refine ⟨rfl, ?_⟩
    first | rw [if_pos (by omega)] | rw [if_neg (by omega)]
  · skip
    replace c_5 := bz1 c_5
    have hb := hW.1 s.toNat (by omega)
    have hb2 := hR.1 s.toNat (by omega)
    refine AW_aload_n dX12_isSort_8 rfl ?_
    refine AW_iload_n dX12_isSort_9 rfl ?_
    refine AW_iconst dX12_isSort_10 ?_
    refine AW_aload_n dX12_isSort_11 rfl ?_
    refine AW_getR (a := 95) dX12_isSort_12 gfX12_7 (hS.cel rfl) (hS.rf rfl) ?_
    refine AW_iload_n dX12_isSort_15 rfl ?_
    refine AW_iald dX12_isSort_16 (hS.cel rfl) (by omega) (by omega) ?_
    refine AW_iconst dX12_isSort_17 ?_
    refine AW_isubE dX12_isSort_18 (by omega) (by omega) ?_
    refine AW_callV3 (d' := d - 1) dX12_isSort_19 (Or.inl lkX12_149) mfX12_isIn (hS.cel rfl) ⟨_, rfl, rfl⟩ (n_isIn i 0 _) (by omega) (Nat.le_of_ble_eq_true rfl) ?_
    rintro _ _ ⟨e_, rfl⟩ -
    rw [e_]
    clear e_
    refine AW_if_eq (tgt := 29) dX12_isSort_22 (by decide) (fun c_22 => ?_) (fun c_22 => ?_)
    · skip
      replace c_22 := bz0 c_22
      refine AW_iconst dX12_isSort_29 ?_
      refine AW_zret dX12_isSort_30 rfl (by decide) ?_
      refine ⟨rfl, ?_⟩
      first | rw [if_pos (by omega)] | rw [if_neg (by omega)]
    · skip
      replace c_22 := bz1 c_22
      refine AW_iconst dX12_isSort_25 ?_
      refine AW_goto (tgt := 30) dX12_isSort_26 (by decide) ?_
      refine AW_zret dX12_isSort_30 rfl (by decide) ?_
      refine ⟨rfl, ?_⟩
      first | rw [if_pos (by omega)] | rw [if_neg (by omega)]
theorem n_worthTo {G : Gt} {d : Nat} {σ : St}  {D : Mk} (hS : Sta σ) (hR : RepM D σ) (hW : WFm D) (side i j : Int) (hs : (side = 0 ∨ side = 1) ∧ (0 ≤ i ∧ i < 6) ∧ 0 ≤ j ∧ j < 6)  : AM mX12_worthTo G d 0 0 [vR 94, vI side, vI i, vI j] σ (fun r τ => τ = σ ∧ r = some (vI (wo D side.toNat i.toNat j.toNat))) := by
  refine AM.intro (by decide +kernel) (by simp [nLg]) (Nat.le_of_ble_eq_true rfl) (fun hO => ?_)
  have i_side : -2147483648 ≤ side ∧ side < 2147483648 := hO (vI side) (by simp)
  have i_i : -2147483648 ≤ i ∧ i < 2147483648 := hO (vI i) (by simp)
  have i_j : -2147483648 ≤ j ∧ j < 2147483648 := hO (vI j) (by simp)
  show AW _ _ _ _ _ _ 0 [some (vR 94), some (vI side), some (vI i), some (vI j), none] [] σ
  have e1 : (36 * side + 6 * i + j).toNat = 36 * side.toNat + 6 * i.toNat + j.toNat := by omega
  have e2 : (6 * (1 - side) + j).toNat = 6 * (1 - side.toNat) + j.toNat := by omega
  refine AW_aload_n dX12_worthTo_0 rfl ?_
  refine AW_getR (a := 98) dX12_worthTo_1 gfX12_19 (hS.cel rfl) (hS.rf rfl) ?_
  refine AW_bipush dX12_worthTo_4 ?_
  refine AW_iload_n dX12_worthTo_6 rfl ?_
  refine AW_imulE dX12_worthTo_7 (by omega) (by omega) ?_
  refine AW_bipush dX12_worthTo_8 ?_
  refine AW_iload_n dX12_worthTo_10 rfl ?_
  refine AW_imulE dX12_worthTo_11 (by omega) (by omega) ?_
  refine AW_iaddE dX12_worthTo_12 (by omega) (by omega) ?_
  refine AW_iload_n dX12_worthTo_13 rfl ?_
  refine AW_iaddE dX12_worthTo_14 (by omega) (by omega) ?_
  refine AW_iald dX12_worthTo_15 (hS.cel rfl) (by omega) (by omega) ?_
  refine AW_istore4 dX12_worthTo_16 ?_
  refine AW_iload dX12_worthTo_18 rfl ?_
  refine AW_iconst dX12_worthTo_20 ?_
  refine AW_icmp_ne (tgt := 40) dX12_worthTo_21 (by decide) (fun c_21 => ?_) (fun c_21 => ?_)
  · skip
    rw [e1, hR.2.2.2.1 _ (by omega)] at c_21
    refine AW_iload dX12_worthTo_40 rfl ?_
    refine AW_iret dX12_worthTo_42 rfl ?_
    refine ⟨rfl, ?_⟩
    unfold wo
    first | (rw [if_pos c_21, e2, hR.2.1 _ (by omega)]; done) | (rw [if_neg c_21, e1, hR.2.2.2.1 _ (by omega)]; done)
  · skip
    rw [e1, hR.2.2.2.1 _ (by omega)] at c_21
    refine AW_aload_n dX12_worthTo_24 rfl ?_
    refine AW_getR (a := 96) dX12_worthTo_25 gfX12_13 (hS.cel rfl) (hS.rf rfl) ?_
    refine AW_bipush dX12_worthTo_28 ?_
    refine AW_iconst dX12_worthTo_30 ?_
    refine AW_iload_n dX12_worthTo_31 rfl ?_
    refine AW_isubE dX12_worthTo_32 (by omega) (by omega) ?_
    refine AW_imulE dX12_worthTo_33 (by omega) (by omega) ?_
    refine AW_iload_n dX12_worthTo_34 rfl ?_
    refine AW_iaddE dX12_worthTo_35 (by omega) (by omega) ?_
    refine AW_iald dX12_worthTo_36 (hS.cel rfl) (by omega) (by omega) ?_
    refine AW_goto (tgt := 42) dX12_worthTo_37 (by decide) ?_
    refine AW_iret dX12_worthTo_42 rfl ?_
    refine ⟨rfl, ?_⟩
    unfold wo
    first | (rw [if_pos c_21, e2, hR.2.1 _ (by omega)]; done) | (rw [if_neg c_21, e1, hR.2.2.2.1 _ (by omega)]; done)
theorem ln_sorts2 {G : Gt} {d : Nat} {D : Mk} {σ : St} {side n : Int} (hS : Sta σ) (hR : RepM D σ) (hs : side = 0 ∨ side = 1) : ∀ (nn : Nat) (i : Int) (τ : St), ((72 : Int) - i).toNat < nn → 0 ≤ i → i ≤ 72 → Fm [0] [95, 96, 97, 98] σ τ → (∀ k : Nat, k < 2 → τ.2.1 95 k = if k = side.toNat then n else D 0 k) ∧ (∀ k : Nat, k < 12 → τ.2.1 96 k = if 6 * side.toNat ≤ k ∧ (k : Int) < 6 * (side.toNat : Int) + 6 then 0 else D 1 k) ∧ (∀ k : Nat, k < 12 → τ.2.1 97 k = if 6 * side.toNat ≤ k ∧ (k : Int) < 6 * (side.toNat : Int) + 6 then 0 else D 2 k) → (∀ k : Nat, (k : Int) < i → τ.2.1 98 k = -1) →  AW mX12_sorts G d 0 0 (mq G (fun ro ρ => ro = some (vI 1) ∧ RepM (dSorts D side.toNat n) ρ ∧ ρ.2.1 94 18 = 0 ∧ Fm [0, 18] [95, 96, 97, 98] σ ρ)) 78 [some (vR 94), some (vI side), some (vI n), some (vI i)] [] τ := by
  intro nn
  induction nn with
  | zero => intros; omega
  | succ nn ih =>
    intro i τ hn h0 hi hF hp hq
    refine AW_iload_n dX12_sorts_78 rfl ?_
    refine AW_bipush dX12_sorts_79 ?_
    refine AW_icmp_ge (tgt := 97) dX12_sorts_81 (by decide) (fun c_81 => ?_) (fun c_81 => ?_)
    · skip
      refine AW_aload_n dX12_sorts_97 rfl ?_
      refine AW_iconst dX12_sorts_98 ?_
      refine AW_putZ dX12_sorts_99 (Or.inl pfX12_156) ((hF.sta hS).cel rfl) (by decide) ?_
      refine AW_iconst dX12_sorts_102 ?_
      refine AW_zret dX12_sorts_103 rfl (by decide) ?_
      refine ⟨rfl, ⟨fun k hk => ?_, fun k hk => ?_, fun k hk => ?_, fun k hk => ?_, fun k hk => ?_⟩, up_at _ _ _ _, (hF.mo (by decide) (by decide)).uf (by decide) _⟩
      · rw [up_r _ _ _ _ (by decide), hp.1 k hk]; rfl
      · rw [up_r _ _ _ _ (by decide), hp.2.1 k hk]
        show _ = (if 6 * side.toNat ≤ k ∧ k < 6 * side.toNat + 6 then 0 else D 1 k)
        by_cases hc : 6 * side.toNat ≤ k ∧ k < 6 * side.toNat + 6
        · rw [if_pos hc, if_pos (by omega)]
        · rw [if_neg hc, if_neg (by omega)]
      · rw [up_r _ _ _ _ (by decide), hp.2.2 k hk]
        show _ = (if 6 * side.toNat ≤ k ∧ k < 6 * side.toNat + 6 then 0 else D 2 k)
        by_cases hc : 6 * side.toNat ≤ k ∧ k < 6 * side.toNat + 6
        · rw [if_pos hc, if_pos (by omega)]
        · rw [if_neg hc, if_neg (by omega)]
      · rw [up_r _ _ _ _ (by decide), hq k (by omega)]; rfl
      · rw [up_j _ _ _ (by omega), hF.f (5 + k) (by simp), hR.2.2.2.2 k hk]; rfl
    · skip
      refine AW_aload_n dX12_sorts_84 rfl ?_
      refine AW_getR (a := 98) dX12_sorts_85 gfX12_19 ((hF.sta hS).cel rfl) ((hF.sta hS).rf rfl) ?_
      refine AW_iload_n dX12_sorts_88 rfl ?_
      refine AW_iconst dX12_sorts_89 ?_
      refine AW_iast dX12_sorts_90 ((hF.sta hS).cel rfl) (by omega) (by omega) ?_
      refine AW_iincE3 dX12_sorts_91 (by omega) (by omega) ?_
      refine AW_goto (tgt := 78) dX12_sorts_94 (by decide) ?_
      refine ih (i + 1) _ (by omega) (by omega) (by omega) (hF.ua (by decide) (by decide) _ _) ⟨fun k hk => ?_, fun k hk => ?_, fun k hk => ?_⟩ (fun k hk => ?_)
      · rw [up_r _ _ _ _ (by decide)]; exact hp.1 k hk
      · rw [up_r _ _ _ _ (by decide)]; exact hp.2.1 k hk
      · rw [up_r _ _ _ _ (by decide)]; exact hp.2.2 k hk
      · rw [up_if]
        split
        · rfl
        · exact hq k (by omega)
theorem ln_sorts1 {G : Gt} {d : Nat} {D : Mk} {σ : St} {side n : Int} (hS : Sta σ) (hR : RepM D σ) (hs : side = 0 ∨ side = 1) : ∀ (nn : Nat) (i : Int) (τ : St), ((6 * side + 6 : Int) - i).toNat < nn → 6 * side ≤ i → i ≤ 6 * side + 6 → Fm [0] [95, 96, 97, 98] σ τ → (∀ k : Nat, k < 2 → τ.2.1 95 k = if k = side.toNat then n else D 0 k) ∧ (∀ k : Nat, k < 12 → τ.2.1 96 k = if 6 * side.toNat ≤ k ∧ (k : Int) < i then 0 else D 1 k) ∧ (∀ k : Nat, k < 12 → τ.2.1 97 k = if 6 * side.toNat ≤ k ∧ (k : Int) < i then 0 else D 2 k) →  AW mX12_sorts G d 0 0 (mq G (fun ro ρ => ro = some (vI 1) ∧ RepM (dSorts D side.toNat n) ρ ∧ ρ.2.1 94 18 = 0 ∧ Fm [0, 18] [95, 96, 97, 98] σ ρ)) 45 [some (vR 94), some (vI side), some (vI n), some (vI i)] [] τ := by
  intro nn
  induction nn with
  | zero => intros; omega
  | succ nn ih =>
    intro i τ hn h0 hi hF hp
    refine AW_iload_n dX12_sorts_45 rfl ?_
    refine AW_bipush dX12_sorts_46 ?_
    refine AW_iload_n dX12_sorts_48 rfl ?_
    refine AW_imulE dX12_sorts_49 (by omega) (by omega) ?_
    refine AW_bipush dX12_sorts_50 ?_
    refine AW_iaddE dX12_sorts_52 (by omega) (by omega) ?_
    refine AW_icmp_ge (tgt := 76) dX12_sorts_53 (by decide) (fun c_53 => ?_) (fun c_53 => ?_)
    · skip
      refine AW_iconst dX12_sorts_76 ?_
      refine AW_istore3 dX12_sorts_77 ?_
      refine ln_sorts2 hS hR hs 73 0 τ (by omega) (by omega) (by omega) hF ⟨hp.1, fun k hk => ?_, fun k hk => ?_⟩ (fun k hk => by omega)
      · rw [hp.2.1 k hk, show i = 6 * (side.toNat : Int) + 6 by omega]
      · rw [hp.2.2 k hk, show i = 6 * (side.toNat : Int) + 6 by omega]
    · skip
      refine AW_aload_n dX12_sorts_56 rfl ?_
      refine AW_getR (a := 96) dX12_sorts_57 gfX12_13 ((hF.sta hS).cel rfl) ((hF.sta hS).rf rfl) ?_
      refine AW_iload_n dX12_sorts_60 rfl ?_
      refine AW_iconst dX12_sorts_61 ?_
      refine AW_iast dX12_sorts_62 ((hF.sta hS).cel rfl) (by omega) (by omega) ?_
      refine AW_aload_n dX12_sorts_63 rfl ?_
      refine AW_getR (a := 97) dX12_sorts_64 gfX12_16 ((hF.sta hS).cel rfl) ((hF.sta hS).rf rfl) ?_
      refine AW_iload_n dX12_sorts_67 rfl ?_
      refine AW_iconst dX12_sorts_68 ?_
      refine AW_iast dX12_sorts_69 ((hF.sta hS).cel rfl) (by omega) (by omega) ?_
      refine AW_iincE3 dX12_sorts_70 (by omega) (by omega) ?_
      refine AW_goto (tgt := 45) dX12_sorts_73 (by decide) ?_
      refine ih (i + 1) _ (by omega) (by omega) (by omega) ((hF.ua (by decide) (by decide) _ _).ua (by decide) (by decide) _ _) ⟨fun k hk => ?_, fun k hk => ?_, fun k hk => ?_⟩
      · rw [up_r _ _ _ _ (by decide), up_r _ _ _ _ (by decide)]; exact hp.1 k hk
      · rw [up_r _ _ _ _ (by decide), up_if, hp.2.1 k hk]
        by_cases hc : k = i.toNat
        · rw [if_pos ⟨rfl, hc⟩, if_pos (by omega)]
        · rw [if_neg (by omega)]
          by_cases hc2 : 6 * side.toNat ≤ k ∧ (k : Int) < i
          · rw [if_pos hc2, if_pos (by omega)]
          · rw [if_neg hc2, if_neg (by omega)]
      · rw [up_if, up_r _ _ _ _ (by decide), hp.2.2 k hk]
        by_cases hc : k = i.toNat
        · rw [if_pos ⟨rfl, hc⟩, if_pos (by omega)]
        · rw [if_neg (by omega)]
          by_cases hc2 : 6 * side.toNat ≤ k ∧ (k : Int) < i
          · rw [if_pos hc2, if_pos (by omega)]
          · rw [if_neg hc2, if_neg (by omega)]
theorem m_sorts {G : Gt} {d : Nat} {σ : St} (hd : 1 ≤ d) {D : Mk} (hS : Sta σ) (hR : RepM D σ) (hW : WFm D) (side n : Int)  : AM mX12_sorts G d 0 0 [vR 94, vI side, vI n] σ (fun ro ρ => (¬ ((side = 0 ∨ side = 1) ∧ 1 ≤ n ∧ n ≤ 6 ∧ σ.2.1 94 42 ≤ 0) ∧ ro = some (vI 0) ∧ Fm [0] [] σ ρ) ∨ (((side = 0 ∨ side = 1) ∧ 1 ≤ n ∧ n ≤ 6 ∧ σ.2.1 94 42 ≤ 0) ∧ ro = some (vI 1) ∧ RepM (dSorts D side.toNat n) ρ ∧ ρ.2.1 94 18 = 0 ∧ Fm [0, 18] [95, 96, 97, 98] σ ρ)) := by
  refine AM.intro (by decide +kernel) (by simp [nLg]) (Nat.le_of_ble_eq_true rfl) (fun hO => ?_)
  have i_side : -2147483648 ≤ side ∧ side < 2147483648 := hO (vI side) (by simp)
  have i_n : -2147483648 ≤ n ∧ n < 2147483648 := hO (vI n) (by simp)
  show AW _ _ _ _ _ _ 0 [some (vR 94), some (vI side), some (vI n), none] [] σ
  refine AW_aload_n dX12_sorts_0 rfl ?_
  refine AW_iconst dX12_sorts_1 ?_
  refine AW_putI dX12_sorts_2 (Or.inl pfX12_142) (hS.cel rfl) ?_
  have hF1 : Fm [0] [] σ (upI σ 94 0 0) := Fm.rf.uf (by decide) _
  have hS1 : Sta (upI σ 94 0 0) := hS
  have hR1 : RepM D (upI σ 94 0 0) := hR.fm hF1
  generalize upI σ 94 0 0 = σ1 at hF1 hS1 hR1 ⊢
  refine AW_aload_n dX12_sorts_5 rfl ?_
  refine AW_iload_n dX12_sorts_6 rfl ?_
  refine AW_callV1 (d' := d - 1) dX12_sorts_7 (Or.inl lkX12_145) mfX12_isSide (hS1.cel rfl) ⟨_, rfl, rfl⟩ (n_isSide side) (by omega) (Nat.le_of_ble_eq_true rfl) ?_
  rintro _ _ ⟨e_, rfl⟩ -
  rw [e_]
  clear e_
  refine AW_if_eq (tgt := 31) dX12_sorts_10 (by decide) (fun c_10 => ?_) (fun c_10 => ?_)
  · skip
    replace c_10 := bz0 c_10
    refine AW_iconst dX12_sorts_31 ?_
    refine AW_zret dX12_sorts_32 rfl (by decide) ?_
    exact Or.inl ⟨by omega, rfl, hF1⟩
  · skip
    replace c_10 := bz1 c_10
    refine AW_aload_n dX12_sorts_13 rfl ?_
    refine AW_iload_n dX12_sorts_14 rfl ?_
    refine AW_iconst dX12_sorts_15 ?_
    refine AW_bipush dX12_sorts_16 ?_
    refine AW_callV3 (d' := d - 1) dX12_sorts_18 (Or.inl lkX12_149) mfX12_isIn (hS1.cel rfl) ⟨_, rfl, rfl⟩ (n_isIn n 1 6) (by omega) (Nat.le_of_ble_eq_true rfl) ?_
    rintro _ _ ⟨e_, rfl⟩ -
    rw [e_]
    clear e_
    refine AW_if_eq (tgt := 31) dX12_sorts_21 (by decide) (fun c_21 => ?_) (fun c_21 => ?_)
    · skip
      replace c_21 := bz0 c_21
      refine AW_iconst dX12_sorts_31 ?_
      refine AW_zret dX12_sorts_32 rfl (by decide) ?_
      exact Or.inl ⟨by omega, rfl, hF1⟩
    · skip
      replace c_21 := bz1 c_21
      refine AW_aload_n dX12_sorts_24 rfl ?_
      refine AW_getI dX12_sorts_25 gfX12_153 (hS1.cel rfl) ?_
      refine AW_if_le (tgt := 33) dX12_sorts_28 (by decide) (fun c_28 => ?_) (fun c_28 => ?_)
      · skip
        rw [hF1.f 42] at c_28
        refine AW_aload_n dX12_sorts_33 rfl ?_
        refine AW_getR (a := 95) dX12_sorts_34 gfX12_7 (hS1.cel rfl) (hS1.rf rfl) ?_
        refine AW_iload_n dX12_sorts_37 rfl ?_
        refine AW_iload_n dX12_sorts_38 rfl ?_
        refine AW_iast dX12_sorts_39 (hS1.cel rfl) (by omega) (by omega) ?_
        refine AW_bipush dX12_sorts_40 ?_
        refine AW_iload_n dX12_sorts_42 rfl ?_
        refine AW_imulE dX12_sorts_43 (by omega) (by omega) ?_
        refine AW_istore3 dX12_sorts_44 ?_
        have hC : ((side = 0 ∨ side = 1) ∧ 1 ≤ n ∧ n ≤ 6 ∧ σ.2.1 94 42 ≤ 0) := by omega
        refine AW_mq (fun r τ h => Or.inr ⟨hC, h⟩) (ln_sorts1 hS hR hC.1 8 (6 * side) _ (by omega) (by omega) (by omega) ((hF1.mo (by decide) (by decide)).ua (by decide) (by decide) _ _) ⟨fun k hk => ?_, fun k hk => ?_, fun k hk => ?_⟩)
        · rw [up_if, hR1.1 k hk]
          by_cases hc : k = side.toNat
          · rw [if_pos ⟨rfl, hc⟩, if_pos hc]
          · rw [if_neg (by omega), if_neg hc]
        · rw [up_r _ _ _ _ (by decide), hR1.2.1 k hk, if_neg (by omega)]
        · rw [up_r _ _ _ _ (by decide), hR1.2.2.1 k hk, if_neg (by omega)]
      · skip
        rw [hF1.f 42] at c_28
        refine AW_iconst dX12_sorts_31 ?_
        refine AW_zret dX12_sorts_32 rfl (by decide) ?_
        exact Or.inl ⟨by omega, rfl, hF1⟩
