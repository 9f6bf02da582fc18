theorem l_fill {G : Gt} {d : Nat} {σ : St} {r N : Nat} {v : Int} (hk : Cel σ r (20, N)) (hN : N < 1000000) : ∀ (nn : Nat) (i : Int) (τ : St), ((N : Int) - i).toNat < nn → 0 ≤ i → i ≤ N → Fr [r] σ τ → (∀ j : Nat, (j : Int) < i → τ.2.1 r j = v) →  AW mJ7_fill_53178 G d 0 0 (mq G (fun ro ρ => ro = none ∧ Fr [r] σ ρ ∧ ∀ j, j < N → ρ.2.1 r j = v)) 5 [some (vR r), some (vI v), some (vI i), some (vI (N : Int))] [] τ := by
  intro nn
  induction nn with
  | zero => intros; omega
  | succ nn ih =>
    intro i τ hn h0 hi hF hp
    refine AW_iload_n dJ7_fill_53178_5 rfl ?_
    refine AW_iload_n dJ7_fill_53178_6 rfl ?_
    refine AW_icmp_ge (tgt := 20) dJ7_fill_53178_7 (by decide) (fun c_7 => ?_) (fun c_7 => ?_)
    · skip
      refine AW_vret dJ7_fill_53178_20 rfl ?_
      exact ⟨rfl, hF, fun j hj => hp j (by omega)⟩
    · skip
      refine AW_aload_n dJ7_fill_53178_10 rfl ?_
      refine AW_iload_n dJ7_fill_53178_11 rfl ?_
      refine AW_iload_n dJ7_fill_53178_12 rfl ?_
      refine AW_iast dJ7_fill_53178_13 (hF.cel hk) (by omega) (by omega) ?_
      refine AW_iincE2 dJ7_fill_53178_14 (by omega) (by omega) ?_
      refine AW_goto (tgt := 5) dJ7_fill_53178_17 (by decide) ?_
      exact ih (i + 1) _ (by omega) (by omega) (by omega) (hF.up (by simp) _ _) (fun j hj => by
        rw [up_if]
        split
        · rfl
        · exact hp j (by omega))
theorem k_fill {G : Gt} {d : Nat} {σ : St}  {r N : Nat} (hk : Cel σ r (20, N)) (hN : N < 1000000) (v : Int)  : AM mJ7_fill_53178 G d 0 0 [(vR r), vI v] σ (fun ro τ => ro = none ∧ Fr [r] σ τ ∧ ∀ j, j < N → τ.2.1 r j = v) := by
  refine AM.intro (by decide +kernel) (by simp [nLg]) (Nat.le_of_ble_eq_true rfl) (fun hO => ?_)
  have i_v : -2147483648 ≤ v ∧ v < 2147483648 := hO (vI v) (by simp)
  show AW _ _ _ _ _ _ 0 [some ((vR r)), some (vI v), none, none] [] σ
  refine AW_iconst dJ7_fill_53178_0 ?_
  refine AW_istore2 dJ7_fill_53178_1 ?_
  refine AW_aload_n dJ7_fill_53178_2 rfl ?_
  refine AW_alen dJ7_fill_53178_3 hk (by decide) (by omega) ?_
  refine AW_istore3 dJ7_fill_53178_4 ?_
  exact l_fill hk hN (N + 1) 0 σ (by omega) (by omega) (by omega) Fr.rf (fun j hj => by omega)
theorem k_worthTo {G : Gt} {d : Nat} {σ : St} (hd : 1 ≤ d) {D : Mk} (hS : Sta σ) (hR : RepC D σ) (hW : WFm D) (side i j : Int)  : AM mX3_worthTo G d 0 0 [vR 17, vI side, vI i, vI j] σ (fun r τ => τ = σ ∧ r = some (vI (if ((side = 0 ∨ side = 1) ∧ 0 ≤ i ∧ i < D 0 side.toNat) ∧ 0 ≤ j ∧ j < D 0 (1 - side).toNat then wo D side.toNat i.toNat j.toNat else 0))) := by
  refine AM.intro (by decide +kernel) (by simp [nLg]) (Nat.le_of_ble_eq_true rfl) (fun hO => ?_)
  have i_side : -2147483648 ≤ side ∧ side < 2147483648 := hO (vI side) (by simp)
  have i_i : -2147483648 ≤ i ∧ i < 2147483648 := hO (vI i) (by simp)
  have i_j : -2147483648 ≤ j ∧ j < 2147483648 := hO (vI j) (by simp)
  show AW _ _ _ _ _ _ 0 [some (vR 17), some (vI side), some (vI i), some (vI j), none] [] σ
  refine AW_aload_n dX3_worthTo_0 rfl ?_
  refine AW_iload_n dX3_worthTo_1 rfl ?_
  refine AW_iload_n dX3_worthTo_2 rfl ?_
  refine AW_callV2 (d' := d - 1) dX3_worthTo_3 (Or.inl lkX3_41) mfX3_isSort (hS.cel rfl) ⟨_, rfl, rfl⟩ (k_isSort hS hR side i) (by omega) (Nat.le_of_ble_eq_true rfl) ?_
  rintro _ _ ⟨rfl, rfl⟩ -
  refine AW_if_eq (tgt := 20) dX3_worthTo_6 (by decide) (fun c_6 => ?_) (fun c_6 => ?_)
  · skip
    replace c_6 := bz0 c_6
    refine AW_iconst dX3_worthTo_20 ?_
    refine AW_iret dX3_worthTo_21 rfl ?_
    exact ⟨rfl, by rw [if_neg (by omega)]⟩
  · skip
    replace c_6 := bz1 c_6
    have hb := hW.1 side.toNat (by omega)
    have hb2 := hW.1 (1 - side).toNat (by omega)
    refine AW_aload_n dX3_worthTo_9 rfl ?_
    refine AW_iconst dX3_worthTo_10 ?_
    refine AW_iload_n dX3_worthTo_11 rfl ?_
    refine AW_isubE dX3_worthTo_12 (by omega) (by omega) ?_
    refine AW_iload_n dX3_worthTo_13 rfl ?_
    refine AW_callV2 (d' := d - 1) dX3_worthTo_14 (Or.inl lkX3_41) mfX3_isSort (hS.cel rfl) ⟨_, rfl, rfl⟩ (k_isSort hS hR (1 - side) j) (by omega) (Nat.le_of_ble_eq_true rfl) ?_
    rintro _ _ ⟨rfl, rfl⟩ -
    refine AW_if_ne (tgt := 22) dX3_worthTo_17 (by decide) (fun c_17 => ?_) (fun c_17 => ?_)
    · skip
      replace c_17 := bz1 c_17
      have e1 : ((side * 6 + i) * 6 + j).toNat = 36 * side.toNat + 6 * i.toNat + j.toNat := by omega
      have e2 : ((1 - side) * 6 + j).toNat = 6 * (1 - side.toNat) + j.toNat := by omega
      refine AW_aload_n dX3_worthTo_22 rfl ?_
      refine AW_getR (a := 21) dX3_worthTo_23 gfX3_21 (hS.cel rfl) (hS.rf rfl) ?_
      refine AW_iload_n dX3_worthTo_26 rfl ?_
      refine AW_bipush dX3_worthTo_27 ?_
      refine AW_imulE dX3_worthTo_29 (by omega) (by omega) ?_
      refine AW_iload_n dX3_worthTo_30 rfl ?_
      refine AW_iaddE dX3_worthTo_31 (by omega) (by omega) ?_
      refine AW_bipush dX3_worthTo_32 ?_
      refine AW_imulE dX3_worthTo_34 (by omega) (by omega) ?_
      refine AW_iload_n dX3_worthTo_35 rfl ?_
      refine AW_iaddE dX3_worthTo_36 (by omega) (by omega) ?_
      refine AW_iald dX3_worthTo_37 (hS.cel rfl) (by omega) (by omega) ?_
      refine AW_istore4 dX3_worthTo_38 ?_
      refine AW_iload dX3_worthTo_40 rfl ?_
      refine AW_iconst dX3_worthTo_42 ?_
      refine AW_icmp_ne (tgt := 62) dX3_worthTo_43 (by decide) (fun c_43 => ?_) (fun c_43 => ?_)
      · skip
        rw [e1, hR.2.2.2.1 _ (by omega)] at c_43
        refine AW_iload dX3_worthTo_62 rfl ?_
        refine AW_iret dX3_worthTo_64 rfl ?_
        refine ⟨rfl, ?_⟩
        rw [if_pos (by omega)]
        unfold wo
        first | (rw [if_pos c_43, e2, hR.2.1 _ (by omega)]; done) | (rw [if_neg c_43, e1, hR.2.2.2.1 _ (by omega)]; done)
      · skip
        rw [e1, hR.2.2.2.1 _ (by omega)] at c_43
        refine AW_aload_n dX3_worthTo_46 rfl ?_
        refine AW_getR (a := 19) dX3_worthTo_47 gfX3_15 (hS.cel rfl) (hS.rf rfl) ?_
        refine AW_iconst dX3_worthTo_50 ?_
        refine AW_iload_n dX3_worthTo_51 rfl ?_
        refine AW_isubE dX3_worthTo_52 (by omega) (by omega) ?_
        refine AW_bipush dX3_worthTo_53 ?_
        refine AW_imulE dX3_worthTo_55 (by omega) (by omega) ?_
        refine AW_iload_n dX3_worthTo_56 rfl ?_
        refine AW_iaddE dX3_worthTo_57 (by omega) (by omega) ?_
        refine AW_iald dX3_worthTo_58 (hS.cel rfl) (by omega) (by omega) ?_
        refine AW_goto (tgt := 64) dX3_worthTo_59 (by decide) ?_
        refine AW_iret dX3_worthTo_64 rfl ?_
        refine ⟨rfl, ?_⟩
        rw [if_pos (by omega)]
        unfold wo
        first | (rw [if_pos c_43, e2, hR.2.1 _ (by omega)]; done) | (rw [if_neg c_43, e1, hR.2.2.2.1 _ (by omega)]; done)
    · skip
      replace c_17 := bz0 c_17
      refine AW_iconst dX3_worthTo_20 ?_
      refine AW_iret dX3_worthTo_21 rfl ?_
      exact ⟨rfl, by rw [if_neg (by omega)]⟩
def bestL (D : Mk) (s : Nat) : Nat → Int
  | 0 => 0
  | n + 1 => if (n : Int) < D 0 s then (if bestL D s n < D 1 (6 * s + n) then D 1 (6 * s + n) else bestL D s n) else bestL D s n
theorem bestL_in {D : Mk} (hW : WFm D) {s : Nat} (hs : s < 2) : ∀ n, n ≤ 6 → 0 ≤ bestL D s n ∧ bestL D s n ≤ 999 := by
  intro n
  induction n with
  | zero => intro _; simp [bestL]
  | succ n ih =>
    intro hn
    have h1 := ih (by omega)
    have h2 := hW.2.1 (6 * s + n) (by omega)
    simp only [bestL]
    split <;> (try split) <;> omega
theorem bestL_stop {D : Mk} {s : Nat} : ∀ k n : Nat, (n : Int) ≥ D 0 s → bestL D s (n + k) = bestL D s n := by
  intro k
  induction k with
  | zero => intro n _; rfl
  | succ k ih =>
    intro n h
    show bestL D s ((n + k) + 1) = _
    simp only [bestL]
    rw [if_neg (by omega), ih n h]
theorem l_bestLook {G : Gt} {d : Nat} {D : Mk} {σ : St} {side : Int} (hd : 2 ≤ d) (hS : Sta σ) (hR : RepC D σ) (hW : WFm D) (hs : side = 0 ∨ side = 1) : ∀ (nn : Nat) (i : Int), ((6 : Int) - i).toNat < nn → 0 ≤ i → i ≤ 6 →  AW mX3_bestLook G d 0 0 (mq G (fun ro ρ => ρ = σ ∧ ro = some (vI (bestL D side.toNat 6)))) 4 [some (vR 17), some (vI side), some (vI (bestL D side.toNat i.toNat)), some (vI i)] [] σ := by
  intro nn
  induction nn with
  | zero => intros; omega
  | succ nn ih =>
    intro i hn h0 hi
    refine AW_iload_n dX3_bestLook_4 rfl ?_
    refine AW_bipush dX3_bestLook_5 ?_
    refine AW_icmp_ge (tgt := 41) dX3_bestLook_7 (by decide) (fun c_7 => ?_) (fun c_7 => ?_)
    · skip
      have e0 : i.toNat = 6 := by omega
      have e1 : bestL D side.toNat 6 = bestL D side.toNat i.toNat := by rw [e0]
      refine AW_iload_n dX3_bestLook_41 rfl ?_
      refine AW_iret dX3_bestLook_42 rfl ?_
      exact ⟨rfl, by first | rw [e0] | rw [e1]⟩
    · skip
      refine AW_aload_n dX3_bestLook_10 rfl ?_
      refine AW_iload_n dX3_bestLook_11 rfl ?_
      refine AW_iload_n dX3_bestLook_12 rfl ?_
      refine AW_callV2 (d' := d - 1) dX3_bestLook_13 (Or.inl lkX3_41) mfX3_isSort (hS.cel rfl) ⟨_, rfl, rfl⟩ (k_isSort hS hR side i) (by omega) (Nat.le_of_ble_eq_true rfl) ?_
      rintro _ _ ⟨rfl, rfl⟩ -
      refine AW_if_eq (tgt := 41) dX3_bestLook_16 (by decide) (fun c_16 => ?_) (fun c_16 => ?_)
      · skip
        replace c_16 := bz0 c_16
        have e0 := bestL_stop (D := D) (s := side.toNat) (6 - i.toNat) i.toNat (by omega)
        rw [show i.toNat + (6 - i.toNat) = 6 by omega] at e0
        refine AW_iload_n dX3_bestLook_41 rfl ?_
        refine AW_iret dX3_bestLook_42 rfl ?_
        exact ⟨rfl, by first | rw [e0] | rw [e1]⟩
      · skip
        replace c_16 := bz1 c_16
        have e2 : (side * 6 + i).toNat = 6 * side.toNat + i.toNat := by omega
        refine AW_iload_n dX3_bestLook_19 rfl ?_
        refine AW_aload_n dX3_bestLook_20 rfl ?_
        refine AW_getR (a := 19) dX3_bestLook_21 gfX3_15 (hS.cel rfl) (hS.rf rfl) ?_
        refine AW_iload_n dX3_bestLook_24 rfl ?_
        refine AW_bipush dX3_bestLook_25 ?_
        refine AW_imulE dX3_bestLook_27 (by omega) (by omega) ?_
        refine AW_iload_n dX3_bestLook_28 rfl ?_
        refine AW_iaddE dX3_bestLook_29 (by omega) (by omega) ?_
        refine AW_iald dX3_bestLook_30 (hS.cel rfl) (by omega) (by omega) ?_
        refine AW_mmax dX3_bestLook_31 lkX3_51 (by omega) (Nat.le_of_ble_eq_true rfl) ?_
        rw [e2, hR.2.1 _ (by omega)]
        refine AW_istore2 dX3_bestLook_34 ?_
        refine AW_iincE3 dX3_bestLook_35 (by omega) (by omega) ?_
        refine AW_goto (tgt := 4) dX3_bestLook_38 (by decide) ?_
        have e3 : (if bestL D side.toNat i.toNat < D 1 (6 * side.toNat + i.toNat) then D 1 (6 * side.toNat + i.toNat) else bestL D side.toNat i.toNat) = bestL D side.toNat (i + 1).toNat := by
          rw [show (i + 1).toNat = i.toNat + 1 by omega]
          show _ = (if ((i.toNat : Nat) : Int) < D 0 side.toNat then _ else _)
          rw [if_pos (show ((i.toNat : Nat) : Int) < D 0 side.toNat by omega)]
        rw [e3]
        exact ih (i + 1) (by omega) (by omega) (by omega)
theorem k_bestLook {G : Gt} {d : Nat} {σ : St} (hd : 2 ≤ d) {D : Mk} (hS : Sta σ) (hR : RepC D σ) (hW : WFm D) (side : Int) (hs : side = 0 ∨ side = 1)  : AM mX3_bestLook G d 0 0 [vR 17, vI side] σ (fun r τ => τ = σ ∧ r = some (vI (bestL D side.toNat 6))) := by
  refine AM.intro (by decide +kernel) (by simp [nLg]) (Nat.le_of_ble_eq_true rfl) (fun hO => ?_)
  have i_side : -2147483648 ≤ side ∧ side < 2147483648 := hO (vI side) (by simp)
  show AW _ _ _ _ _ _ 0 [some (vR 17), some (vI side), none, none] [] σ
  refine AW_iconst dX3_bestLook_0 ?_
  refine AW_istore2 dX3_bestLook_1 ?_
  refine AW_iconst dX3_bestLook_2 ?_
  refine AW_istore3 dX3_bestLook_3 ?_
  exact l_bestLook hd hS hR hW hs 7 0 (by omega) (by omega) (by omega)
