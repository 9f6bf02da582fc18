def mtab (D : Mk) (σ : St) (t : Nat) : Prop := ∀ s i, s < 2 → (i : Nat) < 6 → (i : Int) < D 0 s → ∀ t', t ≤ t' → (t' : Int) ≤ D 4 2 → σ.2.1 102 (12 * t' + 6 * s + i) = wt D ((D 4 2).toNat - t') s i
/-- the model's WAITS are right where it says so -/
def mwC (D : Mk) (σ : St) : Prop := σ.2.1 94 18 = 0 ∨ (σ.2.1 94 18 = 1 ∧ mtab D σ 0)
theorem mtab.fm {D : Mk} {fs L : List Nat} {σ τ : St} {t : Nat} (h : mtab D σ t) (hF : Fm fs L σ τ) (hn : 102 ∉ 94 :: L := by decide) : mtab D τ t := fun s i a b c t' e f => (hF.a 102 _ hn).trans (h s i a b c t' e f)
theorem n_waitOf {G : Gt} {d : Nat} {σ : St}  {D : Mk} (hS : Sta σ) (hW : WFm D) {t : Nat} (hT : mtab D σ t) (side i0 t0 : Int) (s i : Nat) (h : side = s) (h2 : i0 = i) (hs : s < 2) (hi : (i : Int) < D 0 s) (ht : (t : Int) ≤ t0 ∧ t0 ≤ D 4 2)  : AM mX12_waitOf G d 0 0 [vR 94, vI side, vI i0, vI t0] σ (fun r τ => τ = σ ∧ r = some (vI (wt D ((D 4 2).toNat - t0.toNat) s i))) := by
  refine AM.intro (by decide +kernel) (by simp [nLg]) (Nat.le_of_ble_eq_true rfl) (fun hO => ?_)
  have i_side : -2147483648 ≤ side ∧ side < 2147483648 := hO (vI side) (by simp)
  have i_i0 : -2147483648 ≤ i0 ∧ i0 < 2147483648 := hO (vI i0) (by simp)
  have i_t0 : -2147483648 ≤ t0 ∧ t0 < 2147483648 := hO (vI t0) (by simp)
  show AW _ _ _ _ _ _ 0 [some (vR 94), some (vI side), some (vI i0), some (vI t0)] [] σ
  have hb := hW.1 s hs
  have hl := hW.2.2.2.2.2.2.1
  refine AW_aload_n dX12_waitOf_0 rfl ?_
  refine AW_getR (a := 102) dX12_waitOf_1 gfX12_44 (hS.cel rfl) (hS.rf rfl) ?_
  refine AW_bipush dX12_waitOf_4 ?_
  refine AW_iload_n dX12_waitOf_6 rfl ?_
  refine AW_imulE dX12_waitOf_7 (by omega) (by omega) ?_
  refine AW_bipush dX12_waitOf_8 ?_
  refine AW_iload_n dX12_waitOf_10 rfl ?_
  refine AW_imulE dX12_waitOf_11 (by omega) (by omega) ?_
  refine AW_iaddE dX12_waitOf_12 (by omega) (by omega) ?_
  refine AW_iload_n dX12_waitOf_13 rfl ?_
  refine AW_iaddE dX12_waitOf_14 (by omega) (by omega) ?_
  refine AW_iald dX12_waitOf_15 (hS.cel rfl) (by omega) (by omega) ?_
  refine AW_iret dX12_waitOf_16 rfl ?_
  refine ⟨rfl, ?_⟩
  rw [show (12 * t0 + 6 * side + i0).toNat = 12 * t0.toNat + 6 * s + i by omega, hT s i hs (by omega) hi t0.toNat (by omega) (by omega)]
theorem n_takes {G : Gt} {d : Nat} {σ : St} (hd : 1 ≤ d) {D : Mk} (hS : Sta σ) (hR : RepM D σ) (hW : WFm D) {t : Nat} (hT : mtab D σ t) (side i0 j0 t0 : Int) (s i j : Nat) (h : side = s) (h2 : i0 = i) (h3 : j0 = j) (hs : s < 2) (hi : (i : Int) < D 0 s) (hj : (j : Int) < D 0 (1 - s)) (ht : (t : Int) ≤ t0 ∧ t0 ≤ D 4 2)  : AM mX12_takes G d 0 0 [vR 94, vI side, vI i0, vI j0, vI t0] σ (fun r τ => τ = σ ∧ r = some (vI (if wt D ((D 4 2).toNat - t0.toNat) s i ≤ wo D s i j then 1 else 0))) := by
  refine AM.intro (by decide +kernel) (by simp [nLg]) (Nat.le_of_ble_eq_true rfl) (fun hO => ?_)
  have i_side : -2147483648 ≤ side ∧ side < 2147483648 := hO (vI side) (by simp)
  have i_i0 : -2147483648 ≤ i0 ∧ i0 < 2147483648 := hO (vI i0) (by simp)
  have i_j0 : -2147483648 ≤ j0 ∧ j0 < 2147483648 := hO (vI j0) (by simp)
  have i_t0 : -2147483648 ≤ t0 ∧ t0 < 2147483648 := hO (vI t0) (by simp)
  show AW _ _ _ _ _ _ 0 [some (vR 94), some (vI side), some (vI i0), some (vI j0), some (vI t0)] [] σ
  have hb := hW.1 s hs
  have hb2 := hW.1 (1 - s) (by omega)
  refine AW_aload_n dX12_takes_0 rfl ?_
  refine AW_iload_n dX12_takes_1 rfl ?_
  refine AW_iload_n dX12_takes_2 rfl ?_
  refine AW_iload_n dX12_takes_3 rfl ?_
  refine AW_callV3 (d' := d - 1) dX12_takes_4 (Or.inl lkX12_194) mfX12_worthTo (hS.cel rfl) ⟨_, rfl, rfl⟩ (n_worthTo hS hR hW side i0 j0 (by omega)) (by omega) (Nat.le_of_ble_eq_true rfl) ?_
  rintro _ _ ⟨e_, rfl⟩ -
  rw [e_]
  clear e_
  refine AW_aload_n dX12_takes_7 rfl ?_
  refine AW_iload_n dX12_takes_8 rfl ?_
  refine AW_iload_n dX12_takes_9 rfl ?_
  refine AW_iload dX12_takes_10 rfl ?_
  refine AW_callV3 (d' := d - 1) dX12_takes_12 (Or.inl lkX12_198) mfX12_waitOf (hS.cel rfl) ⟨_, rfl, rfl⟩ (n_waitOf hS hW hT side i0 t0 s i h h2 hs hi ht) (by omega) (Nat.le_of_ble_eq_true rfl) ?_
  rintro _ _ ⟨e_, rfl⟩ -
  rw [e_]
  clear e_
  refine AW_icmp_lt (tgt := 22) dX12_takes_15 (by decide) (fun c_15 => ?_) (fun c_15 => ?_)
  · skip
    rw [show side.toNat = s by omega, show i0.toNat = i by omega, show j0.toNat = j by omega] at c_15
    refine AW_iconst dX12_takes_22 ?_
    refine AW_zret dX12_takes_23 rfl (by decide) ?_
    refine ⟨rfl, ?_⟩
    first | rw [if_pos (by omega)] | rw [if_neg (by omega)]
  · skip
    rw [show side.toNat = s by omega, show i0.toNat = i by omega, show j0.toNat = j by omega] at c_15
    refine AW_iconst dX12_takes_18 ?_
    refine AW_goto (tgt := 23) dX12_takes_19 (by decide) ?_
    refine AW_zret dX12_takes_23 rfl (by decide) ?_
    refine ⟨rfl, ?_⟩
    first | rw [if_pos (by omega)] | rw [if_neg (by omega)]
theorem ln_wa {G : Gt} {d : Nat} {D : Mk} {σ : St} {s i t : Nat} (hd : 2 ≤ d) (hS : Sta σ) (hR : RepM D σ) (hW : WFm D) (hs : s < 2) (hi : (i : Int) < D 0 s) (ht : 1 ≤ t ∧ (t : Int) ≤ D 4 2) (hT : mtab D σ t) : ∀ (nn : Nat) (j : Nat) (x8 x9 : Option AV), (7 - j) < nn → (j : Int) ≤ D 0 (1 - s) →  AW mX12_waitAhead G d 0 0 (mq G (fun ro ρ => ρ = σ ∧ ro = some (vI (wt D ((D 4 2).toNat - (t - 1)) s i)))) 16 [some (vR 94), some (vI (s : Int)), some (vI (i : Int)), some (vI (t : Int)), some (vI (1 - (s : Int))), some (vI (mS D (wt D ((D 4 2).toNat - t)) s i j)), some (vI (1000 - oF D (1 - s) j)), some (vI (j : Int)), x8, x9] [] σ := by
  intro nn
  induction nn with
  | zero => intros; omega
  | succ nn ih =>
    intro j x8 x9 hn hj
    have hb := hW.1 s hs
    have hb2 := hW.1 (1 - s) (by omega)
    have hl := hW.2.2.2.2.2.2.1
    have hc0 := hW.2.2.2.2.1
    have hwi := wt_in hW ((D 4 2).toNat - t) s i hs (by omega)
    have hms := mS_in hW hs (by omega) hwi j (by omega)
    have hof := oF_in hW (s := 1 - s) (by omega) (n := j) (by omega)
    have hsm := hR.1 (1 - s) (by omega)
    have e0 : (1 - (s : Int)).toNat = 1 - s := by omega
    refine AW_iload dX12_waitAhead_16 rfl ?_
    refine AW_aload_n dX12_waitAhead_18 rfl ?_
    refine AW_getR (a := 95) dX12_waitAhead_19 gfX12_7 (hS.cel rfl) (hS.rf rfl) ?_
    refine AW_iload dX12_waitAhead_22 rfl ?_
    refine AW_iald dX12_waitAhead_24 (hS.cel rfl) (by omega) (by omega) ?_
    refine AW_icmp_ge (tgt := 119) dX12_waitAhead_25 (by decide) (fun c_25 => ?_) (fun c_25 => ?_)
    · skip
      rw [e0, hsm] at c_25
      have hw2 := mS_wS D (wt D ((D 4 2).toNat - t)) s i j
      have hws := wS_bnd hW hs (by omega) hwi (n := j) (by omega)
      have hmm := mul0 (x := 1000 - oF D (1 - s) j) (A := 1000) (by omega) hwi
      refine AW_iload dX12_waitAhead_119 rfl ?_
      refine AW_iload dX12_waitAhead_121 rfl ?_
      refine AW_aload_n dX12_waitAhead_123 rfl ?_
      refine AW_iload_n dX12_waitAhead_124 rfl ?_
      refine AW_iload_n dX12_waitAhead_125 rfl ?_
      refine AW_iload_n dX12_waitAhead_126 rfl ?_
      refine AW_callV3 (d' := d - 1) dX12_waitAhead_127 (Or.inl lkX12_198) mfX12_waitOf (hS.cel rfl) ⟨_, rfl, rfl⟩ (n_waitOf hS hW hT (s : Int) (i : Int) (t : Int) s i rfl rfl hs hi (by omega)) (by omega) (Nat.le_of_ble_eq_true rfl) ?_
      rintro _ _ ⟨e_, rfl⟩ -
      rw [e_]
      clear e_
      rw [Int.toNat_natCast]
      refine AW_imulE dX12_waitAhead_130 (by omega) (by omega) ?_
      refine AW_iaddE dX12_waitAhead_131 (by omega) (by omega) ?_
      refine AW_sipush dX12_waitAhead_132 ?_
      refine AW_idivE dX12_waitAhead_135 (by omega) (by omega) (by decide) ?_
      refine AW_aload_n dX12_waitAhead_136 rfl ?_
      refine AW_getI dX12_waitAhead_137 gfX12_22 (hS.cel rfl) ?_
      refine AW_isubE dX12_waitAhead_140 (by rw [show σ.2.1 94 5 = D 4 0 from hR.2.2.2.2 0 (by decide)]; omega) (by rw [show σ.2.1 94 5 = D 4 0 from hR.2.2.2.2 0 (by decide)]; omega) ?_
      refine AW_istore7 dX12_waitAhead_141 ?_
      refine AW_iload dX12_waitAhead_143 rfl ?_
      refine AW_if_ge (tgt := 152) dX12_waitAhead_145 (by decide) (fun c_145 => ?_) (fun c_145 => ?_)
      · skip
        refine AW_iload dX12_waitAhead_152 rfl ?_
        refine AW_iret dX12_waitAhead_154 rfl ?_
        refine ⟨rfl, ?_⟩
        have ej : (D 0 (1 - s)).toNat = j := by omega
        have ee : (D 4 2).toNat - (t - 1) = ((D 4 2).toNat - t) + 1 := by omega
        rw [ee]
        show _ = some (vI (if wS D (wt D ((D 4 2).toNat - t)) s i (D 0 (1 - s)).toNat / 1000 - D 4 0 < 0 then 0 else wS D (wt D ((D 4 2).toNat - t)) s i (D 0 (1 - s)).toNat / 1000 - D 4 0))
        rw [ej, ← hw2]
        have ec : σ.2.1 94 5 = D 4 0 := hR.2.2.2.2 0 (by decide)
        rw [ec] at c_145
        first
        | (rw [if_pos (by omega)]; done)
        | (rw [if_neg (by omega), ec])
      · skip
        refine AW_iconst dX12_waitAhead_148 ?_
        refine AW_goto (tgt := 154) dX12_waitAhead_149 (by decide) ?_
        refine AW_iret dX12_waitAhead_154 rfl ?_
        refine ⟨rfl, ?_⟩
        have ej : (D 0 (1 - s)).toNat = j := by omega
        have ee : (D 4 2).toNat - (t - 1) = ((D 4 2).toNat - t) + 1 := by omega
        rw [ee]
        show _ = some (vI (if wS D (wt D ((D 4 2).toNat - t)) s i (D 0 (1 - s)).toNat / 1000 - D 4 0 < 0 then 0 else wS D (wt D ((D 4 2).toNat - t)) s i (D 0 (1 - s)).toNat / 1000 - D 4 0))
        rw [ej, ← hw2]
        have ec : σ.2.1 94 5 = D 4 0 := hR.2.2.2.2 0 (by decide)
        rw [ec] at c_145
        first
        | (rw [if_pos (by omega)]; done)
        | (rw [if_neg (by omega), ec])
    · skip
      rw [e0, hsm] at c_25
      have e1 := hR.2.2.1 (6 * (1 - s) + j) (by omega)
      have e4 := hW.2.2.1 (6 * (1 - s) + j) (by omega)
      have hwo := wo_in hW hs (i := i) (j := j) (by omega) (by omega)
      have e5 : mS D (wt D ((D 4 2).toNat - t)) s i (j + 1) = mS D (wt D ((D 4 2).toNat - t)) s i j + D 2 (6 * (1 - s) + j) * (if wt D ((D 4 2).toNat - t) s i ≤ wo D s i j ∧ wt D ((D 4 2).toNat - t) (1 - s) j ≤ wo D (1 - s) j i then wo D s i j else wt D ((D 4 2).toNat - t) s i) := rfl
      have e6 : oF D (1 - s) (j + 1) = oF D (1 - s) j + D 2 (6 * (1 - s) + j) := rfl
      have m1 := mul0 e4 hwo
      have m2 := mul0 e4 hwi
      refine AW_aload_n dX12_waitAhead_28 rfl ?_
      refine AW_getR (a := 97) dX12_waitAhead_29 gfX12_16 (hS.cel rfl) (hS.rf rfl) ?_
      refine AW_bipush dX12_waitAhead_32 ?_
      refine AW_iload dX12_waitAhead_34 rfl ?_
      refine AW_imulE dX12_waitAhead_36 (by omega) (by omega) ?_
      refine AW_iload dX12_waitAhead_37 rfl ?_
      refine AW_iaddE dX12_waitAhead_39 (by omega) (by omega) ?_
      refine AW_iald dX12_waitAhead_40 (hS.cel rfl) (by omega) (by omega) ?_
      rw [show (6 * (1 - (s : Int)) + (j : Int)).toNat = 6 * (1 - s) + j by omega, e1]
      refine AW_istore8 dX12_waitAhead_41 ?_
      refine AW_aload_n dX12_waitAhead_43 rfl ?_
      refine AW_iload_n dX12_waitAhead_44 rfl ?_
      refine AW_iload_n dX12_waitAhead_45 rfl ?_
      refine AW_iload dX12_waitAhead_46 rfl ?_
      refine AW_iload_n dX12_waitAhead_48 rfl ?_
      refine AW_callV4 (d' := d - 1) dX12_waitAhead_49 (Or.inl lkX12_201) mfX12_takes (hS.cel rfl) ⟨_, rfl, rfl⟩ (n_takes (t := t) (by omega) hS hR hW hT (s : Int) (i : Int) (j : Int) (t : Int) s i j rfl rfl rfl hs hi (by omega) (by omega)) (by omega) (Nat.le_of_ble_eq_true rfl) ?_
      rintro _ _ ⟨e_, rfl⟩ -
      rw [e_]
      clear e_
      rw [Int.toNat_natCast]
      refine AW_if_eq (tgt := 72) dX12_waitAhead_52 (by decide) (fun c_52 => ?_) (fun c_52 => ?_)
      · skip
        replace c_52 := bz0 c_52
        refine AW_iconst dX12_waitAhead_72 ?_
        refine AW_istore9 dX12_waitAhead_73 ?_
        refine AW_iload dX12_waitAhead_75 rfl ?_
        refine AW_iload dX12_waitAhead_77 rfl ?_
        refine AW_iload dX12_waitAhead_79 rfl ?_
        refine AW_if_eq (tgt := 95) dX12_waitAhead_81 (by decide) (fun _ => ?_) (fun c_81 => absurd c_81 (by decide))
        refine AW_aload_n dX12_waitAhead_95 rfl ?_
        refine AW_iload_n dX12_waitAhead_96 rfl ?_
        refine AW_iload_n dX12_waitAhead_97 rfl ?_
        refine AW_iload_n dX12_waitAhead_98 rfl ?_
        refine AW_callV3 (d' := d - 1) dX12_waitAhead_99 (Or.inl lkX12_198) mfX12_waitOf (hS.cel rfl) ⟨_, rfl, rfl⟩ (n_waitOf hS hW hT (s : Int) (i : Int) (t : Int) s i rfl rfl hs hi (by omega)) (by omega) (Nat.le_of_ble_eq_true rfl) ?_
        rintro _ _ ⟨e_, rfl⟩ -
        rw [e_]
        clear e_
        rw [Int.toNat_natCast]
        refine AW_imulE dX12_waitAhead_102 (by omega) (by omega) ?_
        refine AW_iaddE dX12_waitAhead_103 (by omega) (by omega) ?_
        refine AW_istore5 dX12_waitAhead_104 ?_
        refine AW_iload dX12_waitAhead_106 rfl ?_
        refine AW_iload dX12_waitAhead_108 rfl ?_
        refine AW_isubE dX12_waitAhead_110 (by omega) (by omega) ?_
        refine AW_istore6 dX12_waitAhead_111 ?_
        refine AW_iincE7 dX12_waitAhead_113 (by omega) (by omega) ?_
        refine AW_goto (tgt := 16) dX12_waitAhead_116 (by decide) ?_
        rw [show (j : Int) + 1 = ((j + 1 : Nat) : Int) by omega, show 1000 - oF D (1 - s) j - D 2 (6 * (1 - s) + j) = 1000 - oF D (1 - s) (j + 1) by omega]
        first
        | rw [if_pos ⟨by omega, by omega⟩] at e5
        | rw [if_neg (by omega)] at e5
        rw [← e5]
        exact ih (j + 1) _ _ (by omega) (by omega)
      · skip
        replace c_52 := bz1 c_52
        refine AW_aload_n dX12_waitAhead_55 rfl ?_
        refine AW_iload dX12_waitAhead_56 rfl ?_
        refine AW_iload dX12_waitAhead_58 rfl ?_
        refine AW_iload_n dX12_waitAhead_60 rfl ?_
        refine AW_iload_n dX12_waitAhead_61 rfl ?_
        refine AW_callV4 (d' := d - 1) dX12_waitAhead_62 (Or.inl lkX12_201) mfX12_takes (hS.cel rfl) ⟨_, rfl, rfl⟩ (n_takes (t := t) (by omega) hS hR hW hT (1 - (s : Int)) (j : Int) (i : Int) (t : Int) (1 - s) j i (by omega) rfl rfl (by omega) (by omega) (by rw [show 1 - (1 - s) = s by omega]; exact hi) (by omega)) (by omega) (Nat.le_of_ble_eq_true rfl) ?_
        rintro _ _ ⟨e_, rfl⟩ -
        rw [e_]
        clear e_
        rw [Int.toNat_natCast]
        refine AW_if_eq (tgt := 72) dX12_waitAhead_65 (by decide) (fun c_65 => ?_) (fun c_65 => ?_)
        · skip
          replace c_65 := bz0 c_65
          refine AW_iconst dX12_waitAhead_72 ?_
          refine AW_istore9 dX12_waitAhead_73 ?_
          refine AW_iload dX12_waitAhead_75 rfl ?_
          refine AW_iload dX12_waitAhead_77 rfl ?_
          refine AW_iload dX12_waitAhead_79 rfl ?_
          refine AW_if_eq (tgt := 95) dX12_waitAhead_81 (by decide) (fun _ => ?_) (fun c_81 => absurd c_81 (by decide))
          refine AW_aload_n dX12_waitAhead_95 rfl ?_
          refine AW_iload_n dX12_waitAhead_96 rfl ?_
          refine AW_iload_n dX12_waitAhead_97 rfl ?_
          refine AW_iload_n dX12_waitAhead_98 rfl ?_
          refine AW_callV3 (d' := d - 1) dX12_waitAhead_99 (Or.inl lkX12_198) mfX12_waitOf (hS.cel rfl) ⟨_, rfl, rfl⟩ (n_waitOf hS hW hT (s : Int) (i : Int) (t : Int) s i rfl rfl hs hi (by omega)) (by omega) (Nat.le_of_ble_eq_true rfl) ?_
          rintro _ _ ⟨e_, rfl⟩ -
          rw [e_]
          clear e_
          rw [Int.toNat_natCast]
          refine AW_imulE dX12_waitAhead_102 (by omega) (by omega) ?_
          refine AW_iaddE dX12_waitAhead_103 (by omega) (by omega) ?_
          refine AW_istore5 dX12_waitAhead_104 ?_
          refine AW_iload dX12_waitAhead_106 rfl ?_
          refine AW_iload dX12_waitAhead_108 rfl ?_
          refine AW_isubE dX12_waitAhead_110 (by omega) (by omega) ?_
          refine AW_istore6 dX12_waitAhead_111 ?_
          refine AW_iincE7 dX12_waitAhead_113 (by omega) (by omega) ?_
          refine AW_goto (tgt := 16) dX12_waitAhead_116 (by decide) ?_
          rw [show (j : Int) + 1 = ((j + 1 : Nat) : Int) by omega, show 1000 - oF D (1 - s) j - D 2 (6 * (1 - s) + j) = 1000 - oF D (1 - s) (j + 1) by omega]
          first
          | rw [if_pos ⟨by omega, by omega⟩] at e5
          | rw [if_neg (by omega)] at e5
          rw [← e5]
          exact ih (j + 1) _ _ (by omega) (by omega)
        · skip
          replace c_65 := bz1 c_65
          refine AW_iconst dX12_waitAhead_68 ?_
          refine AW_goto (tgt := 73) dX12_waitAhead_69 (by decide) ?_
          refine AW_istore9 dX12_waitAhead_73 ?_
          refine AW_iload dX12_waitAhead_75 rfl ?_
          refine AW_iload dX12_waitAhead_77 rfl ?_
          refine AW_iload dX12_waitAhead_79 rfl ?_
          refine AW_if_eq (tgt := 95) dX12_waitAhead_81 (by decide) (fun c_81 => absurd c_81 (by decide)) (fun _ => ?_)
          refine AW_aload_n dX12_waitAhead_84 rfl ?_
          refine AW_iload_n dX12_waitAhead_85 rfl ?_
          refine AW_iload_n dX12_waitAhead_86 rfl ?_
          refine AW_iload dX12_waitAhead_87 rfl ?_
          refine AW_callV3 (d' := d - 1) dX12_waitAhead_89 (Or.inl lkX12_194) mfX12_worthTo (hS.cel rfl) ⟨_, rfl, rfl⟩ (n_worthTo hS hR hW (s : Int) (i : Int) (j : Int) (by omega)) (by omega) (Nat.le_of_ble_eq_true rfl) ?_
          rintro _ _ ⟨e_, rfl⟩ -
          rw [e_]
          clear e_
          rw [Int.toNat_natCast, Int.toNat_natCast, Int.toNat_natCast]
          refine AW_goto (tgt := 102) dX12_waitAhead_92 (by decide) ?_
          refine AW_imulE dX12_waitAhead_102 (by omega) (by omega) ?_
          refine AW_iaddE dX12_waitAhead_103 (by omega) (by omega) ?_
          refine AW_istore5 dX12_waitAhead_104 ?_
          refine AW_iload dX12_waitAhead_106 rfl ?_
          refine AW_iload dX12_waitAhead_108 rfl ?_
          refine AW_isubE dX12_waitAhead_110 (by omega) (by omega) ?_
          refine AW_istore6 dX12_waitAhead_111 ?_
          refine AW_iincE7 dX12_waitAhead_113 (by omega) (by omega) ?_
          refine AW_goto (tgt := 16) dX12_waitAhead_116 (by decide) ?_
          rw [show (j : Int) + 1 = ((j + 1 : Nat) : Int) by omega, show 1000 - oF D (1 - s) j - D 2 (6 * (1 - s) + j) = 1000 - oF D (1 - s) (j + 1) by omega]
          first
          | rw [if_pos ⟨by omega, by omega⟩] at e5
          | rw [if_neg (by omega)] at e5
          rw [← e5]
          exact ih (j + 1) _ _ (by omega) (by omega)
theorem n_wa {G : Gt} {d : Nat} {σ : St} (hd : 2 ≤ d) {D : Mk} (hS : Sta σ) (hR : RepM D σ) (hW : WFm D) {s i t : Nat} (hs : s < 2) (hi : (i : Int) < D 0 s) (ht : 1 ≤ t ∧ (t : Int) ≤ D 4 2) (hT : mtab D σ t)  : AM mX12_waitAhead G d 0 0 [vR 94, (vI (s : Int)), (vI (i : Int)), (vI (t : Int))] σ (fun ro ρ => ρ = σ ∧ ro = some (vI (wt D ((D 4 2).toNat - (t - 1)) s i))) := by
  refine AM.intro (by decide +kernel) (by simp [nLg]) (Nat.le_of_ble_eq_true rfl) (fun hO => ?_)
  show AW _ _ _ _ _ _ 0 [some (vR 94), some ((vI (s : Int))), some ((vI (i : Int))), some ((vI (t : Int))), none, none, none, none, none, none] [] σ
  refine AW_iconst dX12_waitAhead_0 ?_
  refine AW_iload_n dX12_waitAhead_1 rfl ?_
  refine AW_isubE dX12_waitAhead_2 (by omega) (by omega) ?_
  refine AW_istore4 dX12_waitAhead_3 ?_
  refine AW_iconst dX12_waitAhead_5 ?_
  refine AW_istore5 dX12_waitAhead_6 ?_
  refine AW_sipush dX12_waitAhead_8 ?_
  refine AW_istore6 dX12_waitAhead_11 ?_
  refine AW_iconst dX12_waitAhead_13 ?_
  refine AW_istore7 dX12_waitAhead_14 ?_
  exact ln_wa hd hS hR hW hs hi ht hT 8 0 none none (by omega) (by have := hW.1 (1 - s) (by omega); omega)
theorem ln_fw4 {G : Gt} {d : Nat} {D : Mk} {σ : St} (hd : 3 ≤ d) (hS : Sta σ) (hR : RepM D σ) (hW : WFm D) {s t : Nat} (hs : s < 2) (ht : 1 ≤ t ∧ (t : Int) ≤ D 4 2) (P : St → Prop) (hP : ∀ τ j x, P τ → (12 * (t - 1) + 6 * s ≤ j ∧ j < 12 * (t - 1) + 6 * s + 6) → P (upI τ 102 j x)) (K : ∀ τ x3, Fm [18] [102] σ τ → τ.2.1 94 18 = 1 → P τ → mtab D τ t → (∀ i : Nat, (i : Int) < D 0 s → τ.2.1 102 (12 * (t - 1) + 6 * s + i) = wt D ((D 4 2).toNat - (t - 1)) s i) → AW mX12_findsWaits G d 0 0 (mq G (fun ro ρ => ro = none ∧ mtab D ρ 0 ∧ ρ.2.1 94 18 = 1 ∧ Fm [18] [102] σ ρ)) 102 [some (vR 94), some (vI (t : Int)), some (vI (s : Int)), x3] [] τ) : ∀ (nn : Nat) (i : Nat) (τ : St), (7 - i) < nn → (i : Int) ≤ D 0 s → Fm [18] [102] σ τ → τ.2.1 94 18 = 1 → P τ → mtab D τ t → (∀ k : Nat, k < i → τ.2.1 102 (12 * (t - 1) + 6 * s + k) = wt D ((D 4 2).toNat - (t - 1)) s k) →  AW mX12_findsWaits G d 0 0 (mq G (fun ro ρ => ro = none ∧ mtab D ρ 0 ∧ ρ.2.1 94 18 = 1 ∧ Fm [18] [102] σ ρ)) 60 [some (vR 94), some (vI (t : Int)), some (vI (s : Int)), some (vI (i : Int))] [] τ := by
  intro nn
  induction nn with
  | zero => intros; omega
  | succ nn ih =>
    intro i τ hn hi hF h1 hPt hT hp
    have hb := hW.1 s hs
    have hl := hW.2.2.2.2.2.2.1
    have hRt := hR.fm hF
    have hsm := hRt.1 s hs
    refine AW_iload_n dX12_findsWaits_60 rfl ?_
    refine AW_aload_n dX12_findsWaits_61 rfl ?_
    refine AW_getR (a := 95) dX12_findsWaits_62 gfX12_7 ((hF.sta hS).cel rfl) ((hF.sta hS).rf rfl) ?_
    refine AW_iload_n dX12_findsWaits_65 rfl ?_
    refine AW_iald dX12_findsWaits_66 ((hF.sta hS).cel rfl) (by omega) (by omega) ?_
    refine AW_icmp_ge (tgt := 102) dX12_findsWaits_67 (by decide) (fun c_67 => ?_) (fun c_67 => ?_)
    · skip
      rw [Int.toNat_natCast, hsm] at c_67
      exact K τ _ hF h1 hPt hT (fun k hk => hp k (by omega))
    · skip
      rw [Int.toNat_natCast, hsm] at c_67
      refine AW_aload_n dX12_findsWaits_70 rfl ?_
      refine AW_getR (a := 102) dX12_findsWaits_71 gfX12_44 ((hF.sta hS).cel rfl) ((hF.sta hS).rf rfl) ?_
      refine AW_bipush dX12_findsWaits_74 ?_
      refine AW_iload_n dX12_findsWaits_76 rfl ?_
      refine AW_imulE dX12_findsWaits_77 (by omega) (by omega) ?_
      refine AW_bipush dX12_findsWaits_78 ?_
      refine AW_isubE dX12_findsWaits_80 (by omega) (by omega) ?_
      refine AW_bipush dX12_findsWaits_81 ?_
      refine AW_iload_n dX12_findsWaits_83 rfl ?_
      refine AW_imulE dX12_findsWaits_84 (by omega) (by omega) ?_
      refine AW_iaddE dX12_findsWaits_85 (by omega) (by omega) ?_
      refine AW_iload_n dX12_findsWaits_86 rfl ?_
      refine AW_iaddE dX12_findsWaits_87 (by omega) (by omega) ?_
      refine AW_aload_n dX12_findsWaits_88 rfl ?_
      refine AW_iload_n dX12_findsWaits_89 rfl ?_
      refine AW_iload_n dX12_findsWaits_90 rfl ?_
      refine AW_iload_n dX12_findsWaits_91 rfl ?_
      refine AW_callV3 (d' := d - 1) dX12_findsWaits_92 (Or.inl lkX12_205) mfX12_waitAhead ((hF.sta hS).cel rfl) ⟨_, rfl, rfl⟩ (n_wa (s := s) (i := i) (t := t) (by omega) (hF.sta hS) hRt hW hs (by omega) ht hT) (by omega) (Nat.le_of_ble_eq_true rfl) ?_
      rintro _ _ ⟨e_, rfl⟩ -
      rw [e_]
      clear e_
      refine AW_iast dX12_findsWaits_95 ((hF.sta hS).cel rfl) (by omega) (by omega) ?_
      refine AW_iincE3 dX12_findsWaits_96 (by omega) (by omega) ?_
      refine AW_goto (tgt := 60) dX12_findsWaits_99 (by decide) ?_
      rw [show (i : Int) + 1 = ((i + 1 : Nat) : Int) by omega, show (12 * (t : Int) - 12 + 6 * (s : Int) + (i : Int)).toNat = 12 * (t - 1) + 6 * s + i by omega]
      refine ih (i + 1) _ (by omega) (by omega) (hF.ua (by decide) (by decide) _ _) (by rw [up_r _ _ _ _ (by decide)]; exact h1) (hP _ _ _ hPt (by omega)) (fun s2 i2 hs2 hi2 q1 t2 q2 q3 => ?_) (fun k hk => ?_)
      · rw [up_if, if_neg (by omega)]
        exact hT s2 i2 hs2 hi2 q1 t2 q2 q3
      · rw [up_if]
        by_cases hc : k = i
        · subst hc
          rw [if_pos ⟨rfl, rfl⟩]
        · rw [if_neg (by omega)]
          exact hp k (by omega)
theorem ln_fw2 {G : Gt} {d : Nat} {D : Mk} {σ : St} (hd : 3 ≤ d) (hS : Sta σ) (hR : RepM D σ) (hW : WFm D) : ∀ (nn : Nat) (t : Nat) (x2 x3 : Option AV) (τ : St), t < nn → (t : Int) ≤ D 4 2 → Fm [18] [102] σ τ → τ.2.1 94 18 = 1 → mtab D τ t →  AW mX12_findsWaits G d 0 0 (mq G (fun ro ρ => ro = none ∧ mtab D ρ 0 ∧ ρ.2.1 94 18 = 1 ∧ Fm [18] [102] σ ρ)) 47 [some (vR 94), some (vI (t : Int)), x2, x3] [] τ := by
  intro nn
  induction nn with
  | zero => intros; omega
  | succ nn ih =>
    intro t x2 x3 τ hn ht hF h1 hT
    have hl := hW.2.2.2.2.2.2.1
    refine AW_iload_n dX12_findsWaits_47 rfl ?_
    refine AW_if_le (tgt := 114) dX12_findsWaits_48 (by decide) (fun c_48 => ?_) (fun c_48 => ?_)
    · skip
      refine AW_vret dX12_findsWaits_114 rfl ?_
      rw [show t = 0 by omega] at hT
      exact ⟨rfl, hT, h1, hF⟩
    · skip
      refine AW_iconst dX12_findsWaits_51 ?_
      refine AW_istore2 dX12_findsWaits_52 ?_
      refine AW_iload_n dX12_findsWaits_53 rfl ?_
      refine AW_iconst dX12_findsWaits_54 ?_
      refine AW_icmp_ge (tgt := 108) dX12_findsWaits_55 (by decide) (fun c => absurd c (by decide)) (fun _ => ?_)
      refine AW_iconst dX12_findsWaits_58 ?_
      refine AW_istore3 dX12_findsWaits_59 ?_
      refine ln_fw4 (s := 0) (t := t) hd hS hR hW (by decide) ⟨by omega, ht⟩ (fun _ => True) (fun _ _ _ _ _ => trivial) (fun τ2 x3' hF2 h12 _ hT2 hp2 => ?_) 8 0 τ (by omega) (by have := hW.1 0 (by decide); omega) hF h1 trivial hT (fun k hk => by omega)
      refine AW_iincE2 dX12_findsWaits_102 (by decide) (by decide) ?_
      refine AW_goto (tgt := 53) dX12_findsWaits_105 (by decide) ?_
      refine AW_iload_n dX12_findsWaits_53 rfl ?_
      refine AW_iconst dX12_findsWaits_54 ?_
      refine AW_icmp_ge (tgt := 108) dX12_findsWaits_55 (by decide) (fun c => absurd c (by decide)) (fun _ => ?_)
      refine AW_iconst dX12_findsWaits_58 ?_
      refine AW_istore3 dX12_findsWaits_59 ?_
      refine ln_fw4 (s := 1) (t := t) hd hS hR hW (by decide) ⟨by omega, ht⟩ (fun τ => ∀ i : Nat, (i : Int) < D 0 0 → τ.2.1 102 (12 * (t - 1) + 6 * 0 + i) = wt D ((D 4 2).toNat - (t - 1)) 0 i) (fun τ j x q hj k hk => ?_) (fun τ3 x3'' hF3 h13 hP3 hT3 hp3 => ?_) 8 0 τ2 (by omega) (by have := hW.1 1 (by decide); omega) hF2 h12 hp2 hT2 (fun k hk => by omega)
      · have hb0 := hW.1 0 (by decide)
        rw [up_if, if_neg (by omega)]
        exact q k hk
      refine AW_iincE2 dX12_findsWaits_102 (by decide) (by decide) ?_
      refine AW_goto (tgt := 53) dX12_findsWaits_105 (by decide) ?_
      refine AW_iload_n dX12_findsWaits_53 rfl ?_
      refine AW_iconst dX12_findsWaits_54 ?_
      refine AW_icmp_ge (tgt := 108) dX12_findsWaits_55 (by decide) (fun _ => ?_) (fun c => absurd c (by decide))
      refine AW_iincE1 dX12_findsWaits_108 (by omega) (by omega) ?_
      refine AW_goto (tgt := 47) dX12_findsWaits_111 (by decide) ?_
      rw [show (t : Int) + -1 = ((t - 1 : Nat) : Int) by omega]
      refine ih (t - 1) _ _ τ3 (by omega) (by omega) hF3 h13 (fun s i hs hi q1 t2 q2 q3 => ?_)
      by_cases hc : t2 = t - 1
      · subst hc
        rcases (show s = 0 ∨ s = 1 by omega) with rfl | rfl
        · exact hP3 i q1
        · exact hp3 i q1
      · exact hT3 s i hs hi q1 t2 (by omega) q3
theorem ln_fw1 {G : Gt} {d : Nat} {D : Mk} {σ : St} (hd : 3 ≤ d) (hS : Sta σ) (hR : RepM D σ) (hW : WFm D) : ∀ (nn : Nat) (q : Nat) (τ : St), (12 - q) < nn → q ≤ 12 → Fm [18] [102] σ τ → τ.2.1 94 18 = 1 → (∀ k : Nat, k < q → τ.2.1 102 (12 * (D 4 2).toNat + k) = 0) →  AW mX12_findsWaits G d 0 0 (mq G (fun ro ρ => ro = none ∧ mtab D ρ 0 ∧ ρ.2.1 94 18 = 1 ∧ Fm [18] [102] σ ρ)) 15 [some (vR 94), some (vI (q : Int)), none, none] [] τ := by
  intro nn
  induction nn with
  | zero => intros; omega
  | succ nn ih =>
    intro q τ hn hq hF h1 hp
    have hl := hW.2.2.2.2.2.2.1
    have hlw : τ.2.1 94 7 = D 4 2 := (hR.fm hF).2.2.2.2 2 (by decide)
    refine AW_iload_n dX12_findsWaits_15 rfl ?_
    refine AW_bipush dX12_findsWaits_16 ?_
    refine AW_icmp_ge (tgt := 42) dX12_findsWaits_18 (by decide) (fun c_18 => ?_) (fun c_18 => ?_)
    · skip
      refine AW_aload_n dX12_findsWaits_42 rfl ?_
      refine AW_getI dX12_findsWaits_43 gfX12_29 ((hF.sta hS).cel rfl) ?_
      rw [hlw]
      refine AW_istore1 dX12_findsWaits_46 ?_
      have hT : mtab D τ (D 4 2).toNat := fun s i hs hi q1 t' ht1 ht2 => by
        rw [show t' = (D 4 2).toNat by omega, Nat.sub_self, Nat.add_assoc, hp (6 * s + i) (by omega)]
        rfl
      have := ln_fw2 (G := G) hd hS hR hW ((D 4 2).toNat + 1) (D 4 2).toNat none none τ (by omega) (by omega) hF h1 hT
      rw [show ((D 4 2).toNat : Int) = D 4 2 by omega] at this
      exact this
    · skip
      refine AW_aload_n dX12_findsWaits_21 rfl ?_
      refine AW_getR (a := 102) dX12_findsWaits_22 gfX12_44 ((hF.sta hS).cel rfl) ((hF.sta hS).rf rfl) ?_
      refine AW_bipush dX12_findsWaits_25 ?_
      refine AW_aload_n dX12_findsWaits_27 rfl ?_
      refine AW_getI dX12_findsWaits_28 gfX12_29 ((hF.sta hS).cel rfl) ?_
      rw [hlw]
      refine AW_imulE dX12_findsWaits_31 (by omega) (by omega) ?_
      refine AW_iload_n dX12_findsWaits_32 rfl ?_
      refine AW_iaddE dX12_findsWaits_33 (by omega) (by omega) ?_
      refine AW_iconst dX12_findsWaits_34 ?_
      refine AW_iast dX12_findsWaits_35 ((hF.sta hS).cel rfl) (by omega) (by omega) ?_
      refine AW_iincE1 dX12_findsWaits_36 (by omega) (by omega) ?_
      refine AW_goto (tgt := 15) dX12_findsWaits_39 (by decide) ?_
      rw [show (q : Int) + 1 = ((q + 1 : Nat) : Int) by omega, show (12 * D 4 2 + (q : Int)).toNat = 12 * (D 4 2).toNat + q by omega]
      refine ih (q + 1) _ (by omega) (by omega) (hF.ua (by decide) (by decide) _ _) (by rw [up_r _ _ _ _ (by decide)]; exact h1) (fun k hk => ?_)
      rw [up_if]
      by_cases hc : k = q
      · rw [if_pos ⟨rfl, by rw [hc]⟩]
      · rw [if_neg (by omega)]
        exact hp k (by omega)
theorem n_fw {G : Gt} {d : Nat} {σ : St} (hd : 3 ≤ d) {D : Mk} (hS : Sta σ) (hR : RepM D σ) (hW : WFm D) (hC : mwC D σ)  : AM mX12_findsWaits G d 0 0 [vR 94] σ (fun ro ρ => ro = none ∧ mtab D ρ 0 ∧ ρ.2.1 94 18 = 1 ∧ Fm [18] [102] σ ρ) := by
  refine AM.intro (by decide +kernel) (by simp [nLg]) (Nat.le_of_ble_eq_true rfl) (fun hO => ?_)
  show AW _ _ _ _ _ _ 0 [some (vR 94), none, none, none] [] σ
  refine AW_aload_n dX12_findsWaits_0 rfl ?_
  refine AW_getI dX12_findsWaits_1 gfX12_156 (hS.cel rfl) ?_
  refine AW_if_eq (tgt := 8) dX12_findsWaits_4 (by decide) (fun c_4 => ?_) (fun c_4 => ?_)
  · skip
    skip
    refine AW_aload_n dX12_findsWaits_8 rfl ?_
    refine AW_iconst dX12_findsWaits_9 ?_
    refine AW_putZ dX12_findsWaits_10 (Or.inl pfX12_156) (hS.cel rfl) (by decide) ?_
    refine AW_iconst dX12_findsWaits_13 ?_
    refine AW_istore1 dX12_findsWaits_14 ?_
    exact ln_fw1 hd hS hR hW 13 0 _ (by omega) (by omega) (Fm.rf.uf (by decide) _) (up_at _ _ _ _) (fun k hk => by omega)
  · skip
    skip
    have hc : σ.2.1 94 18 = 1 ∧ mtab D σ 0 := by
      rcases hC with q | q
      · exact absurd q c_4
      · exact q
    refine AW_vret dX12_findsWaits_7 rfl ?_
    exact ⟨rfl, hc.2, hc.1, Fm.rf⟩
theorem m_patience {G : Gt} {d : Nat} {σ : St} (hd : 4 ≤ d) {D : Mk} (hS : Sta σ) (hR : RepM D σ) (hW : WFm D) (hC : mwC D σ) (side sort t : Int)  : AM mX12_patience G d 0 0 [vR 94, vI side, vI sort, vI t] σ (fun ro ρ => ro = some (vI (if (((side = 0 ∨ side = 1) ∧ 0 ≤ sort ∧ sort < D 0 side.toNat) ∧ 0 ≤ t ∧ t ≤ D 4 2) then wt D ((D 4 2).toNat - t.toNat) side.toNat sort.toNat else -1)) ∧ mwC D ρ ∧ Fm [0, 18] [102] σ ρ) := by
  refine AM.intro (by decide +kernel) (by simp [nLg]) (Nat.le_of_ble_eq_true rfl) (fun hO => ?_)
  have i_side : -2147483648 ≤ side ∧ side < 2147483648 := hO (vI side) (by simp)
  have i_sort : -2147483648 ≤ sort ∧ sort < 2147483648 := hO (vI sort) (by simp)
  have i_t : -2147483648 ≤ t ∧ t < 2147483648 := hO (vI t) (by simp)
  show AW _ _ _ _ _ _ 0 [some (vR 94), some (vI side), some (vI sort), some (vI t)] [] σ
  refine AW_aload_n dX12_patience_0 rfl ?_
  refine AW_iconst dX12_patience_1 ?_
  refine AW_putI dX12_patience_2 (Or.inl pfX12_142) (hS.cel rfl) ?_
  have hF1 : Fm [0] [] σ (upI σ 94 0 0) := Fm.rf.uf (by decide) _
  have hS1 : Sta (upI σ 94 0 0) := hS
  have hR1 : RepM D (upI σ 94 0 0) := hR.fm hF1
  have hC1 : mwC D (upI σ 94 0 0) := hC.elim (fun q => Or.inl ((hF1.f 18).trans q)) (fun q => Or.inr ⟨(hF1.f 18).trans q.1, q.2.fm hF1⟩)
  generalize upI σ 94 0 0 = σ1 at hF1 hS1 hR1 hC1 ⊢
  refine AW_aload_n dX12_patience_5 rfl ?_
  refine AW_iload_n dX12_patience_6 rfl ?_
  refine AW_iload_n dX12_patience_7 rfl ?_
  refine AW_callV2 (d' := d - 1) dX12_patience_8 (Or.inl lkX12_160) mfX12_isSort (hS1.cel rfl) ⟨_, rfl, rfl⟩ (n_isSort (by omega) hS1 hR1 hW side sort) (by omega) (Nat.le_of_ble_eq_true rfl) ?_
  rintro _ _ ⟨e_, rfl⟩ -
  rw [e_]
  clear e_
  refine AW_if_eq (tgt := 27) dX12_patience_11 (by decide) (fun c_11 => ?_) (fun c_11 => ?_)
  · skip
    replace c_11 := bz0 c_11
    refine AW_iconst dX12_patience_27 ?_
    refine AW_iret dX12_patience_28 rfl ?_
    exact ⟨by rw [if_neg (by omega)], hC1, hF1.mo (by decide) (by decide)⟩
  · skip
    replace c_11 := bz1 c_11
    refine AW_aload_n dX12_patience_14 rfl ?_
    refine AW_iload_n dX12_patience_15 rfl ?_
    refine AW_iconst dX12_patience_16 ?_
    refine AW_aload_n dX12_patience_17 rfl ?_
    refine AW_getI dX12_patience_18 gfX12_29 (hS1.cel rfl) ?_
    rw [show σ1.2.1 94 7 = D 4 2 from hR1.2.2.2.2 2 (by decide)]
    refine AW_callV3 (d' := d - 1) dX12_patience_21 (Or.inl lkX12_149) mfX12_isIn (hS1.cel rfl) ⟨_, rfl, rfl⟩ (n_isIn t 0 (D 4 2)) (by omega) (Nat.le_of_ble_eq_true rfl) ?_
    rintro _ _ ⟨e_, rfl⟩ -
    rw [e_]
    clear e_
    refine AW_if_ne (tgt := 29) dX12_patience_24 (by decide) (fun c_24 => ?_) (fun c_24 => ?_)
    · skip
      replace c_24 := bz1 c_24
      refine AW_aload_n dX12_patience_29 rfl ?_
      refine AW_callV0 (d' := d - 1) dX12_patience_30 (Or.inl lkX12_208) mfX12_findsWaits (hS1.cel rfl) ⟨_, rfl, rfl⟩ (n_fw (by omega) hS1 hR1 hW hC1) (by omega) (Nat.le_of_ble_eq_true rfl) ?_
      rintro _ ρ ⟨rfl, hT, h18, hF2⟩ -
      have hS2 := hF2.sta hS1
      have hR2 := hR1.fm hF2
      have hF3 : Fm [0, 18] [102] σ ρ := (hF1.mo (by decide) (by decide)).tr (hF2.mo (by decide) (by decide))
      refine AW_aload_n dX12_patience_33 rfl ?_
      refine AW_iload_n dX12_patience_34 rfl ?_
      refine AW_iload_n dX12_patience_35 rfl ?_
      refine AW_iload_n dX12_patience_36 rfl ?_
      refine AW_callV3 (d' := d - 1) dX12_patience_37 (Or.inl lkX12_198) mfX12_waitOf (hS2.cel rfl) ⟨_, rfl, rfl⟩ (n_waitOf hS2 hW hT side sort t side.toNat sort.toNat (by omega) (by omega) (by omega) (by omega) (by omega)) (by omega) (Nat.le_of_ble_eq_true rfl) ?_
      rintro _ _ ⟨e_, rfl⟩ -
      rw [e_]
      clear e_
      refine AW_iret dX12_patience_40 rfl ?_
      exact ⟨by rw [if_pos (by omega)], Or.inr ⟨h18, hT⟩, hF3⟩
    · skip
      replace c_24 := bz0 c_24
      refine AW_iconst dX12_patience_27 ?_
      refine AW_iret dX12_patience_28 rfl ?_
      exact ⟨by rw [if_neg (by omega)], hC1, hF1.mo (by decide) (by decide)⟩
theorem m_pairs {G : Gt} {d : Nat} {σ : St} (hd : 4 ≤ d) {D : Mk} (hS : Sta σ) (hR : RepM D σ) (hW : WFm D) (hC : mwC D σ) (i j t what : Int)  : AM mX12_pairs G d 0 0 [vR 94, vI i, vI j, vI t, vI what] σ (fun ro ρ => ∃ z : Int, ro = some (vI z) ∧ prAns D i j t what z ∧ mwC D ρ ∧ Fm [0, 18] [102] σ ρ) := by
  refine AM.intro (by decide +kernel) (by simp [nLg]) (Nat.le_of_ble_eq_true rfl) (fun hO => ?_)
  have i_i : -2147483648 ≤ i ∧ i < 2147483648 := hO (vI i) (by simp)
  have i_j : -2147483648 ≤ j ∧ j < 2147483648 := hO (vI j) (by simp)
  have i_t : -2147483648 ≤ t ∧ t < 2147483648 := hO (vI t) (by simp)
  have i_what : -2147483648 ≤ what ∧ what < 2147483648 := hO (vI what) (by simp)
  show AW _ _ _ _ _ _ 0 [some (vR 94), some (vI i), some (vI j), some (vI t), some (vI what), none, none] [] σ
  refine AW_aload_n dX12_pairs_0 rfl ?_
  refine AW_iconst dX12_pairs_1 ?_
  refine AW_putI dX12_pairs_2 (Or.inl pfX12_142) (hS.cel rfl) ?_
  have hF1 : Fm [0] [] σ (upI σ 94 0 0) := Fm.rf.uf (by decide) _
  have hS1 : Sta (upI σ 94 0 0) := hS
  have hR1 : RepM D (upI σ 94 0 0) := hR.fm hF1
  have hC1 : mwC D (upI σ 94 0 0) := hC.elim (fun q => Or.inl ((hF1.f 18).trans q)) (fun q => Or.inr ⟨(hF1.f 18).trans q.1, q.2.fm hF1⟩)
  generalize upI σ 94 0 0 = σ1 at hF1 hS1 hR1 hC1 ⊢
  refine AW_aload_n dX12_pairs_5 rfl ?_
  refine AW_iconst dX12_pairs_6 ?_
  refine AW_iload_n dX12_pairs_7 rfl ?_
  refine AW_callV2 (d' := d - 1) dX12_pairs_8 (Or.inl lkX12_160) mfX12_isSort (hS1.cel rfl) ⟨_, rfl, rfl⟩ (n_isSort (by omega) hS1 hR1 hW 0 i) (by omega) (Nat.le_of_ble_eq_true rfl) ?_
  rintro _ _ ⟨e_, rfl⟩ -
  rw [e_]
  clear e_
  refine AW_if_eq (tgt := 47) dX12_pairs_11 (by decide) (fun c_11 => ?_) (fun c_11 => ?_)
  · skip
    replace c_11 := bz0 c_11
    rw [show Int.toNat 0 = 0 from rfl] at c_11
    refine AW_iconst dX12_pairs_47 ?_
    refine AW_iret dX12_pairs_48 rfl ?_
    exact ⟨_, rfl, Or.inl ⟨by omega, rfl⟩, hC1, hF1.mo (by decide) (by decide)⟩
  · skip
    replace c_11 := bz1 c_11
    rw [show Int.toNat 0 = 0 from rfl] at c_11
    refine AW_aload_n dX12_pairs_14 rfl ?_
    refine AW_iconst dX12_pairs_15 ?_
    refine AW_iload_n dX12_pairs_16 rfl ?_
    refine AW_callV2 (d' := d - 1) dX12_pairs_17 (Or.inl lkX12_160) mfX12_isSort (hS1.cel rfl) ⟨_, rfl, rfl⟩ (n_isSort (by omega) hS1 hR1 hW 1 j) (by omega) (Nat.le_of_ble_eq_true rfl) ?_
    rintro _ _ ⟨e_, rfl⟩ -
    rw [e_]
    clear e_
    refine AW_if_eq (tgt := 47) dX12_pairs_20 (by decide) (fun c_20 => ?_) (fun c_20 => ?_)
    · skip
      replace c_20 := bz0 c_20
      rw [show Int.toNat 1 = 1 from rfl] at c_20
      refine AW_iconst dX12_pairs_47 ?_
      refine AW_iret dX12_pairs_48 rfl ?_
      exact ⟨_, rfl, Or.inl ⟨by omega, rfl⟩, hC1, hF1.mo (by decide) (by decide)⟩
    · skip
      replace c_20 := bz1 c_20
      rw [show Int.toNat 1 = 1 from rfl] at c_20
      refine AW_aload_n dX12_pairs_23 rfl ?_
      refine AW_iload_n dX12_pairs_24 rfl ?_
      refine AW_iconst dX12_pairs_25 ?_
      refine AW_aload_n dX12_pairs_26 rfl ?_
      refine AW_getI dX12_pairs_27 gfX12_29 (hS1.cel rfl) ?_
      rw [show σ1.2.1 94 7 = D 4 2 from hR1.2.2.2.2 2 (by decide)]
      refine AW_callV3 (d' := d - 1) dX12_pairs_30 (Or.inl lkX12_149) mfX12_isIn (hS1.cel rfl) ⟨_, rfl, rfl⟩ (n_isIn t 1 (D 4 2)) (by omega) (Nat.le_of_ble_eq_true rfl) ?_
      rintro _ _ ⟨e_, rfl⟩ -
      rw [e_]
      clear e_
      refine AW_if_eq (tgt := 47) dX12_pairs_33 (by decide) (fun c_33 => ?_) (fun c_33 => ?_)
      · skip
        replace c_33 := bz0 c_33
        refine AW_iconst dX12_pairs_47 ?_
        refine AW_iret dX12_pairs_48 rfl ?_
        exact ⟨_, rfl, Or.inl ⟨by omega, rfl⟩, hC1, hF1.mo (by decide) (by decide)⟩
      · skip
        replace c_33 := bz1 c_33
        refine AW_aload_n dX12_pairs_36 rfl ?_
        refine AW_iload dX12_pairs_37 rfl ?_
        refine AW_iconst dX12_pairs_39 ?_
        refine AW_iconst dX12_pairs_40 ?_
        refine AW_callV3 (d' := d - 1) dX12_pairs_41 (Or.inl lkX12_149) mfX12_isIn (hS1.cel rfl) ⟨_, rfl, rfl⟩ (n_isIn what 0 2) (by omega) (Nat.le_of_ble_eq_true rfl) ?_
        rintro _ _ ⟨e_, rfl⟩ -
        rw [e_]
        clear e_
        refine AW_if_ne (tgt := 49) dX12_pairs_44 (by decide) (fun c_44 => ?_) (fun c_44 => ?_)
        · skip
          replace c_44 := bz1 c_44
          refine AW_aload_n dX12_pairs_49 rfl ?_
          refine AW_callV0 (d' := d - 1) dX12_pairs_50 (Or.inl lkX12_208) mfX12_findsWaits (hS1.cel rfl) ⟨_, rfl, rfl⟩ (n_fw (by omega) hS1 hR1 hW hC1) (by omega) (Nat.le_of_ble_eq_true rfl) ?_
          rintro _ ρ ⟨rfl, hT, h18, hF2⟩ -
          have hS2 := hF2.sta hS1
          have hR2 := hR1.fm hF2
          have hF3 : Fm [0, 18] [102] σ ρ := (hF1.mo (by decide) (by decide)).tr (hF2.mo (by decide) (by decide))
          refine AW_aload_n dX12_pairs_53 rfl ?_
          refine AW_iconst dX12_pairs_54 ?_
          refine AW_iload_n dX12_pairs_55 rfl ?_
          refine AW_iload_n dX12_pairs_56 rfl ?_
          refine AW_iload_n dX12_pairs_57 rfl ?_
          refine AW_callV4 (d' := d - 1) dX12_pairs_58 (Or.inl lkX12_201) mfX12_takes (hS2.cel rfl) ⟨_, rfl, rfl⟩ (n_takes (by omega) hS2 hR2 hW hT 0 i j t 0 i.toNat j.toNat rfl (by omega) (by omega) (by decide) (by omega) (show ((j.toNat : Nat) : Int) < D 0 1 by omega) (by omega)) (by omega) (Nat.le_of_ble_eq_true rfl) ?_
          rintro _ _ ⟨e_, rfl⟩ -
          rw [e_]
          clear e_
          refine AW_istore5 dX12_pairs_61 ?_
          refine AW_aload_n dX12_pairs_63 rfl ?_
          refine AW_iconst dX12_pairs_64 ?_
          refine AW_iload_n dX12_pairs_65 rfl ?_
          refine AW_iload_n dX12_pairs_66 rfl ?_
          refine AW_iload_n dX12_pairs_67 rfl ?_
          refine AW_callV4 (d' := d - 1) dX12_pairs_68 (Or.inl lkX12_201) mfX12_takes (hS2.cel rfl) ⟨_, rfl, rfl⟩ (n_takes (by omega) hS2 hR2 hW hT 1 j i t 1 j.toNat i.toNat rfl (by omega) (by omega) (by decide) (by omega) (show ((i.toNat : Nat) : Int) < D 0 0 by omega) (by omega)) (by omega) (Nat.le_of_ble_eq_true rfl) ?_
          rintro _ _ ⟨e_, rfl⟩ -
          rw [e_]
          clear e_
          refine AW_istore6 dX12_pairs_71 ?_
          refine AW_iload dX12_pairs_73 rfl ?_
          refine AW_if_ne (tgt := 91) dX12_pairs_75 (by decide) (fun c_75 => ?_) (fun c_75 => ?_)
          · skip
            refine AW_iload dX12_pairs_91 rfl ?_
            refine AW_iconst dX12_pairs_93 ?_
            refine AW_icmp_ne (tgt := 105) dX12_pairs_94 (by decide) (fun c_94 => ?_) (fun c_94 => ?_)
            · skip
              refine AW_iload dX12_pairs_105 rfl ?_
              refine AW_if_eq (tgt := 114) dX12_pairs_107 (by decide) (fun c_107 => ?_) (fun c_107 => ?_)
              · skip
                refine AW_iconst dX12_pairs_114 ?_
                refine AW_iret dX12_pairs_115 rfl ?_
                refine ⟨_, rfl, Or.inr ⟨by omega, ?_⟩, Or.inr ⟨h18, hT⟩, hF3⟩
                unfold takes0 takes1
                first
                | exact Or.inl ⟨rfl, by omega⟩
                | exact Or.inr ⟨rfl, by omega⟩
              · skip
                refine AW_iconst dX12_pairs_110 ?_
                refine AW_goto (tgt := 115) dX12_pairs_111 (by decide) ?_
                refine AW_iret dX12_pairs_115 rfl ?_
                refine ⟨_, rfl, Or.inr ⟨by omega, ?_⟩, Or.inr ⟨h18, hT⟩, hF3⟩
                unfold takes0 takes1
                first
                | exact Or.inl ⟨rfl, by omega⟩
                | exact Or.inr ⟨rfl, by omega⟩
            · skip
              refine AW_iload dX12_pairs_97 rfl ?_
              refine AW_if_eq (tgt := 114) dX12_pairs_99 (by decide) (fun c_99 => ?_) (fun c_99 => ?_)
              · skip
                refine AW_iconst dX12_pairs_114 ?_
                refine AW_iret dX12_pairs_115 rfl ?_
                refine ⟨_, rfl, Or.inr ⟨by omega, ?_⟩, Or.inr ⟨h18, hT⟩, hF3⟩
                unfold takes0 takes1
                first
                | exact Or.inl ⟨rfl, by omega⟩
                | exact Or.inr ⟨rfl, by omega⟩
              · skip
                refine AW_goto (tgt := 110) dX12_pairs_102 (by decide) ?_
                refine AW_iconst dX12_pairs_110 ?_
                refine AW_goto (tgt := 115) dX12_pairs_111 (by decide) ?_
                refine AW_iret dX12_pairs_115 rfl ?_
                refine ⟨_, rfl, Or.inr ⟨by omega, ?_⟩, Or.inr ⟨h18, hT⟩, hF3⟩
                unfold takes0 takes1
                first
                | exact Or.inl ⟨rfl, by omega⟩
                | exact Or.inr ⟨rfl, by omega⟩
          · skip
            refine AW_iload dX12_pairs_78 rfl ?_
            refine AW_if_eq (tgt := 114) dX12_pairs_80 (by decide) (fun c_80 => ?_) (fun c_80 => ?_)
            · skip
              refine AW_iconst dX12_pairs_114 ?_
              refine AW_iret dX12_pairs_115 rfl ?_
              refine ⟨_, rfl, Or.inr ⟨by omega, ?_⟩, Or.inr ⟨h18, hT⟩, hF3⟩
              unfold takes0 takes1
              first
              | exact Or.inl ⟨rfl, by omega⟩
              | exact Or.inr ⟨rfl, by omega⟩
            · skip
              refine AW_iload dX12_pairs_83 rfl ?_
              refine AW_if_eq (tgt := 114) dX12_pairs_85 (by decide) (fun c_85 => ?_) (fun c_85 => ?_)
              · skip
                refine AW_iconst dX12_pairs_114 ?_
                refine AW_iret dX12_pairs_115 rfl ?_
                refine ⟨_, rfl, Or.inr ⟨by omega, ?_⟩, Or.inr ⟨h18, hT⟩, hF3⟩
                unfold takes0 takes1
                first
                | exact Or.inl ⟨rfl, by omega⟩
                | exact Or.inr ⟨rfl, by omega⟩
              · skip
                refine AW_goto (tgt := 110) dX12_pairs_88 (by decide) ?_
                refine AW_iconst dX12_pairs_110 ?_
                refine AW_goto (tgt := 115) dX12_pairs_111 (by decide) ?_
                refine AW_iret dX12_pairs_115 rfl ?_
                refine ⟨_, rfl, Or.inr ⟨by omega, ?_⟩, Or.inr ⟨h18, hT⟩, hF3⟩
                unfold takes0 takes1
                first
                | exact Or.inl ⟨rfl, by omega⟩
                | exact Or.inr ⟨rfl, by omega⟩
        · skip
          replace c_44 := bz0 c_44
          refine AW_iconst dX12_pairs_47 ?_
          refine AW_iret dX12_pairs_48 rfl ?_
          exact ⟨_, rfl, Or.inl ⟨by omega, rfl⟩, hC1, hF1.mo (by decide) (by decide)⟩
