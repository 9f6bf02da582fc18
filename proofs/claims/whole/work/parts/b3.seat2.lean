theorem msk_lt {n : Nat} {l : List Nat} (h : Rw n l) : msk l < 2 ^ n := by
  apply Nat.lt_pow_two_of_testBit
  intro i hi
  rw [msk_bit]
  apply decide_eq_false
  intro q
  have := h.1 i q
  omega
theorem RwC.up87 {hc N : Nat} {H : List (List Nat)} {σ : St} (h : RwC hc N H σ) (j : Nat) (x : Int) : RwC hc N H (upI σ 87 j x) := by
  obtain ⟨a1, a2, a3, a4⟩ := h
  refine ⟨⟨a1.1, a1.2⟩, by rw [up_r _ _ _ _ (by decide)]; exact a2, a3, fun i l hi => ?_⟩
  rw [up_r _ _ _ _ (by rcases a1.2.2.1 with q | q <;> omega)]
  exact a4 i l hi
/-- the rows with pre at their head that hold -/
noncomputable def hldP (K : Nat → Int) (n k : Nat) (pre : List Nat) : List (List Nat) := (prm n k pre).filter (hdB K)
noncomputable def hldW (K : Nat → Int) (n k : Nat) (pre : List Nat) (m x : Nat) : List (List Nat) := ((avF pre m x).flatMap (fun w => prm n k (pre ++ [w]))).filter (hdB K)
theorem hldW_0 (K : Nat → Int) (n k : Nat) (pre : List Nat) (x : Nat) : hldW K n k pre 0 x = [] := rfl
theorem hldW_in {K : Nat → Int} {n k : Nat} {pre : List Nat} {m x : Nat} (h : x ∈ pre) : hldW K n k pre (m + 1) x = hldW K n k pre m (x + 1) := by
  unfold hldW
  rw [avF_s, if_pos h]
theorem hldW_out {K : Nat → Int} {n k : Nat} {pre : List Nat} {m x : Nat} (h : x ∉ pre) : hldW K n k pre (m + 1) x = hldP K n k (pre ++ [x]) ++ hldW K n k pre m (x + 1) := by
  unfold hldW hldP
  rw [avF_s, if_neg h, List.flatMap_cons, List.filter_append]
theorem hldP_s (K : Nat → Int) (n k : Nat) (pre : List Nat) : hldP K n (k + 1) pre = hldW K n k pre n 0 := rfl
theorem l_seat {G : Gt} {d : Nat} {σ : St} {n k : Nat} {K : Nat → Int} {pre : List Nat} {HF : List (List Nat)} {NF : Nat} (hd : 5 ≤ d) (hS0 : Sta σ) (hl : pre.length + (k + 1) = n) (hR : Rw n pre) (hH : Hd K pre) (hrec : ∀ (w hc N : Nat) (H : List (List Nat)) (τ : St), w < n → w ∉ pre → Hd K (pre ++ [w]) → Sta τ → LkC n K τ → StC (pre ++ [w]) τ → RwC hc N H τ → H.length + (hldP K n k (pre ++ [w])).length ≤ 5040 → AM mX0_seat G (d - 1) (groC (hldP K n k (pre ++ [w])).length N H.length) (groS (hldP K n k (pre ++ [w])).length N H.length) [vR 85, vI ((pre.length : Int) + 1), vI (msk (pre ++ [w]) : Int)] τ (fun ro ρ => ro = none ∧ ∃ hc2, RwC hc2 (groN (hldP K n k (pre ++ [w])).length N H.length) (H ++ hldP K n k (pre ++ [w])) ρ ∧ Ff τ ρ ∧ (∀ i, i < (pre ++ [w]).length → ρ.2.1 87 i = τ.2.1 87 i) ∧ ∀ j, j ≠ 5 → ρ.2.1 85 j = τ.2.1 85 j)) : ∀ (nn : Nat) (m x hc N : Nat) (H : List (List Nat)) (τ : St), m < nn → x + m = n → LkC n K τ → StC pre τ → RwC hc N H τ → H.length + (hldW K n k pre m x).length ≤ 5040 → Ff σ τ → (∀ i, i < pre.length → τ.2.1 87 i = σ.2.1 87 i) → (∀ j, j ≠ 5 → τ.2.1 85 j = σ.2.1 85 j) → H ++ hldW K n k pre m x = HF → groN (hldW K n k pre m x).length N H.length = NF →  AW mX0_seat G d (groC (hldW K n k pre m x).length N H.length) (groS (hldW K n k pre m x).length N H.length) (mq G (fun ro ρ => ro = none ∧ ∃ hc2, RwC hc2 NF HF ρ ∧ Ff σ ρ ∧ (∀ i, i < pre.length → ρ.2.1 87 i = σ.2.1 87 i) ∧ ∀ j, j ≠ 5 → ρ.2.1 85 j = σ.2.1 85 j)) 21 [some (vR 85), some (vI (pre.length : Int)), some (vI (msk pre : Int)), some (vI (x : Int))] [] τ := by
  intro nn
  induction nn with
  | zero => intros; omega
  | succ nn ih =>
    intro m x hc N H τ hn hx hL hP hW h50 hF h87 h10 hHF hNF
    have hS := hF.sta hS0
    have h6 := hL.1
    have h7 := hL.2.1
    have hmk0 := msk_lt hR
    have hp7 : 2 ^ n ≤ 2 ^ 7 := Nat.pow_le_pow_right (by decide) h7.2
    have hmk : msk pre < 128 := by omega
    refine AW_iload_n dX0_seat_21 rfl ?_
    refine AW_aload_n dX0_seat_22 rfl ?_
    refine AW_getI dX0_seat_23 gfX0_27 (hS.cel rfl) ?_
    refine AW_icmp_ge (tgt := 71) dX0_seat_26 (by decide) (fun c_26 => ?_) (fun c_26 => ?_)
    · skip
      have hm : m = 0 := by omega
      subst hm
      rw [hldW_0] at hHF hNF ⊢
      refine AW_vret dX0_seat_71 rfl ?_
      rw [List.append_nil] at hHF
      subst hHF
      have hN2 : N = NF := hNF
      subst hN2
      exact ⟨rfl, hc, hW, hF, h87, h10⟩
    · skip
      obtain ⟨m1, rfl⟩ : ∃ m1, m = m1 + 1 := ⟨m - 1, by omega⟩
      have hbit : aAnd (aUshr (msk pre : Int) (x : Int)) 1 = if x ∈ pre then 1 else 0 := by
        rw [bit_tab _ hmk x (by omega), msk_bit]
        by_cases q : x ∈ pre
        · rw [if_pos (by simp [q]), if_pos q]
        · rw [if_neg (by simp [q]), if_neg q]
      refine AW_iload_n dX0_seat_29 rfl ?_
      refine AW_iload_n dX0_seat_30 rfl ?_
      refine AW_iushr dX0_seat_31 ?_
      refine AW_iconst dX0_seat_32 ?_
      refine AW_iand dX0_seat_33 ?_
      rw [hbit]
      refine AW_if_ne (tgt := 65) dX0_seat_34 (by decide) (fun c_34 => ?_) (fun c_34 => ?_)
      · skip
        have hin := bz1 c_34
        have eL := hldW_in (K := K) (n := n) (k := k) (m := m1) hin
        rw [eL] at hHF hNF h50 ⊢
        refine AW_iincE3 dX0_seat_65 (by omega) (by omega) ?_
        refine AW_goto (tgt := 21) dX0_seat_68 (by decide) ?_
        rw [show (x : Int) + 1 = ((x + 1 : Nat) : Int) by omega]
        first
        | exact ih m1 (x + 1) hc N H _ (by omega) (by omega) hL hP hW h50 hF h87 h10 hHF hNF
        | (have hlen : (H ++ hldP K n k (pre ++ [x])).length = H.length + (hldP K n k (pre ++ [x])).length := List.length_append
           rw [← hlen]
           refine ih m1 (x + 1) hc2 _ (H ++ hldP K n k (pre ++ [x])) ρ1 (by omega) (by omega) hL2 (fun i hi => ?_) hW2 (by omega) ((hF.tr hF1).tr hF2) (fun i hi => ?_) (fun j hj => ?_) (by rw [List.append_assoc]; exact hHF) (by rw [hlen]; exact hNF)
           · rw [h872 i (by simp; omega), h871 i hi]; exact hP i hi
           · rw [h872 i (by simp; omega), h871 i hi]; exact h87 i hi
           · rw [h102 j hj, h101 j hj]; exact h10 j hj)
      · skip
        have hnin := bz0 c_34
        have eL := hldW_out (K := K) (n := n) (k := k) (m := m1) hnin
        refine AW_aload_n dX0_seat_37 rfl ?_
        refine AW_iload_n dX0_seat_38 rfl ?_
        refine AW_iload_n dX0_seat_39 rfl ?_
        refine AW_callV2 (d' := d - 1) dX0_seat_40 (Or.inl lkX0_81) mfX0_isQuiet (hS.cel rfl) ⟨_, rfl, rfl⟩ (k_quiet (by omega) hS hL hR hP (by omega) _ _ x rfl rfl (by omega)) (by omega) (Nat.le_of_ble_eq_true rfl) ?_
        rintro _ _ ⟨e_, z, rfl, hz⟩ -
        rw [e_]
        clear e_
        refine AW_if_eq (tgt := 65) dX0_seat_43 (by decide) (fun c_43 => ?_) (fun c_43 => ?_)
        · skip
          have hnq : ¬ Hd K (pre ++ [x]) := fun q => (hz.elim (fun q2 => by omega) (fun q2 => q2.2)) ((hd_snoc hH x).mp q)
          have eP : hldP K n k (pre ++ [x]) = [] := hd_none (hR.snoc (by omega) hnin) hnq
          rw [eP, List.nil_append] at eL
          rw [eL] at hHF hNF h50 ⊢
          refine AW_iincE3 dX0_seat_65 (by omega) (by omega) ?_
          refine AW_goto (tgt := 21) dX0_seat_68 (by decide) ?_
          rw [show (x : Int) + 1 = ((x + 1 : Nat) : Int) by omega]
          first
          | exact ih m1 (x + 1) hc N H _ (by omega) (by omega) hL hP hW h50 hF h87 h10 hHF hNF
          | (have hlen : (H ++ hldP K n k (pre ++ [x])).length = H.length + (hldP K n k (pre ++ [x])).length := List.length_append
             rw [← hlen]
             refine ih m1 (x + 1) hc2 _ (H ++ hldP K n k (pre ++ [x])) ρ1 (by omega) (by omega) hL2 (fun i hi => ?_) hW2 (by omega) ((hF.tr hF1).tr hF2) (fun i hi => ?_) (fun j hj => ?_) (by rw [List.append_assoc]; exact hHF) (by rw [hlen]; exact hNF)
             · rw [h872 i (by simp; omega), h871 i hi]; exact hP i hi
             · rw [h872 i (by simp; omega), h871 i hi]; exact h87 i hi
             · rw [h102 j hj, h101 j hj]; exact h10 j hj)
        · skip
          have hq : Hd K (pre ++ [x]) := (hd_snoc hH x).mpr (hz.elim (fun q2 => q2.2) (fun q2 => by omega))
          rw [eL] at hHF hNF h50 ⊢
          rw [List.length_append] at hNF h50 ⊢
          refine AW_aload_n dX0_seat_46 rfl ?_
          refine AW_getR (a := 87) dX0_seat_47 gfX0_15 (hS.cel rfl) (hS.rf rfl) ?_
          refine AW_iload_n dX0_seat_50 rfl ?_
          refine AW_iload_n dX0_seat_51 rfl ?_
          refine AW_iast dX0_seat_52 (hS.cel rfl) (by omega) (by omega) ?_
          rw [Int.toNat_natCast]
          have hF1 : Ff τ (upI τ 87 pre.length (x : Int)) := Ff.rf.up (Or.inl rfl) _
          have hS1 := hF1.sta hS
          have hL1 := hL.ff hS hW.1 hF1
          have hW1 := hW.up87 pre.length (x : Int)
          have hP1 : StC (pre ++ [x]) (upI τ 87 pre.length (x : Int)) := by
            intro i hi
            rw [up_if, getD_snoc]
            by_cases hc : i < pre.length
            · rw [if_neg (by omega), if_pos hc]; exact hP i hc
            · have hie : i = pre.length := by simp at hi; omega
              rw [if_pos ⟨rfl, hie⟩, if_neg hc, if_pos hie]
          have h871 : ∀ i, i < pre.length → (upI τ 87 pre.length (x : Int)).2.1 87 i = τ.2.1 87 i := fun i hi => by rw [up_j _ _ _ (by omega)]
          have h101 : ∀ j, j ≠ 5 → (upI τ 87 pre.length (x : Int)).2.1 85 j = τ.2.1 85 j := fun j _ => by rw [up_r _ _ _ _ (by decide)]
          generalize upI τ 87 pre.length (x : Int) = τ1 at hF1 hS1 hL1 hW1 hP1 h871 h101 ⊢
          refine AW_aload_n dX0_seat_53 rfl ?_
          refine AW_iload_n dX0_seat_54 rfl ?_
          refine AW_iconst dX0_seat_55 ?_
          refine AW_iaddE dX0_seat_56 (by omega) (by omega) ?_
          refine AW_iload_n dX0_seat_57 rfl ?_
          refine AW_iconst dX0_seat_58 ?_
          refine AW_iload_n dX0_seat_59 rfl ?_
          refine AW_ishl dX0_seat_60 ?_
          refine AW_ior dX0_seat_61 ?_
          rw [or_tab hmk (by omega), ← msk_snoc]
          obtain ⟨g1, g2, g3⟩ := gro_add (hldP K n k (pre ++ [x])).length (hldW K n k pre m1 (x + 1)).length N H.length
          rw [g1] at hNF
          refine AW_up (bc := groC (hldW K n k pre m1 (x + 1)).length (groN (hldP K n k (pre ++ [x])).length N H.length) (H.length + (hldP K n k (pre ++ [x])).length) + groC (hldP K n k (pre ++ [x])).length N H.length) (bs := groS (hldW K n k pre m1 (x + 1)).length (groN (hldP K n k (pre ++ [x])).length N H.length) (H.length + (hldP K n k (pre ++ [x])).length) + groS (hldP K n k (pre ++ [x])).length N H.length) (by omega) (by omega) ?_
          refine AW_callVb2 (d' := d - 1) dX0_seat_62 (Or.inl lkX0_68) mfX0_seat (hS1.cel rfl) ⟨_, rfl, rfl⟩ (hrec x hc N H τ1 (by omega) hnin hq hS1 hL1 hP1 hW1 (by omega)) (by omega) (Nat.le_of_ble_eq_true rfl) ?_
          rintro _ ρ1 ⟨rfl, hc2, hW2, hF2, h872, h102⟩ -
          have hL2 := hL1.ff hS1 hW1.1 hF2
          refine AW_iincE3 dX0_seat_65 (by omega) (by omega) ?_
          refine AW_goto (tgt := 21) dX0_seat_68 (by decide) ?_
          rw [show (x : Int) + 1 = ((x + 1 : Nat) : Int) by omega]
          first
          | exact ih m1 (x + 1) hc N H _ (by omega) (by omega) hL hP hW h50 hF h87 h10 hHF hNF
          | (have hlen : (H ++ hldP K n k (pre ++ [x])).length = H.length + (hldP K n k (pre ++ [x])).length := List.length_append
             rw [← hlen]
             refine ih m1 (x + 1) hc2 _ (H ++ hldP K n k (pre ++ [x])) ρ1 (by omega) (by omega) hL2 (fun i hi => ?_) hW2 (by omega) ((hF.tr hF1).tr hF2) (fun i hi => ?_) (fun j hj => ?_) (by rw [List.append_assoc]; exact hHF) (by rw [hlen]; exact hNF)
             · rw [h872 i (by simp; omega), h871 i hi]; exact hP i hi
             · rw [h872 i (by simp; omega), h871 i hi]; exact h87 i hi
             · rw [h102 j hj, h101 j hj]; exact h10 j hj)
theorem k_seat {G : Gt} {n : Nat} {K : Nat → Int} : ∀ (k d : Nat) (pre : List Nat) (hc N : Nat) (H : List (List Nat)) (σ : St) (m0 u0 : Int), 5 + k ≤ d → pre.length + k = n → Rw n pre → Hd K pre → Sta σ → LkC n K σ → StC pre σ → RwC hc N H σ → H.length + (hldP K n k pre).length ≤ 5040 → m0 = pre.length → u0 = msk pre → AM mX0_seat G d (groC (hldP K n k pre).length N H.length) (groS (hldP K n k pre).length N H.length) [vR 85, vI m0, vI u0] σ (fun ro ρ => ro = none ∧ ∃ hc2, RwC hc2 (groN (hldP K n k pre).length N H.length) (H ++ hldP K n k pre) ρ ∧ Ff σ ρ ∧ (∀ i, i < pre.length → ρ.2.1 87 i = σ.2.1 87 i) ∧ ∀ j, j ≠ 5 → ρ.2.1 85 j = σ.2.1 85 j) := by
  intro k
  induction k with
  | zero =>
    intro d pre hc N H σ m0 u0 hd hl hR hH hS hL hP hW h50 e1 e2
    subst e1
    subst e2
    have h6 := hL.1
    have h7 := hL.2.1
    have eP : hldP K n 0 pre = [pre] := by
      unfold hldP
      rw [prm_0, List.filter_cons, if_pos (hdB_t.mpr hH), List.filter_nil]
    rw [eP] at h50 ⊢
    refine AM.intro (by decide +kernel) (by simp [nLg]) (Nat.le_of_ble_eq_true rfl) (fun hO => ?_)
    show AW _ _ _ _ _ _ 0 [some (vR 85), some (vI (pre.length : Int)), some (vI (msk pre : Int)), none] [] σ
    refine AW_up (bc := 0 + (if H.length = N then 1 else 0)) (bs := 0 + (if H.length = N then 2 * N else 0)) (by show _ ≤ (if H.length = N then 1 else 0) + 0; omega) (by show _ ≤ (if H.length = N then 2 * N else 0) + 0; omega) ?_
    refine AW_iload_n dX0_seat_0 rfl ?_
    refine AW_aload_n dX0_seat_1 rfl ?_
    refine AW_getI dX0_seat_2 gfX0_27 (hS.cel rfl) ?_
    refine AW_icmp_ge (tgt := 14) dX0_seat_5 (by decide) (fun c_5 => ?_) (fun c_5 => ?_)
    · skip
      refine AW_aload_n dX0_seat_14 rfl ?_
      refine AW_callVb0 (d' := d - 1) dX0_seat_15 (Or.inl lkX0_78) mfX0_keepSeats (hS.cel rfl) ⟨_, rfl, rfl⟩ (k_keepS (by omega) hS hL hR hP (by omega) hW (by simp at h50; omega)) (by omega) (Nat.le_of_ble_eq_true rfl) ?_
      rintro _ ρ1 ⟨rfl, hc2, hW2, hF2, h872, h102⟩ -
      refine AW_vret dX0_seat_18 rfl ?_
      refine ⟨rfl, hc2, ?_, hF2, fun i _ => h872 i, h102⟩
      exact hW2
    · skip
      exact absurd (show (n : Int) ≤ (pre.length : Int) by omega) (by rw [h6] at c_5; exact c_5)
  | succ k ih =>
    intro d pre hc N H σ m0 u0 hd hl hR hH hS hL hP hW h50 e1 e2
    subst e1
    subst e2
    have h6 := hL.1
    have h7 := hL.2.1
    rw [hldP_s] at h50 ⊢
    refine AM.intro (by decide +kernel) (by simp [nLg]) (Nat.le_of_ble_eq_true rfl) (fun hO => ?_)
    show AW _ _ _ _ _ _ 0 [some (vR 85), some (vI (pre.length : Int)), some (vI (msk pre : Int)), none] [] σ
    refine AW_iload_n dX0_seat_0 rfl ?_
    refine AW_aload_n dX0_seat_1 rfl ?_
    refine AW_getI dX0_seat_2 gfX0_27 (hS.cel rfl) ?_
    refine AW_icmp_ge (tgt := 14) dX0_seat_5 (by decide) (fun c_5 => ?_) (fun c_5 => ?_)
    · skip
      exact absurd c_5 (by rw [h6]; omega)
    · skip
      refine AW_iload_n dX0_seat_8 rfl ?_
      refine AW_bipush dX0_seat_9 ?_
      refine AW_icmp_lt (tgt := 19) dX0_seat_11 (by decide) (fun c_11 => ?_) (fun c_11 => ?_)
      · skip
        refine AW_iconst dX0_seat_19 ?_
        refine AW_istore3 dX0_seat_20 ?_
        exact l_seat (HF := H ++ hldW K n k pre n 0) (NF := groN (hldW K n k pre n 0).length N H.length) (by omega) hS hl hR hH (fun w hc N H τ g1 g2 g3 g4 g5 g6 g7 g8 => ih (d - 1) (pre ++ [w]) hc N H τ _ _ (by omega) (by simp; omega) (hR.snoc g1 g2) g3 g4 g5 g6 g7 g8 (by simp) rfl) (n + 1) n 0 hc N H σ (by omega) (by omega) hL hP hW h50 Ff.rf (fun _ _ => rfl) (fun _ _ => rfl) rfl rfl
      · skip
        exact absurd (show (pre.length : Int) < 7 by omega) c_11
