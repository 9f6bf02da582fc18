theorem n_says0 {G : Gt} {d : Nat} {σ : St} (hd : 5 ≤ d) {D : Mk} {Ws : Nat → Wy} {n : Nat} {w : Tw} (hS : Sta σ) (hC : CtM D Ws σ) (hT : TwM n w σ) {p : Nat} (hw : WFP D n w.1) (hp : p < n) (h99 : 0 ≤ w.2.1 0 ∧ w.2.1 0 ≤ 99) : AM mX12_saysOf G d 0 0 [vR 94, vI (p : Int), vI 0] σ (fun ro ρ => ro = some (vI (takeS D Ws w p)) ∧ CtM D Ws ρ ∧ TwM n w ρ ∧ Fm [18, 61] [102, 123, 124] σ ρ) :=
  AM_mono (fun r τ q => ⟨q.1, q.2.2⟩) (n_says (h := 256) hd hS hC hT hw hp h99)
theorem n_says1 {G : Gt} {d : Nat} {σ : St} (hd : 5 ≤ d) {D : Mk} {Ws : Nat → Wy} {n : Nat} {w : Tw} (hS : Sta σ) (hC : CtM D Ws σ) (hT : TwM n w σ) {p : Nat} (hw : WFP D n w.1) (hp : p < n) (h99 : 0 ≤ w.2.1 0 ∧ w.2.1 0 ≤ 99) : AM mX12_saysOf G d 0 0 [vR 94, vI (p : Int), vI 1] σ (fun ro ρ => ro = some (vI ((sy D Ws w p 257).getD 0)) ∧ ρ.2.1 94 61 = (if (sy D Ws w p 257).isSome = true then 1 else 0) ∧ CtM D Ws ρ ∧ TwM n w ρ ∧ Fm [18, 61] [102, 123, 124] σ ρ) :=
  n_says (h := 257) hd hS hC hT hw hp h99
theorem pick_ex {D : Mk} {P : Pe} : ∀ (m i : Nat) (k : Int), 0 ≤ k → k + (cntT D P i : Int) < (cntT D P (i + m) : Int) → ∃ q, pick D P m i k = some q := by
  intro m
  induction m with
  | zero => intro i k h0 h1; rw [Nat.add_zero] at h1; omega
  | succ m ih =>
    intro i k h0 h1
    have e : i + (m + 1) = (i + 1) + m := by omega
    rw [e] at h1
    rw [pick_s]
    by_cases ht : thr D P i
    · have hs : cntT D P (i + 1) = cntT D P i + 1 := by rw [cntT_s, if_pos ht]
      rw [if_pos ht]
      by_cases hk : k = 0
      · rw [if_pos hk]; exact ⟨i, rfl⟩
      · rw [if_neg hk]
        exact ih (i + 1) (k - 1) (by omega) (by omega)
    · have hs : cntT D P (i + 1) = cntT D P i := by rw [cntT_s, if_neg ht]; rfl
      rw [if_neg ht]
      exact ih (i + 1) k h0 (by omega)
theorem n_canMeet {G : Gt} {d : Nat} {σ : St}  {D : Mk} {n : Nat} {w : Tw} (hS : Sta σ) (hR : RepM D σ) (hT : TwM n w σ) {q : Nat} (hq : q < 40)  : AM mX12_canMeet G d 0 0 [vR 94, vI (q : Int)] σ (fun r τ => τ = σ ∧ r = some (vI (if thr D w.1 q then 1 else 0))) := by
  refine AM.intro (by decide +kernel) (by simp [nLg]) (Nat.le_of_ble_eq_true rfl) (fun hO => ?_)
  show AW _ _ _ _ _ _ 0 [some (vR 94), some (vI (q : Int))] [] σ
  have h10 : σ.2.1 94 10 = D 4 5 := hR.2.2.2.2 5 (by decide)
  have v0 := hT.v0 hq
  have v3 := hT.v3 hq
  refine AW_aload_n dX12_canMeet_0 rfl ?_
  refine AW_getR (a := 113) dX12_canMeet_1 gfX12_80 (hS.cel rfl) (hS.rf rfl) ?_
  refine AW_iload_n dX12_canMeet_4 rfl ?_
  refine AW_iald dX12_canMeet_5 (hS.cel rfl) (by omega) (by omega) ?_
  refine AW_iconst dX12_canMeet_6 ?_
  refine AW_icmp_ne (tgt := 32) dX12_canMeet_7 (by decide) (fun c_7 => ?_) (fun c_7 => ?_)
  · skip
    rw [Int.toNat_natCast, v0] at c_7
    refine AW_iconst dX12_canMeet_32 ?_
    refine AW_zret dX12_canMeet_33 rfl (by decide) ?_
    refine ⟨rfl, ?_⟩
    unfold thr
    first | (rw [if_pos (by omega)]; done) | (rw [if_neg (by omega)]; done)
  · skip
    rw [Int.toNat_natCast, v0] at c_7
    refine AW_aload_n dX12_canMeet_10 rfl ?_
    refine AW_getI dX12_canMeet_11 gfX12_167 (hS.cel rfl) ?_
    refine AW_iconst dX12_canMeet_14 ?_
    refine AW_icmp_eq (tgt := 28) dX12_canMeet_15 (by decide) (fun c_15 => ?_) (fun c_15 => ?_)
    · skip
      rw [h10] at c_15
      refine AW_iconst dX12_canMeet_28 ?_
      refine AW_goto (tgt := 33) dX12_canMeet_29 (by decide) ?_
      refine AW_zret dX12_canMeet_33 rfl (by decide) ?_
      refine ⟨rfl, ?_⟩
      unfold thr
      first | (rw [if_pos (by omega)]; done) | (rw [if_neg (by omega)]; done)
    · skip
      rw [h10] at c_15
      refine AW_aload_n dX12_canMeet_18 rfl ?_
      refine AW_getR (a := 116) dX12_canMeet_19 gfX12_89 (hS.cel rfl) (hS.rf rfl) ?_
      refine AW_iload_n dX12_canMeet_22 rfl ?_
      refine AW_iald dX12_canMeet_23 (hS.cel rfl) (by omega) (by omega) ?_
      refine AW_iconst dX12_canMeet_24 ?_
      refine AW_icmp_ne (tgt := 32) dX12_canMeet_25 (by decide) (fun c_25 => ?_) (fun c_25 => ?_)
      · skip
        rw [Int.toNat_natCast, v3] at c_25
        refine AW_iconst dX12_canMeet_32 ?_
        refine AW_zret dX12_canMeet_33 rfl (by decide) ?_
        refine ⟨rfl, ?_⟩
        unfold thr
        first | (rw [if_pos (by omega)]; done) | (rw [if_neg (by omega)]; done)
      · skip
        rw [Int.toNat_natCast, v3] at c_25
        refine AW_iconst dX12_canMeet_28 ?_
        refine AW_goto (tgt := 33) dX12_canMeet_29 (by decide) ?_
        refine AW_zret dX12_canMeet_33 rfl (by decide) ?_
        refine ⟨rfl, ?_⟩
        unfold thr
        first | (rw [if_pos (by omega)]; done) | (rw [if_neg (by omega)]; done)
theorem ln_mt2 {G : Gt} {d : Nat} {σ : St} {D : Mk} {n : Nat} {w : Tw} (hd : 1 ≤ d) (hS : Sta σ) (hR : RepM D σ) (hw : WFP D n w.1) {z : Int} (hT : TwM n (w.1, w.2.1, z) σ) {Q : Nat} {x1 : Option AV} : ∀ (nn : Nat) (m i : Nat) (k : Int), m < nn → i + m = n → 0 ≤ k → k ≤ 1000 → pick D w.1 m i k = some Q →  AW mX12_meets G d 0 0 (mq G (fun ro ρ => ro = some (vI (Q : Int)) ∧ ρ = σ)) 44 [some (vR 94), x1, some (vI k), some (vI (i : Int))] [] σ := by
  intro nn
  induction nn with
  | zero => intros; omega
  | succ nn ih =>
    intro m i k hn hi hk0 hk hT2
    have hn40 := hw.1
    obtain ⟨m1, rfl⟩ : ∃ m1, m = m1 + 1 := by
      cases m with
      | zero => rw [pick_0] at hT2; cases hT2
      | succ m1 => exact ⟨m1, rfl⟩
    rw [pick_s] at hT2
    refine AW_aload_n dX12_meets_44 rfl ?_
    refine AW_iload_n dX12_meets_45 rfl ?_
    refine AW_callV1 (d' := d - 1) dX12_meets_46 (Or.inl lkX12_340) mfX12_canMeet (hS.cel rfl) ⟨_, rfl, rfl⟩ (n_canMeet hS hR hT (q := i) (by omega)) (by omega) (Nat.le_of_ble_eq_true rfl) ?_
    rintro _ _ ⟨e_, rfl⟩ -
    rw [e_]
    clear e_
    refine AW_if_eq (tgt := 56) dX12_meets_49 (by decide) (fun c_49 => ?_) (fun c_49 => ?_)
    · skip
      replace c_49 := bz0 c_49
      replace c_49 : ¬ thr D w.1 i := c_49
      rw [if_neg c_49] at hT2
      have hk2 := hk0
      refine AW_aload_n dX12_meets_56 rfl ?_
      refine AW_iload_n dX12_meets_57 rfl ?_
      refine AW_callV1 (d' := d - 1) dX12_meets_58 (Or.inl lkX12_340) mfX12_canMeet (hS.cel rfl) ⟨_, rfl, rfl⟩ (n_canMeet hS hR hT (q := i) (by omega)) (by omega) (Nat.le_of_ble_eq_true rfl) ?_
      rintro _ _ ⟨e_, rfl⟩ -
      rw [e_]
      clear e_
      refine AW_if_eq (tgt := 68) dX12_meets_61 (by decide) (fun c_61 => ?_) (fun c_61 => ?_)
      · skip
        replace c_61 := bz0 c_61
        first
        | (exfalso; exact c_61 c_49; done)
        | ( skip
            refine AW_iload_n dX12_meets_68 rfl ?_
            refine AW_iconst dX12_meets_69 ?_
            refine AW_iaddE dX12_meets_70 (by omega) (by omega) ?_
            refine AW_istore3 dX12_meets_71 ?_
            refine AW_goto (tgt := 44) dX12_meets_72 (by decide) ?_
            rw [show (i : Int) + 1 = ((i + 1 : Nat) : Int) by omega]
            exact ih m1 (i + 1) _ (by omega) (by omega) hk2 (by omega) hT2)
      · skip
        replace c_61 := bz1 c_61
        first
        | (exfalso; exact c_49 c_61; done)
        | ( skip
            refine AW_iload_n dX12_meets_64 rfl ?_
            refine AW_iconst dX12_meets_65 ?_
            refine AW_isubE dX12_meets_66 (by omega) (by omega) ?_
            refine AW_istore2 dX12_meets_67 ?_
            first
            | (exfalso; exact c_61 c_49; done)
            | ( skip
                refine AW_iload_n dX12_meets_68 rfl ?_
                refine AW_iconst dX12_meets_69 ?_
                refine AW_iaddE dX12_meets_70 (by omega) (by omega) ?_
                refine AW_istore3 dX12_meets_71 ?_
                refine AW_goto (tgt := 44) dX12_meets_72 (by decide) ?_
                rw [show (i : Int) + 1 = ((i + 1 : Nat) : Int) by omega]
                exact ih m1 (i + 1) _ (by omega) (by omega) hk2 (by omega) hT2))
    · skip
      replace c_49 := bz1 c_49
      replace c_49 : thr D w.1 i := c_49
      rw [if_pos c_49] at hT2
      refine AW_iload_n dX12_meets_52 rfl ?_
      refine AW_if_le (tgt := 75) dX12_meets_53 (by decide) (fun c_53 => ?_) (fun c_53 => ?_)
      · skip
        rw [if_pos (by omega)] at hT2
        cases hT2
        refine AW_iload_n dX12_meets_75 rfl ?_
        refine AW_iret dX12_meets_76 rfl ?_
        exact ⟨rfl, rfl⟩
      · skip
        rw [if_neg (by omega)] at hT2
        have hk2 : 0 ≤ k - 1 := by omega
        refine AW_aload_n dX12_meets_56 rfl ?_
        refine AW_iload_n dX12_meets_57 rfl ?_
        refine AW_callV1 (d' := d - 1) dX12_meets_58 (Or.inl lkX12_340) mfX12_canMeet (hS.cel rfl) ⟨_, rfl, rfl⟩ (n_canMeet hS hR hT (q := i) (by omega)) (by omega) (Nat.le_of_ble_eq_true rfl) ?_
        rintro _ _ ⟨e_, rfl⟩ -
        rw [e_]
        clear e_
        refine AW_if_eq (tgt := 68) dX12_meets_61 (by decide) (fun c_61 => ?_) (fun c_61 => ?_)
        · skip
          replace c_61 := bz0 c_61
          first
          | (exfalso; exact c_61 c_49; done)
          | ( skip
              refine AW_iload_n dX12_meets_68 rfl ?_
              refine AW_iconst dX12_meets_69 ?_
              refine AW_iaddE dX12_meets_70 (by omega) (by omega) ?_
              refine AW_istore3 dX12_meets_71 ?_
              refine AW_goto (tgt := 44) dX12_meets_72 (by decide) ?_
              rw [show (i : Int) + 1 = ((i + 1 : Nat) : Int) by omega]
              exact ih m1 (i + 1) _ (by omega) (by omega) hk2 (by omega) hT2)
        · skip
          replace c_61 := bz1 c_61
          first
          | (exfalso; exact c_49 c_61; done)
          | ( skip
              refine AW_iload_n dX12_meets_64 rfl ?_
              refine AW_iconst dX12_meets_65 ?_
              refine AW_isubE dX12_meets_66 (by omega) (by omega) ?_
              refine AW_istore2 dX12_meets_67 ?_
              first
              | (exfalso; exact c_61 c_49; done)
              | ( skip
                  refine AW_iload_n dX12_meets_68 rfl ?_
                  refine AW_iconst dX12_meets_69 ?_
                  refine AW_iaddE dX12_meets_70 (by omega) (by omega) ?_
                  refine AW_istore3 dX12_meets_71 ?_
                  refine AW_goto (tgt := 44) dX12_meets_72 (by decide) ?_
                  rw [show (i : Int) + 1 = ((i + 1 : Nat) : Int) by omega]
                  exact ih m1 (i + 1) _ (by omega) (by omega) hk2 (by omega) hT2))
theorem ln_mt1 {G : Gt} {d : Nat} {σ : St} {D : Mk} {n : Nat} {w : Tw} (hd : 1 ≤ d) (hS : Sta σ) (hR : RepM D σ) (hw : WFP D n w.1) (hT : TwM n w σ) : ∀ (nn : Nat) (m i : Nat), m < nn → i + m = n →  AW mX12_meets G d 0 0 (mq G (fun ro ρ => (cntT D w.1 n = 0 ∧ ro = some (vI (-1)) ∧ ρ = σ) ∨ (cntT D w.1 n ≠ 0 ∧ ∃ q, pick D w.1 n 0 (drw (nxz w.2.2) (cntT D w.1 n : Int)) = some q ∧ ro = some (vI (q : Int)) ∧ TwM n (goW w) ρ ∧ Fm [53] [] σ ρ))) 4 [some (vR 94), some (vI (cntT D w.1 i : Int)), some (vI (i : Int)), none] [] σ := by
  intro nn
  induction nn with
  | zero => intros; omega
  | succ nn ih =>
    intro m i hn hi
    have hn40 := hw.1
    have hcl := cntT_le D w.1 i
    have h42 := hT.2.1
    refine AW_iload_n dX12_meets_4 rfl ?_
    refine AW_aload_n dX12_meets_5 rfl ?_
    refine AW_getI dX12_meets_6 gfX12_153 (hS.cel rfl) ?_
    refine AW_icmp_ge (tgt := 30) dX12_meets_9 (by decide) (fun c_9 => ?_) (fun c_9 => ?_)
    · skip
      have hm : i = n := by omega
      subst hm
      refine AW_iload_n dX12_meets_30 rfl ?_
      refine AW_if_ne (tgt := 36) dX12_meets_31 (by decide) (fun c_31 => ?_) (fun c_31 => ?_)
      · skip
        refine AW_aload_n dX12_meets_36 rfl ?_
        refine AW_iload_n dX12_meets_37 rfl ?_
        refine AW_callV1 (d' := d - 1) dX12_meets_38 (Or.inl lkX12_343) mfX12_draw (hS.cel rfl) ⟨_, rfl, rfl⟩ (n_draw hS hT _ (by omega)) (by omega) (Nat.le_of_ble_eq_true rfl) ?_
        rintro _ ρ1 ⟨rfl, hT1, hG1⟩ -
        have hdr := drw_in (nxz w.2.2) (m := (cntT D w.1 i : Int)) (by omega)
        have hS1 := hG1.sta hS
        have hR1 := hR.fm hG1
        refine AW_istore2 dX12_meets_41 ?_
        refine AW_iconst dX12_meets_42 ?_
        refine AW_istore3 dX12_meets_43 ?_
        obtain ⟨Q, hQ⟩ := pick_ex (D := D) (P := w.1) i 0 (drw (nxz w.2.2) (cntT D w.1 i : Int)) hdr.1 (by rw [Nat.zero_add]; show _ + ((0 : Nat) : Int) < _; omega)
        refine AW_mq (fun r τ q => Or.inr ⟨by omega, Q, hQ, q.1, by rw [q.2]; exact hT1, by rw [q.2]; exact hG1⟩) (ln_mt2 (z := nxz w.2.2) hd hS1 hR1 hw hT1 (i + 1) i 0 _ (by omega) (by omega) hdr.1 (by omega) hQ)
      · skip
        refine AW_iconst dX12_meets_34 ?_
        refine AW_iret dX12_meets_35 rfl ?_
        exact Or.inl ⟨by omega, rfl, rfl⟩
    · skip
      obtain ⟨m1, rfl⟩ : ∃ m1, m = m1 + 1 := ⟨m - 1, by omega⟩
      refine AW_aload_n dX12_meets_12 rfl ?_
      refine AW_iload_n dX12_meets_13 rfl ?_
      refine AW_callV1 (d' := d - 1) dX12_meets_14 (Or.inl lkX12_340) mfX12_canMeet (hS.cel rfl) ⟨_, rfl, rfl⟩ (n_canMeet hS hR hT (q := i) (by omega)) (by omega) (Nat.le_of_ble_eq_true rfl) ?_
      rintro _ _ ⟨e_, rfl⟩ -
      rw [e_]
      clear e_
      refine AW_if_eq (tgt := 24) dX12_meets_17 (by decide) (fun c_17 => ?_) (fun c_17 => ?_)
      · skip
        replace c_17 := bz0 c_17
        have hcs : (cntT D w.1 i : Int) = (cntT D w.1 (i + 1) : Int) := by rw [cntT_s, if_neg c_17]; omega
        refine AW_iincE2 dX12_meets_24 (by omega) (by omega) ?_
        refine AW_goto (tgt := 4) dX12_meets_27 (by decide) ?_
        rw [show (i : Int) + 1 = ((i + 1 : Nat) : Int) by omega, hcs]
        exact ih m1 (i + 1) (by omega) (by omega)
      · skip
        replace c_17 := bz1 c_17
        have hcs : (cntT D w.1 i : Int) + 1 = (cntT D w.1 (i + 1) : Int) := by rw [cntT_s, if_pos c_17]; omega
        refine AW_iload_n dX12_meets_20 rfl ?_
        refine AW_iconst dX12_meets_21 ?_
        refine AW_iaddE dX12_meets_22 (by omega) (by omega) ?_
        refine AW_istore1 dX12_meets_23 ?_
        refine AW_iincE2 dX12_meets_24 (by omega) (by omega) ?_
        refine AW_goto (tgt := 4) dX12_meets_27 (by decide) ?_
        rw [show (i : Int) + 1 = ((i + 1 : Nat) : Int) by omega, hcs]
        exact ih m1 (i + 1) (by omega) (by omega)
theorem n_meets {G : Gt} {d : Nat} {σ : St} (hd : 1 ≤ d) {D : Mk} {n : Nat} {w : Tw} (hS : Sta σ) (hR : RepM D σ) (hT : TwM n w σ) (hw : WFP D n w.1)  : AM mX12_meets G d 0 0 [vR 94] σ (fun ro ρ => (cntT D w.1 n = 0 ∧ ro = some (vI (-1)) ∧ ρ = σ) ∨ (cntT D w.1 n ≠ 0 ∧ ∃ q, pick D w.1 n 0 (drw (nxz w.2.2) (cntT D w.1 n : Int)) = some q ∧ ro = some (vI (q : Int)) ∧ TwM n (goW w) ρ ∧ Fm [53] [] σ ρ)) := by
  refine AM.intro (by decide +kernel) (by simp [nLg]) (Nat.le_of_ble_eq_true rfl) (fun hO => ?_)
  show AW _ _ _ _ _ _ 0 [some (vR 94), none, none, none] [] σ
  refine AW_iconst dX12_meets_0 ?_
  refine AW_istore1 dX12_meets_1 ?_
  refine AW_iconst dX12_meets_2 ?_
  refine AW_istore2 dX12_meets_3 ?_
  exact ln_mt1 hd hS hR hw hT (n + 1) n 0 (by omega) (by omega)
theorem n_seen {G : Gt} {d : Nat} {σ : St} (hd : 2 ≤ d) {D : Mk} {n : Nat} {w : Tw} (hS : Sta σ) (hR : RepM D σ) (hW : WFm D) (hT : TwM n w σ) (hw : WFP D n w.1) {p q : Nat} (hp : p < n) (hq : q < n)  : AM mX12_seenBy G d 0 0 [vR 94, vI (p : Int), vI (q : Int)] σ (fun ro ρ => ro = some (vI (wf D w.1 p q + errV D w.2.2)) ∧ TwM n (w.1, w.2.1, errZ D w.2.2) ρ ∧ Fm [53] [] σ ρ) := by
  refine AM.intro (by decide +kernel) (by simp [nLg]) (Nat.le_of_ble_eq_true rfl) (fun hO => ?_)
  show AW _ _ _ _ _ _ 0 [some (vR 94), some (vI (p : Int)), some (vI (q : Int))] [] σ
  have hb := hW.2.2.2.2.2.2.2.1
  have hwf := wf_in hW hw hp hq
  have h8 : σ.2.1 94 8 = D 4 3 := hR.2.2.2.2 3 (by decide)
  refine AW_aload_n dX12_seenBy_0 rfl ?_
  refine AW_iload_n dX12_seenBy_1 rfl ?_
  refine AW_iload_n dX12_seenBy_2 rfl ?_
  refine AW_callV2 (d' := d - 1) dX12_seenBy_3 (Or.inl lkX12_331) mfX12_worthFor (hS.cel rfl) ⟨_, rfl, rfl⟩ (n_wf (by omega) hS hR hW hT hw hp hq) (by omega) (Nat.le_of_ble_eq_true rfl) ?_
  rintro _ _ ⟨e_, rfl⟩ -
  rw [e_]
  clear e_
  refine AW_aload_n dX12_seenBy_6 rfl ?_
  refine AW_getI dX12_seenBy_7 gfX12_164 (hS.cel rfl) ?_
  refine AW_if_ne (tgt := 17) dX12_seenBy_10 (by decide) (fun c_10 => ?_) (fun c_10 => ?_)
  · skip
    rw [h8] at c_10
    refine AW_aload_n dX12_seenBy_17 rfl ?_
    refine AW_iconst dX12_seenBy_18 ?_
    refine AW_aload_n dX12_seenBy_19 rfl ?_
    refine AW_getI dX12_seenBy_20 gfX12_164 (hS.cel rfl) ?_
    rw [h8]
    refine AW_imulE dX12_seenBy_23 (by omega) (by omega) ?_
    refine AW_iconst dX12_seenBy_24 ?_
    refine AW_iaddE dX12_seenBy_25 (by omega) (by omega) ?_
    refine AW_callV1 (d' := d - 1) dX12_seenBy_26 (Or.inl lkX12_343) mfX12_draw (hS.cel rfl) ⟨_, rfl, rfl⟩ (n_draw hS hT _ (by omega)) (by omega) (Nat.le_of_ble_eq_true rfl) ?_
    rintro _ ρ1 ⟨rfl, hT1, hG1⟩ -
    have hdr := drw_in (nxz w.2.2) (m := 2 * D 4 3 + 1) (by omega)
    have hS1 := hG1.sta hS
    have h81 := (hG1.f 8).trans h8
    refine AW_aload_n dX12_seenBy_29 rfl ?_
    refine AW_getI dX12_seenBy_30 gfX12_164 (hS1.cel rfl) ?_
    rw [h81]
    refine AW_isubE dX12_seenBy_33 (by omega) (by omega) ?_
    refine AW_iaddE dX12_seenBy_34 (by omega) (by omega) ?_
    refine AW_iret dX12_seenBy_35 rfl ?_
    unfold errV errZ
    first
    | (rw [if_pos (by omega), if_pos (by omega)]; exact ⟨rfl, hT, Fm.rf⟩)
    | (rw [if_neg (by omega), if_neg (by omega)]; exact ⟨rfl, hT1, hG1⟩)
  · skip
    rw [h8] at c_10
    refine AW_iconst dX12_seenBy_13 ?_
    refine AW_goto (tgt := 34) dX12_seenBy_14 (by decide) ?_
    refine AW_iaddE dX12_seenBy_34 (by omega) (by omega) ?_
    refine AW_iret dX12_seenBy_35 rfl ?_
    unfold errV errZ
    first
    | (rw [if_pos (by omega), if_pos (by omega)]; exact ⟨rfl, hT, Fm.rf⟩)
    | (rw [if_neg (by omega), if_neg (by omega)]; exact ⟨rfl, hT1, hG1⟩)
theorem n_meeting {G : Gt} {d : Nat} {σ : St} (hd : 6 ≤ d) {D : Mk} {Ws : Nat → Wy} {n : Nat} {w : Tw} (hS : Sta σ) (hC : CtM D Ws σ) (hT : TwM n w σ) {p : Nat} (hw : WFP D n w.1) (hp : p < n) (h99 : 0 ≤ w.2.1 0 ∧ w.2.1 0 ≤ 99) (h0 : w.1 0 p = 0)  : AM mX12_meeting G d 0 0 [vR 94, vI (p : Int)] σ (fun ro ρ => ro = none ∧ TwM n (goS D Ws n w p) ρ ∧ CtM D Ws ρ ∧ Fm [18, 53, 54, 55, 56, 57, 58, 61] [102, 113, 114, 115, 116, 117, 118, 119, 120, 121, 122, 123, 124] σ ρ) := by
  refine AM.intro (by decide +kernel) (by simp [nLg]) (Nat.le_of_ble_eq_true rfl) (fun hO => ?_)
  show AW _ _ _ _ _ _ 0 [some (vR 94), some (vI (p : Int)), none, none, none, none, none, none, none] [] σ
  have hn40 := hw.1
  have hW := hC.2.1
  refine AW_aload_n dX12_meeting_0 rfl ?_
  refine AW_callV0 (d' := d - 1) dX12_meeting_1 (Or.inl lkX12_346) mfX12_meets (hS.cel rfl) ⟨_, rfl, rfl⟩ (n_meets (by omega) hS hC.1 hT hw) (by omega) (Nat.le_of_ble_eq_true rfl) ?_
  rintro ro_ ρ1 hz -
  obtain ⟨z1, rfl, hz1⟩ : ∃ z : Int, ro_ = some (vI z) ∧ ((cntT D w.1 n = 0 ∧ z = -1 ∧ ρ1 = σ) ∨ (cntT D w.1 n ≠ 0 ∧ ∃ q : Nat, pick D w.1 n 0 (drw (nxz w.2.2) (cntT D w.1 n : Int)) = some q ∧ z = (q : Int) ∧ TwM n (goW w) ρ1 ∧ Fm [53] [] σ ρ1)) := by
    rcases hz with ⟨a, b, c⟩ | ⟨a, q, b, c, e⟩
    · exact ⟨_, b, Or.inl ⟨a, rfl, c⟩⟩
    · exact ⟨_, c, Or.inr ⟨a, q, b, rfl, e⟩⟩
  refine AW_istore2 dX12_meeting_4 ?_
  refine AW_iload_n dX12_meeting_5 rfl ?_
  refine AW_iconst dX12_meeting_6 ?_
  refine AW_icmp_ne (tgt := 11) dX12_meeting_7 (by decide) (fun c_7 => ?_) (fun c_7 => ?_)
  · skip
    obtain ⟨ha, q, hpk, rfl, hT1, hG1⟩ := hz1.elim (fun q => absurd q.2.1 c_7) id
    have hpo := pick_ok _ _ _ _ hpk
    have hq : q < n := by omega
    have h1 : w.1 0 q = 1 := hpo.2.2.1
    have hne : p ≠ q := fun e => by rw [e, h1] at h0; omega
    have hS1 := hG1.sta hS
    have hC1 := hC.fm hG1
    have m99 : 0 ≤ (mtW D (goW w)).2.1 0 ∧ (mtW D (goW w)).2.1 0 ≤ 99 := by rw [mt_t0]; exact h99
    have q40 : q < 40 := by omega
    refine AW_aload_n dX12_meeting_11 rfl ?_
    refine AW_aload_n dX12_meeting_12 rfl ?_
    refine AW_getI dX12_meeting_13 gfX12_349 (hS1.cel rfl) ?_
    refine AW_iconst dX12_meeting_16 ?_
    rw [show ρ1.2.1 94 55 = w.2.1 1 from hT1.t1]
    refine AW_iadd dX12_meeting_17 ?_
    refine AW_putI dX12_meeting_18 (Or.inl pfX12_349) (hS1.cel rfl) ?_
    have hT2 := hT1.uT 1 55 (wr (w.2.1 1 + 1))
    have hG2 : Fm [55] [] ρ1 (upI ρ1 94 55 (wr (w.2.1 1 + 1))) := Fm.rf.uf (by decide) _
    have hS2 := hG2.sta hS1
    have hC2 := hC1.fm hG2
    have hF2 : Fm [18, 53, 54, 55, 56, 57, 58, 61] [102, 113, 114, 115, 116, 117, 118, 119, 120, 121, 122, 123, 124] σ (upI ρ1 94 55 (wr (w.2.1 1 + 1))) := (hG1.mo (by decide) (by decide)).tr (hG2.mo (by decide) (by decide))
    generalize upI ρ1 94 55 (wr (w.2.1 1 + 1)) = ρ2 at hT2 hG2 hS2 hC2 hF2 ⊢
    refine AW_aload_n dX12_meeting_21 rfl ?_
    refine AW_iload_n dX12_meeting_22 rfl ?_
    refine AW_iload_n dX12_meeting_23 rfl ?_
    refine AW_callV2 (d' := d - 1) dX12_meeting_24 (Or.inl lkX12_352) mfX12_seenBy (hS2.cel rfl) ⟨_, rfl, rfl⟩ (n_seen (w := (w.1, setT w.2.1 1 (wr (w.2.1 1 + 1)), nxz w.2.2)) (by omega) hS2 hC2.1 hW hT2 hw hp hq) (by omega) (Nat.le_of_ble_eq_true rfl) ?_
    rintro _ ρ3 ⟨rfl, hT3, hG3⟩ -
    have hS3 := hG3.sta hS2
    have hC3 := hC2.fm hG3
    have hF3 : Fm [18, 53, 54, 55, 56, 57, 58, 61] [102, 113, 114, 115, 116, 117, 118, 119, 120, 121, 122, 123, 124] σ ρ3 := hF2.tr (hG3.mo (by decide) (by decide))
    refine AW_istore3 dX12_meeting_27 ?_
    refine AW_aload_n dX12_meeting_28 rfl ?_
    refine AW_iload_n dX12_meeting_29 rfl ?_
    refine AW_iload_n dX12_meeting_30 rfl ?_
    refine AW_callV2 (d' := d - 1) dX12_meeting_31 (Or.inl lkX12_352) mfX12_seenBy (hS3.cel rfl) ⟨_, rfl, rfl⟩ (n_seen (by omega) hS3 hC3.1 hW hT3 hw hq hp) (by omega) (Nat.le_of_ble_eq_true rfl) ?_
    rintro _ ρ4 ⟨rfl, hT4, hG4⟩ -
    have hS4 := hG4.sta hS3
    have hC4 := hC3.fm hG4
    have hF4 : Fm [18, 53, 54, 55, 56, 57, 58, 61] [102, 113, 114, 115, 116, 117, 118, 119, 120, 121, 122, 123, 124] σ ρ4 := hF3.tr (hG4.mo (by decide) (by decide))
    replace hT4 : TwM n (mtW D (goW w)) ρ4 := hT4
    refine AW_istore4 dX12_meeting_34 ?_
    refine AW_aload_n dX12_meeting_36 rfl ?_
    refine AW_iload_n dX12_meeting_37 rfl ?_
    refine AW_iconst dX12_meeting_38 ?_
    refine AW_callV2 (d' := d - 1) dX12_meeting_39 (Or.inl lkX12_355) mfX12_saysOf (hS4.cel rfl) ⟨_, rfl, rfl⟩ (n_says0 (by omega) hS4 hC4 hT4 hw hp m99) (by omega) (Nat.le_of_ble_eq_true rfl) ?_
    rintro _ ρ5 ⟨rfl, hC5, hT5, hG5⟩ -
    have hS5 := hG5.sta hS4
    have hF5 : Fm [18, 53, 54, 55, 56, 57, 58, 61] [102, 113, 114, 115, 116, 117, 118, 119, 120, 121, 122, 123, 124] σ ρ5 := hF4.tr (hG5.mo (by decide) (by decide))
    refine AW_istore5 dX12_meeting_42 ?_
    refine AW_aload_n dX12_meeting_44 rfl ?_
    refine AW_iload_n dX12_meeting_45 rfl ?_
    refine AW_iconst dX12_meeting_46 ?_
    refine AW_callV2 (d' := d - 1) dX12_meeting_47 (Or.inl lkX12_355) mfX12_saysOf (hS5.cel rfl) ⟨_, rfl, rfl⟩ (n_says0 (by omega) hS5 hC5 hT5 hw hq m99) (by omega) (Nat.le_of_ble_eq_true rfl) ?_
    rintro _ ρ6 ⟨rfl, hC6, hT6, hG6⟩ -
    have hS6 := hG6.sta hS5
    have hF6 : Fm [18, 53, 54, 55, 56, 57, 58, 61] [102, 113, 114, 115, 116, 117, 118, 119, 120, 121, 122, 123, 124] σ ρ6 := hF5.tr (hG6.mo (by decide) (by decide))
    refine AW_istore6 dX12_meeting_50 ?_
    refine AW_iload_n dX12_meeting_52 rfl ?_
    refine AW_iload dX12_meeting_53 rfl ?_
    refine AW_icmp_ge (tgt := 59) dX12_meeting_55 (by decide) (fun c_55 => ?_) (fun c_55 => ?_)
    · skip
      have c55 : ¬ mtH D (goW w) p q < takeS D Ws (mtW D (goW w)) p := Int.not_lt.mpr c_55
      refine AW_aload_n dX12_meeting_59 rfl ?_
      refine AW_getR (a := 116) dX12_meeting_60 gfX12_89 (hS6.cel rfl) (hS6.rf rfl) ?_
      refine AW_iload_n dX12_meeting_63 rfl ?_
      refine AW_iald dX12_meeting_64 (hS6.cel rfl) (by omega) (by omega) ?_
      refine AW_iconst dX12_meeting_65 ?_
      refine AW_icmp_ne (tgt := 87) dX12_meeting_66 (by decide) (fun c_66 => ?_) (fun c_66 => ?_)
      · skip
        have hn3 : ¬ w.1 3 q = -1 := by rw [Int.toNat_natCast, hT6.v3 q40] at c_66; exact c_66
        refine AW_aload_n dX12_meeting_87 rfl ?_
        refine AW_getR (a := 116) dX12_meeting_88 gfX12_89 (hS6.cel rfl) (hS6.rf rfl) ?_
        refine AW_iload_n dX12_meeting_91 rfl ?_
        refine AW_iald dX12_meeting_92 (hS6.cel rfl) (by omega) (by omega) ?_
        rw [Int.toNat_natCast, hT6.v3 q40, show (mtW D (goW w)).1 3 q = w.1 3 q from rfl, (own_lt hw hq hn3).2.2]
        have ho := (own_lt hw hq hn3).1
        refine AW_istore7 dX12_meeting_93 ?_
        refine AW_aload_n dX12_meeting_95 rfl ?_
        refine AW_iload_n dX12_meeting_96 rfl ?_
        refine AW_iconst dX12_meeting_97 ?_
        refine AW_callV2 (d' := d - 1) dX12_meeting_98 (Or.inl lkX12_355) mfX12_saysOf (hS6.cel rfl) ⟨_, rfl, rfl⟩ (n_says1 (by omega) hS6 hC6 hT6 hw hq m99) (by omega) (Nat.le_of_ble_eq_true rfl) ?_
        rintro _ ρ7 ⟨rfl, h61, hC7, hT7, hG7⟩ -
        have hS7 := hG7.sta hS6
        have hF7 : Fm [18, 53, 54, 55, 56, 57, 58, 61] [102, 113, 114, 115, 116, 117, 118, 119, 120, 121, 122, 123, 124] σ ρ7 := hF6.tr (hG7.mo (by decide) (by decide))
        refine AW_istore8 dX12_meeting_101 ?_
        refine AW_aload_n dX12_meeting_103 rfl ?_
        refine AW_getI dX12_meeting_104 gfX12_320 (hS7.cel rfl) ?_
        refine AW_if_eq (tgt := 125) dX12_meeting_107 (by decide) (fun c_107 => ?_) (fun c_107 => ?_)
        · skip
          rw [h61] at c_107
          have c84 : ¬ temptB D Ws (mtW D (goW w)) q (w.1 3 q).toNat (mtS D (goW w) p q) = true := by
            intro e
            unfold temptB at e
            cases hs : sy D Ws (mtW D (goW w)) q 257 with
            | none => rw [hs] at e; cases e
            | some v => rw [hs] at c_107; exact absurd c_107 (show ¬ (1 : Int) = 0 by decide)
          refine AW_vret dX12_meeting_125 rfl ?_
          rw [goS_e, if_neg ha, hpk]
          show none = none ∧ TwM n (meetS D Ws (goW w) p q) _ ∧ _
          unfold meetS
          rw [if_neg c55, if_neg (show ¬ (goW w).1 3 q = -1 from hn3), if_neg (show ¬ temptB D Ws (mtW D (goW w)) q ((goW w).1 3 q).toNat (mtS D (goW w) p q) = true from c84)]
          exact ⟨rfl, hT7, hC7, hF7⟩
        · skip
          rw [h61] at c_107
          obtain ⟨v, hv⟩ : ∃ v, sy D Ws (mtW D (goW w)) q 257 = some v := by
            cases hs : sy D Ws (mtW D (goW w)) q 257 with
            | none => rw [hs] at c_107; exact absurd rfl c_107
            | some v => exact ⟨v, rfl⟩
          have htb : temptB D Ws (mtW D (goW w)) q (w.1 3 q).toNat (mtS D (goW w) p q) = decide (wr (wf D w.1 q (w.1 3 q).toNat + v) ≤ mtS D (goW w) p q) := by
            unfold temptB
            rw [hv]
            rfl
          have hgd : (sy D Ws (mtW D (goW w)) q 257).getD 0 = v := by rw [hv]; rfl
          refine AW_iload dX12_meeting_110 rfl ?_
          refine AW_aload_n dX12_meeting_112 rfl ?_
          refine AW_iload_n dX12_meeting_113 rfl ?_
          refine AW_iload dX12_meeting_114 rfl ?_
          refine AW_callV2 (d' := d - 1) dX12_meeting_116 (Or.inl lkX12_331) mfX12_worthFor (hS7.cel rfl) ⟨_, rfl, rfl⟩ (n_wf (by omega) hS7 hC7.1 hW hT7 hw hq ho) (by omega) (Nat.le_of_ble_eq_true rfl) ?_
          rintro _ _ ⟨e_, rfl⟩ -
          rw [e_]
          clear e_
          refine AW_iload dX12_meeting_119 rfl ?_
          skip
          refine AW_iadd dX12_meeting_121 ?_
          refine AW_icmp_ge (tgt := 126) dX12_meeting_122 (by decide) (fun c_122 => ?_) (fun c_122 => ?_)
          · skip
            rw [hgd] at c_122
            have c84 : temptB D Ws (mtW D (goW w)) q (w.1 3 q).toNat (mtS D (goW w) p q) = true := by rw [htb]; exact decide_eq_true c_122
            refine AW_aload_n dX12_meeting_126 rfl ?_
            refine AW_iload dX12_meeting_127 rfl ?_
            refine AW_callV1 (d' := d - 1) dX12_meeting_129 (Or.inl lkX12_334) mfX12_frees (hS7.cel rfl) ⟨_, rfl, rfl⟩ (n_frees hS7 hT7 (show (w.1 3 q).toNat < 40 by omega)) (by omega) (Nat.le_of_ble_eq_true rfl) ?_
            rintro _ ρ8 ⟨rfl, hT8, hG8⟩ -
            have hS8 := hG8.sta hS7
            have hC8 := hC7.fm hG8
            have hF8 : Fm [18, 53, 54, 55, 56, 57, 58, 61] [102, 113, 114, 115, 116, 117, 118, 119, 120, 121, 122, 123, 124] σ ρ8 := hF7.tr (hG8.mo (by decide) (by decide))
            refine AW_aload_n dX12_meeting_132 rfl ?_
            refine AW_getR (a := 121) dX12_meeting_133 gfX12_105 (hS8.cel rfl) (hS8.rf rfl) ?_
            refine AW_iload dX12_meeting_136 rfl ?_
            refine AW_aload_n dX12_meeting_138 rfl ?_
            refine AW_getR (a := 121) dX12_meeting_139 gfX12_105 (hS8.cel rfl) (hS8.rf rfl) ?_
            refine AW_iload dX12_meeting_142 rfl ?_
            refine AW_iald dX12_meeting_144 (hS8.cel rfl) (by omega) (by omega) ?_
            refine AW_iconst dX12_meeting_145 ?_
            rw [Int.toNat_natCast, show ρ8.2.1 121 (w.1 3 q).toNat = w.1 8 (w.1 3 q).toNat from (hT8.v8 (by omega)).trans (fre_f w.1 (w.1 3 q).toNat 8 (w.1 3 q).toNat (by decide) (by decide))]
            refine AW_iadd dX12_meeting_146 ?_
            refine AW_iast dX12_meeting_147 (hS8.cel rfl) (by omega) (by omega) ?_
            rw [Int.toNat_natCast]
            have hTa := hT8.uP (p := (w.1 3 q).toNat) 8 121 (wr (w.1 8 (w.1 3 q).toNat + 1))
            have hGa : Fm [] [121] ρ8 (upI ρ8 121 (w.1 3 q).toNat (wr (w.1 8 (w.1 3 q).toNat + 1))) := Fm.rf.ua (by decide) (by decide) _ _
            have hSa := hGa.sta hS8
            have hCa := hC8.fm hGa
            have hFa : Fm [18, 53, 54, 55, 56, 57, 58, 61] [102, 113, 114, 115, 116, 117, 118, 119, 120, 121, 122, 123, 124] σ (upI ρ8 121 (w.1 3 q).toNat (wr (w.1 8 (w.1 3 q).toNat + 1))) := hF8.tr (hGa.mo (by decide) (by decide))
            generalize upI ρ8 121 (w.1 3 q).toNat (wr (w.1 8 (w.1 3 q).toNat + 1)) = ρa at hTa hGa hSa hCa hFa ⊢
            refine AW_aload_n dX12_meeting_148 rfl ?_
            refine AW_aload_n dX12_meeting_149 rfl ?_
            refine AW_getI dX12_meeting_150 gfX12_362 (hSa.cel rfl) ?_
            refine AW_iconst dX12_meeting_153 ?_
            rw [show ρa.2.1 94 57 = (mtW D (goW w)).2.1 3 from hTa.t3]
            refine AW_iadd dX12_meeting_154 ?_
            refine AW_putI dX12_meeting_155 (Or.inl pfX12_362) (hSa.cel rfl) ?_
            have hTb := hTa.uT 3 57 (wr ((mtW D (goW w)).2.1 3 + 1))
            have hGb : Fm [57] [] ρa (upI ρa 94 57 (wr ((mtW D (goW w)).2.1 3 + 1))) := Fm.rf.uf (by decide) _
            have hSb := hGb.sta hSa
            have hCb := hCa.fm hGb
            have hFb : Fm [18, 53, 54, 55, 56, 57, 58, 61] [102, 113, 114, 115, 116, 117, 118, 119, 120, 121, 122, 123, 124] σ (upI ρa 94 57 (wr ((mtW D (goW w)).2.1 3 + 1))) := hFa.tr (hGb.mo (by decide) (by decide))
            generalize upI ρa 94 57 (wr ((mtW D (goW w)).2.1 3 + 1)) = ρb at hTb hGb hSb hCb hFb ⊢
            refine AW_aload_n dX12_meeting_158 rfl ?_
            refine AW_iload_n dX12_meeting_159 rfl ?_
            refine AW_iload_n dX12_meeting_160 rfl ?_
            refine AW_iload dX12_meeting_161 rfl ?_
            refine AW_iload dX12_meeting_163 rfl ?_
            refine AW_callV4 (d' := d - 1) dX12_meeting_165 (Or.inl lkX12_358) mfX12_becomePair (hSb.cel rfl) ⟨_, rfl, rfl⟩ (n_pair hSb hTb (show p < 40 by omega) (show q < 40 by omega) hne _ _) (by omega) (Nat.le_of_ble_eq_true rfl) ?_
            rintro _ ρ9 ⟨rfl, hT9, hG9⟩ -
            refine AW_vret dX12_meeting_168 rfl ?_
            rw [goS_e, if_neg ha, hpk]
            show none = none ∧ TwM n (meetS D Ws (goW w) p q) _ ∧ _
            unfold meetS
            rw [if_neg c55, if_neg (show ¬ (goW w).1 3 q = -1 from hn3), if_pos (show temptB D Ws (mtW D (goW w)) q ((goW w).1 3 q).toNat (mtS D (goW w) p q) = true from c84)]
            exact ⟨rfl, hT9, hCb.fm hG9, hFb.tr (hG9.mo (by decide) (by decide))⟩
          · skip
            rw [hgd] at c_122
            have c84 : ¬ temptB D Ws (mtW D (goW w)) q (w.1 3 q).toNat (mtS D (goW w) p q) = true := by rw [htb]; intro e; exact c_122 (of_decide_eq_true e)
            refine AW_vret dX12_meeting_125 rfl ?_
            rw [goS_e, if_neg ha, hpk]
            show none = none ∧ TwM n (meetS D Ws (goW w) p q) _ ∧ _
            unfold meetS
            rw [if_neg c55, if_neg (show ¬ (goW w).1 3 q = -1 from hn3), if_neg (show ¬ temptB D Ws (mtW D (goW w)) q ((goW w).1 3 q).toNat (mtS D (goW w) p q) = true from c84)]
            exact ⟨rfl, hT7, hC7, hF7⟩
      · skip
        have hn3 : w.1 3 q = -1 := by rw [Int.toNat_natCast, hT6.v3 q40] at c_66; exact c_66
        refine AW_iload dX12_meeting_69 rfl ?_
        refine AW_iload dX12_meeting_71 rfl ?_
        refine AW_icmp_lt (tgt := 86) dX12_meeting_73 (by decide) (fun c_73 => ?_) (fun c_73 => ?_)
        · skip
          have c73 : mtS D (goW w) p q < takeS D Ws (mtW D (goW w)) q := c_73
          refine AW_vret dX12_meeting_86 rfl ?_
          rw [goS_e, if_neg ha, hpk]
          show none = none ∧ TwM n (meetS D Ws (goW w) p q) _ ∧ _
          unfold meetS
          rw [if_neg c55, if_pos (show (goW w).1 3 q = -1 from hn3)]
          first
          | (rw [if_neg hP1]; exact ⟨rfl, hT7, hC6.fm hG7, hF7⟩)
          | (rw [if_pos c73]; exact ⟨rfl, hT6, hC6, hF6⟩)
        · skip
          have c73 : ¬ mtS D (goW w) p q < takeS D Ws (mtW D (goW w)) q := c_73
          refine AW_aload_n dX12_meeting_76 rfl ?_
          refine AW_iload_n dX12_meeting_77 rfl ?_
          refine AW_iload_n dX12_meeting_78 rfl ?_
          refine AW_iload dX12_meeting_79 rfl ?_
          refine AW_iload dX12_meeting_81 rfl ?_
          refine AW_callV4 (d' := d - 1) dX12_meeting_83 (Or.inl lkX12_358) mfX12_becomePair (hS6.cel rfl) ⟨_, rfl, rfl⟩ (n_pair hS6 hT6 (show p < 40 by omega) (show q < 40 by omega) hne _ _) (by omega) (Nat.le_of_ble_eq_true rfl) ?_
          rintro _ ρ7 ⟨rfl, hT7, hG7⟩ -
          have hP1 := c73
          have hF7 : Fm [18, 53, 54, 55, 56, 57, 58, 61] [102, 113, 114, 115, 116, 117, 118, 119, 120, 121, 122, 123, 124] σ ρ7 := hF6.tr (hG7.mo (by decide) (by decide))
          refine AW_vret dX12_meeting_86 rfl ?_
          rw [goS_e, if_neg ha, hpk]
          show none = none ∧ TwM n (meetS D Ws (goW w) p q) _ ∧ _
          unfold meetS
          rw [if_neg c55, if_pos (show (goW w).1 3 q = -1 from hn3)]
          first
          | (rw [if_neg hP1]; exact ⟨rfl, hT7, hC6.fm hG7, hF7⟩)
          | (rw [if_pos c73]; exact ⟨rfl, hT6, hC6, hF6⟩)
    · skip
      have c55 : mtH D (goW w) p q < takeS D Ws (mtW D (goW w)) p := Int.not_le.mp c_55
      refine AW_vret dX12_meeting_58 rfl ?_
      rw [goS_e, if_neg ha, hpk]
      show none = none ∧ TwM n (meetS D Ws (goW w) p q) _ ∧ _
      unfold meetS
      rw [if_pos c55]
      exact ⟨rfl, hT6, hC6, hF6⟩
  · skip
    have hy := hz1.elim id (fun q => by obtain ⟨_, q, _, e, _⟩ := q; omega)
    refine AW_vret dX12_meeting_10 rfl ?_
    rw [goS_e, if_pos hy.1, hy.2.2]
    exact ⟨rfl, hT, hC, Fm.rf⟩
