theorem l_push {G : Gt} {d : Nat} {σ : St} {n m : Nat} {K L : Nat → Int} {M : Nat → Nat} (hd : 3 ≤ d) (hS0 : Sta σ) (hL0 : LkC n K σ) (hm : m < n) (hM : M m < n) (hLs : ∀ w, w < 7 → σ.2.1 93 w = L w) (hLb : ∀ w, 0 ≤ L w ∧ L w ≤ 2000) : ∀ (nn : Nat) (q w : Nat) (τ : St), q < nn → w + q = n → Fr [93] σ τ → (∀ x, x < 7 → τ.2.1 93 x = if x < w then psh K n M m L x else L x) →  AW mX5_pushUp G d 0 0 (mq G (fun ro ρ => ro = none ∧ Fr [93] σ ρ ∧ ∀ x, x < 7 → ρ.2.1 93 x = psh K n M m L x)) 34 [some (vR 91), some (vI (m : Int)), some (vI (M m : Int)), some (vI (both K m (M m) - L (M m))), some (vI (w : Int))] [] τ := by
  intro nn
  induction nn with
  | zero => intros; omega
  | succ nn ih =>
    intro q w τ hn hw hF hx
    have hS := hF.sta hS0
    have hL := hL0.fr hF
    have h7 := hL.2.1
    have hb0 := both_in hL.2.2.2 m (M m)
    have hl0 := hLb (M m)
    refine AW_iload dX5_pushUp_34 rfl ?_
    refine AW_aload_n dX5_pushUp_36 rfl ?_
    refine AW_getR (a := 85) dX5_pushUp_37 gfX5_20 (hS.cel rfl) (hS.rf rfl) ?_
    refine AW_callV0 (d' := d - 1) dX5_pushUp_40 (Or.inl lkX5_34) mfX0_guests (hS.cel rfl) ⟨_, rfl, rfl⟩ (k_fguests hS hL) (by omega) (Nat.le_of_ble_eq_true rfl) ?_
    rintro _ _ ⟨e_, rfl⟩ -
    rw [e_]
    clear e_
    refine AW_icmp_ge (tgt := 91) dX5_pushUp_43 (by decide) (fun c_43 => ?_) (fun c_43 => ?_)
    · skip
      have hm2 : w = n := by omega
      subst hm2
      refine AW_vret dX5_pushUp_91 rfl ?_
      refine ⟨rfl, hF, fun x h => ?_⟩
      rw [hx x h]
      by_cases g : x < w
      · first | (rw [if_pos g]; done) | (rw [if_pos (by omega)]; done)
      · rw [if_neg (by omega), psh_o _ _ _ _ _ g]
    · skip
      obtain ⟨q1, rfl⟩ : ∃ q1, q = q1 + 1 := ⟨q - 1, by omega⟩
      have hb1 := both_in hL.2.2.2 m w
      have hl1 := hLb w
      have hxw := hx w (by omega)
      rw [if_neg (by omega)] at hxw
      refine AW_iload dX5_pushUp_46 rfl ?_
      refine AW_aload_n dX5_pushUp_48 rfl ?_
      refine AW_getR (a := 93) dX5_pushUp_49 gfX5_17 (hS.cel rfl) (hS.rf rfl) ?_
      refine AW_alen dX5_pushUp_52 (hS.cel rfl) (by decide) (by decide) ?_
      refine AW_icmp_ge (tgt := 91) dX5_pushUp_53 (by decide) (fun c_53 => ?_) (fun c_53 => ?_)
      · skip
        exact absurd c_53 (by omega)
      · skip
        refine AW_aload_n dX5_pushUp_56 rfl ?_
        refine AW_getR (a := 93) dX5_pushUp_57 gfX5_17 (hS.cel rfl) (hS.rf rfl) ?_
        refine AW_iload dX5_pushUp_60 rfl ?_
        refine AW_aload_n dX5_pushUp_62 rfl ?_
        refine AW_getR (a := 93) dX5_pushUp_63 gfX5_17 (hS.cel rfl) (hS.rf rfl) ?_
        refine AW_iload dX5_pushUp_66 rfl ?_
        refine AW_iald dX5_pushUp_68 (hS.cel rfl) (by omega) (by omega) ?_
        refine AW_aload_n dX5_pushUp_69 rfl ?_
        refine AW_getR (a := 85) dX5_pushUp_70 gfX5_20 (hS.cel rfl) (hS.rf rfl) ?_
        refine AW_iload_n dX5_pushUp_73 rfl ?_
        refine AW_iload dX5_pushUp_74 rfl ?_
        refine AW_callV2 (d' := d - 1) dX5_pushUp_76 (Or.inl lkX5_30) mfX0_sum (hS.cel rfl) ⟨_, rfl, rfl⟩ (k_fsum (by omega) hS hL _ _ m w rfl rfl hm (by omega)) (by omega) (Nat.le_of_ble_eq_true rfl) ?_
        rintro _ _ ⟨e_, rfl⟩ -
        rw [e_]
        clear e_
        refine AW_iload_n dX5_pushUp_79 rfl ?_
        refine AW_isubE dX5_pushUp_80 (by omega) (by omega) ?_
        refine AW_mmax dX5_pushUp_81 lkX5_52 (by omega) (Nat.le_of_ble_eq_true rfl) ?_
        rw [Int.toNat_natCast, hxw]
        refine AW_iast dX5_pushUp_84 (hS.cel rfl) (by omega) (by omega) ?_
        refine AW_iincE4 dX5_pushUp_85 (by omega) (by omega) ?_
        refine AW_goto (tgt := 34) dX5_pushUp_88 (by decide) ?_
        rw [show (w : Int) + 1 = ((w + 1 : Nat) : Int) by omega, Int.toNat_natCast]
        refine ih q1 (w + 1) _ (by omega) (by omega) (hF.up (by decide) _ _) (fun x h => ?_)
        rw [up_if]
        by_cases hc : x = w
        · rw [if_pos ⟨rfl, hc⟩, hc, if_pos (show w < w + 1 by omega), psh_i _ _ _ _ _ (show w < n by omega)]
          by_cases g : L w < both K m w - (both K m (M m) - L (M m))
          · rw [if_pos g, if_pos (by omega)]; omega
          · rw [if_neg g, if_neg (by omega)]
        · rw [if_neg (by omega), hx x h]
          by_cases g : x < w
          · rw [if_pos g, if_pos (by omega)]
          · rw [if_neg g, if_neg (by omega)]
theorem k_push {G : Gt} {d : Nat} {σ : St} {n m : Nat} {K L : Nat → Int} {M : Nat → Nat} (hd : 3 ≤ d) (hS0 : Sta σ) (hL0 : LkC n K σ) (hm : m < n) (hM : M m < n) (hLs : ∀ w, w < 7 → σ.2.1 93 w = L w) (hLb : ∀ w, 0 ≤ L w ∧ L w ≤ 2000) (m0 w0 : Int) (e1 : m0 = m) (e2 : w0 = (M m : Int)) : AM mX5_pushUp G d 0 0 [vR 91, vI m0, vI w0] σ (fun ro ρ => ro = none ∧ Fr [93] σ ρ ∧ ∀ x, x < 7 → ρ.2.1 93 x = psh K n M m L x) := by
  subst e1
  subst e2
  have h7 := hL0.2.1
  have hb0 := both_in hL0.2.2.2 m (M m)
  have hl0 := hLb (M m)
  refine AM.intro (by decide +kernel) (by simp [nLg]) (Nat.le_of_ble_eq_true rfl) (fun hO => ?_)
  show AW _ _ _ _ _ _ 0 [some (vR 91), some (vI (m : Int)), some (vI (M m : Int)), none, none] [] σ
  refine AW_iload_n dX5_pushUp_0 rfl ?_
  refine AW_if_lt (tgt := 13) dX5_pushUp_1 (by decide) (fun c_1 => ?_) (fun c_1 => ?_)
  · skip
    exact absurd c_1 (by omega)
  · skip
    refine AW_iload_n dX5_pushUp_4 rfl ?_
    refine AW_aload_n dX5_pushUp_5 rfl ?_
    refine AW_getR (a := 93) dX5_pushUp_6 gfX5_17 (hS0.cel rfl) (hS0.rf rfl) ?_
    refine AW_alen dX5_pushUp_9 (hS0.cel rfl) (by decide) (by decide) ?_
    refine AW_icmp_lt (tgt := 14) dX5_pushUp_10 (by decide) (fun c_10 => ?_) (fun c_10 => ?_)
    · skip
      refine AW_aload_n dX5_pushUp_14 rfl ?_
      refine AW_getR (a := 85) dX5_pushUp_15 gfX5_20 (hS0.cel rfl) (hS0.rf rfl) ?_
      refine AW_iload_n dX5_pushUp_18 rfl ?_
      refine AW_iload_n dX5_pushUp_19 rfl ?_
      refine AW_callV2 (d' := d - 1) dX5_pushUp_20 (Or.inl lkX5_30) mfX0_sum (hS0.cel rfl) ⟨_, rfl, rfl⟩ (k_fsum (by omega) hS0 hL0 _ _ m (M m) rfl rfl hm hM) (by omega) (Nat.le_of_ble_eq_true rfl) ?_
      rintro _ _ ⟨e_, rfl⟩ -
      rw [e_]
      clear e_
      refine AW_aload_n dX5_pushUp_23 rfl ?_
      refine AW_getR (a := 93) dX5_pushUp_24 gfX5_17 (hS0.cel rfl) (hS0.rf rfl) ?_
      refine AW_iload_n dX5_pushUp_27 rfl ?_
      refine AW_iald dX5_pushUp_28 (hS0.cel rfl) (by omega) (by omega) ?_
      rw [Int.toNat_natCast, hLs _ (by omega)]
      refine AW_isubE dX5_pushUp_29 (by omega) (by omega) ?_
      refine AW_istore3 dX5_pushUp_30 ?_
      refine AW_iconst dX5_pushUp_31 ?_
      refine AW_istore4 dX5_pushUp_32 ?_
      exact l_push hd hS0 hL0 hm hM hLs hLb (n + 1) n 0 σ (by omega) (by omega) Fr.rf (fun x h => by rw [if_neg (by omega)]; exact hLs x h)
    · skip
      exact absurd (show ((M m : Nat) : Int) < 7 by omega) c_10
theorem l_lo2 {G : Gt} {d : Nat} {σ : St} {n : Nat} {K : Nat → Int} {M : Nat → Nat} {k : Int} (hd : 4 ≤ d) (hS0 : Sta σ) (hL0 : LkC n K σ) (h880 : ∀ j, j < n → σ.2.1 88 j = ((mostL K n).getD j 0 : Int)) (hM : ∀ i, M i = (mostL K n).getD i 0) (hk : 0 ≤ k ∧ k < 7) {r : Nat} (hr : r < n) {Qz : QZ} (hnx : ∀ τ : St, Fr [93] σ τ → (∀ x, x < 7 → τ.2.1 93 x = itP K n M (r + 1) x) → AW mX5_leastOf G d 0 0 Qz 10 [some (vR 91), some (vI k), some (vI ((r + 1 : Nat) : Int)), some (vI (n : Int))] [] τ) : ∀ (nn : Nat) (q i : Nat) (τ : St), q < nn → i + q = n → Fr [93] σ τ → (∀ x, x < 7 → τ.2.1 93 x = rnd K n M i (itP K n M r) x) →  AW mX5_leastOf G d 0 0 (Qz) 23 [some (vR 91), some (vI k), some (vI (r : Int)), some (vI (i : Int))] [] τ := by
  intro nn
  induction nn with
  | zero => intros; omega
  | succ nn ih =>
    intro q i τ hn hi hF hx
    have hS := hF.sta hS0
    have hL := hL0.fr hF
    have h7 := hL.2.1
    obtain ⟨hMb, hMi, _⟩ := most_opt hL.2.2.2 hM
    refine AW_iload_n dX5_leastOf_23 rfl ?_
    refine AW_aload_n dX5_leastOf_24 rfl ?_
    refine AW_getR (a := 85) dX5_leastOf_25 gfX5_20 (hS.cel rfl) (hS.rf rfl) ?_
    refine AW_callV0 (d' := d - 1) dX5_leastOf_28 (Or.inl lkX5_34) mfX0_guests (hS.cel rfl) ⟨_, rfl, rfl⟩ (k_fguests hS hL) (by omega) (Nat.le_of_ble_eq_true rfl) ?_
    rintro _ _ ⟨e_, rfl⟩ -
    rw [e_]
    clear e_
    refine AW_icmp_ge (tgt := 53) dX5_leastOf_31 (by decide) (fun c_31 => ?_) (fun c_31 => ?_)
    · skip
      have hm2 : i = n := by omega
      subst hm2
      refine AW_iincE2 dX5_leastOf_53 (by omega) (by omega) ?_
      refine AW_goto (tgt := 10) dX5_leastOf_56 (by decide) ?_
      rw [show (r : Int) + 1 = ((r + 1 : Nat) : Int) by omega]
      exact hnx τ hF hx
    · skip
      obtain ⟨q1, rfl⟩ : ∃ q1, q = q1 + 1 := ⟨q - 1, by omega⟩
      refine AW_aload_n dX5_leastOf_34 rfl ?_
      refine AW_iload_n dX5_leastOf_35 rfl ?_
      refine AW_aload_n dX5_leastOf_36 rfl ?_
      refine AW_getR (a := 85) dX5_leastOf_37 gfX5_20 (hS.cel rfl) (hS.rf rfl) ?_
      refine AW_iload_n dX5_leastOf_40 rfl ?_
      refine AW_callV1 (d' := d - 1) dX5_leastOf_41 (Or.inl lkX5_41) mfX0_mostOf (hS.cel rfl) ⟨_, rfl, rfl⟩ (k_mostOf (by omega) hS hL _ (by omega)) (by omega) (Nat.le_of_ble_eq_true rfl) ?_
      rintro _ _ ⟨e_, rfl⟩ -
      rw [e_]
      clear e_
      rw [Int.toNat_natCast, hF.iv 88 i, h880 i (by omega), ← hM]
      refine AW_callV2 (d' := d - 1) dX5_leastOf_44 (Or.inl lkX5_48) mfX5_pushUp (hS.cel rfl) ⟨_, rfl, rfl⟩ (k_push (M := M) (L := rnd K n M i (itP K n M r)) (by omega) hS hL (show i < n by omega) (hMb i (by omega)) hx (fun w => by have := rnd_bd hL.2.2.2 hM r i w (by omega); omega) _ _ rfl rfl) (by omega) (Nat.le_of_ble_eq_true rfl) ?_
      rintro _ ρ1 ⟨rfl, hG1, hx1⟩ -
      refine AW_iincE3 dX5_leastOf_47 (by omega) (by omega) ?_
      refine AW_goto (tgt := 23) dX5_leastOf_50 (by decide) ?_
      rw [show (i : Int) + 1 = ((i + 1 : Nat) : Int) by omega]
      exact ih q1 (i + 1) ρ1 (by omega) (by omega) (hF.tr hG1) hx1
theorem l_lo1 {G : Gt} {d : Nat} {σ : St} {n : Nat} {K : Nat → Int} {M : Nat → Nat} {k : Int} (hd : 4 ≤ d) (hS0 : Sta σ) (hL0 : LkC n K σ) (h880 : ∀ j, j < n → σ.2.1 88 j = ((mostL K n).getD j 0 : Int)) (hM : ∀ i, M i = (mostL K n).getD i 0) (hk : 0 ≤ k ∧ k < 7) : ∀ (nn : Nat) (q r : Nat) (x3 : Option AV) (τ : St), q < nn → r + q = n → Fr [93] σ τ → (∀ x, x < 7 → τ.2.1 93 x = itP K n M r x) →  AW mX5_leastOf G d 0 0 (mq G (fun ro ρ => ro = some (vI (itP K n M n k.toNat)) ∧ Fr [93] σ ρ)) 10 [some (vR 91), some (vI k), some (vI (r : Int)), x3] [] τ := by
  intro nn
  induction nn with
  | zero => intros; omega
  | succ nn ih =>
    intro q r x3 τ hn hr hF hx
    have hS := hF.sta hS0
    have hL := hL0.fr hF
    have h7 := hL.2.1
    refine AW_iload_n dX5_leastOf_10 rfl ?_
    refine AW_aload_n dX5_leastOf_11 rfl ?_
    refine AW_getR (a := 85) dX5_leastOf_12 gfX5_20 (hS.cel rfl) (hS.rf rfl) ?_
    refine AW_callV0 (d' := d - 1) dX5_leastOf_15 (Or.inl lkX5_34) mfX0_guests (hS.cel rfl) ⟨_, rfl, rfl⟩ (k_fguests hS hL) (by omega) (Nat.le_of_ble_eq_true rfl) ?_
    rintro _ _ ⟨e_, rfl⟩ -
    rw [e_]
    clear e_
    refine AW_icmp_ge (tgt := 59) dX5_leastOf_18 (by decide) (fun c_18 => ?_) (fun c_18 => ?_)
    · skip
      have hm2 : r = n := by omega
      subst hm2
      refine AW_iload_n dX5_leastOf_59 rfl ?_
      refine AW_if_lt (tgt := 81) dX5_leastOf_60 (by decide) (fun c_60 => ?_) (fun c_60 => ?_)
      · skip
        exact absurd c_60 (by omega)
      · skip
        refine AW_iload_n dX5_leastOf_63 rfl ?_
        refine AW_aload_n dX5_leastOf_64 rfl ?_
        refine AW_getR (a := 93) dX5_leastOf_65 gfX5_17 (hS.cel rfl) (hS.rf rfl) ?_
        refine AW_alen dX5_leastOf_68 (hS.cel rfl) (by decide) (by decide) ?_
        refine AW_icmp_ge (tgt := 81) dX5_leastOf_69 (by decide) (fun c_69 => ?_) (fun c_69 => ?_)
        · skip
          exact absurd c_69 (by omega)
        · skip
          refine AW_aload_n dX5_leastOf_72 rfl ?_
          refine AW_getR (a := 93) dX5_leastOf_73 gfX5_17 (hS.cel rfl) (hS.rf rfl) ?_
          refine AW_iload_n dX5_leastOf_76 rfl ?_
          refine AW_iald dX5_leastOf_77 (hS.cel rfl) (by omega) (by omega) ?_
          refine AW_goto (tgt := 82) dX5_leastOf_78 (by decide) ?_
          refine AW_iret dX5_leastOf_82 rfl ?_
          exact ⟨by rw [hx _ (by omega)], hF⟩
    · skip
      obtain ⟨q1, rfl⟩ : ∃ q1, q = q1 + 1 := ⟨q - 1, by omega⟩
      refine AW_iconst dX5_leastOf_21 ?_
      refine AW_istore3 dX5_leastOf_22 ?_
      refine l_lo2 hd hS hL (fun j hj => (hF.iv 88 j).trans (h880 j hj)) hM hk (show r < n by omega) (fun τ2 g1 g2 => ih q1 (r + 1) _ τ2 (by omega) (by omega) (hF.tr g1) g2) (n + 1) n 0 τ (by omega) (by omega) Fr.rf hx
theorem k_least {G : Gt} {d : Nat} {σ : St} {n : Nat} {K : Nat → Int} {M : Nat → Nat} {k : Int} (hd : 4 ≤ d) (hS0 : Sta σ) (hL0 : LkC n K σ) (h880 : ∀ j, j < n → σ.2.1 88 j = ((mostL K n).getD j 0 : Int)) (hM : ∀ i, M i = (mostL K n).getD i 0) (hk : 0 ≤ k ∧ k < 7) : AM mX5_leastOf G d 0 0 [vR 91, vI k] σ (fun ro ρ => ro = some (vI (itP K n M n k.toNat)) ∧ Fr [93] σ ρ) := by
  refine AM.intro (by decide +kernel) (by simp [nLg]) (Nat.le_of_ble_eq_true rfl) (fun hO => ?_)
  show AW _ _ _ _ _ _ 0 [some (vR 91), some (vI k), none, none] [] σ
  refine AW_aload_n dX5_leastOf_0 rfl ?_
  refine AW_getR (a := 93) dX5_leastOf_1 gfX5_17 (hS0.cel rfl) (hS0.rf rfl) ?_
  refine AW_iconst dX5_leastOf_4 ?_
  refine AW_callS2 (d' := d - 1) dX5_leastOf_5 lkX5_24 mfJ7_fill_53178 (k_fill (r := 93) (N := 7) (hS0.cel rfl) (by decide) 0) (by omega) (Nat.le_of_ble_eq_true rfl) ?_
  rintro _ ρ1 ⟨rfl, hG1, hz⟩ -
  have hS1 := hG1.sta hS0
  refine AW_iconst dX5_leastOf_8 ?_
  refine AW_istore2 dX5_leastOf_9 ?_
  refine AW_mq (fun r τ q => ⟨q.1, hG1.tr q.2⟩) (l_lo1 hd hS1 (hL0.fr hG1) (fun j hj => (hG1.iv 88 j).trans (h880 j hj)) hM hk (n + 1) n 0 none ρ1 (by omega) (by omega) Fr.rf hz)
theorem Ff.u93 {σ τ ρ : St} (h : Ff σ τ) (hS : Sta σ) (hh : σ.2.2.1 85 4 ≠ 93) (hF : Fr [93] τ ρ) : σ.2.2.2 ≤ ρ.2.2.2 := by rw [hF.2.2.1]; exact h.1
theorem ChC.fr {hc N n : Nat} {K : Nat → Int} {σ τ : St} (h : ChC hc N n K σ) (hF : Fr [93] σ τ) : ChC hc N n K τ := by
  obtain ⟨⟨a1, a2, a3, a4⟩, b, c, d, e, f⟩ := h
  refine ⟨⟨a1.fr hF, (hF.iv 85 5).trans a2, a3, fun i l hi => ?_⟩, by rw [hF.iv 85 7]; exact b, by rw [hF.iv 85 8]; exact c, (hF.iv 85 9).trans d, (hF.iv 89 0).trans e, fun j hj => (hF.iv 88 j).trans (f j hj)⟩
  rw [hF.iv hc i (by rcases a1.2.2.1 with q | q <;> simp <;> omega)]
  exact a4 i l hi
theorem FeC.fr {hc N n : Nat} {K : Nat → Int} {σ τ : St} (h : FeC hc N n K σ) (hF : Fr [93] σ τ) : FeC hc N n K τ := ⟨h.1.fr hF, h.2.1.fr hF, ⟨by rw [hF.iv 85 7]; exact h.2.2.1.1, by rw [hF.iv 85 8]; exact h.2.2.1.2⟩, by rw [hF.iv 85 10]; exact h.2.2.2.imp id (fun q => ⟨q.1, q.2.fr hF⟩)⟩
theorem PrC.ff {Q : Nat → Int} {hc N : Nat} {σ τ : St} (h : PrC Q σ) (hS : Sta σ) (hh : HcC hc N σ) (hF : Ff σ τ) : PrC Q τ := by
  have h1 := hS.1
  refine ⟨fun j hj => (hF.2.2.2.2.1 92 j (by omega) (by decide) ?_).trans (h.1 j hj), h.2⟩
  rw [hh.1]
  rcases hh.2.2.1 with q | q <;> omega
theorem PrC.fr {Q : Nat → Int} {σ τ : St} (h : PrC Q σ) (hF : Fr [93] σ τ) : PrC Q τ := ⟨fun j hj => (hF.iv 92 j).trans (h.1 j hj), h.2⟩
theorem x_sums {G : Gt} {d : Nat} {σ : St} (hd : 15 ≤ d) {hc N n : Nat} {K : Nat → Int} (hS : Sta σ) (hE : FeC hc N n K σ) {Q : Nat → Int} (hP : PrC Q σ) (k what : Int)  : AM mX11_sums G d (rfC n N K (σ.2.1 85 10) (heldL K n).length) (rfS n N K (σ.2.1 85 10) (heldL K n).length) [vR 16, vI k, vI what] σ (fun ro ρ => ∃ z : Int, ro = some (vI z) ∧ suA K Q n k what z ∧ ((¬ ((0 ≤ what ∧ what ≤ 2) ∧ (what ≤ 0 ∨ 0 ≤ k ∧ k < n)) ∧ ρ = σ) ∨ (((0 ≤ what ∧ what ≤ 2) ∧ (what ≤ 0 ∨ 0 ≤ k ∧ k < n)) ∧ ∃ hc2 τ, FeC hc2 (rfN N (σ.2.1 85 10) (heldL K n).length) n K ρ ∧ Ff σ τ ∧ Fr [93] τ ρ))) := by
  refine AM.intro (by decide +kernel) (by simp [nLg]) (Nat.le_of_ble_eq_true rfl) (fun hO => ?_)
  have i_k : -2147483648 ≤ k ∧ k < 2147483648 := hO (vI k) (by simp)
  have i_what : -2147483648 ≤ what ∧ what < 2147483648 := hO (vI what) (by simp)
  show AW _ _ _ _ _ _ 0 [some (vR 16), some (vI k), some (vI what)] [] σ
  refine AW_iload_n dX11_sums_0 rfl ?_
  refine AW_if_lt (tgt := 24) dX11_sums_1 (by decide) (fun c_1 => ?_) (fun c_1 => ?_)
  · skip
    refine AW_iconst dX11_sums_24 ?_
    refine AW_iret dX11_sums_25 rfl ?_
    exact ⟨-1, rfl, Or.inl ⟨by omega, rfl⟩, Or.inl ⟨by omega, rfl⟩⟩
  · skip
    refine AW_iload_n dX11_sums_4 rfl ?_
    refine AW_iconst dX11_sums_5 ?_
    refine AW_icmp_gt (tgt := 24) dX11_sums_6 (by decide) (fun c_6 => ?_) (fun c_6 => ?_)
    · skip
      refine AW_iconst dX11_sums_24 ?_
      refine AW_iret dX11_sums_25 rfl ?_
      exact ⟨-1, rfl, Or.inl ⟨by omega, rfl⟩, Or.inl ⟨by omega, rfl⟩⟩
    · skip
      refine AW_iload_n dX11_sums_9 rfl ?_
      refine AW_if_le (tgt := 26) dX11_sums_10 (by decide) (fun c_10 => ?_) (fun c_10 => ?_)
      · skip
        have hgd : ((0 ≤ what ∧ what ≤ 2) ∧ (what ≤ 0 ∨ 0 ≤ k ∧ k < n)) := by omega
        refine AW_up (bc := 0 + rfC n N K (σ.2.1 85 10) (heldL K n).length) (bs := 0 + rfS n N K (σ.2.1 85 10) (heldL K n).length) (by omega) (by omega) ?_
        refine AW_aload_n dX11_sums_26 rfl ?_
        refine AW_getR (a := 85) dX11_sums_27 gfX11_60 (hS.cel rfl) (hS.rf rfl) ?_
        refine AW_callVb0 (d' := d - 1) dX11_sums_30 (Or.inl lkX11_198) mfX0_refresh (hS.cel rfl) ⟨_, rfl, rfl⟩ (k_fref (by omega) hS hE) (by omega) (Nat.le_of_ble_eq_true rfl) ?_
        rintro _ ρ1 ⟨rfl, hL1, h10, hg7, hF1, hc2, hC1⟩ -
        have hS1 := hF1.sta hS
        have hE1 : FeC hc2 (rfN N (σ.2.1 85 10) (heldL K n).length) n K ρ1 := ⟨hL1, hC1.1.1, hg7, Or.inr ⟨h10, hC1⟩⟩
        have h5 := hC1.1.2.1
        have hP1 := hP.ff hS hE.2.1 hF1
        have h71 := hL1.2.1
        refine AW_iload_n dX11_sums_33 rfl ?_
        refine AW_if_ne (tgt := 53) dX11_sums_34 (by decide) (fun c_34 => ?_) (fun c_34 => ?_)
        · skip
          refine AW_iload_n dX11_sums_53 rfl ?_
          refine AW_iconst dX11_sums_54 ?_
          refine AW_icmp_ne (tgt := 69) dX11_sums_55 (by decide) (fun c_55 => ?_) (fun c_55 => ?_)
          · skip
            refine AW_aload_n dX11_sums_69 rfl ?_
            refine AW_getR (a := 91) dX11_sums_70 gfX11_69 (hS1.cel rfl) (hS1.rf rfl) ?_
            refine AW_iload_n dX11_sums_73 rfl ?_
            refine AW_callV1 (d' := d - 1) dX11_sums_74 (Or.inl lkX11_227) mfX5_leastOf (hS1.cel rfl) ⟨_, rfl, rfl⟩ (k_least (M := (fun i => (mostL K n).getD i 0)) (by omega) hS1 hL1 hC1.2.2.2.2.2 (fun _ => rfl) (by omega)) (by omega) (Nat.le_of_ble_eq_true rfl) ?_
            rintro _ ρ2 ⟨rfl, hG2⟩ -
            refine AW_iret dX11_sums_77 rfl ?_
            first
            | (refine ⟨_, rfl, Or.inr ⟨hgd, Or.inr (Or.inl ⟨by omega, rfl⟩)⟩, Or.inr ⟨hgd, hc2, ρ1, hE1, hF1, Fr.rf⟩⟩; done)
            | (refine ⟨_, rfl, Or.inr ⟨hgd, Or.inr (Or.inr ⟨by omega, rfl⟩)⟩, Or.inr ⟨hgd, hc2, ρ1, hE1.fr hG2, hF1, hG2⟩⟩; done)
          · skip
            refine AW_aload_n dX11_sums_58 rfl ?_
            refine AW_getR (a := 91) dX11_sums_59 gfX11_69 (hS1.cel rfl) (hS1.rf rfl) ?_
            refine AW_iload_n dX11_sums_62 rfl ?_
            refine AW_callV1 (d' := d - 1) dX11_sums_63 (Or.inl lkX11_224) mfX5_wantedBy (hS1.cel rfl) ⟨_, rfl, rfl⟩ (k_want (by omega) hS1 hL1 hP1 _ k.toNat (by omega) (by omega)) (by omega) (Nat.le_of_ble_eq_true rfl) ?_
            rintro _ _ ⟨e_, rfl⟩ -
            rw [e_]
            clear e_
            refine AW_goto (tgt := 77) dX11_sums_66 (by decide) ?_
            refine AW_iret dX11_sums_77 rfl ?_
            first
            | (refine ⟨_, rfl, Or.inr ⟨hgd, Or.inr (Or.inl ⟨by omega, rfl⟩)⟩, Or.inr ⟨hgd, hc2, ρ1, hE1, hF1, Fr.rf⟩⟩; done)
            | (refine ⟨_, rfl, Or.inr ⟨hgd, Or.inr (Or.inr ⟨by omega, rfl⟩)⟩, Or.inr ⟨hgd, hc2, ρ1, hE1.fr hG2, hF1, hG2⟩⟩; done)
        · skip
          refine AW_aload_n dX11_sums_37 rfl ?_
          refine AW_getR (a := 91) dX11_sums_38 gfX11_69 (hS1.cel rfl) (hS1.rf rfl) ?_
          refine AW_callV0 (d' := d - 1) dX11_sums_41 (Or.inl lkX11_221) mfX5_priceFits (hS1.cel rfl) ⟨_, rfl, rfl⟩ (k_fits (by omega) hS1 hL1 hP1 hC1.2.2.2.2.2) (by omega) (Nat.le_of_ble_eq_true rfl) ?_
          rintro _ _ ⟨e_, z, rfl, hz⟩ -
          rw [e_]
          clear e_
          refine AW_if_eq (tgt := 51) dX11_sums_44 (by decide) (fun c_44 => ?_) (fun c_44 => ?_)
          · skip
            refine AW_iconst dX11_sums_51 ?_
            refine AW_iret dX11_sums_52 rfl ?_
            refine ⟨_, rfl, Or.inr ⟨hgd, Or.inl ⟨by omega, ?_⟩⟩, Or.inr ⟨hgd, hc2, ρ1, hE1, hF1, Fr.rf⟩⟩
            rcases hz with q | q
            · first | exact Or.inl ⟨q.2, rfl⟩ | (exfalso; omega)
            · first | exact Or.inr ⟨q.2, rfl⟩ | (exfalso; omega)
          · skip
            refine AW_iconst dX11_sums_47 ?_
            refine AW_goto (tgt := 52) dX11_sums_48 (by decide) ?_
            refine AW_iret dX11_sums_52 rfl ?_
            refine ⟨_, rfl, Or.inr ⟨hgd, Or.inl ⟨by omega, ?_⟩⟩, Or.inr ⟨hgd, hc2, ρ1, hE1, hF1, Fr.rf⟩⟩
            rcases hz with q | q
            · first | exact Or.inl ⟨q.2, rfl⟩ | (exfalso; omega)
            · first | exact Or.inr ⟨q.2, rfl⟩ | (exfalso; omega)
      · skip
        refine AW_aload_n dX11_sums_13 rfl ?_
        refine AW_getR (a := 85) dX11_sums_14 gfX11_60 (hS.cel rfl) (hS.rf rfl) ?_
        refine AW_iload_n dX11_sums_17 rfl ?_
        refine AW_callV1 (d' := d - 1) dX11_sums_18 (Or.inl lkX11_194) mfX0_isGuest (hS.cel rfl) ⟨_, rfl, rfl⟩ (k_isGuest hS hE.1 k) (by omega) (Nat.le_of_ble_eq_true rfl) ?_
        rintro _ _ ⟨e_, rfl⟩ -
        rw [e_]
        clear e_
        refine AW_if_ne (tgt := 26) dX11_sums_21 (by decide) (fun c_21 => ?_) (fun c_21 => ?_)
        · skip
          replace c_21 := bz1 c_21
          have hgd : ((0 ≤ what ∧ what ≤ 2) ∧ (what ≤ 0 ∨ 0 ≤ k ∧ k < n)) := by omega
          refine AW_up (bc := 0 + rfC n N K (σ.2.1 85 10) (heldL K n).length) (bs := 0 + rfS n N K (σ.2.1 85 10) (heldL K n).length) (by omega) (by omega) ?_
          refine AW_aload_n dX11_sums_26 rfl ?_
          refine AW_getR (a := 85) dX11_sums_27 gfX11_60 (hS.cel rfl) (hS.rf rfl) ?_
          refine AW_callVb0 (d' := d - 1) dX11_sums_30 (Or.inl lkX11_198) mfX0_refresh (hS.cel rfl) ⟨_, rfl, rfl⟩ (k_fref (by omega) hS hE) (by omega) (Nat.le_of_ble_eq_true rfl) ?_
          rintro _ ρ1 ⟨rfl, hL1, h10, hg7, hF1, hc2, hC1⟩ -
          have hS1 := hF1.sta hS
          have hE1 : FeC hc2 (rfN N (σ.2.1 85 10) (heldL K n).length) n K ρ1 := ⟨hL1, hC1.1.1, hg7, Or.inr ⟨h10, hC1⟩⟩
          have h5 := hC1.1.2.1
          have hP1 := hP.ff hS hE.2.1 hF1
          have h71 := hL1.2.1
          refine AW_iload_n dX11_sums_33 rfl ?_
          refine AW_if_ne (tgt := 53) dX11_sums_34 (by decide) (fun c_34 => ?_) (fun c_34 => ?_)
          · skip
            refine AW_iload_n dX11_sums_53 rfl ?_
            refine AW_iconst dX11_sums_54 ?_
            refine AW_icmp_ne (tgt := 69) dX11_sums_55 (by decide) (fun c_55 => ?_) (fun c_55 => ?_)
            · skip
              refine AW_aload_n dX11_sums_69 rfl ?_
              refine AW_getR (a := 91) dX11_sums_70 gfX11_69 (hS1.cel rfl) (hS1.rf rfl) ?_
              refine AW_iload_n dX11_sums_73 rfl ?_
              refine AW_callV1 (d' := d - 1) dX11_sums_74 (Or.inl lkX11_227) mfX5_leastOf (hS1.cel rfl) ⟨_, rfl, rfl⟩ (k_least (M := (fun i => (mostL K n).getD i 0)) (by omega) hS1 hL1 hC1.2.2.2.2.2 (fun _ => rfl) (by omega)) (by omega) (Nat.le_of_ble_eq_true rfl) ?_
              rintro _ ρ2 ⟨rfl, hG2⟩ -
              refine AW_iret dX11_sums_77 rfl ?_
              first
              | (refine ⟨_, rfl, Or.inr ⟨hgd, Or.inr (Or.inl ⟨by omega, rfl⟩)⟩, Or.inr ⟨hgd, hc2, ρ1, hE1, hF1, Fr.rf⟩⟩; done)
              | (refine ⟨_, rfl, Or.inr ⟨hgd, Or.inr (Or.inr ⟨by omega, rfl⟩)⟩, Or.inr ⟨hgd, hc2, ρ1, hE1.fr hG2, hF1, hG2⟩⟩; done)
            · skip
              refine AW_aload_n dX11_sums_58 rfl ?_
              refine AW_getR (a := 91) dX11_sums_59 gfX11_69 (hS1.cel rfl) (hS1.rf rfl) ?_
              refine AW_iload_n dX11_sums_62 rfl ?_
              refine AW_callV1 (d' := d - 1) dX11_sums_63 (Or.inl lkX11_224) mfX5_wantedBy (hS1.cel rfl) ⟨_, rfl, rfl⟩ (k_want (by omega) hS1 hL1 hP1 _ k.toNat (by omega) (by omega)) (by omega) (Nat.le_of_ble_eq_true rfl) ?_
              rintro _ _ ⟨e_, rfl⟩ -
              rw [e_]
              clear e_
              refine AW_goto (tgt := 77) dX11_sums_66 (by decide) ?_
              refine AW_iret dX11_sums_77 rfl ?_
              first
              | (refine ⟨_, rfl, Or.inr ⟨hgd, Or.inr (Or.inl ⟨by omega, rfl⟩)⟩, Or.inr ⟨hgd, hc2, ρ1, hE1, hF1, Fr.rf⟩⟩; done)
              | (refine ⟨_, rfl, Or.inr ⟨hgd, Or.inr (Or.inr ⟨by omega, rfl⟩)⟩, Or.inr ⟨hgd, hc2, ρ1, hE1.fr hG2, hF1, hG2⟩⟩; done)
          · skip
            refine AW_aload_n dX11_sums_37 rfl ?_
            refine AW_getR (a := 91) dX11_sums_38 gfX11_69 (hS1.cel rfl) (hS1.rf rfl) ?_
            refine AW_callV0 (d' := d - 1) dX11_sums_41 (Or.inl lkX11_221) mfX5_priceFits (hS1.cel rfl) ⟨_, rfl, rfl⟩ (k_fits (by omega) hS1 hL1 hP1 hC1.2.2.2.2.2) (by omega) (Nat.le_of_ble_eq_true rfl) ?_
            rintro _ _ ⟨e_, z, rfl, hz⟩ -
            rw [e_]
            clear e_
            refine AW_if_eq (tgt := 51) dX11_sums_44 (by decide) (fun c_44 => ?_) (fun c_44 => ?_)
            · skip
              refine AW_iconst dX11_sums_51 ?_
              refine AW_iret dX11_sums_52 rfl ?_
              refine ⟨_, rfl, Or.inr ⟨hgd, Or.inl ⟨by omega, ?_⟩⟩, Or.inr ⟨hgd, hc2, ρ1, hE1, hF1, Fr.rf⟩⟩
              rcases hz with q | q
              · first | exact Or.inl ⟨q.2, rfl⟩ | (exfalso; omega)
              · first | exact Or.inr ⟨q.2, rfl⟩ | (exfalso; omega)
            · skip
              refine AW_iconst dX11_sums_47 ?_
              refine AW_goto (tgt := 52) dX11_sums_48 (by decide) ?_
              refine AW_iret dX11_sums_52 rfl ?_
              refine ⟨_, rfl, Or.inr ⟨hgd, Or.inl ⟨by omega, ?_⟩⟩, Or.inr ⟨hgd, hc2, ρ1, hE1, hF1, Fr.rf⟩⟩
              rcases hz with q | q
              · first | exact Or.inl ⟨q.2, rfl⟩ | (exfalso; omega)
              · first | exact Or.inr ⟨q.2, rfl⟩ | (exfalso; omega)
        · skip
          replace c_21 := bz0 c_21
          refine AW_iconst dX11_sums_24 ?_
          refine AW_iret dX11_sums_25 rfl ?_
          exact ⟨-1, rfl, Or.inl ⟨by omega, rfl⟩, Or.inl ⟨by omega, rfl⟩⟩
