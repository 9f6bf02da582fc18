theorem mxR_one {f : List Nat → Int} {H : List (List Nat)} (hne : H ≠ []) (hp : ∀ l, l ∈ H → 0 ≤ f l) : mxR f H (-1) = mxR f H 0 := by
  cases H with
  | nil => exact absurd rfl hne
  | cons l t =>
    have h := hp l (by simp)
    rw [mxR_s, mxR_s, if_pos (by omega)]
    by_cases hc : 0 < f l
    · rw [if_pos hc]
    · rw [if_neg hc, show f l = 0 by omega]
theorem tk_all {K : Nat → Int} (hK : Lok K) (n : Nat) : tkF K (rowsN n) ([], (-1, []), -1) = (heldL K n, (mostV K n, mostL K n), mxR (sR K) (heldL K n) (-1)) := by
  rw [tkF_ok, most_fmx hK]
  rfl
theorem TkM.fm {n : Nat} {s : List (List Nat) × (Int × List Nat) × Int} {fs L : List Nat} {σ τ : St} (h : TkM n s σ) (hF : Fm fs L σ τ) (h1 : 67 ∉ fs := by decide) (h2 : 69 ∉ fs := by decide) (h3 : 70 ∉ fs := by decide) (h4 : 127 ∉ 94 :: L := by decide) (h5 : 128 ∉ 94 :: L := by decide) : TkM n s τ :=
  ⟨h.1.fm hF h1 h4, (hF.f 69 h2).trans h.2.1, h.2.2.1.imp id (fun w j hj => (hF.a 128 j h5).trans (w j hj)), (hF.f 70 h3).trans h.2.2.2⟩
theorem tkG_len (K : Nat → Int) (s : List (List Nat) × (Int × List Nat) × Int) (l : List Nat) : (tkG K s l).1.length ≤ s.1.length + 1 := by
  unfold tkG
  by_cases h : hdB K l = true
  · rw [if_pos h]; simp
  · rw [if_neg h]; simp
theorem ln_fp2 {G : Gt} {d : Nat} {σ : St} {n : Nat} {K : Nat → Int} (hd : 3 ≤ d) (hS : Sta σ) (hL : LkM n K σ) (hT : TkM n (heldL K n, (mostV K n, mostL K n), mxR (sR K) (heldL K n) (-1)) σ) (h65 : σ.2.1 94 65 = 1) : AW mX12_findsPairings G d 0 0 (mq G (fun ro ρ => ro = none ∧ ChM n K ρ ∧ ρ.2.1 94 65 = 1 ∧ Fm [] [131] σ ρ)) 53 [some (vR 94), some (vI 0)] [] σ := by
  have hb1 := bvM_ge K n n 0
  have e1 : mostV K n = bvM K n n 0 := rfl
  have hR0 : ∀ j, j < n → σ.2.1 128 j = ((mostL K n).getD j 0 : Int) := by
    rcases hT.2.2.1 with q | q
    · exact absurd (show mostV K n = -1 from q) (by omega)
    · exact q
  refine AW_iload_n dX12_findsPairings_53 rfl ?_
  refine AW_if_eq (tgt := 69) dX12_findsPairings_54 (by decide) (fun c_54 => ?_) (fun c_54 => ?_)
  · skip
    refine AW_aload_n dX12_findsPairings_69 rfl ?_
    refine AW_callV0 (d' := d - 1) dX12_findsPairings_70 (Or.inl lkX12_413) mfX12_findsPrices (hS.cel rfl) ⟨_, rfl, rfl⟩ (n_prices (by omega) hS hL hR0 (M := fun i => (mostL K n).getD i 0) (fun _ => rfl)) (by omega) (Nat.le_of_ble_eq_true rfl) ?_
    rintro _ ρ1 ⟨rfl, hG1, hp⟩ -
    refine AW_vret dX12_findsPairings_73 rfl ?_
    exact ⟨rfl, ⟨hT.1.fm hG1, (hG1.f 69).trans hT.2.1, fun j hj => (hG1.a 128 j).trans (hR0 j hj), (hG1.f 70).trans hT.2.2.2, hp⟩, (hG1.f 65).trans h65, hG1⟩
  · skip
    exact absurd rfl c_54
theorem ln_fp1 {G : Gt} {d : Nat} {σ : St} {n : Nat} {K : Nat → Int} (hd : 3 ≤ d) (hS0 : Sta σ) (hL0 : LkM n K σ) (h65 : σ.2.1 94 65 = 1) : ∀ (nn : Nat) (q i : Nat) (l : List Nat) (s : List (List Nat) × (Int × List Nat) × Int) (τ : St), q < nn → i + q = (rowsN n).length → (rowsN n)[i]? = some l → (∀ j, j < n → τ.2.1 129 j = (l.getD j 0 : Int)) → TkM n s τ → s.1.length ≤ i → tkF K ((rowsN n).drop i) s = (heldL K n, (mostV K n, mostL K n), mxR (sR K) (heldL K n) (-1)) → Fm [67, 69, 70] [127, 128, 129, 130] σ τ →  AW mX12_findsPairings G d 0 0 (mq G (fun ro ρ => ro = none ∧ ChM n K ρ ∧ ρ.2.1 94 65 = 1 ∧ Fm [67, 69, 70] [127, 128, 129, 130, 131] σ ρ)) 53 [some (vR 94), some (vI 1)] [] τ := by
  intro nn
  induction nn with
  | zero => intros; omega
  | succ nn ih =>
    intro q i l s τ hn hi hl hRo hT hsl hK hF
    have hS := hF.sta hS0
    have hL := hL0.fm hF
    have h7 := hL.2.1
    have hlt := (List.getElem?_eq_some_iff.mp hl).1
    have hle := rows_len h7.1 h7.2
    have hnx := rows_next h7.1 h7.2 hl
    have hr : l ∈ rowsN n := List.mem_of_getElem? hl
    rw [drop_get hl, tkF_s] at hK
    have hgl := tkG_len K s l
    obtain ⟨q1, rfl⟩ : ∃ q1, q = q1 + 1 := ⟨q - 1, by omega⟩
    refine AW_iload_n dX12_findsPairings_53 rfl ?_
    refine AW_if_eq (tgt := 69) dX12_findsPairings_54 (by decide) (fun c_54 => ?_) (fun c_54 => ?_)
    · skip
      exact absurd c_54 (by decide)
    · skip
      refine AW_aload_n dX12_findsPairings_57 rfl ?_
      refine AW_callV0 (d' := d - 1) dX12_findsPairings_58 (Or.inl lkX12_407) mfX12_takesRow (hS.cel rfl) ⟨_, rfl, rfl⟩ (n_tkRow (by omega) hS hL hr hRo hT (by omega)) (by omega) (Nat.le_of_ble_eq_true rfl) ?_
      rintro _ ρ1 ⟨rfl, hT1, hG1⟩ -
      have hS1 := hG1.sta hS
      have hL1 := hL.fm hG1
      have hRo1 : ∀ j, j < n → ρ1.2.1 129 j = (l.getD j 0 : Int) := fun j hj => (hG1.a 129 j).trans (hRo j hj)
      have hF1 := hF.tr (hG1.mo (fs' := [67, 69, 70]) (L' := [127, 128, 129, 130]) (by decide) (by decide))
      refine AW_aload_n dX12_findsPairings_61 rfl ?_
      refine AW_callV0 (d' := d - 1) dX12_findsPairings_62 (Or.inl lkX12_410) mfX12_nextRow (hS1.cel rfl) ⟨_, rfl, rfl⟩ (n_next hS1 hL1 hRo1) (by omega) (Nat.le_of_ble_eq_true rfl) ?_
      rintro ro2 ρ2 hq -
      obtain ⟨b, rfl, hqq⟩ : ∃ b : Int, ro2 = some (vI b) ∧ ((b = 0 ∧ nxL n l = none ∧ ρ2 = ρ1) ∨ (b = 1 ∧ ∃ l2, nxL n l = some l2 ∧ (∀ i, i < n → ρ2.2.1 129 i = (l2.getD i 0 : Int)) ∧ Fm [] [129] ρ1 ρ2)) := by
        rcases hq with q | ⟨l2, q1, q2, q3⟩
        · exact ⟨0, q.2.1, Or.inl ⟨rfl, q.1, q.2.2⟩⟩
        · exact ⟨1, q2, Or.inr ⟨rfl, l2, q1, q3⟩⟩
      refine AW_istore1 dX12_findsPairings_65 ?_
      refine AW_goto (tgt := 53) dX12_findsPairings_66 (by decide) ?_
      rcases hqq with ⟨rfl, g1, rfl⟩ | ⟨rfl, l2, g1, g2, hG2⟩
      · have hdr : (rowsN n).drop (i + 1) = [] := by
          rw [g1] at hnx
          exact List.drop_eq_nil_iff.mpr (List.getElem?_eq_none_iff.mp hnx.symm)
        rw [hdr] at hK
        have hK2 : tkG K s l = (heldL K n, (mostV K n, mostL K n), mxR (sR K) (heldL K n) (-1)) := hK
        rw [hK2] at hT1
        refine AW_mq (fun r ρ q => ⟨q.1, q.2.1, q.2.2.1, (hF1.mo (by decide) (by decide)).tr (q.2.2.2.mo (by decide) (by decide))⟩) (ln_fp2 hd hS1 hL1 hT1 ((hF1.f 65).trans h65))
      · exact ih q1 (i + 1) l2 _ ρ2 (by omega) (by omega) (by rw [← hnx]; exact g1) g2 (hT1.fm hG2) (by omega) hK (hF1.tr (hG2.mo (by decide) (by decide)))
theorem ln_fp0 {G : Gt} {d : Nat} {σ : St} {n : Nat} {K : Nat → Int} (hd : 3 ≤ d) (hS0 : Sta σ) (hL0 : LkM n K σ) (h65 : σ.2.1 94 65 = 1) (h67 : σ.2.1 94 67 = 0) (h69 : σ.2.1 94 69 = -1) (h70 : σ.2.1 94 70 = -1) : ∀ (nn : Nat) (m i : Nat) (τ : St), m < nn → i + m = n → Fm [] [129] σ τ → (∀ x, x < i → τ.2.1 129 x = (x : Int)) →  AW mX12_findsPairings G d 0 0 (mq G (fun ro ρ => ro = none ∧ ChM n K ρ ∧ ρ.2.1 94 65 = 1 ∧ Fm [67, 69, 70] [127, 128, 129, 130, 131] σ ρ)) 30 [some (vR 94), some (vI (i : Int))] [] τ := by
  intro nn
  induction nn with
  | zero => intros; omega
  | succ nn ih =>
    intro m i τ hn hi hF hx
    have hS := hF.sta hS0
    have hL := hL0.fm hF
    have h7 := hL.2.1
    have h62 := hL.1
    refine AW_iload_n dX12_findsPairings_30 rfl ?_
    refine AW_aload_n dX12_findsPairings_31 rfl ?_
    refine AW_getI dX12_findsPairings_32 gfX12_117 (hS.cel rfl) ?_
    refine AW_icmp_ge (tgt := 51) dX12_findsPairings_35 (by decide) (fun c_35 => ?_) (fun c_35 => ?_)
    · skip
      have hm : i = n := by omega
      subst hm
      refine AW_iconst dX12_findsPairings_51 ?_
      refine AW_istore1 dX12_findsPairings_52 ?_
      have hid := rows_id i (by omega) h7.1
      have hlt := (List.getElem?_eq_some_iff.mp hid).1
      refine AW_mq (fun r ρ q => ⟨q.1, q.2.1, q.2.2.1, (hF.mo (by decide) (by decide)).tr q.2.2.2⟩) (ln_fp1 hd hS hL ((hF.f 65).trans h65) ((rowsN i).length + 1) (rowsN i).length 0 (List.range i) ([], (-1, []), -1) τ (by omega) (by omega) hid (fun j hj => ?_) ⟨⟨(hF.f 67).trans h67, fun a l ha => absurd ha (by simp)⟩, (hF.f 69).trans h69, Or.inl rfl, (hF.f 70).trans h70⟩ (Nat.zero_le _) (by rw [List.drop_zero]; exact tk_all hL.2.2.2 i) Fm.rf)
      rw [hx j hj]
      simp [List.getD, hj]
    · skip
      obtain ⟨m1, rfl⟩ : ∃ m1, m = m1 + 1 := ⟨m - 1, by omega⟩
      refine AW_aload_n dX12_findsPairings_38 rfl ?_
      refine AW_getR (a := 129) dX12_findsPairings_39 gfX12_133 (hS.cel rfl) (hS.rf rfl) ?_
      refine AW_iload_n dX12_findsPairings_42 rfl ?_
      refine AW_iload_n dX12_findsPairings_43 rfl ?_
      refine AW_iast dX12_findsPairings_44 (hS.cel rfl) (by omega) (by omega) ?_
      refine AW_iincE1 dX12_findsPairings_45 (by omega) (by omega) ?_
      refine AW_goto (tgt := 30) dX12_findsPairings_48 (by decide) ?_
      rw [show (i : Int) + 1 = ((i + 1 : Nat) : Int) by omega, Int.toNat_natCast]
      refine ih m1 (i + 1) _ (by omega) (by omega) (hF.ua (by decide) (by decide) _ _) (fun x h => ?_)
      rw [up_if]
      by_cases hc : x = i
      · rw [if_pos ⟨rfl, hc⟩, hc]
      · rw [if_neg (fun q => hc q.2), hx x (by omega)]
theorem n_find {G : Gt} {d : Nat} {σ : St} (hd : 3 ≤ d) {n : Nat} {K : Nat → Int} (hS : Sta σ) (hE : FeM n K σ)  : AM mX12_findsPairings G d 0 0 [vR 94] σ (fun ro ρ => ro = none ∧ ChM n K ρ ∧ ρ.2.1 94 65 = 1 ∧ Fm [65, 67, 69, 70] [127, 128, 129, 130, 131] σ ρ) := by
  refine AM.intro (by decide +kernel) (by simp [nLg]) (Nat.le_of_ble_eq_true rfl) (fun hO => ?_)
  show AW _ _ _ _ _ _ 0 [some (vR 94), none] [] σ
  refine AW_aload_n dX12_findsPairings_0 rfl ?_
  refine AW_getI dX12_findsPairings_1 gfX12_380 (hS.cel rfl) ?_
  refine AW_if_eq (tgt := 8) dX12_findsPairings_4 (by decide) (fun c_4 => ?_) (fun c_4 => ?_)
  · skip
    refine AW_aload_n dX12_findsPairings_8 rfl ?_
    refine AW_iconst dX12_findsPairings_9 ?_
    refine AW_putZ dX12_findsPairings_10 (Or.inl pfX12_380) (hS.cel rfl) (by decide) ?_
    have hF1 : Fm [65, 67, 69, 70] [127, 128, 129, 130, 131] σ (upI (upI (upI (upI σ 94 65 1) 94 67 0) 94 69 (-1)) 94 70 (-1)) := (((Fm.rf.uf (by decide) _).uf (by decide) _).uf (by decide) _).uf (by decide) _
    refine AW_aload_n dX12_findsPairings_13 rfl ?_
    refine AW_iconst dX12_findsPairings_14 ?_
    refine AW_putI dX12_findsPairings_15 (Or.inl pfX12_401) (hS.cel rfl) ?_
    refine AW_aload_n dX12_findsPairings_18 rfl ?_
    refine AW_iconst dX12_findsPairings_19 ?_
    refine AW_putI dX12_findsPairings_20 (Or.inl pfX12_395) (hS.cel rfl) ?_
    refine AW_aload_n dX12_findsPairings_23 rfl ?_
    refine AW_iconst dX12_findsPairings_24 ?_
    refine AW_putI dX12_findsPairings_25 (Or.inl pfX12_404) (hS.cel rfl) ?_
    refine AW_iconst dX12_findsPairings_28 ?_
    refine AW_istore1 dX12_findsPairings_29 ?_
    refine AW_mq (fun r ρ q => ⟨q.1, q.2.1, q.2.2.1, hF1.tr (q.2.2.2.mo (by decide) (by decide))⟩) (ln_fp0 hd (hF1.sta hS) (hE.1.fm hF1) ?_ ?_ ?_ (up_at _ _ _ _) (n + 1) n 0 _ (by omega) (by omega) Fm.rf (fun x hx => absurd hx (Nat.not_lt_zero x)))
    · rw [up_j _ _ _ (by decide), up_j _ _ _ (by decide), up_j _ _ _ (by decide), up_at]
    · rw [up_j _ _ _ (by decide), up_j _ _ _ (by decide), up_at]
    · rw [up_j _ _ _ (by decide), up_at]
  · skip
    refine AW_vret dX12_findsPairings_7 rfl ?_
    rcases hE.2 with q | q
    · exact absurd q c_4
    · exact ⟨rfl, q.2, q.1, Fm.rf⟩
theorem m_holds {G : Gt} {d : Nat} {σ : St} (hd : 4 ≤ d) {n : Nat} {K : Nat → Int} (hS : Sta σ) (hE : FeM n K σ)  : AM mX12_holds G d 0 0 [vR 94] σ (fun ro ρ => ro = some (vI ((heldL K n).length : Int)) ∧ FeM n K ρ ∧ Fm [0, 65, 67, 69, 70] [127, 128, 129, 130, 131] σ ρ) := by
  refine AM.intro (by decide +kernel) (by simp [nLg]) (Nat.le_of_ble_eq_true rfl) (fun hO => ?_)
  show AW _ _ _ _ _ _ 0 [some (vR 94)] [] σ
  refine AW_aload_n dX12_holds_0 rfl ?_
  refine AW_iconst dX12_holds_1 ?_
  refine AW_putI dX12_holds_2 (Or.inl pfX12_142) (hS.cel rfl) ?_
  have hF1 : Fm [0] [] σ (upI σ 94 0 0) := Fm.rf.uf (by decide) _
  have hS1 : Sta (upI σ 94 0 0) := hS
  have hE1 := hE.fm hF1
  generalize upI σ 94 0 0 = σ1 at hF1 hS1 hE1 ⊢
  refine AW_aload_n dX12_holds_5 rfl ?_
  refine AW_callV0 (d' := d - 1) dX12_holds_6 (Or.inl lkX12_416) mfX12_findsPairings (hS1.cel rfl) ⟨_, rfl, rfl⟩ (n_find (by omega) hS1 hE1) (by omega) (Nat.le_of_ble_eq_true rfl) ?_
  rintro _ ρ2 ⟨rfl, hC2, h652, hG2⟩ -
  have hS2 := hG2.sta hS1
  have hL2 := hE1.1.fm hG2
  have hE2 : FeM n K ρ2 := ⟨hL2, Or.inr ⟨h652, hC2⟩⟩
  have hF2 : Fm [0, 65, 67, 69, 70] [127, 128, 129, 130, 131] σ ρ2 := (hF1.mo (by decide) (by decide)).tr (hG2.mo (by decide) (by decide))
  have h72 := hL2.2.1
  refine AW_aload_n dX12_holds_9 rfl ?_
  refine AW_getI dX12_holds_10 gfX12_401 (hS2.cel rfl) ?_
  refine AW_iret dX12_holds_13 rfl ?_
  exact ⟨by rw [hC2.1.1], hE2, hF2⟩
theorem m_mended {G : Gt} {d : Nat} {σ : St} (hd : 4 ≤ d) {n : Nat} {K : Nat → Int} (hS : Sta σ) (hE : FeM n K σ)  : AM mX12_mended G d 0 0 [vR 94] σ (fun ro ρ => ro = some (vI (mostV K n - mxR (sR K) (heldL K n) 0)) ∧ FeM n K ρ ∧ Fm [0, 65, 67, 69, 70] [127, 128, 129, 130, 131] σ ρ) := by
  refine AM.intro (by decide +kernel) (by simp [nLg]) (Nat.le_of_ble_eq_true rfl) (fun hO => ?_)
  show AW _ _ _ _ _ _ 0 [some (vR 94)] [] σ
  refine AW_aload_n dX12_mended_0 rfl ?_
  refine AW_iconst dX12_mended_1 ?_
  refine AW_putI dX12_mended_2 (Or.inl pfX12_142) (hS.cel rfl) ?_
  have hF1 : Fm [0] [] σ (upI σ 94 0 0) := Fm.rf.uf (by decide) _
  have hS1 : Sta (upI σ 94 0 0) := hS
  have hE1 := hE.fm hF1
  generalize upI σ 94 0 0 = σ1 at hF1 hS1 hE1 ⊢
  refine AW_aload_n dX12_mended_5 rfl ?_
  refine AW_callV0 (d' := d - 1) dX12_mended_6 (Or.inl lkX12_416) mfX12_findsPairings (hS1.cel rfl) ⟨_, rfl, rfl⟩ (n_find (by omega) hS1 hE1) (by omega) (Nat.le_of_ble_eq_true rfl) ?_
  rintro _ ρ2 ⟨rfl, hC2, h652, hG2⟩ -
  have hS2 := hG2.sta hS1
  have hL2 := hE1.1.fm hG2
  have hE2 : FeM n K ρ2 := ⟨hL2, Or.inr ⟨h652, hC2⟩⟩
  have hF2 : Fm [0, 65, 67, 69, 70] [127, 128, 129, 130, 131] σ ρ2 := (hF1.mo (by decide) (by decide)).tr (hG2.mo (by decide) (by decide))
  have h72 := hL2.2.1
  refine AW_aload_n dX12_mended_9 rfl ?_
  refine AW_getI dX12_mended_10 gfX12_395 (hS2.cel rfl) ?_
  refine AW_aload_n dX12_mended_13 rfl ?_
  refine AW_getI dX12_mended_14 gfX12_404 (hS2.cel rfl) ?_
  have hb1 := bvM_ge K n n 0
  have hb2 := bvM_le hL2.2.2.2 n n 0
  have hb3 : 0 ≤ mxR (sR K) (heldL K n) 0 ∧ mxR (sR K) (heldL K n) 0 ≤ 100000 := mxR_bd (fun l hl => by
    have h1 := sR_in hL2.2.2.2 l
    have h2 := held_len hl
    omega) 0 (by omega)
  have e1 : mostV K n = bvM K n n 0 := rfl
  rw [hC2.2.1, hC2.2.2.2.1, mxR_one (held_ne K n) (fun l _ => (sR_in hL2.2.2.2 l).1)]
  refine AW_isubE dX12_mended_17 (by omega) (by omega) ?_
  refine AW_iret dX12_mended_18 rfl ?_
  exact ⟨rfl, hE2, hF2⟩
