/-- what is found of the rows: the rows that hold, the most, the most of those that hold -/
def TkM (n : Nat) (s : List (List Nat) × (Int × List Nat) × Int) (σ : St) : Prop := HeM s.1 n σ ∧ σ.2.1 94 69 = s.2.1.1 ∧ (s.2.1.1 = -1 ∨ ∀ j, j < n → σ.2.1 128 j = (s.2.1.2.getD j 0 : Int)) ∧ σ.2.1 94 70 = s.2.2
noncomputable def tkG (K : Nat → Int) (s : List (List Nat) × (Int × List Nat) × Int) (l : List Nat) : List (List Nat) × (Int × List Nat) × Int := (if hdB K l = true then s.1 ++ [l] else s.1, if s.2.1.1 < sR K l then (sR K l, l) else s.2.1, if hdB K l = true ∧ s.2.2 < sR K l then sR K l else s.2.2)
noncomputable def tkF (K : Nat → Int) : List (List Nat) → List (List Nat) × (Int × List Nat) × Int → List (List Nat) × (Int × List Nat) × Int
  | [], s => s
  | l :: t, s => tkF K t (tkG K s l)
theorem tkF_s (K : Nat → Int) (l : List Nat) (t : List (List Nat)) (s : List (List Nat) × (Int × List Nat) × Int) : tkF K (l :: t) s = tkF K t (tkG K s l) := rfl
theorem tkF_ok (K : Nat → Int) : ∀ (L : List (List Nat)) (s : List (List Nat) × (Int × List Nat) × Int), tkF K L s = (s.1 ++ L.filter (hdB K), fmx (sR K) L s.2.1, mxR (sR K) (L.filter (hdB K)) s.2.2) := by
  intro L
  induction L with
  | nil => intro s; simp [tkF, fmx, mxR]
  | cons l t ih =>
    intro s
    rw [tkF_s, ih, fmx_s]
    unfold tkG
    by_cases h : hdB K l = true
    · rw [List.filter_cons_of_pos h, mxR_s, if_pos h]
      simp [h]
    · rw [List.filter_cons_of_neg h, if_neg h]
      simp [h]
theorem filt_le (K : Nat → Int) (L : List (List Nat)) : (L.filter (hdB K)).length ≤ L.length := List.length_filter_le _ _
theorem HeM.snoc {n : Nat} {l : List Nat} {H : List (List Nat)} {σ τ : St} (h : HeM H n σ) (h1 : τ.2.1 94 67 = (H.length : Int) + 1) (h2 : ∀ q, q < 7 * H.length → τ.2.1 127 q = σ.2.1 127 q) (h3 : ∀ m, m < n → τ.2.1 127 (7 * H.length + m) = (l.getD m 0 : Int)) (h7 : n ≤ 7) : HeM (H ++ [l]) n τ := by
  refine ⟨by rw [h1, List.length_append]; rfl, fun i l2 hi m hm => ?_⟩
  by_cases hc : i < H.length
  · rw [List.getElem?_append_left hc] at hi
    rw [h2 _ (by omega)]
    exact h.2 i l2 hi m hm
  · rw [List.getElem?_append_right (by omega)] at hi
    have hi0 : i - H.length = 0 := by
      by_cases h0 : i - H.length = 0
      · exact h0
      · rw [List.getElem?_eq_none (by simp; omega)] at hi
        cases hi
    rw [hi0] at hi
    simp at hi
    rw [show i = H.length by omega, ← hi]
    exact h3 m hm
theorem ln_tk2 {G : Gt} {d : Nat} {σ : St} {n : Nat} {K : Nat → Int} {l : List Nat} {H : List (List Nat)} {mh S : Int} (hS0 : Sta σ) (hL0 : LkM n K σ) (hr : l ∈ rowsN n) (hRo : ∀ i, i < n → σ.2.1 129 i = (l.getD i 0 : Int)) (hH : HeM H n σ) (hN : H.length < 5040) (h70 : σ.2.1 94 70 = mh) : ∀ (nn : Nat) (m i : Nat) (τ : St), m < nn → i + m = n → Fm [] [127] σ τ → (∀ q, q < 7 * H.length → τ.2.1 127 q = σ.2.1 127 q) → (∀ x, x < i → τ.2.1 127 (7 * H.length + x) = (l.getD x 0 : Int)) →  AW mX12_takesRow G d 0 0 (mq G (fun ro ρ => ro = none ∧ Fm [67, 70] [127] σ ρ ∧ HeM (H ++ [l]) n ρ ∧ ρ.2.1 94 70 = (if mh < S then S else mh))) 56 [some (vR 94), some (vI S), some (vI (i : Int))] [] τ := by
  intro nn
  induction nn with
  | zero => intros; omega
  | succ nn ih =>
    intro m i τ hn hi hF hq hx
    have hS := hF.sta hS0
    have hL := hL0.fm hF
    have h7 := hL.2.1
    have h62 := hL.1
    have h67 : τ.2.1 94 67 = (H.length : Int) := (hF.f 67).trans hH.1
    have h701 : τ.2.1 94 70 = mh := (hF.f 70).trans h70
    have hlt : i < n → τ.2.1 129 i = (l.getD i 0 : Int) := fun h => (hF.a 129 i).trans (hRo i h)
    refine AW_iload_n dX12_takesRow_56 rfl ?_
    refine AW_aload_n dX12_takesRow_57 rfl ?_
    refine AW_getI dX12_takesRow_58 gfX12_117 (hS.cel rfl) ?_
    refine AW_icmp_ge (tgt := 90) dX12_takesRow_61 (by decide) (fun c_61 => ?_) (fun c_61 => ?_)
    · skip
      have hm : i = n := by omega
      subst hm
      refine AW_aload_n dX12_takesRow_90 rfl ?_
      refine AW_aload_n dX12_takesRow_91 rfl ?_
      refine AW_getI dX12_takesRow_92 gfX12_401 (hS.cel rfl) ?_
      rw [h67]
      refine AW_iconst dX12_takesRow_95 ?_
      refine AW_iaddE dX12_takesRow_96 (by omega) (by omega) ?_
      refine AW_putI dX12_takesRow_97 (Or.inl pfX12_401) (hS.cel rfl) ?_
      refine AW_iload_n dX12_takesRow_100 rfl ?_
      refine AW_aload_n dX12_takesRow_101 rfl ?_
      refine AW_getI dX12_takesRow_102 gfX12_404 (hS.cel rfl) ?_
      refine AW_icmp_le (tgt := 113) dX12_takesRow_105 (by decide) (fun c_105 => ?_) (fun c_105 => ?_)
      · skip
        rw [up_j _ _ _ (by decide), h701] at c_105
        refine AW_vret dX12_takesRow_113 rfl ?_
        have hF2 : Fm [67, 70] [127] σ τ := hF.mo (by decide) (by decide)
        first
        | (refine ⟨rfl, (hF2.uf (by decide) _).uf (by decide) _, hH.snoc (by rw [up_j _ _ _ (by decide), up_at]) (fun q h => by rw [up_r _ _ _ _ (by decide), up_r _ _ _ _ (by decide)]; exact hq q h) (fun m h => by rw [up_r _ _ _ _ (by decide), up_r _ _ _ _ (by decide)]; exact hx m h) h7.2, by rw [up_at, if_pos (by omega)]⟩; done)
        | (refine ⟨rfl, hF2.uf (by decide) _, hH.snoc (by rw [up_at]) (fun q h => by rw [up_r _ _ _ _ (by decide)]; exact hq q h) (fun m h => by rw [up_r _ _ _ _ (by decide)]; exact hx m h) h7.2, by rw [up_j _ _ _ (by decide), h701, if_neg (by omega)]⟩; done)
      · skip
        rw [up_j _ _ _ (by decide), h701] at c_105
        refine AW_aload_n dX12_takesRow_108 rfl ?_
        refine AW_iload_n dX12_takesRow_109 rfl ?_
        refine AW_putI dX12_takesRow_110 (Or.inl pfX12_404) (hS.cel rfl) ?_
        refine AW_vret dX12_takesRow_113 rfl ?_
        have hF2 : Fm [67, 70] [127] σ τ := hF.mo (by decide) (by decide)
        first
        | (refine ⟨rfl, (hF2.uf (by decide) _).uf (by decide) _, hH.snoc (by rw [up_j _ _ _ (by decide), up_at]) (fun q h => by rw [up_r _ _ _ _ (by decide), up_r _ _ _ _ (by decide)]; exact hq q h) (fun m h => by rw [up_r _ _ _ _ (by decide), up_r _ _ _ _ (by decide)]; exact hx m h) h7.2, by rw [up_at, if_pos (by omega)]⟩; done)
        | (refine ⟨rfl, hF2.uf (by decide) _, hH.snoc (by rw [up_at]) (fun q h => by rw [up_r _ _ _ _ (by decide)]; exact hq q h) (fun m h => by rw [up_r _ _ _ _ (by decide)]; exact hx m h) h7.2, by rw [up_j _ _ _ (by decide), h701, if_neg (by omega)]⟩; done)
    · skip
      obtain ⟨m1, rfl⟩ : ∃ m1, m = m1 + 1 := ⟨m - 1, by omega⟩
      refine AW_aload_n dX12_takesRow_64 rfl ?_
      refine AW_getR (a := 127) dX12_takesRow_65 gfX12_127 (hS.cel rfl) (hS.rf rfl) ?_
      refine AW_bipush dX12_takesRow_68 ?_
      refine AW_aload_n dX12_takesRow_70 rfl ?_
      refine AW_getI dX12_takesRow_71 gfX12_401 (hS.cel rfl) ?_
      rw [h67]
      refine AW_imulE dX12_takesRow_74 (by omega) (by omega) ?_
      refine AW_iload_n dX12_takesRow_75 rfl ?_
      refine AW_iaddE dX12_takesRow_76 (by omega) (by omega) ?_
      refine AW_aload_n dX12_takesRow_77 rfl ?_
      refine AW_getR (a := 129) dX12_takesRow_78 gfX12_133 (hS.cel rfl) (hS.rf rfl) ?_
      refine AW_iload_n dX12_takesRow_81 rfl ?_
      refine AW_iald dX12_takesRow_82 (hS.cel rfl) (by omega) (by omega) ?_
      rw [Int.toNat_natCast, hlt (by omega)]
      refine AW_iast dX12_takesRow_83 (hS.cel rfl) (by omega) (by omega) ?_
      refine AW_iincE2 dX12_takesRow_84 (by omega) (by omega) ?_
      refine AW_goto (tgt := 56) dX12_takesRow_87 (by decide) ?_
      rw [show (i : Int) + 1 = ((i + 1 : Nat) : Int) by omega, show (7 * (H.length : Int) + (i : Int)).toNat = 7 * H.length + i by omega]
      refine ih m1 (i + 1) _ (by omega) (by omega) (hF.ua (by decide) (by decide) _ _) (fun q h => ?_) (fun x h => ?_)
      · rw [up_j _ _ _ (by omega)]; exact hq q h
      · rw [up_if]
        by_cases hc : x = i
        · rw [if_pos ⟨rfl, by omega⟩, hc]
        · rw [if_neg (by omega), hx x (by omega)]
theorem ln_tk1 {G : Gt} {d : Nat} {σ : St} {x2 : Option AV} (hd : 2 ≤ d) {n : Nat} {K : Nat → Int} {l : List Nat} {H : List (List Nat)} {mh S : Int} (hS : Sta σ) (hL : LkM n K σ) (hr : l ∈ rowsN n) (hRo : ∀ i, i < n → σ.2.1 129 i = (l.getD i 0 : Int)) (hH : HeM H n σ) (hN : H.length < 5040) (h70 : σ.2.1 94 70 = mh) : AW mX12_takesRow G d 0 0 (mq G (fun ro ρ => ro = none ∧ Fm [67, 70] [127, 130] σ ρ ∧ HeM (if hdB K l = true then H ++ [l] else H) n ρ ∧ ρ.2.1 94 70 = (if hdB K l = true ∧ mh < S then S else mh))) 46 [some (vR 94), some (vI S), x2] [] σ := by
  refine AW_aload_n dX12_takesRow_46 rfl ?_
  refine AW_callV0 (d' := d - 1) dX12_takesRow_47 (Or.inl lkX12_398) mfX12_isHeld (hS.cel rfl) ⟨_, rfl, rfl⟩ (n_isHeld (by omega) hS hL hr hRo) (by omega) (Nat.le_of_ble_eq_true rfl) ?_
  rintro _ ρ1 ⟨hG1, z, rfl, hz⟩ -
  have hS1 := hG1.sta hS
  have hL1 := hL.fm hG1
  refine AW_if_ne (tgt := 54) dX12_takesRow_50 (by decide) (fun c_50 => ?_) (fun c_50 => ?_)
  · skip
    refine AW_iconst dX12_takesRow_54 ?_
    refine AW_istore2 dX12_takesRow_55 ?_
    have hh : hdB K l = true := by
      rcases hz with q | q
      · exact hdB_t.mpr q.2
      · exact absurd q.1 c_50
    refine AW_mq (fun r ρ q => ?_) (ln_tk2 (S := S) (mh := mh) hS1 hL1 hr (fun i hi => (hG1.a 129 i).trans (hRo i hi)) (hH.fm hG1) hN ((hG1.f 70).trans h70) (n + 1) n 0 ρ1 (by omega) (by omega) Fm.rf (fun q _ => rfl) (fun x hx => absurd hx (Nat.not_lt_zero x)))
    obtain ⟨q1, q2, q3, q4⟩ := q
    refine ⟨q1, (hG1.mo (by decide) (by decide)).tr (q2.mo (by decide) (by decide)), by rw [if_pos hh]; exact q3, ?_⟩
    rw [q4]
    by_cases hc : mh < S
    · rw [if_pos hc, if_pos ⟨hh, hc⟩]
    · rw [if_neg hc, if_neg (fun q => hc q.2)]
  · skip
    refine AW_vret dX12_takesRow_53 rfl ?_
    have hh : ¬ hdB K l = true := by
      rcases hz with q | q
      · rw [q.1] at c_50; exact absurd c_50 (by decide)
      · exact fun w => q.2 (hdB_t.mp w)
    exact ⟨rfl, hG1.mo (by decide) (by decide), by rw [if_neg hh]; exact hH.fm hG1, by rw [if_neg (fun q => hh q.1)]; exact (hG1.f 70).trans h70⟩
theorem ln_tk0 {G : Gt} {d : Nat} {σ : St} {n : Nat} {K : Nat → Int} (hd : 2 ≤ d) (hS0 : Sta σ) (hL0 : LkM n K σ) {l : List Nat} (hr : l ∈ rowsN n) (hRo : ∀ i, i < n → σ.2.1 129 i = (l.getD i 0 : Int)) {s : List (List Nat) × (Int × List Nat) × Int} (hT : TkM n s σ) (hN : s.1.length < 5040) (hgt : s.2.1.1 < sR K l) : ∀ (nn : Nat) (m i : Nat) (τ : St), m < nn → i + m = n → Fm [69] [128] σ τ → τ.2.1 94 69 = sR K l → (∀ x, x < i → τ.2.1 128 x = (l.getD x 0 : Int)) →  AW mX12_takesRow G d 0 0 (mq G (fun ro ρ => ro = none ∧ TkM n (tkG K s l) ρ ∧ Fm [67, 69, 70] [127, 128, 130] σ ρ)) 20 [some (vR 94), some (vI (sR K l)), some (vI (i : Int))] [] τ := by
  intro nn
  induction nn with
  | zero => intros; omega
  | succ nn ih =>
    intro m i τ hn hi hF h69 hx
    have hS := hF.sta hS0
    have hL := hL0.fm hF
    have h7 := hL.2.1
    have h62 := hL.1
    have hlt : ∀ i, i < n → τ.2.1 129 i = (l.getD i 0 : Int) := fun i h => (hF.a 129 i).trans (hRo i h)
    refine AW_iload_n dX12_takesRow_20 rfl ?_
    refine AW_aload_n dX12_takesRow_21 rfl ?_
    refine AW_getI dX12_takesRow_22 gfX12_117 (hS.cel rfl) ?_
    refine AW_icmp_ge (tgt := 46) dX12_takesRow_25 (by decide) (fun c_25 => ?_) (fun c_25 => ?_)
    · skip
      have hm : i = n := by omega
      subst hm
      refine AW_mq (fun r ρ q => ?_) (ln_tk1 (S := sR K l) (mh := s.2.2) hd hS hL hr hlt (hT.1.fm hF) hN ((hF.f 70).trans hT.2.2.2))
      obtain ⟨q1, q2, q3, q4⟩ := q
      refine ⟨q1, ⟨q3, ?_, ?_, q4⟩, (hF.mo (by decide) (by decide)).tr (q2.mo (by decide) (by decide))⟩
      · unfold tkG
        rw [if_pos hgt, q2.f 69, h69]
      · unfold tkG
        rw [if_pos hgt]
        exact Or.inr (fun j hj => (q2.a 128 j).trans (hx j hj))
    · skip
      obtain ⟨m1, rfl⟩ : ∃ m1, m = m1 + 1 := ⟨m - 1, by omega⟩
      refine AW_aload_n dX12_takesRow_28 rfl ?_
      refine AW_getR (a := 128) dX12_takesRow_29 gfX12_130 (hS.cel rfl) (hS.rf rfl) ?_
      refine AW_iload_n dX12_takesRow_32 rfl ?_
      refine AW_aload_n dX12_takesRow_33 rfl ?_
      refine AW_getR (a := 129) dX12_takesRow_34 gfX12_133 (hS.cel rfl) (hS.rf rfl) ?_
      refine AW_iload_n dX12_takesRow_37 rfl ?_
      refine AW_iald dX12_takesRow_38 (hS.cel rfl) (by omega) (by omega) ?_
      rw [Int.toNat_natCast, hlt i (by omega)]
      refine AW_iast dX12_takesRow_39 (hS.cel rfl) (by omega) (by omega) ?_
      refine AW_iincE2 dX12_takesRow_40 (by omega) (by omega) ?_
      refine AW_goto (tgt := 20) dX12_takesRow_43 (by decide) ?_
      rw [show (i : Int) + 1 = ((i + 1 : Nat) : Int) by omega, Int.toNat_natCast]
      refine ih m1 (i + 1) _ (by omega) (by omega) (hF.ua (by decide) (by decide) _ _) (by rw [up_r _ _ _ _ (by decide)]; exact h69) (fun x h => ?_)
      rw [up_if]
      by_cases hc : x = i
      · rw [if_pos ⟨rfl, hc⟩, hc]
      · rw [if_neg (fun q => hc q.2), hx x (by omega)]
theorem n_tkRow {G : Gt} {d : Nat} {σ : St} (hd : 2 ≤ d) {n : Nat} {K : Nat → Int} (hS : Sta σ) (hL : LkM n K σ) {l : List Nat} (hr : l ∈ rowsN n) (hRo : ∀ i, i < n → σ.2.1 129 i = (l.getD i 0 : Int)) {s : List (List Nat) × (Int × List Nat) × Int} (hT : TkM n s σ) (hN : s.1.length < 5040)  : AM mX12_takesRow G d 0 0 [vR 94] σ (fun ro ρ => ro = none ∧ TkM n (tkG K s l) ρ ∧ Fm [67, 69, 70] [127, 128, 130] σ ρ) := by
  refine AM.intro (by decide +kernel) (by simp [nLg]) (Nat.le_of_ble_eq_true rfl) (fun hO => ?_)
  show AW _ _ _ _ _ _ 0 [some (vR 94), none, none] [] σ
  have h69 := hT.2.1
  refine AW_aload_n dX12_takesRow_0 rfl ?_
  refine AW_callV0 (d' := d - 1) dX12_takesRow_1 (Or.inl lkX12_392) mfX12_sumOfRow (hS.cel rfl) ⟨_, rfl, rfl⟩ (n_fsum (by omega) hS hL hr hRo) (by omega) (Nat.le_of_ble_eq_true rfl) ?_
  rintro _ _ ⟨e_, rfl⟩ -
  rw [e_]
  clear e_
  refine AW_istore1 dX12_takesRow_4 ?_
  refine AW_iload_n dX12_takesRow_5 rfl ?_
  refine AW_aload_n dX12_takesRow_6 rfl ?_
  refine AW_getI dX12_takesRow_7 gfX12_395 (hS.cel rfl) ?_
  refine AW_icmp_le (tgt := 46) dX12_takesRow_10 (by decide) (fun c_10 => ?_) (fun c_10 => ?_)
  · skip
    refine AW_mq (fun r ρ q => ?_) (ln_tk1 (S := sR K l) (mh := s.2.2) hd hS hL hr hRo hT.1 hN hT.2.2.2)
    obtain ⟨q1, q2, q3, q4⟩ := q
    refine ⟨q1, ⟨q3, ?_, ?_, q4⟩, q2.mo (by decide) (by decide)⟩
    · unfold tkG
      rw [show (if s.2.1.1 < sR K l then (sR K l, l) else s.2.1) = s.2.1 from if_neg (by omega), q2.f 69, h69]
    · unfold tkG
      rw [show (if s.2.1.1 < sR K l then (sR K l, l) else s.2.1) = s.2.1 from if_neg (by omega)]
      exact hT.2.2.1.imp id (fun w j hj => (q2.a 128 j).trans (w j hj))
  · skip
    refine AW_aload_n dX12_takesRow_13 rfl ?_
    refine AW_iload_n dX12_takesRow_14 rfl ?_
    refine AW_putI dX12_takesRow_15 (Or.inl pfX12_395) (hS.cel rfl) ?_
    refine AW_iconst dX12_takesRow_18 ?_
    refine AW_istore2 dX12_takesRow_19 ?_
    have hF1 : Fm [69] [128] σ (upI σ 94 69 (sR K l)) := Fm.rf.uf (by decide) _
    exact ln_tk0 hd hS hL hr hRo hT hN (by omega) (n + 1) n 0 _ (by omega) (by omega) hF1 (up_at _ _ _ _) (fun x hx => absurd hx (Nat.not_lt_zero x))
