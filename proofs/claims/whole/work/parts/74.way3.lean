theorem k_isWay {G : Gt} {d : Nat} {σ : St} (hd : 1 ≤ d) (hS : Sta σ) (h6 : σ.2.1 45 2 = 6) (k : Int)  : AM mX1_isWay G d 0 0 [vR 41, vI k] σ (fun r τ => τ = σ ∧ r = some (vI (if 0 ≤ k ∧ k < 6 then 1 else 0))) := by
  refine AM.intro (by decide +kernel) (by simp [nLg]) (Nat.le_of_ble_eq_true rfl) (fun hO => ?_)
  have i_k : -2147483648 ≤ k ∧ k < 2147483648 := hO (vI k) (by simp)
  show AW _ _ _ _ _ _ 0 [some (vR 41), some (vI k)] [] σ
  refine AW_iload_n dX1_isWay_0 rfl ?_
  refine AW_if_lt (tgt := 19) dX1_isWay_1 (by decide) (fun c_1 => ?_) (fun c_1 => ?_)
  · skip
    refine AW_iconst dX1_isWay_19 ?_
    refine AW_zret dX1_isWay_20 rfl (by decide) ?_
    refine ⟨rfl, ?_⟩
    first | rw [if_pos (by omega)] | rw [if_neg (by omega)]
  · skip
    refine AW_iload_n dX1_isWay_4 rfl ?_
    refine AW_aload_n dX1_isWay_5 rfl ?_
    refine AW_getR (a := 45) dX1_isWay_6 gfX1_21 (hS.cel rfl) (hS.rf rfl) ?_
    refine AW_callV0 (d' := d - 1) dX1_isWay_9 (Or.inl lkX1_47) mfJx4a65c_size_8abf5 (hS.cel rfl) ⟨_, rfl, rfl⟩ (k_ALsize (hS.cel rfl)) (by omega) (Nat.le_of_ble_eq_true rfl) ?_
    rintro _ _ ⟨e_, rfl⟩ -
    rw [e_]
    clear e_
    refine AW_icmp_ge (tgt := 19) dX1_isWay_12 (by decide) (fun c_12 => ?_) (fun c_12 => ?_)
    · skip
      refine AW_iconst dX1_isWay_19 ?_
      refine AW_zret dX1_isWay_20 rfl (by decide) ?_
      refine ⟨rfl, ?_⟩
      first | rw [if_pos (by omega)] | rw [if_neg (by omega)]
    · skip
      refine AW_iconst dX1_isWay_15 ?_
      refine AW_goto (tgt := 20) dX1_isWay_16 (by decide) ?_
      refine AW_zret dX1_isWay_20 rfl (by decide) ?_
      refine ⟨rfl, ?_⟩
      first | rw [if_pos (by omega)] | rw [if_neg (by omega)]
theorem wyF_n {k r : Nat} (hr : r < wcl k ∨ wcl k + 5 < r) : r ∉ wyF k := by
  intro h
  simp [wyF] at h
  omega
theorem cl_W : Cond.classLink RX1 40 "NotYet$Way" ∈ lw_g := mem_g 351 (by decide +kernel) rfl
theorem k_teach {G : Gt} {d : Nat} {σ : St} (hd : 3 ≤ d) (hS : Sta σ) (h6 : σ.2.1 45 2 = 6) (k : Int) (hk0 : 0 ≤ k) (hk6 : k < 6) {m sz : Nat} {L : Nat → Nat → Int} {c : Nat → Int} (hL : LnC σ m L) (hsz : σ.2.1 35 5 = sz) (hs4 : sz ≤ 400) (hc : ∀ i, i < sz → σ.2.1 36 i = c i) : AM mX1_teach G d 0 0 [vR 41, vI k, vR 35] σ (fun ro ρ => ro = some (vI (m : Int)) ∧ WyC ρ k.toNat (m, L, sz, c) ∧ Fr (wyF k.toNat) σ ρ) := by
  have hk : k.toNat < 6 := by omega
  have hb := wcl_b hk
  refine AM.intro (by decide +kernel) (by simp [nLg]) (Nat.le_of_ble_eq_true rfl) (fun hO => ?_)
  show AW _ _ _ _ _ _ 0 [some (vR 41), some (vI k), some (vR 35)] [] σ
  refine AW_aload_n dX1_teach_0 rfl ?_
  refine AW_iload_n dX1_teach_1 rfl ?_
  refine AW_callV1 (d' := d - 1) dX1_teach_2 (Or.inl lkX1_55) mfX1_isWay (hS.cel rfl) ⟨_, rfl, rfl⟩ (k_isWay (by omega) hS h6 k) (by omega) (Nat.le_of_ble_eq_true rfl) ?_
  rintro _ _ ⟨e_, rfl⟩ -
  rw [e_]
  clear e_
  refine AW_if_ne (tgt := 10) dX1_teach_5 (by decide) (fun c_5 => ?_) (fun c_5 => ?_)
  · skip
    replace c_5 := bz1 c_5
    refine AW_aload_n dX1_teach_10 rfl ?_
    refine AW_getR (a := 45) dX1_teach_11 gfX1_21 (hS.cel rfl) (hS.rf rfl) ?_
    refine AW_iload_n dX1_teach_14 rfl ?_
    refine AW_callV1 (d' := d - 1) dX1_teach_15 (Or.inl lkX1_59) mfJx4a65c_get_915e3 (hS.cel rfl) ⟨_, rfl, rfl⟩ (k_ALget (by omega) (hS.cel rfl) (hS.rf rfl) (hS.cel rfl) k hk0 (show k < 10 by omega) (by rw [h6]; omega)) (by omega) (Nat.le_of_ble_eq_true rfl) ?_
    rintro _ _ ⟨e_, rfl⟩ -
    rw [e_]
    clear e_
    rw [hS.wn hk]
    refine AW_cast dX1_teach_18 (hS.wc hk) ⟨_, rfl, cl_W⟩ ?_
    refine AW_aload_n dX1_teach_21 rfl ?_
    refine AW_callV1 (d' := d - 1) dX1_teach_22 (Or.inl lkX1_63) mfX10_copy (hS.wc hk) ⟨_, rfl, rfl⟩ (k_wcopy (by omega) hS hk hL hsz hs4 hc) (by omega) (Nat.le_of_ble_eq_true rfl) ?_
    rintro _ ρ1 ⟨rfl, hW, hF⟩ -
    have hS1 := hF.sta hS
    refine AW_aload_n dX1_teach_25 rfl ?_
    refine AW_callV0 (d' := d - 1) dX1_teach_26 (Or.inl lkX1_67) mfX10_lines (hS1.cel rfl) ⟨_, rfl, rfl⟩ (k_wlines hS1) (by omega) (Nat.le_of_ble_eq_true rfl) ?_
    rintro _ _ ⟨e_, rfl⟩ -
    rw [e_]
    clear e_
    refine AW_iret dX1_teach_29 rfl ?_
    refine ⟨?_, hW, hF⟩
    rw [hF.iv 35 6 (wyF_n (by omega)), hL.1]
  · skip
    replace c_5 := bz0 c_5
    exact absurd (show 0 ≤ k ∧ k < 6 by omega) c_5
/-- what way(k) does to a TAPE of n bytes B -/
def wayOf (F : Nat) (B : Nat → Int) (n : Nat) : WS := wayL F (tK B n) (tV B n) 13 ws0
theorem x_way {G : Gt} {d : Nat} {σ : St} (hd : 47 ≤ d) {B : Nat → Int} {n F : Nat} (hS : Sta σ) (hT : tpC n B σ) (hFF : F = 400) (h6 : σ.2.1 45 2 = 6) (k : Int)  : AM mX11_way G d 0 0 [vR 16, vI k] σ (fun ro ρ => ∃ z : Int, ro = some (vI z) ∧ tpC 0 B ρ ∧ ((¬ (0 ≤ k ∧ k < 6) ∧ z = -1 ∧ ρ.2.1 34 4 = 0 ∧ ρ.2.1 34 5 = -1 ∧ Fr [29, 31, 32, 33, 34, 35, 36, 37, 38, 39, 40] σ ρ) ∨ ((0 ≤ k ∧ k < 6) ∧ ρ.2.1 34 4 = (wayOf F B n).1.1 ∧ (((wayOf F B n).1.1 ≠ 0 ∧ z = -1 ∧ ρ.2.1 34 5 = tP B n (wayOf F B n).1.2.1 ∧ Fr [29, 31, 32, 33, 34, 35, 36, 37, 38, 39, 40] σ ρ) ∨ ((wayOf F B n).1.1 = 0 ∧ z = (wayOf F B n).2.1 ∧ ρ.2.1 34 5 = -1 ∧ WyC ρ k.toNat ((wayOf F B n).2.1, (wayOf F B n).2.2, (wayOf F B n).1.2.2.1, (wayOf F B n).1.2.2.2) ∧ Fr ([29, 31, 32, 33, 34, 35, 36, 37, 38, 39, 40] ++ wyF k.toNat) σ ρ))))) := by
  refine AM.intro (by decide +kernel) (by simp [nLg]) (Nat.le_of_ble_eq_true rfl) (fun hO => ?_)
  have i_k : -2147483648 ≤ k ∧ k < 2147483648 := hO (vI k) (by simp)
  show AW _ _ _ _ _ _ 0 [some (vR 16), some (vI k), none] [] σ
  refine AW_aload_n dX11_way_0 rfl ?_
  refine AW_getR (a := 34) dX11_way_1 gfX11_44 (hS.cel rfl) (hS.rf rfl) ?_
  refine AW_callV0 (d' := d - 1) dX11_way_4 (Or.inl lkX11_141) mfX7_forget (hS.cel rfl) ⟨_, rfl, rfl⟩ (k_forget hS) (by omega) (Nat.le_of_ble_eq_true rfl) ?_
  rintro _ _ ⟨rfl, rfl⟩ -
  have hFa : Fr [34] σ (upI (upI σ 34 4 0) 34 5 (-1)) := (Fr.rf.up (by decide) _ _).up (by decide) _ _
  have hSa := hFa.sta hS
  have hTa := hT.fr hFa
  have ea4 : (upI (upI σ 34 4 0) 34 5 (-1)).2.1 34 4 = 0 := by rw [up_j _ _ _ (by decide), up_at]
  have ea5 : (upI (upI σ 34 4 0) 34 5 (-1)).2.1 34 5 = -1 := by rw [up_at]
  have h6a : (upI (upI σ 34 4 0) 34 5 (-1)).2.1 45 2 = 6 := by rw [hFa.iv 45 2]; exact h6
  generalize upI (upI σ 34 4 0) 34 5 (-1) = σa at hFa hSa hTa ea4 ea5 h6a ⊢
  refine AW_aload_n dX11_way_7 rfl ?_
  refine AW_getR (a := 41) dX11_way_8 gfX11_53 (hSa.cel rfl) (hSa.rf rfl) ?_
  refine AW_iload_n dX11_way_11 rfl ?_
  refine AW_callV1 (d' := d - 1) dX11_way_12 (Or.inl lkX11_144) mfX1_isWay (hSa.cel rfl) ⟨_, rfl, rfl⟩ (k_isWay (by omega) hSa h6a k) (by omega) (Nat.le_of_ble_eq_true rfl) ?_
  rintro _ _ ⟨e_, rfl⟩ -
  rw [e_]
  clear e_
  refine AW_if_ne (tgt := 29) dX11_way_15 (by decide) (fun c_15 => ?_) (fun c_15 => ?_)
  · skip
    replace c_15 := bz1 c_15
    refine AW_aload_n dX11_way_29 rfl ?_
    refine AW_getR (a := 34) dX11_way_30 gfX11_44 (hSa.cel rfl) (hSa.rf rfl) ?_
    refine AW_callV0 (d' := d - 1) dX11_way_33 (Or.inl lkX11_147) mfX7_read (hSa.cel rfl) ⟨_, rfl, rfl⟩ (k_read (by omega) hSa hTa hFF) (by omega) (Nat.le_of_ble_eq_true rfl) ?_
    rintro _ ρ2 ⟨w, hw, rfl, ⟨N, hR⟩, hL, hG2⟩ -
    have hS2 := hG2.sta hSa
    have hT2 := hR.2.1
    refine AW_istore2 dX11_way_36 ?_
    refine AW_aload_n dX11_way_37 rfl ?_
    refine AW_getR (a := 29) dX11_way_38 gfX11_35 (hS2.cel rfl) (hS2.rf rfl) ?_
    refine AW_iconst dX11_way_41 ?_
    refine AW_callV1 (d' := d - 1) dX11_way_42 (Or.inl lkX11_138) mfX8_cut (hS2.cel rfl) ⟨_, rfl, rfl⟩ (k_cut hS2 hT2 0) (by omega) (Nat.le_of_ble_eq_true rfl) ?_
    rintro r3 ρ3 h3 -
    have hc3 : r3 = some (vI 1) ∧ tpC 0 B ρ3 ∧ Fo 29 [4] [] ρ2 ρ3 := by
      rcases h3 with q | q
      · exact absurd (by omega) q.1
      · exact q.2
    clear h3
    obtain ⟨rfl, hT3, hG3⟩ := hc3
    have hS3 := hG3.sta hS2
    have hF3 : Fr [29, 31, 32, 33, 34, 35, 36, 37, 38, 39, 40] σ ρ3 := ((hFa.mo (by decide)).tr hG2).tr (hG3.1.mo (by decide))
    have e4 : ρ3.2.1 34 4 = w.1.1 := (hG3.1.iv 34 4).trans hR.2.2.2.1
    have e5 := hG3.1.iv 34 5
    refine AW_pop dX11_way_45 ?_
    refine AW_iload_n dX11_way_46 rfl ?_
    have h9 := hR.2.2.2.2.2.2.2.2
    have hwo : wayOf F B n = w := hw.symm
    refine AW_if_eq (tgt := 68) dX11_way_47 (by decide) (fun c_47 => ?_) (fun c_47 => ?_)
    · skip
      replace c_47 := bz0 c_47
      refine AW_iconst dX11_way_68 ?_
      refine AW_iret dX11_way_69 rfl ?_
      first
      | exact ⟨-1, rfl, hT3, Or.inr ⟨c_15, by rw [hwo]; exact e4, Or.inl (by rw [hwo]; exact ⟨c_47, rfl, e5.trans (hR.2.2.2.2.2.1 c_47), hF3⟩)⟩⟩
      | (have hk6 : k.toNat < 6 := by omega
         have hb := wcl_b hk6
         have hn : ∀ r, r < 48 → r ∉ wyF k.toNat := fun r hr => wyF_n (by omega)
         refine ⟨(w.2.1 : Int), rfl, hT3.fr hG4 (hn _ (by decide)) (hn _ (by decide)), Or.inr ⟨c_15, by rw [hwo, hG4.iv 34 4 (hn _ (by decide))]; exact e4, Or.inr ?_⟩⟩
         rw [hwo]
         exact ⟨c_47, rfl, by rw [hG4.iv 34 5 (hn _ (by decide)), e5]; exact hR.2.2.2.2.2.2.1 c_47, hW4, (hF3.mo (fun r hr => List.mem_append_left _ hr)).tr (hG4.mo (fun r hr => List.mem_append_right _ hr))⟩)
    · skip
      replace c_47 := bz1 c_47
      refine AW_aload_n dX11_way_50 rfl ?_
      refine AW_getR (a := 41) dX11_way_51 gfX11_53 (hS3.cel rfl) (hS3.rf rfl) ?_
      refine AW_iload_n dX11_way_54 rfl ?_
      refine AW_aload_n dX11_way_55 rfl ?_
      refine AW_getR (a := 34) dX11_way_56 gfX11_44 (hS3.cel rfl) (hS3.rf rfl) ?_
      refine AW_callV0 (d' := d - 1) dX11_way_59 (Or.inl lkX11_150) mfX7_draft (hS3.cel rfl) ⟨_, rfl, rfl⟩ (k_draft hS3) (by omega) (Nat.le_of_ble_eq_true rfl) ?_
      rintro _ _ ⟨e_, rfl⟩ -
      rw [e_]
      clear e_
      refine AW_callV2 (d' := d - 1) dX11_way_62 (Or.inl lkX11_154) mfX1_teach (hS3.cel rfl) ⟨_, rfl, rfl⟩ (k_teach (by omega) hS3 (by rw [hF3.iv 45 2]; exact h6) k (by omega) (by omega) (m := w.2.1) (L := w.2.2) (sz := w.1.2.2.1) (c := w.1.2.2.2) ⟨(hG3.1.iv 35 6).trans hL.1, hL.2.1, fun l hl => by rw [hG3.1.iv 37 l, hG3.1.iv 38 l, hG3.1.iv 39 l, hG3.1.iv 40 l]; exact hL.2.2 l hl⟩ ((hG3.1.iv 35 5).trans (h9 c_47).1) (by have := hR.2.2.2.2.2.2.2.1; have := (h9 c_47).1; omega) (fun i hi => (hG3.1.iv 36 i).trans ((h9 c_47).2 i hi))) (by omega) (Nat.le_of_ble_eq_true rfl) ?_
      rintro _ ρ4 ⟨rfl, hW4, hG4⟩ -
      refine AW_goto (tgt := 69) dX11_way_65 (by decide) ?_
      refine AW_iret dX11_way_69 rfl ?_
      first
      | exact ⟨-1, rfl, hT3, Or.inr ⟨c_15, by rw [hwo]; exact e4, Or.inl (by rw [hwo]; exact ⟨c_47, rfl, e5.trans (hR.2.2.2.2.2.1 c_47), hF3⟩)⟩⟩
      | (have hk6 : k.toNat < 6 := by omega
         have hb := wcl_b hk6
         have hn : ∀ r, r < 48 → r ∉ wyF k.toNat := fun r hr => wyF_n (by omega)
         refine ⟨(w.2.1 : Int), rfl, hT3.fr hG4 (hn _ (by decide)) (hn _ (by decide)), Or.inr ⟨c_15, by rw [hwo, hG4.iv 34 4 (hn _ (by decide))]; exact e4, Or.inr ?_⟩⟩
         rw [hwo]
         exact ⟨c_47, rfl, by rw [hG4.iv 34 5 (hn _ (by decide)), e5]; exact hR.2.2.2.2.2.2.1 c_47, hW4, (hF3.mo (fun r hr => List.mem_append_left _ hr)).tr (hG4.mo (fun r hr => List.mem_append_right _ hr))⟩)
  · skip
    replace c_15 := bz0 c_15
    refine AW_aload_n dX11_way_18 rfl ?_
    refine AW_getR (a := 29) dX11_way_19 gfX11_35 (hSa.cel rfl) (hSa.rf rfl) ?_
    refine AW_iconst dX11_way_22 ?_
    refine AW_callV1 (d' := d - 1) dX11_way_23 (Or.inl lkX11_138) mfX8_cut (hSa.cel rfl) ⟨_, rfl, rfl⟩ (k_cut hSa hTa 0) (by omega) (Nat.le_of_ble_eq_true rfl) ?_
    rintro r1 ρ1 h1 -
    have hc1 : r1 = some (vI 1) ∧ tpC 0 B ρ1 ∧ Fo 29 [4] [] σa ρ1 := by
      rcases h1 with q | q
      · exact absurd (by omega) q.1
      · exact q.2
    clear h1
    obtain ⟨rfl, hT1, hG1⟩ := hc1
    refine AW_pop dX11_way_26 ?_
    refine AW_iconst dX11_way_27 ?_
    refine AW_iret dX11_way_28 rfl ?_
    exact ⟨-1, rfl, hT1, Or.inl ⟨c_15, rfl, (hG1.1.iv 34 4).trans ea4, (hG1.1.iv 34 5).trans ea5, (hFa.mo (by decide)).tr (hG1.1.mo (by decide))⟩⟩
theorem x_fault {G : Gt} {d : Nat} {σ : St} (hd : 1 ≤ d) (hS : Sta σ) (what : Int)  : AM mX11_fault G d 0 0 [vR 16, vI what] σ (fun r τ => τ = σ ∧ r = some (vI (if what = 0 then σ.2.1 34 4 else if what = 1 then σ.2.1 34 5 else -1))) := by
  refine AM.intro (by decide +kernel) (by simp [nLg]) (Nat.le_of_ble_eq_true rfl) (fun hO => ?_)
  have i_what : -2147483648 ≤ what ∧ what < 2147483648 := hO (vI what) (by simp)
  show AW _ _ _ _ _ _ 0 [some (vR 16), some (vI what)] [] σ
  refine AW_iload_n dX11_fault_0 rfl ?_
  refine AW_if_ne (tgt := 12) dX11_fault_1 (by decide) (fun c_1 => ?_) (fun c_1 => ?_)
  · skip
    refine AW_iload_n dX11_fault_12 rfl ?_
    refine AW_iconst dX11_fault_13 ?_
    refine AW_icmp_ne (tgt := 27) dX11_fault_14 (by decide) (fun c_14 => ?_) (fun c_14 => ?_)
    · skip
      refine AW_iconst dX11_fault_27 ?_
      refine AW_iret dX11_fault_28 rfl ?_
      refine ⟨rfl, ?_⟩
      first | (rw [if_pos (by omega)]; done) | (rw [if_neg (by omega), if_pos (by omega)]; done) | (rw [if_neg (by omega), if_neg (by omega)]; done)
    · skip
      refine AW_aload_n dX11_fault_17 rfl ?_
      refine AW_getR (a := 34) dX11_fault_18 gfX11_44 (hS.cel rfl) (hS.rf rfl) ?_
      refine AW_callV0 (d' := d - 1) dX11_fault_21 (Or.inl lkX11_161) mfX7_placeOfFault (hS.cel rfl) ⟨_, rfl, rfl⟩ (k_pof hS) (by omega) (Nat.le_of_ble_eq_true rfl) ?_
      rintro _ _ ⟨e_, rfl⟩ -
      rw [e_]
      clear e_
      refine AW_goto (tgt := 28) dX11_fault_24 (by decide) ?_
      refine AW_iret dX11_fault_28 rfl ?_
      refine ⟨rfl, ?_⟩
      first | (rw [if_pos (by omega)]; done) | (rw [if_neg (by omega), if_pos (by omega)]; done) | (rw [if_neg (by omega), if_neg (by omega)]; done)
  · skip
    refine AW_aload_n dX11_fault_4 rfl ?_
    refine AW_getR (a := 34) dX11_fault_5 gfX11_44 (hS.cel rfl) (hS.rf rfl) ?_
    refine AW_callV0 (d' := d - 1) dX11_fault_8 (Or.inl lkX11_158) mfX7_kindOfFault (hS.cel rfl) ⟨_, rfl, rfl⟩ (k_kof hS) (by omega) (Nat.le_of_ble_eq_true rfl) ?_
    rintro _ _ ⟨e_, rfl⟩ -
    rw [e_]
    clear e_
    refine AW_iret dX11_fault_11 rfl ?_
    refine ⟨rfl, ?_⟩
    first | (rw [if_pos (by omega)]; done) | (rw [if_neg (by omega), if_pos (by omega)]; done) | (rw [if_neg (by omega), if_neg (by omega)]; done)
