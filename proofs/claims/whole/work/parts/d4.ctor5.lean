def fNotYet (σ : St) : St := (upR (fPurse (nwC (upR (fFeast (nwC (upR (fFolk (nwC (upR (fReader (nwC (upR (fTape (nwC (upR (fWaits (nwC (upR (fRanks (nwC (upR (fMarket (nwC σ (3, 6))) 16 0 17) (6, 9)) 23 24 17) 16 1 23) (9, 4)) 26 27 17) 16 2 26) (8, 6)) 29 30) 16 3 29) (7, 6))) 16 4 34) (1, 7))) 16 5 41) (0, 11)) 85 86) 16 6 85) (5, 3)) 91 92 85) 16 7 91)
set_option maxRecDepth 100000 in
set_option maxHeartbeats 4000000 in
theorem i_notyet {G : Gt} {d : Nat} {σ : St} (hd : 10 ≤ d) (hn : σ.2.2.2 = 17) (hk : Cel σ 16 (11, 8)) : AM mX11_init G d 77 6150 [vR 16] σ (fun ro ρ => ro = none ∧ ρ = fNotYet σ) := by
  obtain ⟨kd, iv, rv, nx⟩ := σ
  change nx = 17 at hn
  subst hn
  have hk0 : kd 16 = (11, 8) := hk.2.2
  refine AM.intro (by decide +kernel) (by simp [nLg]) (Nat.le_of_ble_eq_true rfl) (fun hO => ?_)
  show AW _ _ _ _ _ _ 0 [some (vR 16)] [] _
  refine AW_aload_n dX11_init_0 rfl ?_
  refine AW_objInit dX11_init_1 oiX11 (by decide) (by omega) (Nat.le_of_ble_eq_true rfl) ?_
  refine AW_aload_n dX11_init_4 rfl ?_
  refine AW_newN (ci := 3) (N := 6) (n := 17) dX11_init_5 nwX11_9 (by exact rfl) ?_
  refine AW_dup dX11_init_8 ?_
  refine AW_callIb0 (d' := d - 1) dX11_init_9 (Or.inl lkX11_11) mfX3_init (by decide) (i_market (by omega) (by exact rfl) (by exact ⟨by decide, Nat.le_of_ble_eq_true rfl, rfl⟩)) (by omega) (Nat.le_of_ble_eq_true rfl) ?_
  rintro _ _ ⟨rfl, rfl⟩ -
  refine AW_putR dX11_init_12 (Or.inr (Or.inl ⟨pfX11_12, rfl⟩)) (by exact ⟨by decide, Nat.le_of_ble_eq_true rfl, hk0⟩) ?_
  refine AW_aload_n dX11_init_15 rfl ?_
  refine AW_newN (ci := 6) (N := 9) (n := 23) dX11_init_16 nwX11_16 (by exact rfl) ?_
  refine AW_dup dX11_init_19 ?_
  refine AW_aload_n dX11_init_20 rfl ?_
  refine AW_getR (a := 17) dX11_init_21 gfX11_12 (by exact ⟨by decide, Nat.le_of_ble_eq_true rfl, hk0⟩) rfl ?_
  refine AW_callIb1 (d' := d - 1) dX11_init_24 (Or.inl lkX11_18) mfX6_init (by decide) (i_ranks (r := 23) (n := 24) (x1 := 17) (by omega) (by exact rfl) (by decide) (by exact ⟨by decide, Nat.le_of_ble_eq_true rfl, rfl⟩)) (by omega) (Nat.le_of_ble_eq_true rfl) ?_
  rintro _ _ ⟨rfl, rfl⟩ -
  refine AW_putR dX11_init_27 (Or.inr (Or.inl ⟨pfX11_21, rfl⟩)) (by exact ⟨by decide, Nat.le_of_ble_eq_true rfl, hk0⟩) ?_
  refine AW_aload_n dX11_init_30 rfl ?_
  refine AW_newN (ci := 9) (N := 4) (n := 26) dX11_init_31 nwX11_25 (by exact rfl) ?_
  refine AW_dup dX11_init_34 ?_
  refine AW_aload_n dX11_init_35 rfl ?_
  refine AW_getR (a := 17) dX11_init_36 gfX11_12 (by exact ⟨by decide, Nat.le_of_ble_eq_true rfl, hk0⟩) rfl ?_
  refine AW_callIb1 (d' := d - 1) dX11_init_39 (Or.inl lkX11_27) mfX9_init (by decide) (i_waits (r := 26) (n := 27) (x1 := 17) (by omega) (by exact rfl) (by decide) (by exact ⟨by decide, Nat.le_of_ble_eq_true rfl, rfl⟩)) (by omega) (Nat.le_of_ble_eq_true rfl) ?_
  rintro _ _ ⟨rfl, rfl⟩ -
  refine AW_putR dX11_init_42 (Or.inr (Or.inl ⟨pfX11_28, rfl⟩)) (by exact ⟨by decide, Nat.le_of_ble_eq_true rfl, hk0⟩) ?_
  refine AW_aload_n dX11_init_45 rfl ?_
  refine AW_newN (ci := 8) (N := 6) (n := 29) dX11_init_46 nwX11_32 (by exact rfl) ?_
  refine AW_dup dX11_init_49 ?_
  refine AW_callIb0 (d' := d - 1) dX11_init_50 (Or.inr lkX11_34) mfX8_init (by decide) (i_tape (r := 29) (n := 30) (by omega) (by exact rfl) (by decide) (by exact ⟨by decide, Nat.le_of_ble_eq_true rfl, rfl⟩)) (by omega) (Nat.le_of_ble_eq_true rfl) ?_
  rintro _ _ ⟨rfl, rfl⟩ -
  refine AW_putR dX11_init_53 (Or.inr (Or.inl ⟨pfX11_35, rfl⟩)) (by exact ⟨by decide, Nat.le_of_ble_eq_true rfl, hk0⟩) ?_
  refine AW_aload_n dX11_init_56 rfl ?_
  refine AW_newN (ci := 7) (N := 6) (n := 34) dX11_init_57 nwX11_39 (by exact rfl) ?_
  refine AW_dup dX11_init_60 ?_
  refine AW_aload_n dX11_init_61 rfl ?_
  refine AW_getR (a := 29) dX11_init_62 gfX11_35 (by exact ⟨by decide, Nat.le_of_ble_eq_true rfl, hk0⟩) rfl ?_
  refine AW_callIb1 (d' := d - 1) dX11_init_65 (Or.inl lkX11_41) mfX7_init (by decide) (i_reader (by omega) (by exact rfl) (by exact ⟨by decide, Nat.le_of_ble_eq_true rfl, rfl⟩)) (by omega) (Nat.le_of_ble_eq_true rfl) ?_
  rintro _ _ ⟨rfl, rfl⟩ -
  refine AW_putR dX11_init_68 (Or.inr (Or.inl ⟨pfX11_44, rfl⟩)) (by exact ⟨by decide, Nat.le_of_ble_eq_true rfl, hk0⟩) ?_
  refine AW_aload_n dX11_init_71 rfl ?_
  refine AW_newN (ci := 1) (N := 7) (n := 41) dX11_init_72 nwX11_48 (by exact rfl) ?_
  refine AW_dup dX11_init_75 ?_
  refine AW_aload_n dX11_init_76 rfl ?_
  refine AW_getR (a := 17) dX11_init_77 gfX11_12 (by exact ⟨by decide, Nat.le_of_ble_eq_true rfl, hk0⟩) rfl ?_
  refine AW_aload_n dX11_init_80 rfl ?_
  refine AW_getR (a := 26) dX11_init_81 gfX11_28 (by exact ⟨by decide, Nat.le_of_ble_eq_true rfl, hk0⟩) rfl ?_
  refine AW_callIb2 (d' := d - 1) dX11_init_84 (Or.inl lkX11_50) mfX1_init (by decide) (i_folk (by omega) (by exact rfl) (by exact ⟨by decide, Nat.le_of_ble_eq_true rfl, rfl⟩)) (by omega) (Nat.le_of_ble_eq_true rfl) ?_
  rintro _ _ ⟨rfl, rfl⟩ -
  refine AW_putR dX11_init_87 (Or.inr (Or.inl ⟨pfX11_53, rfl⟩)) (by exact ⟨by decide, Nat.le_of_ble_eq_true rfl, hk0⟩) ?_
  refine AW_aload_n dX11_init_90 rfl ?_
  refine AW_newN (ci := 0) (N := 11) (n := 85) dX11_init_91 nwX11_57 (by exact rfl) ?_
  refine AW_dup dX11_init_94 ?_
  refine AW_callIb0 (d' := d - 1) dX11_init_95 (Or.inr lkX11_59) mfX0_init (by decide) (i_feast (r := 85) (n := 86) (by omega) (by exact rfl) (by decide) (by exact ⟨by decide, Nat.le_of_ble_eq_true rfl, rfl⟩)) (by omega) (Nat.le_of_ble_eq_true rfl) ?_
  rintro _ _ ⟨rfl, rfl⟩ -
  refine AW_putR dX11_init_98 (Or.inr (Or.inl ⟨pfX11_60, rfl⟩)) (by exact ⟨by decide, Nat.le_of_ble_eq_true rfl, hk0⟩) ?_
  refine AW_aload_n dX11_init_101 rfl ?_
  refine AW_newN (ci := 5) (N := 3) (n := 91) dX11_init_102 nwX11_64 (by exact rfl) ?_
  refine AW_dup dX11_init_105 ?_
  refine AW_aload_n dX11_init_106 rfl ?_
  refine AW_getR (a := 85) dX11_init_107 gfX11_60 (by exact ⟨by decide, Nat.le_of_ble_eq_true rfl, hk0⟩) rfl ?_
  refine AW_callIb1 (d' := d - 1) dX11_init_110 (Or.inl lkX11_66) mfX5_init (by decide) (i_purse (r := 91) (n := 92) (x1 := 85) (by omega) (by exact rfl) (by decide) (by exact ⟨by decide, Nat.le_of_ble_eq_true rfl, rfl⟩)) (by omega) (Nat.le_of_ble_eq_true rfl) ?_
  rintro _ _ ⟨rfl, rfl⟩ -
  refine AW_putR dX11_init_113 (Or.inr (Or.inl ⟨pfX11_69, rfl⟩)) (by exact ⟨by decide, Nat.le_of_ble_eq_true rfl, hk0⟩) ?_
  refine AW_vret dX11_init_116 rfl ?_
  exact ⟨rfl, rfl⟩
