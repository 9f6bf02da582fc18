def fReader (σ : St) : St := (upR (upI (upR (fWay (nwC σ (10, 7)) 35 36) 34 1 35) 34 5 (-1)) 34 0 29)
set_option maxRecDepth 100000 in
set_option maxHeartbeats 4000000 in
theorem i_reader {G : Gt} {d : Nat} {σ : St} (hd : 9 ≤ d) (hn : σ.2.2.2 = 35) (hk : Cel σ 34 (7, 6)) : AM mX7_init G d 6 455 [vR 34, vR 29] σ (fun ro ρ => ro = none ∧ ρ = fReader σ) := by
  obtain ⟨kd, iv, rv, nx⟩ := σ
  change nx = 35 at hn
  subst hn
  have hk0 : kd 34 = (7, 6) := hk.2.2
  refine AM.intro (by decide +kernel) (by simp [nLg]) (Nat.le_of_ble_eq_true rfl) (fun hO => ?_)
  show AW _ _ _ _ _ _ 0 [some (vR 34), some (vR 29)] [] _
  refine AW_aload_n dX7_init_0 rfl ?_
  refine AW_objInit dX7_init_1 oiX7 (by decide) (by omega) (Nat.le_of_ble_eq_true rfl) ?_
  refine AW_aload_n dX7_init_4 rfl ?_
  refine AW_newN (ci := 10) (N := 7) (n := 35) dX7_init_5 nwX7_9 (by exact rfl) ?_
  refine AW_dup dX7_init_8 ?_
  refine AW_callIb0 (d' := d - 1) dX7_init_9 (Or.inr lkX7_11) mfX10_init (by decide) (i_way (r := 35) (n := 36) (by omega) (by exact rfl) (by decide) (by exact ⟨by decide, Nat.le_of_ble_eq_true rfl, rfl⟩)) (by omega) (Nat.le_of_ble_eq_true rfl) ?_
  rintro _ _ ⟨rfl, rfl⟩ -
  refine AW_putR dX7_init_12 (Or.inr (Or.inl ⟨pfX7_12, rfl⟩)) (by exact ⟨by decide, Nat.le_of_ble_eq_true rfl, hk0⟩) ?_
  refine AW_aload_n dX7_init_15 rfl ?_
  refine AW_iconst dX7_init_16 ?_
  refine AW_putI dX7_init_17 (Or.inl pfX7_18) (by exact ⟨by decide, Nat.le_of_ble_eq_true rfl, hk0⟩) ?_
  refine AW_aload_n dX7_init_20 rfl ?_
  refine AW_aload_n dX7_init_21 rfl ?_
  refine AW_putR dX7_init_22 (Or.inr (Or.inl ⟨pfX7_22, rfl⟩)) (by exact ⟨by decide, Nat.le_of_ble_eq_true rfl, hk0⟩) ?_
  refine AW_vret dX7_init_25 rfl ?_
  exact ⟨rfl, rfl⟩
def fFolk (σ : St) : St := (adN (fWay (nwC (adN (fWay (nwC (adN (fWay (nwC (adN (fWay (nwC (adN (fWay (nwC (adE (fWay (nwC (upR (upR (upR (nwC (upR (upR (upI (nwC (upR (upR (upI (nwC (upR (fJudge (nwC σ (2, 2)) 42 43) 41 2 42) (13, 3)) 45 0 0) 45 1 3) 41 3 45) (13, 3)) 46 0 0) 46 1 3) 41 4 46) (20, 5)) 41 5 47) 41 0 17) 41 1 26) (10, 7)) 48 49) 45 48 54 1) (10, 7)) 55 56) 45 54 55 1 2) (10, 7)) 61 62) 45 54 61 2 3) (10, 7)) 67 68) 45 54 67 3 4) (10, 7)) 73 74) 45 54 73 4 5) (10, 7)) 79 80) 45 54 79 5 6)
set_option maxRecDepth 100000 in
set_option maxHeartbeats 4000000 in
theorem i_folk {G : Gt} {d : Nat} {σ : St} (hd : 9 ≤ d) (hn : σ.2.2.2 = 42) (hk : Cel σ 41 (1, 7)) : AM mX1_init G d 43 2831 [vR 41, vR 17, vR 26] σ (fun ro ρ => ro = none ∧ ρ = fFolk σ) := by
  obtain ⟨kd, iv, rv, nx⟩ := σ
  change nx = 42 at hn
  subst hn
  have hk0 : kd 41 = (1, 7) := hk.2.2
  refine AM.intro (by decide +kernel) (by simp [nLg]) (Nat.le_of_ble_eq_true rfl) (fun hO => ?_)
  show AW _ _ _ _ _ _ 0 [some (vR 41), some (vR 17), some (vR 26), none] [] _
  refine AW_aload_n dX1_init_0 rfl ?_
  refine AW_objInit dX1_init_1 oiX1 (by decide) (by omega) (Nat.le_of_ble_eq_true rfl) ?_
  refine AW_aload_n dX1_init_4 rfl ?_
  refine AW_newN (ci := 2) (N := 2) (n := 42) dX1_init_5 nwX1_9 (by exact rfl) ?_
  refine AW_dup dX1_init_8 ?_
  refine AW_callIb0 (d' := d - 1) dX1_init_9 (Or.inr lkX1_11) mfX2_init (by decide) (i_judge (r := 42) (n := 43) (by omega) (by exact rfl) (by decide) (by exact ⟨by decide, Nat.le_of_ble_eq_true rfl, rfl⟩)) (by omega) (Nat.le_of_ble_eq_true rfl) ?_
  rintro _ _ ⟨rfl, rfl⟩ -
  refine AW_putR dX1_init_12 (Or.inr (Or.inl ⟨pfX1_12, rfl⟩)) (by exact ⟨by decide, Nat.le_of_ble_eq_true rfl, hk0⟩) ?_
  refine AW_aload_n dX1_init_15 rfl ?_
  refine AW_newN (ci := 13) (N := 3) (n := 45) dX1_init_16 nwX1_18 (by exact rfl) ?_
  refine AW_dup dX1_init_19 ?_
  refine AW_callIb0 (d' := d - 1) dX1_init_20 (Or.inl lkX1_20) mfJx4a65c_init_da8c8 (by decide) (i_alist (by omega) (by exact ⟨by decide, Nat.le_of_ble_eq_true rfl, rfl⟩)) (by omega) (Nat.le_of_ble_eq_true rfl) ?_
  rintro _ _ ⟨rfl, rfl⟩ -
  refine AW_putR dX1_init_23 (Or.inr (Or.inl ⟨pfX1_21, rfl⟩)) (by exact ⟨by decide, Nat.le_of_ble_eq_true rfl, hk0⟩) ?_
  refine AW_aload_n dX1_init_26 rfl ?_
  refine AW_newN (ci := 13) (N := 3) (n := 46) dX1_init_27 nwX1_18 (by exact rfl) ?_
  refine AW_dup dX1_init_30 ?_
  refine AW_callIb0 (d' := d - 1) dX1_init_31 (Or.inl lkX1_20) mfJx4a65c_init_da8c8 (by decide) (i_alist (by omega) (by exact ⟨by decide, Nat.le_of_ble_eq_true rfl, rfl⟩)) (by omega) (Nat.le_of_ble_eq_true rfl) ?_
  rintro _ _ ⟨rfl, rfl⟩ -
  refine AW_putR dX1_init_34 (Or.inr (Or.inl ⟨pfX1_25, rfl⟩)) (by exact ⟨by decide, Nat.le_of_ble_eq_true rfl, hk0⟩) ?_
  refine AW_aload_n dX1_init_37 rfl ?_
  refine AW_iconst dX1_init_38 ?_
  refine AW_newaN (c := 5) (n := 47) dX1_init_39 (Or.inl ⟨rfl, rfl⟩) ar_int rfl (by decide) (by decide) (by exact rfl) ?_
  refine AW_putR dX1_init_41 (Or.inr (Or.inl ⟨pfX1_28, rfl⟩)) (by exact ⟨by decide, Nat.le_of_ble_eq_true rfl, hk0⟩) ?_
  refine AW_aload_n dX1_init_44 rfl ?_
  refine AW_aload_n dX1_init_45 rfl ?_
  refine AW_putR dX1_init_46 (Or.inr (Or.inl ⟨pfX1_32, rfl⟩)) (by exact ⟨by decide, Nat.le_of_ble_eq_true rfl, hk0⟩) ?_
  refine AW_aload_n dX1_init_49 rfl ?_
  refine AW_aload_n dX1_init_50 rfl ?_
  refine AW_putR dX1_init_51 (Or.inr (Or.inl ⟨pfX1_36, rfl⟩)) (by exact ⟨by decide, Nat.le_of_ble_eq_true rfl, hk0⟩) ?_
  refine AW_iconst dX1_init_54 ?_
  refine AW_istore3 dX1_init_55 ?_
  refine AW_iload_n dX1_init_56 rfl ?_
  refine AW_bipush dX1_init_57 ?_
  refine AW_icmp_ge (tgt := 83) dX1_init_59 (by decide) (fun c_59 => absurd c_59 (by decide)) (fun _ => ?_)
  refine AW_aload_n dX1_init_62 rfl ?_
  refine AW_getR (a := 45) dX1_init_63 gfX1_21 (by exact ⟨by decide, Nat.le_of_ble_eq_true rfl, hk0⟩) rfl ?_
  refine AW_newN (ci := 10) (N := 7) (n := 48) dX1_init_66 nwX1_40 (by exact rfl) ?_
  refine AW_dup dX1_init_69 ?_
  refine AW_callIb0 (d' := d - 1) dX1_init_70 (Or.inr lkX1_42) mfX10_init (by decide) (i_way (r := 48) (n := 49) (by omega) (by exact rfl) (by decide) (by exact ⟨by decide, Nat.le_of_ble_eq_true rfl, rfl⟩)) (by omega) (Nat.le_of_ble_eq_true rfl) ?_
  rintro _ _ ⟨rfl, rfl⟩ -
  refine AW_callVb1 (d' := d - 1) dX1_init_73 (Or.inl lkX1_43) mfJx4a65c_add_9ea2d (by exact ⟨by decide, Nat.le_of_ble_eq_true rfl, rfl⟩) ⟨_, rfl, rfl⟩ (k_addE (lc := 45) (n := 54) (x := 1) (by omega) (by exact rfl) (by exact rfl) (by exact Nat.le_of_ble_eq_true rfl) (by exact ⟨by decide, Nat.le_of_ble_eq_true rfl, rfl⟩) (by exact rfl) (by exact rfl) (v := 48) (ci := 10) (Nv := 7) (by exact ⟨by decide, Nat.le_of_ble_eq_true rfl, rfl⟩) co10) (by omega) (Nat.le_of_ble_eq_true rfl) ?_
  rintro _ _ ⟨rfl, rfl⟩ -
  refine AW_pop dX1_init_76 ?_
  refine AW_iincE3 dX1_init_77 (by omega) (by omega) ?_
  refine AW_goto (tgt := 56) dX1_init_80 (by decide) ?_
  refine AW_iload_n dX1_init_56 rfl ?_
  refine AW_bipush dX1_init_57 ?_
  refine AW_icmp_ge (tgt := 83) dX1_init_59 (by decide) (fun c_59 => absurd c_59 (by decide)) (fun _ => ?_)
  refine AW_aload_n dX1_init_62 rfl ?_
  refine AW_getR (a := 45) dX1_init_63 gfX1_21 (by exact ⟨by decide, Nat.le_of_ble_eq_true rfl, hk0⟩) rfl ?_
  refine AW_newN (ci := 10) (N := 7) (n := 55) dX1_init_66 nwX1_40 (by exact rfl) ?_
  refine AW_dup dX1_init_69 ?_
  refine AW_callIb0 (d' := d - 1) dX1_init_70 (Or.inr lkX1_42) mfX10_init (by decide) (i_way (r := 55) (n := 56) (by omega) (by exact rfl) (by decide) (by exact ⟨by decide, Nat.le_of_ble_eq_true rfl, rfl⟩)) (by omega) (Nat.le_of_ble_eq_true rfl) ?_
  rintro _ _ ⟨rfl, rfl⟩ -
  refine AW_callVb1 (d' := d - 1) dX1_init_73 (Or.inl lkX1_43) mfJx4a65c_add_9ea2d (by exact ⟨by decide, Nat.le_of_ble_eq_true rfl, rfl⟩) ⟨_, rfl, rfl⟩ (k_addN (lc := 45) (n := 1) (ea := 54) (N := 10) (x := 2) (by omega) (by exact rfl) (by exact ⟨by decide, Nat.le_of_ble_eq_true rfl, rfl⟩) (by exact rfl) (by exact rfl) (by exact ⟨by decide, Nat.le_of_ble_eq_true rfl, rfl⟩) (by decide) (by decide) (v := 55) (ci := 10) (Nv := 7) (by exact ⟨by decide, Nat.le_of_ble_eq_true rfl, rfl⟩) co10) (by omega) (Nat.le_of_ble_eq_true rfl) ?_
  rintro _ _ ⟨rfl, rfl⟩ -
  refine AW_pop dX1_init_76 ?_
  refine AW_iincE3 dX1_init_77 (by omega) (by omega) ?_
  refine AW_goto (tgt := 56) dX1_init_80 (by decide) ?_
  refine AW_iload_n dX1_init_56 rfl ?_
  refine AW_bipush dX1_init_57 ?_
  refine AW_icmp_ge (tgt := 83) dX1_init_59 (by decide) (fun c_59 => absurd c_59 (by decide)) (fun _ => ?_)
  refine AW_aload_n dX1_init_62 rfl ?_
  refine AW_getR (a := 45) dX1_init_63 gfX1_21 (by exact ⟨by decide, Nat.le_of_ble_eq_true rfl, hk0⟩) rfl ?_
  refine AW_newN (ci := 10) (N := 7) (n := 61) dX1_init_66 nwX1_40 (by exact rfl) ?_
  refine AW_dup dX1_init_69 ?_
  refine AW_callIb0 (d' := d - 1) dX1_init_70 (Or.inr lkX1_42) mfX10_init (by decide) (i_way (r := 61) (n := 62) (by omega) (by exact rfl) (by decide) (by exact ⟨by decide, Nat.le_of_ble_eq_true rfl, rfl⟩)) (by omega) (Nat.le_of_ble_eq_true rfl) ?_
  rintro _ _ ⟨rfl, rfl⟩ -
  refine AW_callVb1 (d' := d - 1) dX1_init_73 (Or.inl lkX1_43) mfJx4a65c_add_9ea2d (by exact ⟨by decide, Nat.le_of_ble_eq_true rfl, rfl⟩) ⟨_, rfl, rfl⟩ (k_addN (lc := 45) (n := 2) (ea := 54) (N := 10) (x := 3) (by omega) (by exact rfl) (by exact ⟨by decide, Nat.le_of_ble_eq_true rfl, rfl⟩) (by exact rfl) (by exact rfl) (by exact ⟨by decide, Nat.le_of_ble_eq_true rfl, rfl⟩) (by decide) (by decide) (v := 61) (ci := 10) (Nv := 7) (by exact ⟨by decide, Nat.le_of_ble_eq_true rfl, rfl⟩) co10) (by omega) (Nat.le_of_ble_eq_true rfl) ?_
  rintro _ _ ⟨rfl, rfl⟩ -
  refine AW_pop dX1_init_76 ?_
  refine AW_iincE3 dX1_init_77 (by omega) (by omega) ?_
  refine AW_goto (tgt := 56) dX1_init_80 (by decide) ?_
  refine AW_iload_n dX1_init_56 rfl ?_
  refine AW_bipush dX1_init_57 ?_
  refine AW_icmp_ge (tgt := 83) dX1_init_59 (by decide) (fun c_59 => absurd c_59 (by decide)) (fun _ => ?_)
  refine AW_aload_n dX1_init_62 rfl ?_
  refine AW_getR (a := 45) dX1_init_63 gfX1_21 (by exact ⟨by decide, Nat.le_of_ble_eq_true rfl, hk0⟩) rfl ?_
  refine AW_newN (ci := 10) (N := 7) (n := 67) dX1_init_66 nwX1_40 (by exact rfl) ?_
  refine AW_dup dX1_init_69 ?_
  refine AW_callIb0 (d' := d - 1) dX1_init_70 (Or.inr lkX1_42) mfX10_init (by decide) (i_way (r := 67) (n := 68) (by omega) (by exact rfl) (by decide) (by exact ⟨by decide, Nat.le_of_ble_eq_true rfl, rfl⟩)) (by omega) (Nat.le_of_ble_eq_true rfl) ?_
  rintro _ _ ⟨rfl, rfl⟩ -
  refine AW_callVb1 (d' := d - 1) dX1_init_73 (Or.inl lkX1_43) mfJx4a65c_add_9ea2d (by exact ⟨by decide, Nat.le_of_ble_eq_true rfl, rfl⟩) ⟨_, rfl, rfl⟩ (k_addN (lc := 45) (n := 3) (ea := 54) (N := 10) (x := 4) (by omega) (by exact rfl) (by exact ⟨by decide, Nat.le_of_ble_eq_true rfl, rfl⟩) (by exact rfl) (by exact rfl) (by exact ⟨by decide, Nat.le_of_ble_eq_true rfl, rfl⟩) (by decide) (by decide) (v := 67) (ci := 10) (Nv := 7) (by exact ⟨by decide, Nat.le_of_ble_eq_true rfl, rfl⟩) co10) (by omega) (Nat.le_of_ble_eq_true rfl) ?_
  rintro _ _ ⟨rfl, rfl⟩ -
  refine AW_pop dX1_init_76 ?_
  refine AW_iincE3 dX1_init_77 (by omega) (by omega) ?_
  refine AW_goto (tgt := 56) dX1_init_80 (by decide) ?_
  refine AW_iload_n dX1_init_56 rfl ?_
  refine AW_bipush dX1_init_57 ?_
  refine AW_icmp_ge (tgt := 83) dX1_init_59 (by decide) (fun c_59 => absurd c_59 (by decide)) (fun _ => ?_)
  refine AW_aload_n dX1_init_62 rfl ?_
  refine AW_getR (a := 45) dX1_init_63 gfX1_21 (by exact ⟨by decide, Nat.le_of_ble_eq_true rfl, hk0⟩) rfl ?_
  refine AW_newN (ci := 10) (N := 7) (n := 73) dX1_init_66 nwX1_40 (by exact rfl) ?_
  refine AW_dup dX1_init_69 ?_
  refine AW_callIb0 (d' := d - 1) dX1_init_70 (Or.inr lkX1_42) mfX10_init (by decide) (i_way (r := 73) (n := 74) (by omega) (by exact rfl) (by decide) (by exact ⟨by decide, Nat.le_of_ble_eq_true rfl, rfl⟩)) (by omega) (Nat.le_of_ble_eq_true rfl) ?_
  rintro _ _ ⟨rfl, rfl⟩ -
  refine AW_callVb1 (d' := d - 1) dX1_init_73 (Or.inl lkX1_43) mfJx4a65c_add_9ea2d (by exact ⟨by decide, Nat.le_of_ble_eq_true rfl, rfl⟩) ⟨_, rfl, rfl⟩ (k_addN (lc := 45) (n := 4) (ea := 54) (N := 10) (x := 5) (by omega) (by exact rfl) (by exact ⟨by decide, Nat.le_of_ble_eq_true rfl, rfl⟩) (by exact rfl) (by exact rfl) (by exact ⟨by decide, Nat.le_of_ble_eq_true rfl, rfl⟩) (by decide) (by decide) (v := 73) (ci := 10) (Nv := 7) (by exact ⟨by decide, Nat.le_of_ble_eq_true rfl, rfl⟩) co10) (by omega) (Nat.le_of_ble_eq_true rfl) ?_
  rintro _ _ ⟨rfl, rfl⟩ -
  refine AW_pop dX1_init_76 ?_
  refine AW_iincE3 dX1_init_77 (by omega) (by omega) ?_
  refine AW_goto (tgt := 56) dX1_init_80 (by decide) ?_
  refine AW_iload_n dX1_init_56 rfl ?_
  refine AW_bipush dX1_init_57 ?_
  refine AW_icmp_ge (tgt := 83) dX1_init_59 (by decide) (fun c_59 => absurd c_59 (by decide)) (fun _ => ?_)
  refine AW_aload_n dX1_init_62 rfl ?_
  refine AW_getR (a := 45) dX1_init_63 gfX1_21 (by exact ⟨by decide, Nat.le_of_ble_eq_true rfl, hk0⟩) rfl ?_
  refine AW_newN (ci := 10) (N := 7) (n := 79) dX1_init_66 nwX1_40 (by exact rfl) ?_
  refine AW_dup dX1_init_69 ?_
  refine AW_callIb0 (d' := d - 1) dX1_init_70 (Or.inr lkX1_42) mfX10_init (by decide) (i_way (r := 79) (n := 80) (by omega) (by exact rfl) (by decide) (by exact ⟨by decide, Nat.le_of_ble_eq_true rfl, rfl⟩)) (by omega) (Nat.le_of_ble_eq_true rfl) ?_
  rintro _ _ ⟨rfl, rfl⟩ -
  refine AW_callVb1 (d' := d - 1) dX1_init_73 (Or.inl lkX1_43) mfJx4a65c_add_9ea2d (by exact ⟨by decide, Nat.le_of_ble_eq_true rfl, rfl⟩) ⟨_, rfl, rfl⟩ (k_addN (lc := 45) (n := 5) (ea := 54) (N := 10) (x := 6) (by omega) (by exact rfl) (by exact ⟨by decide, Nat.le_of_ble_eq_true rfl, rfl⟩) (by exact rfl) (by exact rfl) (by exact ⟨by decide, Nat.le_of_ble_eq_true rfl, rfl⟩) (by decide) (by decide) (v := 79) (ci := 10) (Nv := 7) (by exact ⟨by decide, Nat.le_of_ble_eq_true rfl, rfl⟩) co10) (by omega) (Nat.le_of_ble_eq_true rfl) ?_
  rintro _ _ ⟨rfl, rfl⟩ -
  refine AW_pop dX1_init_76 ?_
  refine AW_iincE3 dX1_init_77 (by omega) (by omega) ?_
  refine AW_goto (tgt := 56) dX1_init_80 (by decide) ?_
  refine AW_iload_n dX1_init_56 rfl ?_
  refine AW_bipush dX1_init_57 ?_
  refine AW_icmp_ge (tgt := 83) dX1_init_59 (by decide) (fun _ => ?_) (fun c_59 => absurd (by decide) c_59)
  refine AW_vret dX1_init_83 rfl ?_
  exact ⟨rfl, rfl⟩
