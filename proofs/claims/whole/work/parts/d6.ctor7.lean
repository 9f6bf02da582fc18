def fModel (σ : St) : St := (upR (nwC (upR (nwC (upR (nwC (upR (nwC (upR (nwC (upR (nwC (upR (nwC (upI (upR (nwC (upR (nwC (upR (nwC (upR (nwC (upR (nwC (upR (nwC (upR (nwC (upR (nwC (upR (nwC (upR (nwC (upR (nwC (upR (nwC (upI (upR (nwC (upR (nwC (upR (nwC (upR (nwC (upR (nwC (upR (nwC (upR (nwC (upR (nwC (upR (fWrd (nwC (upR (nwC (upR (nwC (upR (nwC (upR (nwC (upR (nwC (upI (upI (upI (upI (upR (fWor (nwC (upR (nwC (upR (nwC (upR (upI (upI (nwC σ (20, 2)) 95 0 (3)) 95 1 (3)) 94 1 95) (20, 12)) 94 2 96) (20, 12)) 94 3 97) (20, 72))) 94 4 98) 94 5 (1)) 94 6 (100)) 94 7 (10)) 94 9 (3)) (20, 12)) 94 13 99) (20, 12)) 94 14 100) (20, 12)) 94 15 101) (20, 732)) 94 19 102) (20, 400)) 94 20 103) (20, 65))) 94 26 104) (20, 7)) 94 27 105) (20, 84)) 94 28 106) (20, 84)) 94 29 107) (20, 84)) 94 30 108) (20, 84)) 94 31 109) (20, 2800)) 94 32 110) (20, 2800)) 94 33 111) (20, 40)) 94 36 112) 94 41 (-1)) (20, 40)) 94 43 113) (20, 40)) 94 44 114) (20, 40)) 94 45 115) (20, 40)) 94 46 116) (20, 40)) 94 47 117) (20, 40)) 94 48 118) (20, 40)) 94 49 119) (22, 40)) 94 50 120) (20, 40)) 94 51 121) (20, 40)) 94 52 122) (20, 7)) 94 59 123) (20, 420)) 94 60 124) 94 62 (3)) (20, 98)) 94 63 125) (20, 7)) 94 64 126) (20, 35280)) 94 66 127) (20, 7)) 94 68 128) (20, 7)) 94 71 129) (20, 7)) 94 72 130) (20, 7)) 94 73 131)
set_option maxRecDepth 100000 in
set_option maxHeartbeats 8000000 in
theorem i_model {G : Gt} {d : Nat} {σ : St} (hd : 1 ≤ d) (hn : σ.2.2.2 = 95) (hk : Cel σ 94 (12, 74)) : AM mX12_init G d 37 43554 [vR 94] σ (fun ro ρ => ro = none ∧ ρ = fModel σ) := by
  obtain ⟨kd, iv, rv, nx⟩ := σ
  change nx = 95 at hn
  subst hn
  have hk0 : kd 94 = (12, 74) := hk.2.2
  refine AM.intro (by decide +kernel) (by simp [nLg]) (Nat.le_of_ble_eq_true rfl) (fun hO => ?_)
  show AW _ _ _ _ _ _ 0 [some (vR 94)] [] _
  refine AW_aload_n dX12_init_0 rfl ?_
  refine AW_objInit dX12_init_1 oiX12 (by decide) (by omega) (Nat.le_of_ble_eq_true rfl) ?_
  refine AW_aload_n dX12_init_4 rfl ?_
  refine AW_iconst dX12_init_5 ?_
  refine AW_newaN (c := 2) (n := 95) dX12_init_6 (Or.inl ⟨rfl, rfl⟩) ar_int rfl (by decide) (by decide) (by exact rfl) ?_
  refine AW_dup dX12_init_8 ?_
  refine AW_iconst dX12_init_9 ?_
  refine AW_iconst dX12_init_10 ?_
  refine AW_iastK 0 dX12_init_11 (by exact ⟨by decide, Nat.le_of_ble_eq_true rfl, rfl⟩) (by decide) ?_
  refine AW_dup dX12_init_12 ?_
  refine AW_iconst dX12_init_13 ?_
  refine AW_iconst dX12_init_14 ?_
  refine AW_iastK 1 dX12_init_15 (by exact ⟨by decide, Nat.le_of_ble_eq_true rfl, rfl⟩) (by decide) ?_
  refine AW_putR dX12_init_16 (Or.inr (Or.inl ⟨pfX12_7, rfl⟩)) (by exact ⟨by decide, Nat.le_of_ble_eq_true rfl, hk0⟩) ?_
  refine AW_aload_n dX12_init_19 rfl ?_
  refine AW_bipush dX12_init_20 ?_
  refine AW_newaN (c := 12) (n := 96) dX12_init_22 (Or.inl ⟨rfl, rfl⟩) ar_int rfl (by decide) (by decide) (by exact rfl) ?_
  refine AW_putR dX12_init_24 (Or.inr (Or.inl ⟨pfX12_13, rfl⟩)) (by exact ⟨by decide, Nat.le_of_ble_eq_true rfl, hk0⟩) ?_
  refine AW_aload_n dX12_init_27 rfl ?_
  refine AW_bipush dX12_init_28 ?_
  refine AW_newaN (c := 12) (n := 97) dX12_init_30 (Or.inl ⟨rfl, rfl⟩) ar_int rfl (by decide) (by decide) (by exact rfl) ?_
  refine AW_putR dX12_init_32 (Or.inr (Or.inl ⟨pfX12_16, rfl⟩)) (by exact ⟨by decide, Nat.le_of_ble_eq_true rfl, hk0⟩) ?_
  refine AW_aload_n dX12_init_35 rfl ?_
  refine AW_bipush dX12_init_36 ?_
  refine AW_newaN (c := 72) (n := 98) dX12_init_38 (Or.inl ⟨rfl, rfl⟩) ar_int rfl (by decide) (by decide) (by exact rfl) ?_
  refine s_wor (by exact ⟨by decide, Nat.le_of_ble_eq_true rfl, rfl⟩) ?_
  refine AW_putR dX12_init_394 (Or.inr (Or.inl ⟨pfX12_19, rfl⟩)) (by exact ⟨by decide, Nat.le_of_ble_eq_true rfl, hk0⟩) ?_
  refine AW_aload_n dX12_init_397 rfl ?_
  refine AW_iconst dX12_init_398 ?_
  refine AW_putI dX12_init_399 (Or.inl pfX12_22) (by exact ⟨by decide, Nat.le_of_ble_eq_true rfl, hk0⟩) ?_
  refine AW_aload_n dX12_init_402 rfl ?_
  refine AW_bipush dX12_init_403 ?_
  refine AW_putI dX12_init_405 (Or.inl pfX12_26) (by exact ⟨by decide, Nat.le_of_ble_eq_true rfl, hk0⟩) ?_
  refine AW_aload_n dX12_init_408 rfl ?_
  refine AW_bipush dX12_init_409 ?_
  refine AW_putI dX12_init_411 (Or.inl pfX12_29) (by exact ⟨by decide, Nat.le_of_ble_eq_true rfl, hk0⟩) ?_
  refine AW_aload_n dX12_init_414 rfl ?_
  refine AW_iconst dX12_init_415 ?_
  refine AW_putI dX12_init_416 (Or.inl pfX12_32) (by exact ⟨by decide, Nat.le_of_ble_eq_true rfl, hk0⟩) ?_
  refine AW_aload_n dX12_init_419 rfl ?_
  refine AW_bipush dX12_init_420 ?_
  refine AW_newaN (c := 12) (n := 99) dX12_init_422 (Or.inl ⟨rfl, rfl⟩) ar_int rfl (by decide) (by decide) (by exact rfl) ?_
  refine AW_putR dX12_init_424 (Or.inr (Or.inl ⟨pfX12_35, rfl⟩)) (by exact ⟨by decide, Nat.le_of_ble_eq_true rfl, hk0⟩) ?_
  refine AW_aload_n dX12_init_427 rfl ?_
  refine AW_bipush dX12_init_428 ?_
  refine AW_newaN (c := 12) (n := 100) dX12_init_430 (Or.inl ⟨rfl, rfl⟩) ar_int rfl (by decide) (by decide) (by exact rfl) ?_
  refine AW_putR dX12_init_432 (Or.inr (Or.inl ⟨pfX12_38, rfl⟩)) (by exact ⟨by decide, Nat.le_of_ble_eq_true rfl, hk0⟩) ?_
  refine AW_aload_n dX12_init_435 rfl ?_
  refine AW_bipush dX12_init_436 ?_
  refine AW_newaN (c := 12) (n := 101) dX12_init_438 (Or.inl ⟨rfl, rfl⟩) ar_int rfl (by decide) (by decide) (by exact rfl) ?_
  refine AW_putR dX12_init_440 (Or.inr (Or.inl ⟨pfX12_41, rfl⟩)) (by exact ⟨by decide, Nat.le_of_ble_eq_true rfl, hk0⟩) ?_
  refine AW_aload_n dX12_init_443 rfl ?_
  refine AW_sipush dX12_init_444 ?_
  refine AW_newaN (c := 732) (n := 102) dX12_init_447 (Or.inl ⟨rfl, rfl⟩) ar_int rfl (by decide) (by decide) (by exact rfl) ?_
  refine AW_putR dX12_init_449 (Or.inr (Or.inl ⟨pfX12_44, rfl⟩)) (by exact ⟨by decide, Nat.le_of_ble_eq_true rfl, hk0⟩) ?_
  refine AW_aload_n dX12_init_452 rfl ?_
  refine AW_sipush dX12_init_453 ?_
  refine AW_newaN (c := 400) (n := 103) dX12_init_456 (Or.inl ⟨rfl, rfl⟩) ar_int rfl (by decide) (by decide) (by exact rfl) ?_
  refine AW_putR dX12_init_458 (Or.inr (Or.inl ⟨pfX12_47, rfl⟩)) (by exact ⟨by decide, Nat.le_of_ble_eq_true rfl, hk0⟩) ?_
  refine AW_aload_n dX12_init_461 rfl ?_
  refine AW_bipush dX12_init_462 ?_
  refine AW_newaN (c := 65) (n := 104) dX12_init_464 (Or.inl ⟨rfl, rfl⟩) ar_int rfl (by decide) (by decide) (by exact rfl) ?_
  refine s_wrd (by exact ⟨by decide, Nat.le_of_ble_eq_true rfl, rfl⟩) ?_
  refine AW_putR dX12_init_850 (Or.inr (Or.inl ⟨pfX12_50, rfl⟩)) (by exact ⟨by decide, Nat.le_of_ble_eq_true rfl, hk0⟩) ?_
  refine AW_aload_n dX12_init_853 rfl ?_
  refine AW_bipush dX12_init_854 ?_
  refine AW_newaN (c := 7) (n := 105) dX12_init_856 (Or.inl ⟨rfl, rfl⟩) ar_int rfl (by decide) (by decide) (by exact rfl) ?_
  refine AW_putR dX12_init_858 (Or.inr (Or.inl ⟨pfX12_53, rfl⟩)) (by exact ⟨by decide, Nat.le_of_ble_eq_true rfl, hk0⟩) ?_
  refine AW_aload_n dX12_init_861 rfl ?_
  refine AW_bipush dX12_init_862 ?_
  refine AW_newaN (c := 84) (n := 106) dX12_init_864 (Or.inl ⟨rfl, rfl⟩) ar_int rfl (by decide) (by decide) (by exact rfl) ?_
  refine AW_putR dX12_init_866 (Or.inr (Or.inl ⟨pfX12_56, rfl⟩)) (by exact ⟨by decide, Nat.le_of_ble_eq_true rfl, hk0⟩) ?_
  refine AW_aload_n dX12_init_869 rfl ?_
  refine AW_bipush dX12_init_870 ?_
  refine AW_newaN (c := 84) (n := 107) dX12_init_872 (Or.inl ⟨rfl, rfl⟩) ar_int rfl (by decide) (by decide) (by exact rfl) ?_
  refine AW_putR dX12_init_874 (Or.inr (Or.inl ⟨pfX12_59, rfl⟩)) (by exact ⟨by decide, Nat.le_of_ble_eq_true rfl, hk0⟩) ?_
  refine AW_aload_n dX12_init_877 rfl ?_
  refine AW_bipush dX12_init_878 ?_
  refine AW_newaN (c := 84) (n := 108) dX12_init_880 (Or.inl ⟨rfl, rfl⟩) ar_int rfl (by decide) (by decide) (by exact rfl) ?_
  refine AW_putR dX12_init_882 (Or.inr (Or.inl ⟨pfX12_62, rfl⟩)) (by exact ⟨by decide, Nat.le_of_ble_eq_true rfl, hk0⟩) ?_
  refine AW_aload_n dX12_init_885 rfl ?_
  refine AW_bipush dX12_init_886 ?_
  refine AW_newaN (c := 84) (n := 109) dX12_init_888 (Or.inl ⟨rfl, rfl⟩) ar_int rfl (by decide) (by decide) (by exact rfl) ?_
  refine AW_putR dX12_init_890 (Or.inr (Or.inl ⟨pfX12_65, rfl⟩)) (by exact ⟨by decide, Nat.le_of_ble_eq_true rfl, hk0⟩) ?_
  refine AW_aload_n dX12_init_893 rfl ?_
  refine AW_sipush dX12_init_894 ?_
  refine AW_newaN (c := 2800) (n := 110) dX12_init_897 (Or.inl ⟨rfl, rfl⟩) ar_int rfl (by decide) (by decide) (by exact rfl) ?_
  refine AW_putR dX12_init_899 (Or.inr (Or.inl ⟨pfX12_68, rfl⟩)) (by exact ⟨by decide, Nat.le_of_ble_eq_true rfl, hk0⟩) ?_
  refine AW_aload_n dX12_init_902 rfl ?_
  refine AW_sipush dX12_init_903 ?_
  refine AW_newaN (c := 2800) (n := 111) dX12_init_906 (Or.inl ⟨rfl, rfl⟩) ar_int rfl (by decide) (by decide) (by exact rfl) ?_
  refine AW_putR dX12_init_908 (Or.inr (Or.inl ⟨pfX12_71, rfl⟩)) (by exact ⟨by decide, Nat.le_of_ble_eq_true rfl, hk0⟩) ?_
  refine AW_aload_n dX12_init_911 rfl ?_
  refine AW_bipush dX12_init_912 ?_
  refine AW_newaN (c := 40) (n := 112) dX12_init_914 (Or.inl ⟨rfl, rfl⟩) ar_int rfl (by decide) (by decide) (by exact rfl) ?_
  refine AW_putR dX12_init_916 (Or.inr (Or.inl ⟨pfX12_74, rfl⟩)) (by exact ⟨by decide, Nat.le_of_ble_eq_true rfl, hk0⟩) ?_
  refine AW_aload_n dX12_init_919 rfl ?_
  refine AW_iconst dX12_init_920 ?_
  refine AW_putI dX12_init_921 (Or.inl pfX12_77) (by exact ⟨by decide, Nat.le_of_ble_eq_true rfl, hk0⟩) ?_
  refine AW_aload_n dX12_init_924 rfl ?_
  refine AW_bipush dX12_init_925 ?_
  refine AW_newaN (c := 40) (n := 113) dX12_init_927 (Or.inl ⟨rfl, rfl⟩) ar_int rfl (by decide) (by decide) (by exact rfl) ?_
  refine AW_putR dX12_init_929 (Or.inr (Or.inl ⟨pfX12_80, rfl⟩)) (by exact ⟨by decide, Nat.le_of_ble_eq_true rfl, hk0⟩) ?_
  refine AW_aload_n dX12_init_932 rfl ?_
  refine AW_bipush dX12_init_933 ?_
  refine AW_newaN (c := 40) (n := 114) dX12_init_935 (Or.inl ⟨rfl, rfl⟩) ar_int rfl (by decide) (by decide) (by exact rfl) ?_
  refine AW_putR dX12_init_937 (Or.inr (Or.inl ⟨pfX12_83, rfl⟩)) (by exact ⟨by decide, Nat.le_of_ble_eq_true rfl, hk0⟩) ?_
  refine AW_aload_n dX12_init_940 rfl ?_
  refine AW_bipush dX12_init_941 ?_
  refine AW_newaN (c := 40) (n := 115) dX12_init_943 (Or.inl ⟨rfl, rfl⟩) ar_int rfl (by decide) (by decide) (by exact rfl) ?_
  refine AW_putR dX12_init_945 (Or.inr (Or.inl ⟨pfX12_86, rfl⟩)) (by exact ⟨by decide, Nat.le_of_ble_eq_true rfl, hk0⟩) ?_
  refine AW_aload_n dX12_init_948 rfl ?_
  refine AW_bipush dX12_init_949 ?_
  refine AW_newaN (c := 40) (n := 116) dX12_init_951 (Or.inl ⟨rfl, rfl⟩) ar_int rfl (by decide) (by decide) (by exact rfl) ?_
  refine AW_putR dX12_init_953 (Or.inr (Or.inl ⟨pfX12_89, rfl⟩)) (by exact ⟨by decide, Nat.le_of_ble_eq_true rfl, hk0⟩) ?_
  refine AW_aload_n dX12_init_956 rfl ?_
  refine AW_bipush dX12_init_957 ?_
  refine AW_newaN (c := 40) (n := 117) dX12_init_959 (Or.inl ⟨rfl, rfl⟩) ar_int rfl (by decide) (by decide) (by exact rfl) ?_
  refine AW_putR dX12_init_961 (Or.inr (Or.inl ⟨pfX12_92, rfl⟩)) (by exact ⟨by decide, Nat.le_of_ble_eq_true rfl, hk0⟩) ?_
  refine AW_aload_n dX12_init_964 rfl ?_
  refine AW_bipush dX12_init_965 ?_
  refine AW_newaN (c := 40) (n := 118) dX12_init_967 (Or.inl ⟨rfl, rfl⟩) ar_int rfl (by decide) (by decide) (by exact rfl) ?_
  refine AW_putR dX12_init_969 (Or.inr (Or.inl ⟨pfX12_95, rfl⟩)) (by exact ⟨by decide, Nat.le_of_ble_eq_true rfl, hk0⟩) ?_
  refine AW_aload_n dX12_init_972 rfl ?_
  refine AW_bipush dX12_init_973 ?_
  refine AW_newaN (c := 40) (n := 119) dX12_init_975 (Or.inl ⟨rfl, rfl⟩) ar_int rfl (by decide) (by decide) (by exact rfl) ?_
  refine AW_putR dX12_init_977 (Or.inr (Or.inl ⟨pfX12_98, rfl⟩)) (by exact ⟨by decide, Nat.le_of_ble_eq_true rfl, hk0⟩) ?_
  refine AW_aload_n dX12_init_980 rfl ?_
  refine AW_bipush dX12_init_981 ?_
  refine AW_newaN (c := 40) (n := 120) dX12_init_983 (Or.inr (Or.inr ⟨rfl, rfl⟩)) ar_bool rfl (by decide) (by decide) (by exact rfl) ?_
  refine AW_putR dX12_init_985 (Or.inr (Or.inl ⟨pfX12_101, rfl⟩)) (by exact ⟨by decide, Nat.le_of_ble_eq_true rfl, hk0⟩) ?_
  refine AW_aload_n dX12_init_988 rfl ?_
  refine AW_bipush dX12_init_989 ?_
  refine AW_newaN (c := 40) (n := 121) dX12_init_991 (Or.inl ⟨rfl, rfl⟩) ar_int rfl (by decide) (by decide) (by exact rfl) ?_
  refine AW_putR dX12_init_993 (Or.inr (Or.inl ⟨pfX12_105, rfl⟩)) (by exact ⟨by decide, Nat.le_of_ble_eq_true rfl, hk0⟩) ?_
  refine AW_aload_n dX12_init_996 rfl ?_
  refine AW_bipush dX12_init_997 ?_
  refine AW_newaN (c := 40) (n := 122) dX12_init_999 (Or.inl ⟨rfl, rfl⟩) ar_int rfl (by decide) (by decide) (by exact rfl) ?_
  refine AW_putR dX12_init_1001 (Or.inr (Or.inl ⟨pfX12_108, rfl⟩)) (by exact ⟨by decide, Nat.le_of_ble_eq_true rfl, hk0⟩) ?_
  refine AW_aload_n dX12_init_1004 rfl ?_
  refine AW_bipush dX12_init_1005 ?_
  refine AW_newaN (c := 7) (n := 123) dX12_init_1007 (Or.inl ⟨rfl, rfl⟩) ar_int rfl (by decide) (by decide) (by exact rfl) ?_
  refine AW_putR dX12_init_1009 (Or.inr (Or.inl ⟨pfX12_111, rfl⟩)) (by exact ⟨by decide, Nat.le_of_ble_eq_true rfl, hk0⟩) ?_
  refine AW_aload_n dX12_init_1012 rfl ?_
  refine AW_sipush dX12_init_1013 ?_
  refine AW_newaN (c := 420) (n := 124) dX12_init_1016 (Or.inl ⟨rfl, rfl⟩) ar_int rfl (by decide) (by decide) (by exact rfl) ?_
  refine AW_putR dX12_init_1018 (Or.inr (Or.inl ⟨pfX12_114, rfl⟩)) (by exact ⟨by decide, Nat.le_of_ble_eq_true rfl, hk0⟩) ?_
  refine AW_aload_n dX12_init_1021 rfl ?_
  refine AW_iconst dX12_init_1022 ?_
  refine AW_putI dX12_init_1023 (Or.inl pfX12_117) (by exact ⟨by decide, Nat.le_of_ble_eq_true rfl, hk0⟩) ?_
  refine AW_aload_n dX12_init_1026 rfl ?_
  refine AW_bipush dX12_init_1027 ?_
  refine AW_newaN (c := 98) (n := 125) dX12_init_1029 (Or.inl ⟨rfl, rfl⟩) ar_int rfl (by decide) (by decide) (by exact rfl) ?_
  refine AW_putR dX12_init_1031 (Or.inr (Or.inl ⟨pfX12_120, rfl⟩)) (by exact ⟨by decide, Nat.le_of_ble_eq_true rfl, hk0⟩) ?_
  refine AW_aload_n dX12_init_1034 rfl ?_
  refine AW_bipush dX12_init_1035 ?_
  refine AW_newaN (c := 7) (n := 126) dX12_init_1037 (Or.inl ⟨rfl, rfl⟩) ar_int rfl (by decide) (by decide) (by exact rfl) ?_
  refine AW_putR dX12_init_1039 (Or.inr (Or.inl ⟨pfX12_123, rfl⟩)) (by exact ⟨by decide, Nat.le_of_ble_eq_true rfl, hk0⟩) ?_
  refine AW_aload_n dX12_init_1042 rfl ?_
  refine AW_ldc (35280) dX12_init_1043 ctX12_126 ?_
  refine AW_newaN (c := 35280) (n := 127) dX12_init_1045 (Or.inl ⟨rfl, rfl⟩) ar_int rfl (by decide) (by decide) (by exact rfl) ?_
  refine AW_putR dX12_init_1047 (Or.inr (Or.inl ⟨pfX12_127, rfl⟩)) (by exact ⟨by decide, Nat.le_of_ble_eq_true rfl, hk0⟩) ?_
  refine AW_aload_n dX12_init_1050 rfl ?_
  refine AW_bipush dX12_init_1051 ?_
  refine AW_newaN (c := 7) (n := 128) dX12_init_1053 (Or.inl ⟨rfl, rfl⟩) ar_int rfl (by decide) (by decide) (by exact rfl) ?_
  refine AW_putR dX12_init_1055 (Or.inr (Or.inl ⟨pfX12_130, rfl⟩)) (by exact ⟨by decide, Nat.le_of_ble_eq_true rfl, hk0⟩) ?_
  refine AW_aload_n dX12_init_1058 rfl ?_
  refine AW_bipush dX12_init_1059 ?_
  refine AW_newaN (c := 7) (n := 129) dX12_init_1061 (Or.inl ⟨rfl, rfl⟩) ar_int rfl (by decide) (by decide) (by exact rfl) ?_
  refine AW_putR dX12_init_1063 (Or.inr (Or.inl ⟨pfX12_133, rfl⟩)) (by exact ⟨by decide, Nat.le_of_ble_eq_true rfl, hk0⟩) ?_
  refine AW_aload_n dX12_init_1066 rfl ?_
  refine AW_bipush dX12_init_1067 ?_
  refine AW_newaN (c := 7) (n := 130) dX12_init_1069 (Or.inl ⟨rfl, rfl⟩) ar_int rfl (by decide) (by decide) (by exact rfl) ?_
  refine AW_putR dX12_init_1071 (Or.inr (Or.inl ⟨pfX12_136, rfl⟩)) (by exact ⟨by decide, Nat.le_of_ble_eq_true rfl, hk0⟩) ?_
  refine AW_aload_n dX12_init_1074 rfl ?_
  refine AW_bipush dX12_init_1075 ?_
  refine AW_newaN (c := 7) (n := 131) dX12_init_1077 (Or.inl ⟨rfl, rfl⟩) ar_int rfl (by decide) (by decide) (by exact rfl) ?_
  refine AW_putR dX12_init_1079 (Or.inr (Or.inl ⟨pfX12_139, rfl⟩)) (by exact ⟨by decide, Nat.le_of_ble_eq_true rfl, hk0⟩) ?_
  refine AW_vret dX12_init_1082 rfl ?_
  exact ⟨rfl, rfl⟩
