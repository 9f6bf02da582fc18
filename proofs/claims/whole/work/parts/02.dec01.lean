theorem dX3_describe_76 : decode cX3_describe 76 = .ok (.iload 5, 2) := by decide +kernel
theorem dX3_describe_78 : decode cX3_describe 78 = .ok (.iload_n 2, 1) := by decide +kernel
theorem dX3_describe_79 : decode cX3_describe 79 = .ok (.iadd, 1) := by decide +kernel
theorem dX3_describe_80 : decode cX3_describe 80 = .ok (.iload_n 3, 1) := by decide +kernel
theorem dX3_describe_81 : decode cX3_describe 81 = .ok (.iastore, 1) := by decide +kernel
theorem dX3_describe_82 : decode cX3_describe 82 = .ok (.aload_n 0, 1) := by decide +kernel
theorem dX3_describe_83 : decode cX3_describe 83 = .ok (.getfield 18, 3) := by decide +kernel
theorem dX3_describe_86 : decode cX3_describe 86 = .ok (.iload 5, 2) := by decide +kernel
theorem dX3_describe_88 : decode cX3_describe 88 = .ok (.iload_n 2, 1) := by decide +kernel
theorem dX3_describe_89 : decode cX3_describe 89 = .ok (.iadd, 1) := by decide +kernel
theorem dX3_describe_90 : decode cX3_describe 90 = .ok (.iload 4, 2) := by decide +kernel
theorem dX3_describe_92 : decode cX3_describe 92 = .ok (.iastore, 1) := by decide +kernel
theorem dX3_describe_93 : decode cX3_describe 93 = .ok (.aload_n 0, 1) := by decide +kernel
theorem dX3_describe_94 : decode cX3_describe 94 = .ok (.dup, 1) := by decide +kernel
theorem dX3_describe_95 : decode cX3_describe 95 = .ok (.getfield 33, 3) := by decide +kernel
theorem dX3_describe_98 : decode cX3_describe 98 = .ok (.iconst 1, 1) := by decide +kernel
theorem dX3_describe_99 : decode cX3_describe 99 = .ok (.iadd, 1) := by decide +kernel
theorem dX3_describe_100 : decode cX3_describe 100 = .ok (.putfield 33, 3) := by decide +kernel
theorem dX3_describe_103 : decode cX3_describe 103 = .ok (.iconst 1, 1) := by decide +kernel
theorem dX3_describe_104 : decode cX3_describe 104 = .ok (.ireturn, 1) := by decide +kernel
theorem dX3_tell_0 : decode cX3_tell 0 = .ok (.aload_n 0, 1) := by decide +kernel
theorem dX3_tell_1 : decode cX3_tell 1 = .ok (.iload_n 1, 1) := by decide +kernel
theorem dX3_tell_2 : decode cX3_tell 2 = .ok (.iload_n 2, 1) := by decide +kernel
theorem dX3_tell_3 : decode cX3_tell 3 = .ok (.invokevirtual 41, 3) := by decide +kernel
theorem dX3_tell_6 : decode cX3_tell 6 = .ok (.ifCond .eq 42, 3) := by decide +kernel
theorem dX3_tell_9 : decode cX3_tell 9 = .ok (.aload_n 0, 1) := by decide +kernel
theorem dX3_tell_10 : decode cX3_tell 10 = .ok (.iconst 1, 1) := by decide +kernel
theorem dX3_tell_11 : decode cX3_tell 11 = .ok (.iload_n 1, 1) := by decide +kernel
theorem dX3_tell_12 : decode cX3_tell 12 = .ok (.isub, 1) := by decide +kernel
theorem dX3_tell_13 : decode cX3_tell 13 = .ok (.iload_n 3, 1) := by decide +kernel
theorem dX3_tell_14 : decode cX3_tell 14 = .ok (.invokevirtual 41, 3) := by decide +kernel
theorem dX3_tell_17 : decode cX3_tell 17 = .ok (.ifCond .eq 31, 3) := by decide +kernel
theorem dX3_tell_20 : decode cX3_tell 20 = .ok (.aload_n 0, 1) := by decide +kernel
theorem dX3_tell_21 : decode cX3_tell 21 = .ok (.getfield 21, 3) := by decide +kernel
theorem dX3_tell_24 : decode cX3_tell 24 = .ok (.iload_n 1, 1) := by decide +kernel
theorem dX3_tell_25 : decode cX3_tell 25 = .ok (.bipush 6, 2) := by decide +kernel
theorem dX3_tell_27 : decode cX3_tell 27 = .ok (.imul, 1) := by decide +kernel
theorem dX3_tell_28 : decode cX3_tell 28 = .ok (.iload_n 2, 1) := by decide +kernel
theorem dX3_tell_29 : decode cX3_tell 29 = .ok (.iadd, 1) := by decide +kernel
theorem dX3_tell_30 : decode cX3_tell 30 = .ok (.bipush 6, 2) := by decide +kernel
theorem dX3_tell_32 : decode cX3_tell 32 = .ok (.imul, 1) := by decide +kernel
theorem dX3_tell_33 : decode cX3_tell 33 = .ok (.iload_n 3, 1) := by decide +kernel
theorem dX3_tell_34 : decode cX3_tell 34 = .ok (.iadd, 1) := by decide +kernel
theorem dX3_tell_35 : decode cX3_tell 35 = .ok (.iload 4, 2) := by decide +kernel
theorem dX3_tell_37 : decode cX3_tell 37 = .ok (.iastore, 1) := by decide +kernel
theorem dX3_tell_38 : decode cX3_tell 38 = .ok (.aload_n 0, 1) := by decide +kernel
theorem dX3_tell_39 : decode cX3_tell 39 = .ok (.dup, 1) := by decide +kernel
theorem dX3_tell_40 : decode cX3_tell 40 = .ok (.getfield 33, 3) := by decide +kernel
theorem dX3_tell_43 : decode cX3_tell 43 = .ok (.iconst 1, 1) := by decide +kernel
theorem dX3_tell_44 : decode cX3_tell 44 = .ok (.iadd, 1) := by decide +kernel
theorem dX3_tell_45 : decode cX3_tell 45 = .ok (.putfield 33, 3) := by decide +kernel
theorem dX3_tell_48 : decode cX3_tell 48 = .ok (.return_, 1) := by decide +kernel
theorem dX3_change_0 : decode cX3_change 0 = .ok (.iload_n 1, 1) := by decide +kernel
theorem dX3_change_1 : decode cX3_change 1 = .ok (.ifCond .lt 30, 3) := by decide +kernel
theorem dX3_change_4 : decode cX3_change 4 = .ok (.iload_n 1, 1) := by decide +kernel
theorem dX3_change_5 : decode cX3_change 5 = .ok (.aload_n 0, 1) := by decide +kernel
theorem dX3_change_6 : decode cX3_change 6 = .ok (.getfield 24, 3) := by decide +kernel
theorem dX3_change_9 : decode cX3_change 9 = .ok (.arraylength, 1) := by decide +kernel
theorem dX3_change_10 : decode cX3_change 10 = .ok (.if_icmp .ge 21, 3) := by decide +kernel
theorem dX3_change_13 : decode cX3_change 13 = .ok (.iload_n 2, 1) := by decide +kernel
theorem dX3_change_14 : decode cX3_change 14 = .ok (.getstatic 45, 3) := by decide +kernel
theorem dX3_change_17 : decode cX3_change 17 = .ok (.iload_n 1, 1) := by decide +kernel
theorem dX3_change_18 : decode cX3_change 18 = .ok (.iaload, 1) := by decide +kernel
theorem dX3_change_19 : decode cX3_change 19 = .ok (.if_icmp .lt 12, 3) := by decide +kernel
theorem dX3_change_22 : decode cX3_change 22 = .ok (.iload_n 2, 1) := by decide +kernel
theorem dX3_change_23 : decode cX3_change 23 = .ok (.getstatic 48, 3) := by decide +kernel
theorem dX3_change_26 : decode cX3_change 26 = .ok (.iload_n 1, 1) := by decide +kernel
theorem dX3_change_27 : decode cX3_change 27 = .ok (.iaload, 1) := by decide +kernel
theorem dX3_change_28 : decode cX3_change 28 = .ok (.if_icmp .le 5, 3) := by decide +kernel
theorem dX3_change_31 : decode cX3_change 31 = .ok (.iconst 0, 1) := by decide +kernel
theorem dX3_change_32 : decode cX3_change 32 = .ok (.ireturn, 1) := by decide +kernel
theorem dX3_change_33 : decode cX3_change 33 = .ok (.aload_n 0, 1) := by decide +kernel
theorem dX3_change_34 : decode cX3_change 34 = .ok (.getfield 24, 3) := by decide +kernel
theorem dX3_change_37 : decode cX3_change 37 = .ok (.iload_n 1, 1) := by decide +kernel
theorem dX3_change_38 : decode cX3_change 38 = .ok (.iload_n 2, 1) := by decide +kernel
theorem dX3_change_39 : decode cX3_change 39 = .ok (.iastore, 1) := by decide +kernel
theorem dX3_change_40 : decode cX3_change 40 = .ok (.aload_n 0, 1) := by decide +kernel
theorem dX3_change_41 : decode cX3_change 41 = .ok (.dup, 1) := by decide +kernel
theorem dX3_change_42 : decode cX3_change 42 = .ok (.getfield 33, 3) := by decide +kernel
theorem dX3_change_45 : decode cX3_change 45 = .ok (.iconst 1, 1) := by decide +kernel
theorem dX3_change_46 : decode cX3_change 46 = .ok (.iadd, 1) := by decide +kernel
theorem dX3_change_47 : decode cX3_change 47 = .ok (.putfield 33, 3) := by decide +kernel
theorem dX3_change_50 : decode cX3_change 50 = .ok (.iconst 1, 1) := by decide +kernel
theorem dX3_change_51 : decode cX3_change 51 = .ok (.ireturn, 1) := by decide +kernel
theorem dX3_setting_0 : decode cX3_setting 0 = .ok (.iload_n 1, 1) := by decide +kernel
theorem dX3_setting_1 : decode cX3_setting 1 = .ok (.ifCond .lt 21, 3) := by decide +kernel
theorem dX3_setting_4 : decode cX3_setting 4 = .ok (.iload_n 1, 1) := by decide +kernel
theorem dX3_setting_5 : decode cX3_setting 5 = .ok (.aload_n 0, 1) := by decide +kernel
theorem dX3_setting_6 : decode cX3_setting 6 = .ok (.getfield 24, 3) := by decide +kernel
theorem dX3_setting_9 : decode cX3_setting 9 = .ok (.arraylength, 1) := by decide +kernel
theorem dX3_setting_10 : decode cX3_setting 10 = .ok (.if_icmp .ge 12, 3) := by decide +kernel
theorem dX3_setting_13 : decode cX3_setting 13 = .ok (.aload_n 0, 1) := by decide +kernel
theorem dX3_setting_14 : decode cX3_setting 14 = .ok (.getfield 24, 3) := by decide +kernel
theorem dX3_setting_17 : decode cX3_setting 17 = .ok (.iload_n 1, 1) := by decide +kernel
theorem dX3_setting_18 : decode cX3_setting 18 = .ok (.iaload, 1) := by decide +kernel
theorem dX3_setting_19 : decode cX3_setting 19 = .ok (.goto 4, 3) := by decide +kernel
theorem dX3_setting_22 : decode cX3_setting 22 = .ok (.iconst 0, 1) := by decide +kernel
theorem dX3_setting_23 : decode cX3_setting 23 = .ok (.ireturn, 1) := by decide +kernel
theorem dX3_lookOf_0 : decode cX3_lookOf 0 = .ok (.aload_n 0, 1) := by decide +kernel
theorem dX3_lookOf_1 : decode cX3_lookOf 1 = .ok (.iload_n 1, 1) := by decide +kernel
theorem dX3_lookOf_2 : decode cX3_lookOf 2 = .ok (.iload_n 2, 1) := by decide +kernel
theorem dX3_lookOf_3 : decode cX3_lookOf 3 = .ok (.invokevirtual 41, 3) := by decide +kernel
theorem dX3_lookOf_6 : decode cX3_lookOf 6 = .ok (.ifCond .eq 17, 3) := by decide +kernel
theorem dX3_lookOf_9 : decode cX3_lookOf 9 = .ok (.aload_n 0, 1) := by decide +kernel
theorem dX3_lookOf_10 : decode cX3_lookOf 10 = .ok (.getfield 15, 3) := by decide +kernel
theorem dX3_lookOf_13 : decode cX3_lookOf 13 = .ok (.iload_n 1, 1) := by decide +kernel
theorem dX3_lookOf_14 : decode cX3_lookOf 14 = .ok (.bipush 6, 2) := by decide +kernel
theorem dX3_lookOf_16 : decode cX3_lookOf 16 = .ok (.imul, 1) := by decide +kernel
theorem dX3_lookOf_17 : decode cX3_lookOf 17 = .ok (.iload_n 2, 1) := by decide +kernel
theorem dX3_lookOf_18 : decode cX3_lookOf 18 = .ok (.iadd, 1) := by decide +kernel
theorem dX3_lookOf_19 : decode cX3_lookOf 19 = .ok (.iaload, 1) := by decide +kernel
theorem dX3_lookOf_20 : decode cX3_lookOf 20 = .ok (.goto 4, 3) := by decide +kernel
theorem dX3_lookOf_23 : decode cX3_lookOf 23 = .ok (.iconst 0, 1) := by decide +kernel
theorem dX3_lookOf_24 : decode cX3_lookOf 24 = .ok (.ireturn, 1) := by decide +kernel
theorem dX3_oftenOf_0 : decode cX3_oftenOf 0 = .ok (.aload_n 0, 1) := by decide +kernel
theorem dX3_oftenOf_1 : decode cX3_oftenOf 1 = .ok (.iload_n 1, 1) := by decide +kernel
theorem dX3_oftenOf_2 : decode cX3_oftenOf 2 = .ok (.iload_n 2, 1) := by decide +kernel
theorem dX3_oftenOf_3 : decode cX3_oftenOf 3 = .ok (.invokevirtual 41, 3) := by decide +kernel
theorem dX3_oftenOf_6 : decode cX3_oftenOf 6 = .ok (.ifCond .eq 17, 3) := by decide +kernel
theorem dX3_oftenOf_9 : decode cX3_oftenOf 9 = .ok (.aload_n 0, 1) := by decide +kernel
theorem dX3_oftenOf_10 : decode cX3_oftenOf 10 = .ok (.getfield 18, 3) := by decide +kernel
theorem dX3_oftenOf_13 : decode cX3_oftenOf 13 = .ok (.iload_n 1, 1) := by decide +kernel
theorem dX3_oftenOf_14 : decode cX3_oftenOf 14 = .ok (.bipush 6, 2) := by decide +kernel
theorem dX3_oftenOf_16 : decode cX3_oftenOf 16 = .ok (.imul, 1) := by decide +kernel
theorem dX3_oftenOf_17 : decode cX3_oftenOf 17 = .ok (.iload_n 2, 1) := by decide +kernel
theorem dX3_oftenOf_18 : decode cX3_oftenOf 18 = .ok (.iadd, 1) := by decide +kernel
theorem dX3_oftenOf_19 : decode cX3_oftenOf 19 = .ok (.iaload, 1) := by decide +kernel
theorem dX3_oftenOf_20 : decode cX3_oftenOf 20 = .ok (.goto 4, 3) := by decide +kernel
theorem dX3_oftenOf_23 : decode cX3_oftenOf 23 = .ok (.iconst 0, 1) := by decide +kernel
theorem dX3_oftenOf_24 : decode cX3_oftenOf 24 = .ok (.ireturn, 1) := by decide +kernel
theorem dX3_worthTo_0 : decode cX3_worthTo 0 = .ok (.aload_n 0, 1) := by decide +kernel
theorem dX3_worthTo_1 : decode cX3_worthTo 1 = .ok (.iload_n 1, 1) := by decide +kernel
theorem dX3_worthTo_2 : decode cX3_worthTo 2 = .ok (.iload_n 2, 1) := by decide +kernel
theorem dX3_worthTo_3 : decode cX3_worthTo 3 = .ok (.invokevirtual 41, 3) := by decide +kernel
theorem dX3_worthTo_6 : decode cX3_worthTo 6 = .ok (.ifCond .eq 14, 3) := by decide +kernel
theorem dX3_worthTo_9 : decode cX3_worthTo 9 = .ok (.aload_n 0, 1) := by decide +kernel
theorem dX3_worthTo_10 : decode cX3_worthTo 10 = .ok (.iconst 1, 1) := by decide +kernel
theorem dX3_worthTo_11 : decode cX3_worthTo 11 = .ok (.iload_n 1, 1) := by decide +kernel
theorem dX3_worthTo_12 : decode cX3_worthTo 12 = .ok (.isub, 1) := by decide +kernel
theorem dX3_worthTo_13 : decode cX3_worthTo 13 = .ok (.iload_n 3, 1) := by decide +kernel
theorem dX3_worthTo_14 : decode cX3_worthTo 14 = .ok (.invokevirtual 41, 3) := by decide +kernel
theorem dX3_worthTo_17 : decode cX3_worthTo 17 = .ok (.ifCond .ne 5, 3) := by decide +kernel
theorem dX3_worthTo_20 : decode cX3_worthTo 20 = .ok (.iconst 0, 1) := by decide +kernel
theorem dX3_worthTo_21 : decode cX3_worthTo 21 = .ok (.ireturn, 1) := by decide +kernel
theorem dX3_worthTo_22 : decode cX3_worthTo 22 = .ok (.aload_n 0, 1) := by decide +kernel
theorem dX3_worthTo_23 : decode cX3_worthTo 23 = .ok (.getfield 21, 3) := by decide +kernel
theorem dX3_worthTo_26 : decode cX3_worthTo 26 = .ok (.iload_n 1, 1) := by decide +kernel
theorem dX3_worthTo_27 : decode cX3_worthTo 27 = .ok (.bipush 6, 2) := by decide +kernel
theorem dX3_worthTo_29 : decode cX3_worthTo 29 = .ok (.imul, 1) := by decide +kernel
theorem dX3_worthTo_30 : decode cX3_worthTo 30 = .ok (.iload_n 2, 1) := by decide +kernel
theorem dX3_worthTo_31 : decode cX3_worthTo 31 = .ok (.iadd, 1) := by decide +kernel
theorem dX3_worthTo_32 : decode cX3_worthTo 32 = .ok (.bipush 6, 2) := by decide +kernel
theorem dX3_worthTo_34 : decode cX3_worthTo 34 = .ok (.imul, 1) := by decide +kernel
theorem dX3_worthTo_35 : decode cX3_worthTo 35 = .ok (.iload_n 3, 1) := by decide +kernel
theorem dX3_worthTo_36 : decode cX3_worthTo 36 = .ok (.iadd, 1) := by decide +kernel
theorem dX3_worthTo_37 : decode cX3_worthTo 37 = .ok (.iaload, 1) := by decide +kernel
theorem dX3_worthTo_38 : decode cX3_worthTo 38 = .ok (.istore 4, 2) := by decide +kernel
theorem dX3_worthTo_40 : decode cX3_worthTo 40 = .ok (.iload 4, 2) := by decide +kernel
theorem dX3_worthTo_42 : decode cX3_worthTo 42 = .ok (.iconst (-1), 1) := by decide +kernel
theorem dX3_worthTo_43 : decode cX3_worthTo 43 = .ok (.if_icmp .ne 19, 3) := by decide +kernel
theorem dX3_worthTo_46 : decode cX3_worthTo 46 = .ok (.aload_n 0, 1) := by decide +kernel
theorem dX3_worthTo_47 : decode cX3_worthTo 47 = .ok (.getfield 15, 3) := by decide +kernel
theorem dX3_worthTo_50 : decode cX3_worthTo 50 = .ok (.iconst 1, 1) := by decide +kernel
theorem dX3_worthTo_51 : decode cX3_worthTo 51 = .ok (.iload_n 1, 1) := by decide +kernel
theorem dX3_worthTo_52 : decode cX3_worthTo 52 = .ok (.isub, 1) := by decide +kernel
theorem dX3_worthTo_53 : decode cX3_worthTo 53 = .ok (.bipush 6, 2) := by decide +kernel
theorem dX3_worthTo_55 : decode cX3_worthTo 55 = .ok (.imul, 1) := by decide +kernel
theorem dX3_worthTo_56 : decode cX3_worthTo 56 = .ok (.iload_n 3, 1) := by decide +kernel
theorem dX3_worthTo_57 : decode cX3_worthTo 57 = .ok (.iadd, 1) := by decide +kernel
theorem dX3_worthTo_58 : decode cX3_worthTo 58 = .ok (.iaload, 1) := by decide +kernel
theorem dX3_worthTo_59 : decode cX3_worthTo 59 = .ok (.goto 5, 3) := by decide +kernel
theorem dX3_worthTo_62 : decode cX3_worthTo 62 = .ok (.iload 4, 2) := by decide +kernel
theorem dX3_worthTo_64 : decode cX3_worthTo 64 = .ok (.ireturn, 1) := by decide +kernel
theorem dX3_bestLook_0 : decode cX3_bestLook 0 = .ok (.iconst 0, 1) := by decide +kernel
theorem dX3_bestLook_1 : decode cX3_bestLook 1 = .ok (.istore_n 2, 1) := by decide +kernel
theorem dX3_bestLook_2 : decode cX3_bestLook 2 = .ok (.iconst 0, 1) := by decide +kernel
theorem dX3_bestLook_3 : decode cX3_bestLook 3 = .ok (.istore_n 3, 1) := by decide +kernel
theorem dX3_bestLook_4 : decode cX3_bestLook 4 = .ok (.iload_n 3, 1) := by decide +kernel
theorem dX3_bestLook_5 : decode cX3_bestLook 5 = .ok (.bipush 6, 2) := by decide +kernel
theorem dX3_bestLook_7 : decode cX3_bestLook 7 = .ok (.if_icmp .ge 34, 3) := by decide +kernel
theorem dX3_bestLook_10 : decode cX3_bestLook 10 = .ok (.aload_n 0, 1) := by decide +kernel
theorem dX3_bestLook_11 : decode cX3_bestLook 11 = .ok (.iload_n 1, 1) := by decide +kernel
theorem dX3_bestLook_12 : decode cX3_bestLook 12 = .ok (.iload_n 3, 1) := by decide +kernel
theorem dX3_bestLook_13 : decode cX3_bestLook 13 = .ok (.invokevirtual 41, 3) := by decide +kernel
theorem dX3_bestLook_16 : decode cX3_bestLook 16 = .ok (.ifCond .eq 25, 3) := by decide +kernel
theorem dX3_bestLook_19 : decode cX3_bestLook 19 = .ok (.iload_n 2, 1) := by decide +kernel
theorem dX3_bestLook_20 : decode cX3_bestLook 20 = .ok (.aload_n 0, 1) := by decide +kernel
theorem dX3_bestLook_21 : decode cX3_bestLook 21 = .ok (.getfield 15, 3) := by decide +kernel
theorem dX3_bestLook_24 : decode cX3_bestLook 24 = .ok (.iload_n 1, 1) := by decide +kernel
theorem dX3_bestLook_25 : decode cX3_bestLook 25 = .ok (.bipush 6, 2) := by decide +kernel
theorem dX3_bestLook_27 : decode cX3_bestLook 27 = .ok (.imul, 1) := by decide +kernel
theorem dX3_bestLook_28 : decode cX3_bestLook 28 = .ok (.iload_n 3, 1) := by decide +kernel
theorem dX3_bestLook_29 : decode cX3_bestLook 29 = .ok (.iadd, 1) := by decide +kernel
theorem dX3_bestLook_30 : decode cX3_bestLook 30 = .ok (.iaload, 1) := by decide +kernel
theorem dX3_bestLook_31 : decode cX3_bestLook 31 = .ok (.invokestatic 51, 3) := by decide +kernel
theorem dX3_bestLook_34 : decode cX3_bestLook 34 = .ok (.istore_n 2, 1) := by decide +kernel
theorem dX3_bestLook_35 : decode cX3_bestLook 35 = .ok (.iinc 3 1, 3) := by decide +kernel
theorem dX3_bestLook_38 : decode cX3_bestLook 38 = .ok (.goto (-34), 3) := by decide +kernel
theorem dX3_bestLook_41 : decode cX3_bestLook 41 = .ok (.iload_n 2, 1) := by decide +kernel
theorem dX3_bestLook_42 : decode cX3_bestLook 42 = .ok (.ireturn, 1) := by decide +kernel
theorem dX3_falls_0 : decode cX3_falls 0 = .ok (.iconst 1, 1) := by decide +kernel
theorem dX3_falls_1 : decode cX3_falls 1 = .ok (.istore_n 2, 1) := by decide +kernel
theorem dX3_falls_2 : decode cX3_falls 2 = .ok (.iload_n 2, 1) := by decide +kernel
theorem dX3_falls_3 : decode cX3_falls 3 = .ok (.aload_n 0, 1) := by decide +kernel
theorem dX3_falls_4 : decode cX3_falls 4 = .ok (.iload_n 1, 1) := by decide +kernel
theorem dX3_falls_5 : decode cX3_falls 5 = .ok (.invokevirtual 57, 3) := by decide +kernel
theorem dX3_falls_8 : decode cX3_falls 8 = .ok (.if_icmp .ge 28, 3) := by decide +kernel
theorem dX3_falls_11 : decode cX3_falls 11 = .ok (.aload_n 0, 1) := by decide +kernel
theorem dX3_falls_12 : decode cX3_falls 12 = .ok (.iload_n 1, 1) := by decide +kernel
theorem dX3_falls_13 : decode cX3_falls 13 = .ok (.iload_n 2, 1) := by decide +kernel
theorem dX3_falls_14 : decode cX3_falls 14 = .ok (.invokevirtual 61, 3) := by decide +kernel
theorem dX3_falls_17 : decode cX3_falls 17 = .ok (.aload_n 0, 1) := by decide +kernel
theorem dX3_falls_18 : decode cX3_falls 18 = .ok (.iload_n 1, 1) := by decide +kernel
theorem dX3_falls_19 : decode cX3_falls 19 = .ok (.iload_n 2, 1) := by decide +kernel
theorem dX3_falls_20 : decode cX3_falls 20 = .ok (.iconst 1, 1) := by decide +kernel
theorem dX3_falls_21 : decode cX3_falls 21 = .ok (.isub, 1) := by decide +kernel
theorem dX3_falls_22 : decode cX3_falls 22 = .ok (.invokevirtual 61, 3) := by decide +kernel
theorem dX3_falls_25 : decode cX3_falls 25 = .ok (.if_icmp .le 5, 3) := by decide +kernel
theorem dX3_falls_28 : decode cX3_falls 28 = .ok (.iconst 0, 1) := by decide +kernel
theorem dX3_falls_29 : decode cX3_falls 29 = .ok (.ireturn, 1) := by decide +kernel
theorem dX3_falls_30 : decode cX3_falls 30 = .ok (.iinc 2 1, 3) := by decide +kernel
theorem dX3_falls_33 : decode cX3_falls 33 = .ok (.goto (-31), 3) := by decide +kernel
theorem dX3_falls_36 : decode cX3_falls 36 = .ok (.iconst 1, 1) := by decide +kernel
theorem dX3_falls_37 : decode cX3_falls 37 = .ok (.ireturn, 1) := by decide +kernel
theorem dX4_init_0 : decode cX4_init 0 = .ok (.aload_n 0, 1) := by decide +kernel
theorem dX4_init_1 : decode cX4_init 1 = .ok (.invokespecial 1, 3) := by decide +kernel
theorem dX4_init_4 : decode cX4_init 4 = .ok (.aload_n 0, 1) := by decide +kernel
theorem dX4_init_5 : decode cX4_init 5 = .ok (.iload_n 1, 1) := by decide +kernel
theorem dX4_init_6 : decode cX4_init 6 = .ok (.putfield 7, 3) := by decide +kernel
theorem dX4_init_9 : decode cX4_init 9 = .ok (.aload_n 0, 1) := by decide +kernel
theorem dX4_init_10 : decode cX4_init 10 = .ok (.iload_n 2, 1) := by decide +kernel
theorem dX4_init_11 : decode cX4_init 11 = .ok (.putfield 13, 3) := by decide +kernel
theorem dX4_init_14 : decode cX4_init 14 = .ok (.aload_n 0, 1) := by decide +kernel
theorem dX4_init_15 : decode cX4_init 15 = .ok (.iload_n 3, 1) := by decide +kernel
theorem dX4_init_16 : decode cX4_init 16 = .ok (.putfield 16, 3) := by decide +kernel
theorem dX4_init_19 : decode cX4_init 19 = .ok (.aload_n 0, 1) := by decide +kernel
theorem dX4_init_20 : decode cX4_init 20 = .ok (.aload 4, 2) := by decide +kernel
theorem dX4_init_22 : decode cX4_init 22 = .ok (.putfield 19, 3) := by decide +kernel
theorem dX4_init_25 : decode cX4_init 25 = .ok (.return_, 1) := by decide +kernel
theorem dX4_isSingle_0 : decode cX4_isSingle 0 = .ok (.aload_n 0, 1) := by decide +kernel
theorem dX4_isSingle_1 : decode cX4_isSingle 1 = .ok (.getfield 23, 3) := by decide +kernel
theorem dX4_isSingle_4 : decode cX4_isSingle 4 = .ok (.ifnonnull 7, 3) := by decide +kernel
theorem dX4_isSingle_7 : decode cX4_isSingle 7 = .ok (.iconst 1, 1) := by decide +kernel
theorem dX4_isSingle_8 : decode cX4_isSingle 8 = .ok (.goto 4, 3) := by decide +kernel
theorem dX4_isSingle_11 : decode cX4_isSingle 11 = .ok (.iconst 0, 1) := by decide +kernel
theorem dX4_isSingle_12 : decode cX4_isSingle 12 = .ok (.ireturn, 1) := by decide +kernel
theorem dX4_bind_0 : decode cX4_bind 0 = .ok (.aload_n 0, 1) := by decide +kernel
theorem dX4_bind_1 : decode cX4_bind 1 = .ok (.aload_n 1, 1) := by decide +kernel
theorem dX4_bind_2 : decode cX4_bind 2 = .ok (.putfield 23, 3) := by decide +kernel
theorem dX4_bind_5 : decode cX4_bind 5 = .ok (.aload_n 0, 1) := by decide +kernel
theorem dX4_bind_6 : decode cX4_bind 6 = .ok (.iconst 0, 1) := by decide +kernel
theorem dX4_bind_7 : decode cX4_bind 7 = .ok (.putfield 27, 3) := by decide +kernel
theorem dX4_bind_10 : decode cX4_bind 10 = .ok (.aload_n 0, 1) := by decide +kernel
theorem dX4_bind_11 : decode cX4_bind 11 = .ok (.iload_n 2, 1) := by decide +kernel
theorem dX4_bind_12 : decode cX4_bind 12 = .ok (.putfield 30, 3) := by decide +kernel
theorem dX4_bind_15 : decode cX4_bind 15 = .ok (.aload_n 0, 1) := by decide +kernel
theorem dX4_bind_16 : decode cX4_bind 16 = .ok (.iconst 0, 1) := by decide +kernel
theorem dX4_bind_17 : decode cX4_bind 17 = .ok (.putfield 33, 3) := by decide +kernel
theorem dX4_bind_20 : decode cX4_bind 20 = .ok (.return_, 1) := by decide +kernel
theorem dX4_free_0 : decode cX4_free 0 = .ok (.aload_n 0, 1) := by decide +kernel
theorem dX4_free_1 : decode cX4_free 1 = .ok (.aconst_null, 1) := by decide +kernel
theorem dX4_free_2 : decode cX4_free 2 = .ok (.putfield 23, 3) := by decide +kernel
theorem dX4_free_5 : decode cX4_free 5 = .ok (.aload_n 0, 1) := by decide +kernel
theorem dX4_free_6 : decode cX4_free 6 = .ok (.iconst 0, 1) := by decide +kernel
theorem dX4_free_7 : decode cX4_free 7 = .ok (.putfield 27, 3) := by decide +kernel
theorem dX4_free_10 : decode cX4_free 10 = .ok (.return_, 1) := by decide +kernel
theorem dX5_init_0 : decode cX5_init 0 = .ok (.aload_n 0, 1) := by decide +kernel
theorem dX5_init_1 : decode cX5_init 1 = .ok (.invokespecial 3, 3) := by decide +kernel
theorem dX5_init_4 : decode cX5_init 4 = .ok (.aload_n 0, 1) := by decide +kernel
theorem dX5_init_5 : decode cX5_init 5 = .ok (.bipush 7, 2) := by decide +kernel
theorem dX5_init_7 : decode cX5_init 7 = .ok (.newarray .int, 2) := by decide +kernel
theorem dX5_init_9 : decode cX5_init 9 = .ok (.putfield 11, 3) := by decide +kernel
theorem dX5_init_12 : decode cX5_init 12 = .ok (.aload_n 0, 1) := by decide +kernel
theorem dX5_init_13 : decode cX5_init 13 = .ok (.bipush 7, 2) := by decide +kernel
theorem dX5_init_15 : decode cX5_init 15 = .ok (.newarray .int, 2) := by decide +kernel
theorem dX5_init_17 : decode cX5_init 17 = .ok (.putfield 17, 3) := by decide +kernel
theorem dX5_init_20 : decode cX5_init 20 = .ok (.aload_n 0, 1) := by decide +kernel
theorem dX5_init_21 : decode cX5_init 21 = .ok (.aload_n 1, 1) := by decide +kernel
theorem dX5_init_22 : decode cX5_init 22 = .ok (.putfield 20, 3) := by decide +kernel
theorem dX5_init_25 : decode cX5_init 25 = .ok (.return_, 1) := by decide +kernel
theorem dX5_clear_0 : decode cX5_clear 0 = .ok (.aload_n 0, 1) := by decide +kernel
theorem dX5_clear_1 : decode cX5_clear 1 = .ok (.getfield 11, 3) := by decide +kernel
theorem dX5_clear_4 : decode cX5_clear 4 = .ok (.iconst 0, 1) := by decide +kernel
theorem dX5_clear_5 : decode cX5_clear 5 = .ok (.invokestatic 24, 3) := by decide +kernel
theorem dX5_clear_8 : decode cX5_clear 8 = .ok (.return_, 1) := by decide +kernel
theorem dX5_ask_0 : decode cX5_ask 0 = .ok (.iload_n 1, 1) := by decide +kernel
theorem dX5_ask_1 : decode cX5_ask 1 = .ok (.ifCond .lt 19, 3) := by decide +kernel
theorem dX5_ask_4 : decode cX5_ask 4 = .ok (.iload_n 1, 1) := by decide +kernel
theorem dX5_ask_5 : decode cX5_ask 5 = .ok (.aload_n 0, 1) := by decide +kernel
theorem dX5_ask_6 : decode cX5_ask 6 = .ok (.getfield 11, 3) := by decide +kernel
theorem dX5_ask_9 : decode cX5_ask 9 = .ok (.arraylength, 1) := by decide +kernel
theorem dX5_ask_10 : decode cX5_ask 10 = .ok (.if_icmp .ge 10, 3) := by decide +kernel
theorem dX5_ask_13 : decode cX5_ask 13 = .ok (.aload_n 0, 1) := by decide +kernel
theorem dX5_ask_14 : decode cX5_ask 14 = .ok (.getfield 11, 3) := by decide +kernel
theorem dX5_ask_17 : decode cX5_ask 17 = .ok (.iload_n 1, 1) := by decide +kernel
theorem dX5_ask_18 : decode cX5_ask 18 = .ok (.iload_n 2, 1) := by decide +kernel
theorem dX5_ask_19 : decode cX5_ask 19 = .ok (.iastore, 1) := by decide +kernel
theorem dX5_ask_20 : decode cX5_ask 20 = .ok (.return_, 1) := by decide +kernel
theorem dX5_left_0 : decode cX5_left 0 = .ok (.iload_n 2, 1) := by decide +kernel
theorem dX5_left_1 : decode cX5_left 1 = .ok (.ifCond .lt 31, 3) := by decide +kernel
theorem dX5_left_4 : decode cX5_left 4 = .ok (.iload_n 2, 1) := by decide +kernel
theorem dX5_left_5 : decode cX5_left 5 = .ok (.aload_n 0, 1) := by decide +kernel
theorem dX5_left_6 : decode cX5_left 6 = .ok (.getfield 11, 3) := by decide +kernel
theorem dX5_left_9 : decode cX5_left 9 = .ok (.arraylength, 1) := by decide +kernel
theorem dX5_left_10 : decode cX5_left 10 = .ok (.if_icmp .ge 22, 3) := by decide +kernel
theorem dX5_left_13 : decode cX5_left 13 = .ok (.aload_n 0, 1) := by decide +kernel
theorem dX5_left_14 : decode cX5_left 14 = .ok (.getfield 20, 3) := by decide +kernel
theorem dX5_left_17 : decode cX5_left 17 = .ok (.iload_n 1, 1) := by decide +kernel
theorem dX5_left_18 : decode cX5_left 18 = .ok (.iload_n 2, 1) := by decide +kernel
theorem dX5_left_19 : decode cX5_left 19 = .ok (.invokevirtual 30, 3) := by decide +kernel
theorem dX5_left_22 : decode cX5_left 22 = .ok (.aload_n 0, 1) := by decide +kernel
theorem dX5_left_23 : decode cX5_left 23 = .ok (.getfield 11, 3) := by decide +kernel
theorem dX5_left_26 : decode cX5_left 26 = .ok (.iload_n 2, 1) := by decide +kernel
theorem dX5_left_27 : decode cX5_left 27 = .ok (.iaload, 1) := by decide +kernel
theorem dX5_left_28 : decode cX5_left 28 = .ok (.isub, 1) := by decide +kernel
theorem dX5_left_29 : decode cX5_left 29 = .ok (.goto 4, 3) := by decide +kernel
theorem dX5_left_32 : decode cX5_left 32 = .ok (.iconst 0, 1) := by decide +kernel
theorem dX5_left_33 : decode cX5_left 33 = .ok (.ireturn, 1) := by decide +kernel
theorem dX5_wantedBy_0 : decode cX5_wantedBy 0 = .ok (.iconst 0, 1) := by decide +kernel
theorem dX5_wantedBy_1 : decode cX5_wantedBy 1 = .ok (.istore_n 2, 1) := by decide +kernel
theorem dX5_wantedBy_2 : decode cX5_wantedBy 2 = .ok (.iconst 1, 1) := by decide +kernel
theorem dX5_wantedBy_3 : decode cX5_wantedBy 3 = .ok (.istore_n 3, 1) := by decide +kernel
theorem dX5_wantedBy_4 : decode cX5_wantedBy 4 = .ok (.iload_n 3, 1) := by decide +kernel
theorem dX5_wantedBy_5 : decode cX5_wantedBy 5 = .ok (.aload_n 0, 1) := by decide +kernel
theorem dX5_wantedBy_6 : decode cX5_wantedBy 6 = .ok (.getfield 20, 3) := by decide +kernel
theorem dX5_wantedBy_9 : decode cX5_wantedBy 9 = .ok (.invokevirtual 34, 3) := by decide +kernel
theorem dX5_wantedBy_12 : decode cX5_wantedBy 12 = .ok (.if_icmp .ge 26, 3) := by decide +kernel
theorem dX5_wantedBy_15 : decode cX5_wantedBy 15 = .ok (.aload_n 0, 1) := by decide +kernel
theorem dX5_wantedBy_16 : decode cX5_wantedBy 16 = .ok (.iload_n 1, 1) := by decide +kernel
theorem dX5_wantedBy_17 : decode cX5_wantedBy 17 = .ok (.iload_n 3, 1) := by decide +kernel
theorem dX5_wantedBy_18 : decode cX5_wantedBy 18 = .ok (.invokevirtual 38, 3) := by decide +kernel
theorem dX5_wantedBy_21 : decode cX5_wantedBy 21 = .ok (.aload_n 0, 1) := by decide +kernel
theorem dX5_wantedBy_22 : decode cX5_wantedBy 22 = .ok (.iload_n 1, 1) := by decide +kernel
theorem dX5_wantedBy_23 : decode cX5_wantedBy 23 = .ok (.iload_n 2, 1) := by decide +kernel
theorem dX5_wantedBy_24 : decode cX5_wantedBy 24 = .ok (.invokevirtual 38, 3) := by decide +kernel
theorem dX5_wantedBy_27 : decode cX5_wantedBy 27 = .ok (.if_icmp .le 5, 3) := by decide +kernel
theorem dX5_wantedBy_30 : decode cX5_wantedBy 30 = .ok (.iload_n 3, 1) := by decide +kernel
theorem dX5_wantedBy_31 : decode cX5_wantedBy 31 = .ok (.istore_n 2, 1) := by decide +kernel
theorem dX5_wantedBy_32 : decode cX5_wantedBy 32 = .ok (.iinc 3 1, 3) := by decide +kernel
theorem dX5_wantedBy_35 : decode cX5_wantedBy 35 = .ok (.goto (-31), 3) := by decide +kernel
theorem dX5_wantedBy_38 : decode cX5_wantedBy 38 = .ok (.iload_n 2, 1) := by decide +kernel
theorem dX5_wantedBy_39 : decode cX5_wantedBy 39 = .ok (.ireturn, 1) := by decide +kernel
theorem dX5_priceFits_0 : decode cX5_priceFits 0 = .ok (.iconst 0, 1) := by decide +kernel
theorem dX5_priceFits_1 : decode cX5_priceFits 1 = .ok (.istore_n 1, 1) := by decide +kernel
theorem dX5_priceFits_2 : decode cX5_priceFits 2 = .ok (.iload_n 1, 1) := by decide +kernel
theorem dX5_priceFits_3 : decode cX5_priceFits 3 = .ok (.aload_n 0, 1) := by decide +kernel
theorem dX5_priceFits_4 : decode cX5_priceFits 4 = .ok (.getfield 20, 3) := by decide +kernel
theorem dX5_priceFits_7 : decode cX5_priceFits 7 = .ok (.invokevirtual 34, 3) := by decide +kernel
theorem dX5_priceFits_10 : decode cX5_priceFits 10 = .ok (.if_icmp .ge 37, 3) := by decide +kernel
theorem dX5_priceFits_13 : decode cX5_priceFits 13 = .ok (.aload_n 0, 1) := by decide +kernel
theorem dX5_priceFits_14 : decode cX5_priceFits 14 = .ok (.iload_n 1, 1) := by decide +kernel
theorem dX5_priceFits_15 : decode cX5_priceFits 15 = .ok (.aload_n 0, 1) := by decide +kernel
theorem dX5_priceFits_16 : decode cX5_priceFits 16 = .ok (.getfield 20, 3) := by decide +kernel
theorem dX5_priceFits_19 : decode cX5_priceFits 19 = .ok (.iload_n 1, 1) := by decide +kernel
theorem dX5_priceFits_20 : decode cX5_priceFits 20 = .ok (.invokevirtual 41, 3) := by decide +kernel
theorem dX5_priceFits_23 : decode cX5_priceFits 23 = .ok (.invokevirtual 38, 3) := by decide +kernel
theorem dX5_priceFits_26 : decode cX5_priceFits 26 = .ok (.aload_n 0, 1) := by decide +kernel
theorem dX5_priceFits_27 : decode cX5_priceFits 27 = .ok (.iload_n 1, 1) := by decide +kernel
theorem dX5_priceFits_28 : decode cX5_priceFits 28 = .ok (.aload_n 0, 1) := by decide +kernel
theorem dX5_priceFits_29 : decode cX5_priceFits 29 = .ok (.iload_n 1, 1) := by decide +kernel
theorem dX5_priceFits_30 : decode cX5_priceFits 30 = .ok (.invokevirtual 45, 3) := by decide +kernel
theorem dX5_priceFits_33 : decode cX5_priceFits 33 = .ok (.invokevirtual 38, 3) := by decide +kernel
theorem dX5_priceFits_36 : decode cX5_priceFits 36 = .ok (.if_icmp .ge 5, 3) := by decide +kernel
theorem dX5_priceFits_39 : decode cX5_priceFits 39 = .ok (.iconst 0, 1) := by decide +kernel
theorem dX5_priceFits_40 : decode cX5_priceFits 40 = .ok (.ireturn, 1) := by decide +kernel
theorem dX5_priceFits_41 : decode cX5_priceFits 41 = .ok (.iinc 1 1, 3) := by decide +kernel
theorem dX5_priceFits_44 : decode cX5_priceFits 44 = .ok (.goto (-42), 3) := by decide +kernel
theorem dX5_priceFits_47 : decode cX5_priceFits 47 = .ok (.iconst 1, 1) := by decide +kernel
theorem dX5_priceFits_48 : decode cX5_priceFits 48 = .ok (.ireturn, 1) := by decide +kernel
theorem dX5_leastOf_0 : decode cX5_leastOf 0 = .ok (.aload_n 0, 1) := by decide +kernel
theorem dX5_leastOf_1 : decode cX5_leastOf 1 = .ok (.getfield 17, 3) := by decide +kernel
theorem dX5_leastOf_4 : decode cX5_leastOf 4 = .ok (.iconst 0, 1) := by decide +kernel
theorem dX5_leastOf_5 : decode cX5_leastOf 5 = .ok (.invokestatic 24, 3) := by decide +kernel
theorem dX5_leastOf_8 : decode cX5_leastOf 8 = .ok (.iconst 0, 1) := by decide +kernel
theorem dX5_leastOf_9 : decode cX5_leastOf 9 = .ok (.istore_n 2, 1) := by decide +kernel
theorem dX5_leastOf_10 : decode cX5_leastOf 10 = .ok (.iload_n 2, 1) := by decide +kernel
theorem dX5_leastOf_11 : decode cX5_leastOf 11 = .ok (.aload_n 0, 1) := by decide +kernel
theorem dX5_leastOf_12 : decode cX5_leastOf 12 = .ok (.getfield 20, 3) := by decide +kernel
theorem dX5_leastOf_15 : decode cX5_leastOf 15 = .ok (.invokevirtual 34, 3) := by decide +kernel
theorem dX5_leastOf_18 : decode cX5_leastOf 18 = .ok (.if_icmp .ge 41, 3) := by decide +kernel
theorem dX5_leastOf_21 : decode cX5_leastOf 21 = .ok (.iconst 0, 1) := by decide +kernel
theorem dX5_leastOf_22 : decode cX5_leastOf 22 = .ok (.istore_n 3, 1) := by decide +kernel
theorem dX5_leastOf_23 : decode cX5_leastOf 23 = .ok (.iload_n 3, 1) := by decide +kernel
theorem dX5_leastOf_24 : decode cX5_leastOf 24 = .ok (.aload_n 0, 1) := by decide +kernel
theorem dX5_leastOf_25 : decode cX5_leastOf 25 = .ok (.getfield 20, 3) := by decide +kernel
theorem dX5_leastOf_28 : decode cX5_leastOf 28 = .ok (.invokevirtual 34, 3) := by decide +kernel
theorem dX5_leastOf_31 : decode cX5_leastOf 31 = .ok (.if_icmp .ge 22, 3) := by decide +kernel
theorem dX5_leastOf_34 : decode cX5_leastOf 34 = .ok (.aload_n 0, 1) := by decide +kernel
theorem dX5_leastOf_35 : decode cX5_leastOf 35 = .ok (.iload_n 3, 1) := by decide +kernel
theorem dX5_leastOf_36 : decode cX5_leastOf 36 = .ok (.aload_n 0, 1) := by decide +kernel
theorem dX5_leastOf_37 : decode cX5_leastOf 37 = .ok (.getfield 20, 3) := by decide +kernel
theorem dX5_leastOf_40 : decode cX5_leastOf 40 = .ok (.iload_n 3, 1) := by decide +kernel
theorem dX5_leastOf_41 : decode cX5_leastOf 41 = .ok (.invokevirtual 41, 3) := by decide +kernel
theorem dX5_leastOf_44 : decode cX5_leastOf 44 = .ok (.invokevirtual 48, 3) := by decide +kernel
theorem dX5_leastOf_47 : decode cX5_leastOf 47 = .ok (.iinc 3 1, 3) := by decide +kernel
theorem dX5_leastOf_50 : decode cX5_leastOf 50 = .ok (.goto (-27), 3) := by decide +kernel
theorem dX5_leastOf_53 : decode cX5_leastOf 53 = .ok (.iinc 2 1, 3) := by decide +kernel
theorem dX5_leastOf_56 : decode cX5_leastOf 56 = .ok (.goto (-46), 3) := by decide +kernel
theorem dX5_leastOf_59 : decode cX5_leastOf 59 = .ok (.iload_n 1, 1) := by decide +kernel
theorem dX5_leastOf_60 : decode cX5_leastOf 60 = .ok (.ifCond .lt 21, 3) := by decide +kernel
theorem dX5_leastOf_63 : decode cX5_leastOf 63 = .ok (.iload_n 1, 1) := by decide +kernel
theorem dX5_leastOf_64 : decode cX5_leastOf 64 = .ok (.aload_n 0, 1) := by decide +kernel
theorem dX5_leastOf_65 : decode cX5_leastOf 65 = .ok (.getfield 17, 3) := by decide +kernel
theorem dX5_leastOf_68 : decode cX5_leastOf 68 = .ok (.arraylength, 1) := by decide +kernel
theorem dX5_leastOf_69 : decode cX5_leastOf 69 = .ok (.if_icmp .ge 12, 3) := by decide +kernel
theorem dX5_leastOf_72 : decode cX5_leastOf 72 = .ok (.aload_n 0, 1) := by decide +kernel
theorem dX5_leastOf_73 : decode cX5_leastOf 73 = .ok (.getfield 17, 3) := by decide +kernel
theorem dX5_leastOf_76 : decode cX5_leastOf 76 = .ok (.iload_n 1, 1) := by decide +kernel
theorem dX5_leastOf_77 : decode cX5_leastOf 77 = .ok (.iaload, 1) := by decide +kernel
theorem dX5_leastOf_78 : decode cX5_leastOf 78 = .ok (.goto 4, 3) := by decide +kernel
theorem dX5_leastOf_81 : decode cX5_leastOf 81 = .ok (.iconst (-1), 1) := by decide +kernel
theorem dX5_leastOf_82 : decode cX5_leastOf 82 = .ok (.ireturn, 1) := by decide +kernel
theorem dX5_pushUp_0 : decode cX5_pushUp 0 = .ok (.iload_n 2, 1) := by decide +kernel
theorem dX5_pushUp_1 : decode cX5_pushUp 1 = .ok (.ifCond .lt 12, 3) := by decide +kernel
theorem dX5_pushUp_4 : decode cX5_pushUp 4 = .ok (.iload_n 2, 1) := by decide +kernel
theorem dX5_pushUp_5 : decode cX5_pushUp 5 = .ok (.aload_n 0, 1) := by decide +kernel
theorem dX5_pushUp_6 : decode cX5_pushUp 6 = .ok (.getfield 17, 3) := by decide +kernel
theorem dX5_pushUp_9 : decode cX5_pushUp 9 = .ok (.arraylength, 1) := by decide +kernel
theorem dX5_pushUp_10 : decode cX5_pushUp 10 = .ok (.if_icmp .lt 4, 3) := by decide +kernel
theorem dX5_pushUp_13 : decode cX5_pushUp 13 = .ok (.return_, 1) := by decide +kernel
theorem dX5_pushUp_14 : decode cX5_pushUp 14 = .ok (.aload_n 0, 1) := by decide +kernel
theorem dX5_pushUp_15 : decode cX5_pushUp 15 = .ok (.getfield 20, 3) := by decide +kernel
theorem dX5_pushUp_18 : decode cX5_pushUp 18 = .ok (.iload_n 1, 1) := by decide +kernel
theorem dX5_pushUp_19 : decode cX5_pushUp 19 = .ok (.iload_n 2, 1) := by decide +kernel
theorem dX5_pushUp_20 : decode cX5_pushUp 20 = .ok (.invokevirtual 30, 3) := by decide +kernel
theorem dX5_pushUp_23 : decode cX5_pushUp 23 = .ok (.aload_n 0, 1) := by decide +kernel
theorem dX5_pushUp_24 : decode cX5_pushUp 24 = .ok (.getfield 17, 3) := by decide +kernel
theorem dX5_pushUp_27 : decode cX5_pushUp 27 = .ok (.iload_n 2, 1) := by decide +kernel
theorem dX5_pushUp_28 : decode cX5_pushUp 28 = .ok (.iaload, 1) := by decide +kernel
theorem dX5_pushUp_29 : decode cX5_pushUp 29 = .ok (.isub, 1) := by decide +kernel
theorem dX5_pushUp_30 : decode cX5_pushUp 30 = .ok (.istore_n 3, 1) := by decide +kernel
theorem dX5_pushUp_31 : decode cX5_pushUp 31 = .ok (.iconst 0, 1) := by decide +kernel
theorem dX5_pushUp_32 : decode cX5_pushUp 32 = .ok (.istore 4, 2) := by decide +kernel
theorem dX5_pushUp_34 : decode cX5_pushUp 34 = .ok (.iload 4, 2) := by decide +kernel
theorem dX5_pushUp_36 : decode cX5_pushUp 36 = .ok (.aload_n 0, 1) := by decide +kernel
theorem dX5_pushUp_37 : decode cX5_pushUp 37 = .ok (.getfield 20, 3) := by decide +kernel
theorem dX5_pushUp_40 : decode cX5_pushUp 40 = .ok (.invokevirtual 34, 3) := by decide +kernel
theorem dX5_pushUp_43 : decode cX5_pushUp 43 = .ok (.if_icmp .ge 48, 3) := by decide +kernel
theorem dX5_pushUp_46 : decode cX5_pushUp 46 = .ok (.iload 4, 2) := by decide +kernel
theorem dX5_pushUp_48 : decode cX5_pushUp 48 = .ok (.aload_n 0, 1) := by decide +kernel
theorem dX5_pushUp_49 : decode cX5_pushUp 49 = .ok (.getfield 17, 3) := by decide +kernel
theorem dX5_pushUp_52 : decode cX5_pushUp 52 = .ok (.arraylength, 1) := by decide +kernel
theorem dX5_pushUp_53 : decode cX5_pushUp 53 = .ok (.if_icmp .ge 38, 3) := by decide +kernel
theorem dX5_pushUp_56 : decode cX5_pushUp 56 = .ok (.aload_n 0, 1) := by decide +kernel
theorem dX5_pushUp_57 : decode cX5_pushUp 57 = .ok (.getfield 17, 3) := by decide +kernel
theorem dX5_pushUp_60 : decode cX5_pushUp 60 = .ok (.iload 4, 2) := by decide +kernel
theorem dX5_pushUp_62 : decode cX5_pushUp 62 = .ok (.aload_n 0, 1) := by decide +kernel
theorem dX5_pushUp_63 : decode cX5_pushUp 63 = .ok (.getfield 17, 3) := by decide +kernel
theorem dX5_pushUp_66 : decode cX5_pushUp 66 = .ok (.iload 4, 2) := by decide +kernel
theorem dX5_pushUp_68 : decode cX5_pushUp 68 = .ok (.iaload, 1) := by decide +kernel
theorem dX5_pushUp_69 : decode cX5_pushUp 69 = .ok (.aload_n 0, 1) := by decide +kernel
theorem dX5_pushUp_70 : decode cX5_pushUp 70 = .ok (.getfield 20, 3) := by decide +kernel
theorem dX5_pushUp_73 : decode cX5_pushUp 73 = .ok (.iload_n 1, 1) := by decide +kernel
theorem dX5_pushUp_74 : decode cX5_pushUp 74 = .ok (.iload 4, 2) := by decide +kernel
theorem dX5_pushUp_76 : decode cX5_pushUp 76 = .ok (.invokevirtual 30, 3) := by decide +kernel
theorem dX5_pushUp_79 : decode cX5_pushUp 79 = .ok (.iload_n 3, 1) := by decide +kernel
theorem dX5_pushUp_80 : decode cX5_pushUp 80 = .ok (.isub, 1) := by decide +kernel
theorem dX5_pushUp_81 : decode cX5_pushUp 81 = .ok (.invokestatic 52, 3) := by decide +kernel
theorem dX5_pushUp_84 : decode cX5_pushUp 84 = .ok (.iastore, 1) := by decide +kernel
theorem dX5_pushUp_85 : decode cX5_pushUp 85 = .ok (.iinc 4 1, 3) := by decide +kernel
theorem dX5_pushUp_88 : decode cX5_pushUp 88 = .ok (.goto (-54), 3) := by decide +kernel
theorem dX5_pushUp_91 : decode cX5_pushUp 91 = .ok (.return_, 1) := by decide +kernel
theorem dX6_init_0 : decode cX6_init 0 = .ok (.aload_n 0, 1) := by decide +kernel
theorem dX6_init_1 : decode cX6_init 1 = .ok (.invokespecial 3, 3) := by decide +kernel
theorem dX6_init_4 : decode cX6_init 4 = .ok (.aload_n 0, 1) := by decide +kernel
theorem dX6_init_5 : decode cX6_init 5 = .ok (.bipush 36, 2) := by decide +kernel
theorem dX6_init_7 : decode cX6_init 7 = .ok (.newarray .int, 2) := by decide +kernel
theorem dX6_init_9 : decode cX6_init 9 = .ok (.putfield 13, 3) := by decide +kernel
theorem dX6_init_12 : decode cX6_init 12 = .ok (.aload_n 0, 1) := by decide +kernel
theorem dX6_init_13 : decode cX6_init 13 = .ok (.iconst 2, 1) := by decide +kernel
theorem dX6_init_14 : decode cX6_init 14 = .ok (.newarray .int, 2) := by decide +kernel
theorem dX6_init_16 : decode cX6_init 16 = .ok (.putfield 17, 3) := by decide +kernel
theorem dX6_init_19 : decode cX6_init 19 = .ok (.aload_n 0, 1) := by decide +kernel
theorem dX6_init_20 : decode cX6_init 20 = .ok (.iconst (-1), 1) := by decide +kernel
theorem dX6_init_21 : decode cX6_init 21 = .ok (.putfield 20, 3) := by decide +kernel
theorem dX6_init_24 : decode cX6_init 24 = .ok (.aload_n 0, 1) := by decide +kernel
theorem dX6_init_25 : decode cX6_init 25 = .ok (.aload_n 1, 1) := by decide +kernel
theorem dX6_init_26 : decode cX6_init 26 = .ok (.putfield 24, 3) := by decide +kernel
theorem dX6_init_29 : decode cX6_init 29 = .ok (.return_, 1) := by decide +kernel
theorem dX6_falling_0 : decode cX6_falling 0 = .ok (.aload_n 0, 1) := by decide +kernel
theorem dX6_falling_1 : decode cX6_falling 1 = .ok (.getfield 28, 3) := by decide +kernel
theorem dX6_falling_4 : decode cX6_falling 4 = .ok (.ireturn, 1) := by decide +kernel
theorem dX6_count_0 : decode cX6_count 0 = .ok (.aload_n 0, 1) := by decide +kernel
theorem dX6_count_1 : decode cX6_count 1 = .ok (.getfield 32, 3) := by decide +kernel
theorem dX6_count_4 : decode cX6_count 4 = .ok (.ireturn, 1) := by decide +kernel
theorem dX6_detail_0 : decode cX6_detail 0 = .ok (.iload_n 1, 1) := by decide +kernel
theorem dX6_detail_1 : decode cX6_detail 1 = .ok (.ifCond .lt 21, 3) := by decide +kernel
theorem dX6_detail_4 : decode cX6_detail 4 = .ok (.iload_n 1, 1) := by decide +kernel
theorem dX6_detail_5 : decode cX6_detail 5 = .ok (.aload_n 0, 1) := by decide +kernel
theorem dX6_detail_6 : decode cX6_detail 6 = .ok (.getfield 32, 3) := by decide +kernel
theorem dX6_detail_9 : decode cX6_detail 9 = .ok (.if_icmp .ge 13, 3) := by decide +kernel
theorem dX6_detail_12 : decode cX6_detail 12 = .ok (.iload_n 2, 1) := by decide +kernel
theorem dX6_detail_13 : decode cX6_detail 13 = .ok (.ifCond .lt 9, 3) := by decide +kernel
theorem dX6_detail_16 : decode cX6_detail 16 = .ok (.iload_n 2, 1) := by decide +kernel
theorem dX6_detail_17 : decode cX6_detail 17 = .ok (.bipush 6, 2) := by decide +kernel
theorem dX6_detail_19 : decode cX6_detail 19 = .ok (.if_icmp .lt 6, 3) := by decide +kernel
theorem dX6_detail_22 : decode cX6_detail 22 = .ok (.ldc 35, 2) := by decide +kernel
theorem dX6_detail_24 : decode cX6_detail 24 = .ok (.ireturn, 1) := by decide +kernel
theorem dX6_detail_25 : decode cX6_detail 25 = .ok (.aload_n 0, 1) := by decide +kernel
theorem dX6_detail_26 : decode cX6_detail 26 = .ok (.getfield 13, 3) := by decide +kernel
theorem dX6_detail_29 : decode cX6_detail 29 = .ok (.iload_n 1, 1) := by decide +kernel
theorem dX6_detail_30 : decode cX6_detail 30 = .ok (.bipush 6, 2) := by decide +kernel
theorem dX6_detail_32 : decode cX6_detail 32 = .ok (.imul, 1) := by decide +kernel
theorem dX6_detail_33 : decode cX6_detail 33 = .ok (.iload_n 2, 1) := by decide +kernel
theorem dX6_detail_34 : decode cX6_detail 34 = .ok (.iadd, 1) := by decide +kernel
theorem dX6_detail_35 : decode cX6_detail 35 = .ok (.iaload, 1) := by decide +kernel
theorem dX6_detail_36 : decode cX6_detail 36 = .ok (.ireturn, 1) := by decide +kernel
theorem dX6_inNone_0 : decode cX6_inNone 0 = .ok (.aload_n 0, 1) := by decide +kernel
theorem dX6_inNone_1 : decode cX6_inNone 1 = .ok (.getfield 24, 3) := by decide +kernel
theorem dX6_inNone_4 : decode cX6_inNone 4 = .ok (.iload_n 1, 1) := by decide +kernel
theorem dX6_inNone_5 : decode cX6_inNone 5 = .ok (.invokevirtual 36, 3) := by decide +kernel
theorem dX6_inNone_8 : decode cX6_inNone 8 = .ok (.ifCond .eq 21, 3) := by decide +kernel
theorem dX6_inNone_11 : decode cX6_inNone 11 = .ok (.aload_n 0, 1) := by decide +kernel
theorem dX6_inNone_12 : decode cX6_inNone 12 = .ok (.getfield 24, 3) := by decide +kernel
theorem dX6_inNone_15 : decode cX6_inNone 15 = .ok (.iload_n 1, 1) := by decide +kernel
theorem dX6_inNone_16 : decode cX6_inNone 16 = .ok (.invokevirtual 40, 3) := by decide +kernel
theorem dX6_inNone_19 : decode cX6_inNone 19 = .ok (.aload_n 0, 1) := by decide +kernel
theorem dX6_inNone_20 : decode cX6_inNone 20 = .ok (.getfield 17, 3) := by decide +kernel
theorem dX6_inNone_23 : decode cX6_inNone 23 = .ok (.iload_n 1, 1) := by decide +kernel
theorem dX6_inNone_24 : decode cX6_inNone 24 = .ok (.iaload, 1) := by decide +kernel
theorem dX6_inNone_25 : decode cX6_inNone 25 = .ok (.isub, 1) := by decide +kernel
theorem dX6_inNone_26 : decode cX6_inNone 26 = .ok (.goto 4, 3) := by decide +kernel
theorem dX6_inNone_29 : decode cX6_inNone 29 = .ok (.iconst 0, 1) := by decide +kernel
theorem dX6_inNone_30 : decode cX6_inNone 30 = .ok (.ireturn, 1) := by decide +kernel
theorem dX6_refresh_0 : decode cX6_refresh 0 = .ok (.aload_n 0, 1) := by decide +kernel
theorem dX6_refresh_1 : decode cX6_refresh 1 = .ok (.getfield 20, 3) := by decide +kernel
theorem dX6_refresh_4 : decode cX6_refresh 4 = .ok (.aload_n 0, 1) := by decide +kernel
theorem dX6_refresh_5 : decode cX6_refresh 5 = .ok (.getfield 24, 3) := by decide +kernel
theorem dX6_refresh_8 : decode cX6_refresh 8 = .ok (.invokevirtual 43, 3) := by decide +kernel
theorem dX6_refresh_11 : decode cX6_refresh 11 = .ok (.if_icmp .ne 4, 3) := by decide +kernel
theorem dX6_refresh_14 : decode cX6_refresh 14 = .ok (.return_, 1) := by decide +kernel
theorem dX6_refresh_15 : decode cX6_refresh 15 = .ok (.aload_n 0, 1) := by decide +kernel
theorem dX6_refresh_16 : decode cX6_refresh 16 = .ok (.aload_n 0, 1) := by decide +kernel
theorem dX6_refresh_17 : decode cX6_refresh 17 = .ok (.getfield 24, 3) := by decide +kernel
theorem dX6_refresh_20 : decode cX6_refresh 20 = .ok (.invokevirtual 43, 3) := by decide +kernel
theorem dX6_refresh_23 : decode cX6_refresh 23 = .ok (.putfield 20, 3) := by decide +kernel
theorem dX6_refresh_26 : decode cX6_refresh 26 = .ok (.aload_n 0, 1) := by decide +kernel
theorem dX6_refresh_27 : decode cX6_refresh 27 = .ok (.iconst 0, 1) := by decide +kernel
theorem dX6_refresh_28 : decode cX6_refresh 28 = .ok (.putfield 32, 3) := by decide +kernel
theorem dX6_refresh_31 : decode cX6_refresh 31 = .ok (.aload_n 0, 1) := by decide +kernel
theorem dX6_refresh_32 : decode cX6_refresh 32 = .ok (.getfield 17, 3) := by decide +kernel
theorem dX6_refresh_35 : decode cX6_refresh 35 = .ok (.iconst 0, 1) := by decide +kernel
theorem dX6_refresh_36 : decode cX6_refresh 36 = .ok (.iconst 0, 1) := by decide +kernel
theorem dX6_refresh_37 : decode cX6_refresh 37 = .ok (.iastore, 1) := by decide +kernel
theorem dX6_refresh_38 : decode cX6_refresh 38 = .ok (.aload_n 0, 1) := by decide +kernel
theorem dX6_refresh_39 : decode cX6_refresh 39 = .ok (.getfield 17, 3) := by decide +kernel
theorem dX6_refresh_42 : decode cX6_refresh 42 = .ok (.iconst 1, 1) := by decide +kernel
theorem dX6_refresh_43 : decode cX6_refresh 43 = .ok (.iconst 0, 1) := by decide +kernel
theorem dX6_refresh_44 : decode cX6_refresh 44 = .ok (.iastore, 1) := by decide +kernel
theorem dX6_refresh_45 : decode cX6_refresh 45 = .ok (.aload_n 0, 1) := by decide +kernel
theorem dX6_refresh_46 : decode cX6_refresh 46 = .ok (.aload_n 0, 1) := by decide +kernel
theorem dX6_refresh_47 : decode cX6_refresh 47 = .ok (.getfield 24, 3) := by decide +kernel
theorem dX6_refresh_50 : decode cX6_refresh 50 = .ok (.iconst 0, 1) := by decide +kernel
theorem dX6_refresh_51 : decode cX6_refresh 51 = .ok (.invokevirtual 46, 3) := by decide +kernel
theorem dX6_refresh_54 : decode cX6_refresh 54 = .ok (.ifCond .eq 18, 3) := by decide +kernel
theorem dX6_refresh_57 : decode cX6_refresh 57 = .ok (.aload_n 0, 1) := by decide +kernel
theorem dX6_refresh_58 : decode cX6_refresh 58 = .ok (.getfield 24, 3) := by decide +kernel
theorem dX6_refresh_61 : decode cX6_refresh 61 = .ok (.iconst 1, 1) := by decide +kernel
theorem dX6_refresh_62 : decode cX6_refresh 62 = .ok (.invokevirtual 46, 3) := by decide +kernel
theorem dX6_refresh_65 : decode cX6_refresh 65 = .ok (.ifCond .eq 7, 3) := by decide +kernel
theorem dX6_refresh_68 : decode cX6_refresh 68 = .ok (.iconst 1, 1) := by decide +kernel
theorem dX6_refresh_69 : decode cX6_refresh 69 = .ok (.goto 4, 3) := by decide +kernel
theorem dX6_refresh_72 : decode cX6_refresh 72 = .ok (.iconst 0, 1) := by decide +kernel
theorem dX6_refresh_73 : decode cX6_refresh 73 = .ok (.putfield 28, 3) := by decide +kernel
theorem dX6_refresh_76 : decode cX6_refresh 76 = .ok (.aload_n 0, 1) := by decide +kernel
theorem dX6_refresh_77 : decode cX6_refresh 77 = .ok (.getfield 28, 3) := by decide +kernel
theorem dX6_refresh_80 : decode cX6_refresh 80 = .ok (.istore_n 1, 1) := by decide +kernel
theorem dX6_refresh_81 : decode cX6_refresh 81 = .ok (.iconst 0, 1) := by decide +kernel
theorem dX6_refresh_82 : decode cX6_refresh 82 = .ok (.istore_n 2, 1) := by decide +kernel
theorem dX6_refresh_83 : decode cX6_refresh 83 = .ok (.iload_n 2, 1) := by decide +kernel
theorem dX6_refresh_84 : decode cX6_refresh 84 = .ok (.bipush 6, 2) := by decide +kernel
theorem dX6_refresh_86 : decode cX6_refresh 86 = .ok (.if_icmp .ge 18, 3) := by decide +kernel
theorem dX6_refresh_89 : decode cX6_refresh 89 = .ok (.iload_n 1, 1) := by decide +kernel
theorem dX6_refresh_90 : decode cX6_refresh 90 = .ok (.ifCond .eq 14, 3) := by decide +kernel
theorem dX6_refresh_93 : decode cX6_refresh 93 = .ok (.aload_n 0, 1) := by decide +kernel
theorem dX6_refresh_94 : decode cX6_refresh 94 = .ok (.invokevirtual 49, 3) := by decide +kernel
theorem dX6_refresh_97 : decode cX6_refresh 97 = .ok (.istore_n 1, 1) := by decide +kernel
theorem dX6_refresh_98 : decode cX6_refresh 98 = .ok (.iinc 2 1, 3) := by decide +kernel
theorem dX6_refresh_101 : decode cX6_refresh 101 = .ok (.goto (-18), 3) := by decide +kernel
theorem dX6_refresh_104 : decode cX6_refresh 104 = .ok (.return_, 1) := by decide +kernel
theorem dX6_addClass_0 : decode cX6_addClass 0 = .ok (.aload_n 0, 1) := by decide +kernel
theorem dX6_addClass_1 : decode cX6_addClass 1 = .ok (.getfield 32, 3) := by decide +kernel
theorem dX6_addClass_4 : decode cX6_addClass 4 = .ok (.bipush 6, 2) := by decide +kernel
theorem dX6_addClass_6 : decode cX6_addClass 6 = .ok (.imul, 1) := by decide +kernel
theorem dX6_addClass_7 : decode cX6_addClass 7 = .ok (.istore_n 1, 1) := by decide +kernel
theorem dX6_addClass_8 : decode cX6_addClass 8 = .ok (.iload_n 1, 1) := by decide +kernel
theorem dX6_addClass_9 : decode cX6_addClass 9 = .ok (.bipush 6, 2) := by decide +kernel
theorem dX6_addClass_11 : decode cX6_addClass 11 = .ok (.iadd, 1) := by decide +kernel
theorem dX6_addClass_12 : decode cX6_addClass 12 = .ok (.aload_n 0, 1) := by decide +kernel
theorem dX6_addClass_13 : decode cX6_addClass 13 = .ok (.getfield 13, 3) := by decide +kernel
theorem dX6_addClass_16 : decode cX6_addClass 16 = .ok (.arraylength, 1) := by decide +kernel
theorem dX6_addClass_17 : decode cX6_addClass 17 = .ok (.if_icmp .le 5, 3) := by decide +kernel
theorem dX6_addClass_20 : decode cX6_addClass 20 = .ok (.iconst 0, 1) := by decide +kernel
theorem dX6_addClass_21 : decode cX6_addClass 21 = .ok (.ireturn, 1) := by decide +kernel
theorem dX6_addClass_22 : decode cX6_addClass 22 = .ok (.aload_n 0, 1) := by decide +kernel
theorem dX6_addClass_23 : decode cX6_addClass 23 = .ok (.getfield 17, 3) := by decide +kernel
theorem dX6_addClass_26 : decode cX6_addClass 26 = .ok (.iconst 0, 1) := by decide +kernel
theorem dX6_addClass_27 : decode cX6_addClass 27 = .ok (.iaload, 1) := by decide +kernel
theorem dX6_addClass_28 : decode cX6_addClass 28 = .ok (.aload_n 0, 1) := by decide +kernel
theorem dX6_addClass_29 : decode cX6_addClass 29 = .ok (.getfield 24, 3) := by decide +kernel
theorem dX6_addClass_32 : decode cX6_addClass 32 = .ok (.iconst 0, 1) := by decide +kernel
theorem dX6_addClass_33 : decode cX6_addClass 33 = .ok (.invokevirtual 40, 3) := by decide +kernel
theorem dX6_addClass_36 : decode cX6_addClass 36 = .ok (.if_icmp .ge 20, 3) := by decide +kernel
theorem dX6_addClass_39 : decode cX6_addClass 39 = .ok (.aload_n 0, 1) := by decide +kernel
theorem dX6_addClass_40 : decode cX6_addClass 40 = .ok (.getfield 17, 3) := by decide +kernel
theorem dX6_addClass_43 : decode cX6_addClass 43 = .ok (.iconst 1, 1) := by decide +kernel
theorem dX6_addClass_44 : decode cX6_addClass 44 = .ok (.iaload, 1) := by decide +kernel
theorem dX6_addClass_45 : decode cX6_addClass 45 = .ok (.aload_n 0, 1) := by decide +kernel
theorem dX6_addClass_46 : decode cX6_addClass 46 = .ok (.getfield 24, 3) := by decide +kernel
theorem dX6_addClass_49 : decode cX6_addClass 49 = .ok (.iconst 1, 1) := by decide +kernel
theorem dX6_addClass_50 : decode cX6_addClass 50 = .ok (.invokevirtual 40, 3) := by decide +kernel
theorem dX6_addClass_53 : decode cX6_addClass 53 = .ok (.if_icmp .lt 5, 3) := by decide +kernel
theorem dX6_addClass_56 : decode cX6_addClass 56 = .ok (.iconst 0, 1) := by decide +kernel
theorem dX6_addClass_57 : decode cX6_addClass 57 = .ok (.ireturn, 1) := by decide +kernel
theorem dX6_addClass_58 : decode cX6_addClass 58 = .ok (.aload_n 0, 1) := by decide +kernel
theorem dX6_addClass_59 : decode cX6_addClass 59 = .ok (.iconst 1, 1) := by decide +kernel
theorem dX6_addClass_60 : decode cX6_addClass 60 = .ok (.aload_n 0, 1) := by decide +kernel
theorem dX6_addClass_61 : decode cX6_addClass 61 = .ok (.getfield 17, 3) := by decide +kernel
theorem dX6_addClass_64 : decode cX6_addClass 64 = .ok (.iconst 1, 1) := by decide +kernel
theorem dX6_addClass_65 : decode cX6_addClass 65 = .ok (.iaload, 1) := by decide +kernel
theorem dX6_addClass_66 : decode cX6_addClass 66 = .ok (.invokevirtual 53, 3) := by decide +kernel
theorem dX6_addClass_69 : decode cX6_addClass 69 = .ok (.aload_n 0, 1) := by decide +kernel
theorem dX6_addClass_70 : decode cX6_addClass 70 = .ok (.getfield 57, 3) := by decide +kernel
theorem dX6_addClass_73 : decode cX6_addClass 73 = .ok (.ifCond .ge 5, 3) := by decide +kernel
theorem dX6_addClass_76 : decode cX6_addClass 76 = .ok (.iconst 0, 1) := by decide +kernel
theorem dX6_addClass_77 : decode cX6_addClass 77 = .ok (.ireturn, 1) := by decide +kernel
theorem dX6_addClass_78 : decode cX6_addClass 78 = .ok (.aload_n 0, 1) := by decide +kernel
theorem dX6_addClass_79 : decode cX6_addClass 79 = .ok (.getfield 60, 3) := by decide +kernel
theorem dX6_addClass_82 : decode cX6_addClass 82 = .ok (.istore_n 2, 1) := by decide +kernel
theorem dX6_addClass_83 : decode cX6_addClass 83 = .ok (.aload_n 0, 1) := by decide +kernel
theorem dX6_addClass_84 : decode cX6_addClass 84 = .ok (.getfield 13, 3) := by decide +kernel
theorem dX6_addClass_87 : decode cX6_addClass 87 = .ok (.iload_n 1, 1) := by decide +kernel
theorem dX6_addClass_88 : decode cX6_addClass 88 = .ok (.iconst 2, 1) := by decide +kernel
theorem dX6_addClass_89 : decode cX6_addClass 89 = .ok (.iadd, 1) := by decide +kernel
theorem dX6_addClass_90 : decode cX6_addClass 90 = .ok (.aload_n 0, 1) := by decide +kernel
theorem dX6_addClass_91 : decode cX6_addClass 91 = .ok (.getfield 57, 3) := by decide +kernel
theorem dX6_addClass_94 : decode cX6_addClass 94 = .ok (.iastore, 1) := by decide +kernel
theorem dX6_addClass_95 : decode cX6_addClass 95 = .ok (.aload_n 0, 1) := by decide +kernel
theorem dX6_addClass_96 : decode cX6_addClass 96 = .ok (.getfield 13, 3) := by decide +kernel
theorem dX6_addClass_99 : decode cX6_addClass 99 = .ok (.iload_n 1, 1) := by decide +kernel
theorem dX6_addClass_100 : decode cX6_addClass 100 = .ok (.iconst 3, 1) := by decide +kernel
theorem dX6_addClass_101 : decode cX6_addClass 101 = .ok (.iadd, 1) := by decide +kernel
theorem dX6_addClass_102 : decode cX6_addClass 102 = .ok (.aload_n 0, 1) := by decide +kernel
theorem dX6_addClass_103 : decode cX6_addClass 103 = .ok (.getfield 63, 3) := by decide +kernel
theorem dX6_addClass_106 : decode cX6_addClass 106 = .ok (.iastore, 1) := by decide +kernel
theorem dX6_addClass_107 : decode cX6_addClass 107 = .ok (.aload_n 0, 1) := by decide +kernel
theorem dX6_addClass_108 : decode cX6_addClass 108 = .ok (.iconst 0, 1) := by decide +kernel
theorem dX6_addClass_109 : decode cX6_addClass 109 = .ok (.aload_n 0, 1) := by decide +kernel
theorem dX6_addClass_110 : decode cX6_addClass 110 = .ok (.getfield 17, 3) := by decide +kernel
theorem dX6_addClass_113 : decode cX6_addClass 113 = .ok (.iconst 0, 1) := by decide +kernel
theorem dX6_addClass_114 : decode cX6_addClass 114 = .ok (.iaload, 1) := by decide +kernel
theorem dX6_addClass_115 : decode cX6_addClass 115 = .ok (.invokevirtual 53, 3) := by decide +kernel
theorem dX6_addClass_118 : decode cX6_addClass 118 = .ok (.aload_n 0, 1) := by decide +kernel
theorem dX6_addClass_119 : decode cX6_addClass 119 = .ok (.getfield 57, 3) := by decide +kernel
theorem dX6_addClass_122 : decode cX6_addClass 122 = .ok (.ifCond .ge 5, 3) := by decide +kernel
theorem dX6_addClass_125 : decode cX6_addClass 125 = .ok (.iconst 0, 1) := by decide +kernel
theorem dX6_addClass_126 : decode cX6_addClass 126 = .ok (.ireturn, 1) := by decide +kernel
theorem dX6_addClass_127 : decode cX6_addClass 127 = .ok (.aload_n 0, 1) := by decide +kernel
theorem dX6_addClass_128 : decode cX6_addClass 128 = .ok (.getfield 13, 3) := by decide +kernel
theorem dX6_addClass_131 : decode cX6_addClass 131 = .ok (.iload_n 1, 1) := by decide +kernel
theorem dX6_addClass_132 : decode cX6_addClass 132 = .ok (.aload_n 0, 1) := by decide +kernel
theorem dX6_addClass_133 : decode cX6_addClass 133 = .ok (.getfield 60, 3) := by decide +kernel
theorem dX6_addClass_136 : decode cX6_addClass 136 = .ok (.iastore, 1) := by decide +kernel
theorem dX6_addClass_137 : decode cX6_addClass 137 = .ok (.aload_n 0, 1) := by decide +kernel
theorem dX6_addClass_138 : decode cX6_addClass 138 = .ok (.getfield 13, 3) := by decide +kernel
theorem dX6_addClass_141 : decode cX6_addClass 141 = .ok (.iload_n 1, 1) := by decide +kernel
theorem dX6_addClass_142 : decode cX6_addClass 142 = .ok (.iconst 1, 1) := by decide +kernel
theorem dX6_addClass_143 : decode cX6_addClass 143 = .ok (.iadd, 1) := by decide +kernel
theorem dX6_addClass_144 : decode cX6_addClass 144 = .ok (.iload_n 2, 1) := by decide +kernel
theorem dX6_addClass_145 : decode cX6_addClass 145 = .ok (.iastore, 1) := by decide +kernel
theorem dX6_addClass_146 : decode cX6_addClass 146 = .ok (.aload_n 0, 1) := by decide +kernel
theorem dX6_addClass_147 : decode cX6_addClass 147 = .ok (.getfield 13, 3) := by decide +kernel
theorem dX6_addClass_150 : decode cX6_addClass 150 = .ok (.iload_n 1, 1) := by decide +kernel
theorem dX6_addClass_151 : decode cX6_addClass 151 = .ok (.iconst 4, 1) := by decide +kernel
theorem dX6_addClass_152 : decode cX6_addClass 152 = .ok (.iadd, 1) := by decide +kernel
theorem dX6_addClass_153 : decode cX6_addClass 153 = .ok (.aload_n 0, 1) := by decide +kernel
theorem dX6_addClass_154 : decode cX6_addClass 154 = .ok (.getfield 57, 3) := by decide +kernel
theorem dX6_addClass_157 : decode cX6_addClass 157 = .ok (.iastore, 1) := by decide +kernel
theorem dX6_addClass_158 : decode cX6_addClass 158 = .ok (.aload_n 0, 1) := by decide +kernel
theorem dX6_addClass_159 : decode cX6_addClass 159 = .ok (.getfield 13, 3) := by decide +kernel
theorem dX6_addClass_162 : decode cX6_addClass 162 = .ok (.iload_n 1, 1) := by decide +kernel
theorem dX6_addClass_163 : decode cX6_addClass 163 = .ok (.iconst 5, 1) := by decide +kernel
theorem dX6_addClass_164 : decode cX6_addClass 164 = .ok (.iadd, 1) := by decide +kernel
theorem dX6_addClass_165 : decode cX6_addClass 165 = .ok (.aload_n 0, 1) := by decide +kernel
theorem dX6_addClass_166 : decode cX6_addClass 166 = .ok (.getfield 63, 3) := by decide +kernel
theorem dX6_addClass_169 : decode cX6_addClass 169 = .ok (.iastore, 1) := by decide +kernel
theorem dX6_addClass_170 : decode cX6_addClass 170 = .ok (.aload_n 0, 1) := by decide +kernel
theorem dX6_addClass_171 : decode cX6_addClass 171 = .ok (.getfield 17, 3) := by decide +kernel
theorem dX6_addClass_174 : decode cX6_addClass 174 = .ok (.iconst 0, 1) := by decide +kernel
theorem dX6_addClass_175 : decode cX6_addClass 175 = .ok (.aload_n 0, 1) := by decide +kernel
theorem dX6_addClass_176 : decode cX6_addClass 176 = .ok (.getfield 60, 3) := by decide +kernel
theorem dX6_addClass_179 : decode cX6_addClass 179 = .ok (.iconst 1, 1) := by decide +kernel
theorem dX6_addClass_180 : decode cX6_addClass 180 = .ok (.iadd, 1) := by decide +kernel
theorem dX6_addClass_181 : decode cX6_addClass 181 = .ok (.iastore, 1) := by decide +kernel
theorem dX6_addClass_182 : decode cX6_addClass 182 = .ok (.aload_n 0, 1) := by decide +kernel
theorem dX6_addClass_183 : decode cX6_addClass 183 = .ok (.getfield 17, 3) := by decide +kernel
theorem dX6_addClass_186 : decode cX6_addClass 186 = .ok (.iconst 1, 1) := by decide +kernel
theorem dX6_addClass_187 : decode cX6_addClass 187 = .ok (.iload_n 2, 1) := by decide +kernel
theorem dX6_addClass_188 : decode cX6_addClass 188 = .ok (.iconst 1, 1) := by decide +kernel
theorem dX6_addClass_189 : decode cX6_addClass 189 = .ok (.iadd, 1) := by decide +kernel
theorem dX6_addClass_190 : decode cX6_addClass 190 = .ok (.iastore, 1) := by decide +kernel
theorem dX6_addClass_191 : decode cX6_addClass 191 = .ok (.aload_n 0, 1) := by decide +kernel
theorem dX6_addClass_192 : decode cX6_addClass 192 = .ok (.dup, 1) := by decide +kernel
theorem dX6_addClass_193 : decode cX6_addClass 193 = .ok (.getfield 32, 3) := by decide +kernel
theorem dX6_addClass_196 : decode cX6_addClass 196 = .ok (.iconst 1, 1) := by decide +kernel
theorem dX6_addClass_197 : decode cX6_addClass 197 = .ok (.iadd, 1) := by decide +kernel
theorem dX6_addClass_198 : decode cX6_addClass 198 = .ok (.putfield 32, 3) := by decide +kernel
theorem dX6_addClass_201 : decode cX6_addClass 201 = .ok (.iconst 1, 1) := by decide +kernel
theorem dX6_addClass_202 : decode cX6_addClass 202 = .ok (.ireturn, 1) := by decide +kernel
theorem dX6_choose_0 : decode cX6_choose 0 = .ok (.sipush (-1000), 3) := by decide +kernel
theorem dX6_choose_3 : decode cX6_choose 3 = .ok (.aload_n 0, 1) := by decide +kernel
theorem dX6_choose_4 : decode cX6_choose 4 = .ok (.getfield 24, 3) := by decide +kernel
theorem dX6_choose_7 : decode cX6_choose 7 = .ok (.iconst 0, 1) := by decide +kernel
theorem dX6_choose_8 : decode cX6_choose 8 = .ok (.invokevirtual 66, 3) := by decide +kernel
theorem dX6_choose_11 : decode cX6_choose 11 = .ok (.imul, 1) := by decide +kernel
theorem dX6_choose_12 : decode cX6_choose 12 = .ok (.istore_n 3, 1) := by decide +kernel
theorem dX6_choose_13 : decode cX6_choose 13 = .ok (.aload_n 0, 1) := by decide +kernel
theorem dX6_choose_14 : decode cX6_choose 14 = .ok (.getfield 24, 3) := by decide +kernel
theorem dX6_choose_17 : decode cX6_choose 17 = .ok (.iconst 1, 1) := by decide +kernel
theorem dX6_choose_18 : decode cX6_choose 18 = .ok (.invokevirtual 66, 3) := by decide +kernel
theorem dX6_choose_21 : decode cX6_choose 21 = .ok (.istore 4, 2) := by decide +kernel
theorem dX6_choose_23 : decode cX6_choose 23 = .ok (.iload_n 2, 1) := by decide +kernel
theorem dX6_choose_24 : decode cX6_choose 24 = .ok (.istore 5, 2) := by decide +kernel
theorem dX6_choose_26 : decode cX6_choose 26 = .ok (.iload 5, 2) := by decide +kernel
theorem dX6_choose_28 : decode cX6_choose 28 = .ok (.aload_n 0, 1) := by decide +kernel
theorem dX6_choose_29 : decode cX6_choose 29 = .ok (.getfield 24, 3) := by decide +kernel
theorem dX6_choose_32 : decode cX6_choose 32 = .ok (.iload_n 1, 1) := by decide +kernel
theorem dX6_choose_33 : decode cX6_choose 33 = .ok (.invokevirtual 40, 3) := by decide +kernel
theorem dX6_choose_36 : decode cX6_choose 36 = .ok (.if_icmp .ge 88, 3) := by decide +kernel
theorem dX6_choose_39 : decode cX6_choose 39 = .ok (.aload_n 0, 1) := by decide +kernel
theorem dX6_choose_40 : decode cX6_choose 40 = .ok (.getfield 24, 3) := by decide +kernel
theorem dX6_choose_43 : decode cX6_choose 43 = .ok (.iload_n 1, 1) := by decide +kernel
theorem dX6_choose_44 : decode cX6_choose 44 = .ok (.iload 5, 2) := by decide +kernel
theorem dX6_choose_46 : decode cX6_choose 46 = .ok (.invokevirtual 69, 3) := by decide +kernel
theorem dX6_choose_49 : decode cX6_choose 49 = .ok (.istore 6, 2) := by decide +kernel
theorem dX6_choose_51 : decode cX6_choose 51 = .ok (.iload_n 3, 1) := by decide +kernel
theorem dX6_choose_52 : decode cX6_choose 52 = .ok (.iload 6, 2) := by decide +kernel
theorem dX6_choose_54 : decode cX6_choose 54 = .ok (.aload_n 0, 1) := by decide +kernel
theorem dX6_choose_55 : decode cX6_choose 55 = .ok (.getfield 24, 3) := by decide +kernel
theorem dX6_choose_58 : decode cX6_choose 58 = .ok (.iload_n 1, 1) := by decide +kernel
theorem dX6_choose_59 : decode cX6_choose 59 = .ok (.iload 5, 2) := by decide +kernel
theorem dX6_choose_61 : decode cX6_choose 61 = .ok (.invokevirtual 73, 3) := by decide +kernel
theorem dX6_choose_64 : decode cX6_choose 64 = .ok (.imul, 1) := by decide +kernel
theorem dX6_choose_65 : decode cX6_choose 65 = .ok (.iadd, 1) := by decide +kernel
theorem dX6_choose_66 : decode cX6_choose 66 = .ok (.istore_n 3, 1) := by decide +kernel
theorem dX6_choose_67 : decode cX6_choose 67 = .ok (.iload 4, 2) := by decide +kernel
theorem dX6_choose_69 : decode cX6_choose 69 = .ok (.iload 6, 2) := by decide +kernel
theorem dX6_choose_71 : decode cX6_choose 71 = .ok (.iadd, 1) := by decide +kernel
theorem dX6_choose_72 : decode cX6_choose 72 = .ok (.istore 4, 2) := by decide +kernel
theorem dX6_choose_74 : decode cX6_choose 74 = .ok (.iload 5, 2) := by decide +kernel
theorem dX6_choose_76 : decode cX6_choose 76 = .ok (.iload_n 2, 1) := by decide +kernel
theorem dX6_choose_77 : decode cX6_choose 77 = .ok (.if_icmp .eq 24, 3) := by decide +kernel
theorem dX6_choose_80 : decode cX6_choose 80 = .ok (.iload_n 3, 1) := by decide +kernel
theorem dX6_choose_81 : decode cX6_choose 81 = .ok (.i2l, 1) := by decide +kernel
theorem dX6_choose_82 : decode cX6_choose 82 = .ok (.aload_n 0, 1) := by decide +kernel
theorem dX6_choose_83 : decode cX6_choose 83 = .ok (.getfield 63, 3) := by decide +kernel
theorem dX6_choose_86 : decode cX6_choose 86 = .ok (.i2l, 1) := by decide +kernel
theorem dX6_choose_87 : decode cX6_choose 87 = .ok (.lmul, 1) := by decide +kernel
theorem dX6_choose_88 : decode cX6_choose 88 = .ok (.aload_n 0, 1) := by decide +kernel
theorem dX6_choose_89 : decode cX6_choose 89 = .ok (.getfield 57, 3) := by decide +kernel
theorem dX6_choose_92 : decode cX6_choose 92 = .ok (.i2l, 1) := by decide +kernel
theorem dX6_choose_93 : decode cX6_choose 93 = .ok (.iload 4, 2) := by decide +kernel
theorem dX6_choose_95 : decode cX6_choose 95 = .ok (.i2l, 1) := by decide +kernel
theorem dX6_choose_96 : decode cX6_choose 96 = .ok (.lmul, 1) := by decide +kernel
theorem dX6_choose_97 : decode cX6_choose 97 = .ok (.lcmp, 1) := by decide +kernel
theorem dX6_choose_98 : decode cX6_choose 98 = .ok (.ifCond .le 20, 3) := by decide +kernel
theorem dX6_choose_101 : decode cX6_choose 101 = .ok (.aload_n 0, 1) := by decide +kernel
theorem dX6_choose_102 : decode cX6_choose 102 = .ok (.iload 5, 2) := by decide +kernel
theorem dX6_choose_104 : decode cX6_choose 104 = .ok (.putfield 60, 3) := by decide +kernel
theorem dX6_choose_107 : decode cX6_choose 107 = .ok (.aload_n 0, 1) := by decide +kernel
theorem dX6_choose_108 : decode cX6_choose 108 = .ok (.iload_n 3, 1) := by decide +kernel
theorem dX6_choose_109 : decode cX6_choose 109 = .ok (.putfield 57, 3) := by decide +kernel
theorem dX6_choose_112 : decode cX6_choose 112 = .ok (.aload_n 0, 1) := by decide +kernel
theorem dX6_choose_113 : decode cX6_choose 113 = .ok (.iload 4, 2) := by decide +kernel
theorem dX6_choose_115 : decode cX6_choose 115 = .ok (.putfield 63, 3) := by decide +kernel
theorem dX6_choose_118 : decode cX6_choose 118 = .ok (.iinc 5 1, 3) := by decide +kernel
theorem dX6_choose_121 : decode cX6_choose 121 = .ok (.goto (-95), 3) := by decide +kernel
theorem dX6_choose_124 : decode cX6_choose 124 = .ok (.return_, 1) := by decide +kernel
theorem dX7_init_0 : decode cX7_init 0 = .ok (.aload_n 0, 1) := by decide +kernel
theorem dX7_init_1 : decode cX7_init 1 = .ok (.invokespecial 3, 3) := by decide +kernel
theorem dX7_init_4 : decode cX7_init 4 = .ok (.aload_n 0, 1) := by decide +kernel
theorem dX7_init_5 : decode cX7_init 5 = .ok (.new 9, 3) := by decide +kernel
theorem dX7_init_8 : decode cX7_init 8 = .ok (.dup, 1) := by decide +kernel
theorem dX7_init_9 : decode cX7_init 9 = .ok (.invokespecial 11, 3) := by decide +kernel
theorem dX7_init_12 : decode cX7_init 12 = .ok (.putfield 12, 3) := by decide +kernel
theorem dX7_init_15 : decode cX7_init 15 = .ok (.aload_n 0, 1) := by decide +kernel
theorem dX7_init_16 : decode cX7_init 16 = .ok (.iconst (-1), 1) := by decide +kernel
theorem dX7_init_17 : decode cX7_init 17 = .ok (.putfield 18, 3) := by decide +kernel
theorem dX7_init_20 : decode cX7_init 20 = .ok (.aload_n 0, 1) := by decide +kernel
theorem dX7_init_21 : decode cX7_init 21 = .ok (.aload_n 1, 1) := by decide +kernel
theorem dX7_init_22 : decode cX7_init 22 = .ok (.putfield 22, 3) := by decide +kernel
theorem dX7_init_25 : decode cX7_init 25 = .ok (.return_, 1) := by decide +kernel
theorem dX7_draft_0 : decode cX7_draft 0 = .ok (.aload_n 0, 1) := by decide +kernel
theorem dX7_draft_1 : decode cX7_draft 1 = .ok (.getfield 12, 3) := by decide +kernel
theorem dX7_draft_4 : decode cX7_draft 4 = .ok (.areturn, 1) := by decide +kernel
theorem dX7_kindOfFault_0 : decode cX7_kindOfFault 0 = .ok (.aload_n 0, 1) := by decide +kernel
theorem dX7_kindOfFault_1 : decode cX7_kindOfFault 1 = .ok (.getfield 26, 3) := by decide +kernel
theorem dX7_kindOfFault_4 : decode cX7_kindOfFault 4 = .ok (.ireturn, 1) := by decide +kernel
theorem dX7_placeOfFault_0 : decode cX7_placeOfFault 0 = .ok (.aload_n 0, 1) := by decide +kernel
theorem dX7_placeOfFault_1 : decode cX7_placeOfFault 1 = .ok (.getfield 18, 3) := by decide +kernel
theorem dX7_placeOfFault_4 : decode cX7_placeOfFault 4 = .ok (.ireturn, 1) := by decide +kernel
theorem dX7_forget_0 : decode cX7_forget 0 = .ok (.aload_n 0, 1) := by decide +kernel
theorem dX7_forget_1 : decode cX7_forget 1 = .ok (.iconst 0, 1) := by decide +kernel
theorem dX7_forget_2 : decode cX7_forget 2 = .ok (.putfield 26, 3) := by decide +kernel
theorem dX7_forget_5 : decode cX7_forget 5 = .ok (.aload_n 0, 1) := by decide +kernel
theorem dX7_forget_6 : decode cX7_forget 6 = .ok (.iconst (-1), 1) := by decide +kernel
theorem dX7_forget_7 : decode cX7_forget 7 = .ok (.putfield 18, 3) := by decide +kernel
theorem dX7_forget_10 : decode cX7_forget 10 = .ok (.return_, 1) := by decide +kernel
theorem dX7_read_0 : decode cX7_read 0 = .ok (.aload_n 0, 1) := by decide +kernel
theorem dX7_read_1 : decode cX7_read 1 = .ok (.invokevirtual 29, 3) := by decide +kernel
theorem dX7_read_4 : decode cX7_read 4 = .ok (.aload_n 0, 1) := by decide +kernel
theorem dX7_read_5 : decode cX7_read 5 = .ok (.getfield 12, 3) := by decide +kernel
theorem dX7_read_8 : decode cX7_read 8 = .ok (.invokevirtual 32, 3) := by decide +kernel
theorem dX7_read_11 : decode cX7_read 11 = .ok (.aload_n 0, 1) := by decide +kernel
theorem dX7_read_12 : decode cX7_read 12 = .ok (.getfield 22, 3) := by decide +kernel
theorem dX7_read_15 : decode cX7_read 15 = .ok (.invokevirtual 35, 3) := by decide +kernel
theorem dX7_read_18 : decode cX7_read 18 = .ok (.aload_n 0, 1) := by decide +kernel
theorem dX7_read_19 : decode cX7_read 19 = .ok (.iconst 0, 1) := by decide +kernel
theorem dX7_read_20 : decode cX7_read 20 = .ok (.putfield 40, 3) := by decide +kernel
theorem dX7_read_23 : decode cX7_read 23 = .ok (.aload_n 0, 1) := by decide +kernel
theorem dX7_read_24 : decode cX7_read 24 = .ok (.aload_n 0, 1) := by decide +kernel
theorem dX7_read_25 : decode cX7_read 25 = .ok (.getfield 22, 3) := by decide +kernel
theorem dX7_read_28 : decode cX7_read 28 = .ok (.iconst 0, 1) := by decide +kernel
theorem dX7_read_29 : decode cX7_read 29 = .ok (.invokevirtual 43, 3) := by decide +kernel
theorem dX7_read_32 : decode cX7_read 32 = .ok (.putfield 47, 3) := by decide +kernel
theorem dX7_read_35 : decode cX7_read 35 = .ok (.iconst 0, 1) := by decide +kernel
theorem dX7_read_36 : decode cX7_read 36 = .ok (.istore_n 1, 1) := by decide +kernel
theorem dX7_read_37 : decode cX7_read 37 = .ok (.iload_n 1, 1) := by decide +kernel
theorem dX7_read_38 : decode cX7_read 38 = .ok (.bipush 12, 2) := by decide +kernel
theorem dX7_read_40 : decode cX7_read 40 = .ok (.if_icmp .gt 27, 3) := by decide +kernel
theorem dX7_read_43 : decode cX7_read 43 = .ok (.aload_n 0, 1) := by decide +kernel
theorem dX7_read_44 : decode cX7_read 44 = .ok (.getfield 47, 3) := by decide +kernel
theorem dX7_read_47 : decode cX7_read 47 = .ok (.ifCond .eq 20, 3) := by decide +kernel
theorem dX7_read_50 : decode cX7_read 50 = .ok (.aload_n 0, 1) := by decide +kernel
theorem dX7_read_51 : decode cX7_read 51 = .ok (.getfield 26, 3) := by decide +kernel
theorem dX7_read_54 : decode cX7_read 54 = .ok (.ifCond .ne 13, 3) := by decide +kernel
theorem dX7_read_57 : decode cX7_read 57 = .ok (.aload_n 0, 1) := by decide +kernel
theorem dX7_read_58 : decode cX7_read 58 = .ok (.invokevirtual 50, 3) := by decide +kernel
theorem dX7_read_61 : decode cX7_read 61 = .ok (.iinc 1 1, 3) := by decide +kernel
theorem dX7_read_64 : decode cX7_read 64 = .ok (.goto (-27), 3) := by decide +kernel
theorem dX7_read_67 : decode cX7_read 67 = .ok (.aload_n 0, 1) := by decide +kernel
theorem dX7_read_68 : decode cX7_read 68 = .ok (.getfield 26, 3) := by decide +kernel
theorem dX7_read_71 : decode cX7_read 71 = .ok (.ifCond .ne 7, 3) := by decide +kernel
theorem dX7_read_74 : decode cX7_read 74 = .ok (.iconst 1, 1) := by decide +kernel
theorem dX7_read_75 : decode cX7_read 75 = .ok (.goto 4, 3) := by decide +kernel
theorem dX7_read_78 : decode cX7_read 78 = .ok (.iconst 0, 1) := by decide +kernel
theorem dX7_read_79 : decode cX7_read 79 = .ok (.ireturn, 1) := by decide +kernel
theorem dX7_readLine_0 : decode cX7_readLine 0 = .ok (.aload_n 0, 1) := by decide +kernel
theorem dX7_readLine_1 : decode cX7_readLine 1 = .ok (.getfield 47, 3) := by decide +kernel
theorem dX7_readLine_4 : decode cX7_readLine 4 = .ok (.sipush 256, 3) := by decide +kernel
theorem dX7_readLine_7 : decode cX7_readLine 7 = .ok (.if_icmp .eq 19, 3) := by decide +kernel
theorem dX7_readLine_10 : decode cX7_readLine 10 = .ok (.aload_n 0, 1) := by decide +kernel
theorem dX7_readLine_11 : decode cX7_readLine 11 = .ok (.getfield 47, 3) := by decide +kernel
theorem dX7_readLine_14 : decode cX7_readLine 14 = .ok (.sipush 257, 3) := by decide +kernel
theorem dX7_readLine_17 : decode cX7_readLine 17 = .ok (.if_icmp .eq 9, 3) := by decide +kernel
theorem dX7_readLine_20 : decode cX7_readLine 20 = .ok (.aload_n 0, 1) := by decide +kernel
theorem dX7_readLine_21 : decode cX7_readLine 21 = .ok (.iconst 1, 1) := by decide +kernel
theorem dX7_readLine_22 : decode cX7_readLine 22 = .ok (.invokevirtual 53, 3) := by decide +kernel
theorem dX7_readLine_25 : decode cX7_readLine 25 = .ok (.return_, 1) := by decide +kernel
theorem dX7_readLine_26 : decode cX7_readLine 26 = .ok (.aload_n 0, 1) := by decide +kernel
theorem dX7_readLine_27 : decode cX7_readLine 27 = .ok (.getfield 12, 3) := by decide +kernel
theorem dX7_readLine_30 : decode cX7_readLine 30 = .ok (.invokevirtual 57, 3) := by decide +kernel
theorem dX7_readLine_33 : decode cX7_readLine 33 = .ok (.bipush 12, 2) := by decide +kernel
theorem dX7_readLine_35 : decode cX7_readLine 35 = .ok (.if_icmp .lt 9, 3) := by decide +kernel
theorem dX7_readLine_38 : decode cX7_readLine 38 = .ok (.aload_n 0, 1) := by decide +kernel
theorem dX7_readLine_39 : decode cX7_readLine 39 = .ok (.iconst 3, 1) := by decide +kernel
theorem dX7_readLine_40 : decode cX7_readLine 40 = .ok (.invokevirtual 53, 3) := by decide +kernel
theorem dX7_readLine_43 : decode cX7_readLine 43 = .ok (.return_, 1) := by decide +kernel
theorem dX7_readLine_44 : decode cX7_readLine 44 = .ok (.aload_n 0, 1) := by decide +kernel
theorem dX7_readLine_45 : decode cX7_readLine 45 = .ok (.getfield 12, 3) := by decide +kernel
theorem dX7_readLine_48 : decode cX7_readLine 48 = .ok (.aload_n 0, 1) := by decide +kernel
theorem dX7_readLine_49 : decode cX7_readLine 49 = .ok (.getfield 47, 3) := by decide +kernel
theorem dX7_readLine_52 : decode cX7_readLine 52 = .ok (.invokevirtual 61, 3) := by decide +kernel
theorem dX7_readLine_55 : decode cX7_readLine 55 = .ok (.aload_n 0, 1) := by decide +kernel
theorem dX7_readLine_56 : decode cX7_readLine 56 = .ok (.invokevirtual 64, 3) := by decide +kernel
theorem dX7_readLine_59 : decode cX7_readLine 59 = .ok (.aload_n 0, 1) := by decide +kernel
theorem dX7_readLine_60 : decode cX7_readLine 60 = .ok (.invokevirtual 67, 3) := by decide +kernel
theorem dX7_readLine_63 : decode cX7_readLine 63 = .ok (.aload_n 0, 1) := by decide +kernel
theorem dX7_readLine_64 : decode cX7_readLine 64 = .ok (.getfield 12, 3) := by decide +kernel
theorem dX7_readLine_67 : decode cX7_readLine 67 = .ok (.invokevirtual 70, 3) := by decide +kernel
theorem dX7_readLine_70 : decode cX7_readLine 70 = .ok (.aload_n 0, 1) := by decide +kernel
theorem dX7_readLine_71 : decode cX7_readLine 71 = .ok (.getfield 47, 3) := by decide +kernel
theorem dX7_readLine_74 : decode cX7_readLine 74 = .ok (.sipush 258, 3) := by decide +kernel
theorem dX7_readLine_77 : decode cX7_readLine 77 = .ok (.if_icmp .ne 12, 3) := by decide +kernel
theorem dX7_readLine_80 : decode cX7_readLine 80 = .ok (.aload_n 0, 1) := by decide +kernel
theorem dX7_readLine_81 : decode cX7_readLine 81 = .ok (.invokevirtual 64, 3) := by decide +kernel
theorem dX7_readLine_84 : decode cX7_readLine 84 = .ok (.aload_n 0, 1) := by decide +kernel
theorem dX7_readLine_85 : decode cX7_readLine 85 = .ok (.iconst 0, 1) := by decide +kernel
theorem dX7_readLine_86 : decode cX7_readLine 86 = .ok (.invokevirtual 73, 3) := by decide +kernel
theorem dX7_readLine_89 : decode cX7_readLine 89 = .ok (.aload_n 0, 1) := by decide +kernel
theorem dX7_readLine_90 : decode cX7_readLine 90 = .ok (.getfield 47, 3) := by decide +kernel
theorem dX7_readLine_93 : decode cX7_readLine 93 = .ok (.bipush 59, 2) := by decide +kernel
theorem dX7_readLine_95 : decode cX7_readLine 95 = .ok (.if_icmp .ne 17, 3) := by decide +kernel
theorem dX7_readLine_98 : decode cX7_readLine 98 = .ok (.aload_n 0, 1) := by decide +kernel
theorem dX7_readLine_99 : decode cX7_readLine 99 = .ok (.getfield 12, 3) := by decide +kernel
theorem dX7_readLine_102 : decode cX7_readLine 102 = .ok (.invokevirtual 76, 3) := by decide +kernel
theorem dX7_readLine_105 : decode cX7_readLine 105 = .ok (.aload_n 0, 1) := by decide +kernel
theorem dX7_readLine_106 : decode cX7_readLine 106 = .ok (.invokevirtual 64, 3) := by decide +kernel
theorem dX7_readLine_109 : decode cX7_readLine 109 = .ok (.goto 8, 3) := by decide +kernel
theorem dX7_readLine_112 : decode cX7_readLine 112 = .ok (.aload_n 0, 1) := by decide +kernel
theorem dX7_readLine_113 : decode cX7_readLine 113 = .ok (.iconst 1, 1) := by decide +kernel
theorem dX7_readLine_114 : decode cX7_readLine 114 = .ok (.invokevirtual 53, 3) := by decide +kernel
theorem dX7_readLine_117 : decode cX7_readLine 117 = .ok (.return_, 1) := by decide +kernel
theorem dX7_readEither_0 : decode cX7_readEither 0 = .ok (.iconst 0, 1) := by decide +kernel
theorem dX7_readEither_1 : decode cX7_readEither 1 = .ok (.istore_n 2, 1) := by decide +kernel
theorem dX7_readEither_2 : decode cX7_readEither 2 = .ok (.aload_n 0, 1) := by decide +kernel
theorem dX7_readEither_3 : decode cX7_readEither 3 = .ok (.iload_n 1, 1) := by decide +kernel
theorem dX7_readEither_4 : decode cX7_readEither 4 = .ok (.invokevirtual 79, 3) := by decide +kernel
theorem dX7_readEither_7 : decode cX7_readEither 7 = .ok (.iconst 0, 1) := by decide +kernel
theorem dX7_readEither_8 : decode cX7_readEither 8 = .ok (.istore_n 3, 1) := by decide +kernel
theorem dX7_readEither_9 : decode cX7_readEither 9 = .ok (.iload_n 3, 1) := by decide +kernel
theorem dX7_readEither_10 : decode cX7_readEither 10 = .ok (.sipush 400, 3) := by decide +kernel
theorem dX7_readEither_13 : decode cX7_readEither 13 = .ok (.if_icmp .ge 75, 3) := by decide +kernel
theorem dX7_readEither_16 : decode cX7_readEither 16 = .ok (.aload_n 0, 1) := by decide +kernel
theorem dX7_readEither_17 : decode cX7_readEither 17 = .ok (.getfield 47, 3) := by decide +kernel
theorem dX7_readEither_20 : decode cX7_readEither 20 = .ok (.sipush 260, 3) := by decide +kernel
theorem dX7_readEither_23 : decode cX7_readEither 23 = .ok (.if_icmp .ne 24, 3) := by decide +kernel
theorem dX7_readEither_26 : decode cX7_readEither 26 = .ok (.aload_n 0, 1) := by decide +kernel
theorem dX7_readEither_27 : decode cX7_readEither 27 = .ok (.invokevirtual 64, 3) := by decide +kernel
theorem dX7_readEither_30 : decode cX7_readEither 30 = .ok (.aload_n 0, 1) := by decide +kernel
theorem dX7_readEither_31 : decode cX7_readEither 31 = .ok (.iload_n 1, 1) := by decide +kernel
theorem dX7_readEither_32 : decode cX7_readEither 32 = .ok (.invokevirtual 79, 3) := by decide +kernel
theorem dX7_readEither_35 : decode cX7_readEither 35 = .ok (.aload_n 0, 1) := by decide +kernel
theorem dX7_readEither_36 : decode cX7_readEither 36 = .ok (.getfield 12, 3) := by decide +kernel
theorem dX7_readEither_39 : decode cX7_readEither 39 = .ok (.bipush (-15), 2) := by decide +kernel
theorem dX7_readEither_41 : decode cX7_readEither 41 = .ok (.invokevirtual 82, 3) := by decide +kernel
theorem dX7_readEither_44 : decode cX7_readEither 44 = .ok (.goto 38, 3) := by decide +kernel
theorem dX7_readEither_47 : decode cX7_readEither 47 = .ok (.iload_n 2, 1) := by decide +kernel
theorem dX7_readEither_48 : decode cX7_readEither 48 = .ok (.ifCond .eq 12, 3) := by decide +kernel
theorem dX7_readEither_51 : decode cX7_readEither 51 = .ok (.aload_n 0, 1) := by decide +kernel
theorem dX7_readEither_52 : decode cX7_readEither 52 = .ok (.getfield 12, 3) := by decide +kernel
theorem dX7_readEither_55 : decode cX7_readEither 55 = .ok (.bipush (-16), 2) := by decide +kernel
theorem dX7_readEither_57 : decode cX7_readEither 57 = .ok (.invokevirtual 82, 3) := by decide +kernel
theorem dX7_readEither_60 : decode cX7_readEither 60 = .ok (.aload_n 0, 1) := by decide +kernel
theorem dX7_readEither_61 : decode cX7_readEither 61 = .ok (.getfield 47, 3) := by decide +kernel
theorem dX7_readEither_64 : decode cX7_readEither 64 = .ok (.sipush 259, 3) := by decide +kernel
theorem dX7_readEither_67 : decode cX7_readEither 67 = .ok (.if_icmp .eq 4, 3) := by decide +kernel
theorem dX7_readEither_70 : decode cX7_readEither 70 = .ok (.return_, 1) := by decide +kernel
theorem dX7_readEither_71 : decode cX7_readEither 71 = .ok (.iconst 1, 1) := by decide +kernel
theorem dX7_readEither_72 : decode cX7_readEither 72 = .ok (.istore_n 2, 1) := by decide +kernel
theorem dX7_readEither_73 : decode cX7_readEither 73 = .ok (.aload_n 0, 1) := by decide +kernel
theorem dX7_readEither_74 : decode cX7_readEither 74 = .ok (.invokevirtual 64, 3) := by decide +kernel
theorem dX7_readEither_77 : decode cX7_readEither 77 = .ok (.aload_n 0, 1) := by decide +kernel
theorem dX7_readEither_78 : decode cX7_readEither 78 = .ok (.iload_n 1, 1) := by decide +kernel
theorem dX7_readEither_79 : decode cX7_readEither 79 = .ok (.invokevirtual 79, 3) := by decide +kernel
theorem dX7_readEither_82 : decode cX7_readEither 82 = .ok (.iinc 3 1, 3) := by decide +kernel
theorem dX7_readEither_85 : decode cX7_readEither 85 = .ok (.goto (-76), 3) := by decide +kernel
theorem dX7_readEither_88 : decode cX7_readEither 88 = .ok (.return_, 1) := by decide +kernel
theorem dX7_readClaim_0 : decode cX7_readClaim 0 = .ok (.aload_n 0, 1) := by decide +kernel
theorem dX7_readClaim_1 : decode cX7_readClaim 1 = .ok (.getfield 47, 3) := by decide +kernel
theorem dX7_readClaim_4 : decode cX7_readClaim 4 = .ok (.sipush 261, 3) := by decide +kernel
theorem dX7_readClaim_7 : decode cX7_readClaim 7 = .ok (.if_icmp .ne 7, 3) := by decide +kernel
theorem dX7_readClaim_10 : decode cX7_readClaim 10 = .ok (.iconst 1, 1) := by decide +kernel
theorem dX7_readClaim_11 : decode cX7_readClaim 11 = .ok (.goto 4, 3) := by decide +kernel
theorem dX7_readClaim_14 : decode cX7_readClaim 14 = .ok (.iconst 0, 1) := by decide +kernel
theorem dX7_readClaim_15 : decode cX7_readClaim 15 = .ok (.istore_n 2, 1) := by decide +kernel
theorem dX7_readClaim_16 : decode cX7_readClaim 16 = .ok (.iload_n 2, 1) := by decide +kernel
theorem dX7_readClaim_17 : decode cX7_readClaim 17 = .ok (.ifCond .ne 34, 3) := by decide +kernel
theorem dX7_readClaim_20 : decode cX7_readClaim 20 = .ok (.aload_n 0, 1) := by decide +kernel
theorem dX7_readClaim_21 : decode cX7_readClaim 21 = .ok (.getfield 47, 3) := by decide +kernel
theorem dX7_readClaim_24 : decode cX7_readClaim 24 = .ok (.bipush 40, 2) := by decide +kernel
theorem dX7_readClaim_26 : decode cX7_readClaim 26 = .ok (.if_icmp .eq 25, 3) := by decide +kernel
theorem dX7_readClaim_29 : decode cX7_readClaim 29 = .ok (.aload_n 0, 1) := by decide +kernel
theorem dX7_readClaim_30 : decode cX7_readClaim 30 = .ok (.invokevirtual 67, 3) := by decide +kernel
theorem dX7_readClaim_33 : decode cX7_readClaim 33 = .ok (.aload_n 0, 1) := by decide +kernel
theorem dX7_readClaim_34 : decode cX7_readClaim 34 = .ok (.invokevirtual 85, 3) := by decide +kernel
theorem dX7_readClaim_37 : decode cX7_readClaim 37 = .ok (.istore_n 3, 1) := by decide +kernel
theorem dX7_readClaim_38 : decode cX7_readClaim 38 = .ok (.aload_n 0, 1) := by decide +kernel
theorem dX7_readClaim_39 : decode cX7_readClaim 39 = .ok (.invokevirtual 67, 3) := by decide +kernel
theorem dX7_readClaim_42 : decode cX7_readClaim 42 = .ok (.aload_n 0, 1) := by decide +kernel
theorem dX7_readClaim_43 : decode cX7_readClaim 43 = .ok (.getfield 12, 3) := by decide +kernel
theorem dX7_readClaim_46 : decode cX7_readClaim 46 = .ok (.iload_n 3, 1) := by decide +kernel
theorem dX7_readClaim_47 : decode cX7_readClaim 47 = .ok (.invokevirtual 82, 3) := by decide +kernel
theorem dX7_readClaim_50 : decode cX7_readClaim 50 = .ok (.return_, 1) := by decide +kernel
theorem dX7_readClaim_51 : decode cX7_readClaim 51 = .ok (.iload_n 1, 1) := by decide +kernel
theorem dX7_readClaim_52 : decode cX7_readClaim 52 = .ok (.bipush 8, 2) := by decide +kernel
theorem dX7_readClaim_54 : decode cX7_readClaim 54 = .ok (.if_icmp .lt 9, 3) := by decide +kernel
theorem dX7_readClaim_57 : decode cX7_readClaim 57 = .ok (.aload_n 0, 1) := by decide +kernel
theorem dX7_readClaim_58 : decode cX7_readClaim 58 = .ok (.iconst 3, 1) := by decide +kernel
theorem dX7_readClaim_59 : decode cX7_readClaim 59 = .ok (.invokevirtual 53, 3) := by decide +kernel
theorem dX7_readClaim_62 : decode cX7_readClaim 62 = .ok (.return_, 1) := by decide +kernel
theorem dX7_readClaim_63 : decode cX7_readClaim 63 = .ok (.aload_n 0, 1) := by decide +kernel
theorem dX7_readClaim_64 : decode cX7_readClaim 64 = .ok (.invokevirtual 64, 3) := by decide +kernel
theorem dX7_readClaim_67 : decode cX7_readClaim 67 = .ok (.iload_n 2, 1) := by decide +kernel
theorem dX7_readClaim_68 : decode cX7_readClaim 68 = .ok (.ifCond .eq 20, 3) := by decide +kernel
theorem dX7_readClaim_71 : decode cX7_readClaim 71 = .ok (.aload_n 0, 1) := by decide +kernel
theorem dX7_readClaim_72 : decode cX7_readClaim 72 = .ok (.iload_n 1, 1) := by decide +kernel
theorem dX7_readClaim_73 : decode cX7_readClaim 73 = .ok (.iconst 1, 1) := by decide +kernel
theorem dX7_readClaim_74 : decode cX7_readClaim 74 = .ok (.iadd, 1) := by decide +kernel
theorem dX7_readClaim_75 : decode cX7_readClaim 75 = .ok (.invokevirtual 79, 3) := by decide +kernel
theorem dX7_readClaim_78 : decode cX7_readClaim 78 = .ok (.aload_n 0, 1) := by decide +kernel
theorem dX7_readClaim_79 : decode cX7_readClaim 79 = .ok (.getfield 12, 3) := by decide +kernel
theorem dX7_readClaim_82 : decode cX7_readClaim 82 = .ok (.bipush (-17), 2) := by decide +kernel
theorem dX7_readClaim_84 : decode cX7_readClaim 84 = .ok (.invokevirtual 82, 3) := by decide +kernel
theorem dX7_readClaim_87 : decode cX7_readClaim 87 = .ok (.return_, 1) := by decide +kernel
theorem dX7_readClaim_88 : decode cX7_readClaim 88 = .ok (.aload_n 0, 1) := by decide +kernel
theorem dX7_readClaim_89 : decode cX7_readClaim 89 = .ok (.iload_n 1, 1) := by decide +kernel
theorem dX7_readClaim_90 : decode cX7_readClaim 90 = .ok (.iconst 1, 1) := by decide +kernel
theorem dX7_readClaim_91 : decode cX7_readClaim 91 = .ok (.iadd, 1) := by decide +kernel
theorem dX7_readClaim_92 : decode cX7_readClaim 92 = .ok (.invokevirtual 73, 3) := by decide +kernel
theorem dX7_readClaim_95 : decode cX7_readClaim 95 = .ok (.aload_n 0, 1) := by decide +kernel
theorem dX7_readClaim_96 : decode cX7_readClaim 96 = .ok (.getfield 47, 3) := by decide +kernel
theorem dX7_readClaim_99 : decode cX7_readClaim 99 = .ok (.bipush 41, 2) := by decide +kernel
theorem dX7_readClaim_101 : decode cX7_readClaim 101 = .ok (.if_icmp .ne 10, 3) := by decide +kernel
theorem dX7_readClaim_104 : decode cX7_readClaim 104 = .ok (.aload_n 0, 1) := by decide +kernel
theorem dX7_readClaim_105 : decode cX7_readClaim 105 = .ok (.invokevirtual 64, 3) := by decide +kernel
theorem dX7_readClaim_108 : decode cX7_readClaim 108 = .ok (.goto 8, 3) := by decide +kernel
theorem dX7_readClaim_111 : decode cX7_readClaim 111 = .ok (.aload_n 0, 1) := by decide +kernel
theorem dX7_readClaim_112 : decode cX7_readClaim 112 = .ok (.iconst 1, 1) := by decide +kernel
theorem dX7_readClaim_113 : decode cX7_readClaim 113 = .ok (.invokevirtual 53, 3) := by decide +kernel
theorem dX7_readClaim_116 : decode cX7_readClaim 116 = .ok (.return_, 1) := by decide +kernel
theorem dX7_comparison_0 : decode cX7_comparison 0 = .ok (.aload_n 0, 1) := by decide +kernel
theorem dX7_comparison_1 : decode cX7_comparison 1 = .ok (.getfield 47, 3) := by decide +kernel
theorem dX7_comparison_4 : decode cX7_comparison 4 = .ok (.bipush 60, 2) := by decide +kernel
theorem dX7_comparison_6 : decode cX7_comparison 6 = .ok (.if_icmp .ne 8, 3) := by decide +kernel
theorem dX7_comparison_9 : decode cX7_comparison 9 = .ok (.bipush (-12), 2) := by decide +kernel
theorem dX7_comparison_11 : decode cX7_comparison 11 = .ok (.goto 19, 3) := by decide +kernel
theorem dX7_comparison_14 : decode cX7_comparison 14 = .ok (.aload_n 0, 1) := by decide +kernel
theorem dX7_comparison_15 : decode cX7_comparison 15 = .ok (.getfield 47, 3) := by decide +kernel
theorem dX7_comparison_18 : decode cX7_comparison 18 = .ok (.bipush 61, 2) := by decide +kernel
theorem dX7_comparison_20 : decode cX7_comparison 20 = .ok (.if_icmp .ne 8, 3) := by decide +kernel
theorem dX7_comparison_23 : decode cX7_comparison 23 = .ok (.bipush (-13), 2) := by decide +kernel
theorem dX7_comparison_25 : decode cX7_comparison 25 = .ok (.goto 5, 3) := by decide +kernel
theorem dX7_comparison_28 : decode cX7_comparison 28 = .ok (.bipush (-14), 2) := by decide +kernel
theorem dX7_comparison_30 : decode cX7_comparison 30 = .ok (.istore_n 1, 1) := by decide +kernel
theorem dX7_comparison_31 : decode cX7_comparison 31 = .ok (.aload_n 0, 1) := by decide +kernel
theorem dX7_comparison_32 : decode cX7_comparison 32 = .ok (.getfield 47, 3) := by decide +kernel
theorem dX7_comparison_35 : decode cX7_comparison 35 = .ok (.bipush 60, 2) := by decide +kernel
theorem dX7_comparison_37 : decode cX7_comparison 37 = .ok (.if_icmp .eq 21, 3) := by decide +kernel
theorem dX7_comparison_40 : decode cX7_comparison 40 = .ok (.aload_n 0, 1) := by decide +kernel
theorem dX7_comparison_41 : decode cX7_comparison 41 = .ok (.getfield 47, 3) := by decide +kernel
theorem dX7_comparison_44 : decode cX7_comparison 44 = .ok (.bipush 61, 2) := by decide +kernel
theorem dX7_comparison_46 : decode cX7_comparison 46 = .ok (.if_icmp .eq 12, 3) := by decide +kernel
theorem dX7_comparison_49 : decode cX7_comparison 49 = .ok (.aload_n 0, 1) := by decide +kernel
theorem dX7_comparison_50 : decode cX7_comparison 50 = .ok (.getfield 47, 3) := by decide +kernel
theorem dX7_comparison_53 : decode cX7_comparison 53 = .ok (.bipush 62, 2) := by decide +kernel
theorem dX7_comparison_55 : decode cX7_comparison 55 = .ok (.if_icmp .ne 10, 3) := by decide +kernel
theorem dX7_comparison_58 : decode cX7_comparison 58 = .ok (.aload_n 0, 1) := by decide +kernel
theorem dX7_comparison_59 : decode cX7_comparison 59 = .ok (.invokevirtual 64, 3) := by decide +kernel
theorem dX7_comparison_62 : decode cX7_comparison 62 = .ok (.goto 8, 3) := by decide +kernel
theorem dX7_comparison_65 : decode cX7_comparison 65 = .ok (.aload_n 0, 1) := by decide +kernel
theorem dX7_comparison_66 : decode cX7_comparison 66 = .ok (.iconst 1, 1) := by decide +kernel
theorem dX7_comparison_67 : decode cX7_comparison 67 = .ok (.invokevirtual 53, 3) := by decide +kernel
theorem dX7_comparison_70 : decode cX7_comparison 70 = .ok (.iload_n 1, 1) := by decide +kernel
theorem dX7_comparison_71 : decode cX7_comparison 71 = .ok (.ireturn, 1) := by decide +kernel
theorem dX7_readSum_0 : decode cX7_readSum 0 = .ok (.iconst 0, 1) := by decide +kernel
theorem dX7_readSum_1 : decode cX7_readSum 1 = .ok (.istore_n 1, 1) := by decide +kernel
theorem dX7_readSum_2 : decode cX7_readSum 2 = .ok (.aload_n 0, 1) := by decide +kernel
theorem dX7_readSum_3 : decode cX7_readSum 3 = .ok (.invokevirtual 88, 3) := by decide +kernel
theorem dX7_readSum_6 : decode cX7_readSum 6 = .ok (.iconst 0, 1) := by decide +kernel
theorem dX7_readSum_7 : decode cX7_readSum 7 = .ok (.istore_n 2, 1) := by decide +kernel
theorem dX7_readSum_8 : decode cX7_readSum 8 = .ok (.iload_n 2, 1) := by decide +kernel
theorem dX7_readSum_9 : decode cX7_readSum 9 = .ok (.sipush 400, 3) := by decide +kernel
theorem dX7_readSum_12 : decode cX7_readSum 12 = .ok (.if_icmp .ge 123, 3) := by decide +kernel
theorem dX7_readSum_15 : decode cX7_readSum 15 = .ok (.aload_n 0, 1) := by decide +kernel
theorem dX7_readSum_16 : decode cX7_readSum 16 = .ok (.getfield 47, 3) := by decide +kernel
theorem dX7_readSum_19 : decode cX7_readSum 19 = .ok (.bipush 42, 2) := by decide +kernel
theorem dX7_readSum_21 : decode cX7_readSum 21 = .ok (.if_icmp .ne 23, 3) := by decide +kernel
theorem dX7_readSum_24 : decode cX7_readSum 24 = .ok (.aload_n 0, 1) := by decide +kernel
theorem dX7_readSum_25 : decode cX7_readSum 25 = .ok (.invokevirtual 64, 3) := by decide +kernel
theorem dX7_readSum_28 : decode cX7_readSum 28 = .ok (.aload_n 0, 1) := by decide +kernel
theorem dX7_readSum_29 : decode cX7_readSum 29 = .ok (.invokevirtual 88, 3) := by decide +kernel
theorem dX7_readSum_32 : decode cX7_readSum 32 = .ok (.aload_n 0, 1) := by decide +kernel
theorem dX7_readSum_33 : decode cX7_readSum 33 = .ok (.getfield 12, 3) := by decide +kernel
theorem dX7_readSum_36 : decode cX7_readSum 36 = .ok (.bipush (-10), 2) := by decide +kernel
theorem dX7_readSum_38 : decode cX7_readSum 38 = .ok (.invokevirtual 82, 3) := by decide +kernel
theorem dX7_readSum_41 : decode cX7_readSum 41 = .ok (.goto 88, 3) := by decide +kernel
theorem dX7_readSum_44 : decode cX7_readSum 44 = .ok (.aload_n 0, 1) := by decide +kernel
theorem dX7_readSum_45 : decode cX7_readSum 45 = .ok (.getfield 47, 3) := by decide +kernel
theorem dX7_readSum_48 : decode cX7_readSum 48 = .ok (.bipush 47, 2) := by decide +kernel
theorem dX7_readSum_50 : decode cX7_readSum 50 = .ok (.if_icmp .ne 23, 3) := by decide +kernel
theorem dX7_readSum_53 : decode cX7_readSum 53 = .ok (.aload_n 0, 1) := by decide +kernel
theorem dX7_readSum_54 : decode cX7_readSum 54 = .ok (.invokevirtual 64, 3) := by decide +kernel
theorem dX7_readSum_57 : decode cX7_readSum 57 = .ok (.aload_n 0, 1) := by decide +kernel
theorem dX7_readSum_58 : decode cX7_readSum 58 = .ok (.invokevirtual 91, 3) := by decide +kernel
theorem dX7_readSum_61 : decode cX7_readSum 61 = .ok (.aload_n 0, 1) := by decide +kernel
theorem dX7_readSum_62 : decode cX7_readSum 62 = .ok (.getfield 12, 3) := by decide +kernel
theorem dX7_readSum_65 : decode cX7_readSum 65 = .ok (.bipush (-11), 2) := by decide +kernel
theorem dX7_readSum_67 : decode cX7_readSum 67 = .ok (.invokevirtual 82, 3) := by decide +kernel
theorem dX7_readSum_70 : decode cX7_readSum 70 = .ok (.goto 59, 3) := by decide +kernel
theorem dX7_readSum_73 : decode cX7_readSum 73 = .ok (.iload_n 1, 1) := by decide +kernel
theorem dX7_readSum_74 : decode cX7_readSum 74 = .ok (.ifCond .eq 11, 3) := by decide +kernel
theorem dX7_readSum_77 : decode cX7_readSum 77 = .ok (.aload_n 0, 1) := by decide +kernel
theorem dX7_readSum_78 : decode cX7_readSum 78 = .ok (.getfield 12, 3) := by decide +kernel
theorem dX7_readSum_81 : decode cX7_readSum 81 = .ok (.iload_n 1, 1) := by decide +kernel
theorem dX7_readSum_82 : decode cX7_readSum 82 = .ok (.invokevirtual 82, 3) := by decide +kernel
theorem dX7_readSum_85 : decode cX7_readSum 85 = .ok (.aload_n 0, 1) := by decide +kernel
theorem dX7_readSum_86 : decode cX7_readSum 86 = .ok (.getfield 47, 3) := by decide +kernel
theorem dX7_readSum_89 : decode cX7_readSum 89 = .ok (.bipush 43, 2) := by decide +kernel
theorem dX7_readSum_91 : decode cX7_readSum 91 = .ok (.if_icmp .eq 13, 3) := by decide +kernel
theorem dX7_readSum_94 : decode cX7_readSum 94 = .ok (.aload_n 0, 1) := by decide +kernel
theorem dX7_readSum_95 : decode cX7_readSum 95 = .ok (.getfield 47, 3) := by decide +kernel
theorem dX7_readSum_98 : decode cX7_readSum 98 = .ok (.bipush 45, 2) := by decide +kernel
theorem dX7_readSum_100 : decode cX7_readSum 100 = .ok (.if_icmp .eq 4, 3) := by decide +kernel
theorem dX7_readSum_103 : decode cX7_readSum 103 = .ok (.return_, 1) := by decide +kernel
theorem dX7_readSum_104 : decode cX7_readSum 104 = .ok (.aload_n 0, 1) := by decide +kernel
theorem dX7_readSum_105 : decode cX7_readSum 105 = .ok (.getfield 47, 3) := by decide +kernel
theorem dX7_readSum_108 : decode cX7_readSum 108 = .ok (.bipush 43, 2) := by decide +kernel
theorem dX7_readSum_110 : decode cX7_readSum 110 = .ok (.if_icmp .ne 8, 3) := by decide +kernel
theorem dX7_readSum_113 : decode cX7_readSum 113 = .ok (.bipush (-8), 2) := by decide +kernel
theorem dX7_readSum_115 : decode cX7_readSum 115 = .ok (.goto 5, 3) := by decide +kernel
theorem dX7_readSum_118 : decode cX7_readSum 118 = .ok (.bipush (-9), 2) := by decide +kernel
theorem dX7_readSum_120 : decode cX7_readSum 120 = .ok (.istore_n 1, 1) := by decide +kernel
theorem dX7_readSum_121 : decode cX7_readSum 121 = .ok (.aload_n 0, 1) := by decide +kernel
theorem dX7_readSum_122 : decode cX7_readSum 122 = .ok (.invokevirtual 64, 3) := by decide +kernel
theorem dX7_readSum_125 : decode cX7_readSum 125 = .ok (.aload_n 0, 1) := by decide +kernel
theorem dX7_readSum_126 : decode cX7_readSum 126 = .ok (.invokevirtual 88, 3) := by decide +kernel
theorem dX7_readSum_129 : decode cX7_readSum 129 = .ok (.iinc 2 1, 3) := by decide +kernel
theorem dX7_readSum_132 : decode cX7_readSum 132 = .ok (.goto (-124), 3) := by decide +kernel
theorem dX7_readSum_135 : decode cX7_readSum 135 = .ok (.return_, 1) := by decide +kernel
theorem dX7_readUnit_0 : decode cX7_readUnit 0 = .ok (.aload_n 0, 1) := by decide +kernel
theorem dX7_readUnit_1 : decode cX7_readUnit 1 = .ok (.getfield 47, 3) := by decide +kernel
theorem dX7_readUnit_4 : decode cX7_readUnit 4 = .ok (.iconst 2, 1) := by decide +kernel
theorem dX7_readUnit_5 : decode cX7_readUnit 5 = .ok (.if_icmp .ne 28, 3) := by decide +kernel
theorem dX7_readUnit_8 : decode cX7_readUnit 8 = .ok (.aload_n 0, 1) := by decide +kernel
theorem dX7_readUnit_9 : decode cX7_readUnit 9 = .ok (.getfield 12, 3) := by decide +kernel
theorem dX7_readUnit_12 : decode cX7_readUnit 12 = .ok (.aload_n 0, 1) := by decide +kernel
theorem dX7_readUnit_13 : decode cX7_readUnit 13 = .ok (.getfield 22, 3) := by decide +kernel
theorem dX7_readUnit_16 : decode cX7_readUnit 16 = .ok (.aload_n 0, 1) := by decide +kernel
theorem dX7_readUnit_17 : decode cX7_readUnit 17 = .ok (.getfield 40, 3) := by decide +kernel
theorem dX7_readUnit_20 : decode cX7_readUnit 20 = .ok (.invokevirtual 94, 3) := by decide +kernel
theorem dX7_readUnit_23 : decode cX7_readUnit 23 = .ok (.invokevirtual 82, 3) := by decide +kernel
theorem dX7_readUnit_26 : decode cX7_readUnit 26 = .ok (.aload_n 0, 1) := by decide +kernel
theorem dX7_readUnit_27 : decode cX7_readUnit 27 = .ok (.invokevirtual 64, 3) := by decide +kernel
theorem dX7_readUnit_30 : decode cX7_readUnit 30 = .ok (.goto 50, 3) := by decide +kernel
theorem dX7_readUnit_33 : decode cX7_readUnit 33 = .ok (.aload_n 0, 1) := by decide +kernel
theorem dX7_readUnit_34 : decode cX7_readUnit 34 = .ok (.getfield 47, 3) := by decide +kernel
theorem dX7_readUnit_37 : decode cX7_readUnit 37 = .ok (.sipush 262, 3) := by decide +kernel
theorem dX7_readUnit_40 : decode cX7_readUnit 40 = .ok (.if_icmp .lt 35, 3) := by decide +kernel
theorem dX7_readUnit_43 : decode cX7_readUnit 43 = .ok (.aload_n 0, 1) := by decide +kernel
theorem dX7_readUnit_44 : decode cX7_readUnit 44 = .ok (.getfield 47, 3) := by decide +kernel
theorem dX7_readUnit_47 : decode cX7_readUnit 47 = .ok (.sipush 268, 3) := by decide +kernel
theorem dX7_readUnit_50 : decode cX7_readUnit 50 = .ok (.if_icmp .gt 25, 3) := by decide +kernel
theorem dX7_readUnit_53 : decode cX7_readUnit 53 = .ok (.aload_n 0, 1) := by decide +kernel
theorem dX7_readUnit_54 : decode cX7_readUnit 54 = .ok (.getfield 12, 3) := by decide +kernel
theorem dX7_readUnit_57 : decode cX7_readUnit 57 = .ok (.sipush 261, 3) := by decide +kernel
theorem dX7_readUnit_60 : decode cX7_readUnit 60 = .ok (.aload_n 0, 1) := by decide +kernel
theorem dX7_readUnit_61 : decode cX7_readUnit 61 = .ok (.getfield 47, 3) := by decide +kernel
theorem dX7_readUnit_64 : decode cX7_readUnit 64 = .ok (.isub, 1) := by decide +kernel
theorem dX7_readUnit_65 : decode cX7_readUnit 65 = .ok (.invokevirtual 82, 3) := by decide +kernel
theorem dX7_readUnit_68 : decode cX7_readUnit 68 = .ok (.aload_n 0, 1) := by decide +kernel
theorem dX7_readUnit_69 : decode cX7_readUnit 69 = .ok (.invokevirtual 64, 3) := by decide +kernel
theorem dX7_readUnit_72 : decode cX7_readUnit 72 = .ok (.goto 8, 3) := by decide +kernel
theorem dX7_readUnit_75 : decode cX7_readUnit 75 = .ok (.aload_n 0, 1) := by decide +kernel
theorem dX7_readUnit_76 : decode cX7_readUnit 76 = .ok (.iconst 1, 1) := by decide +kernel
theorem dX7_readUnit_77 : decode cX7_readUnit 77 = .ok (.invokevirtual 53, 3) := by decide +kernel
theorem dX7_readUnit_80 : decode cX7_readUnit 80 = .ok (.return_, 1) := by decide +kernel
theorem dX7_readDivisor_0 : decode cX7_readDivisor 0 = .ok (.aload_n 0, 1) := by decide +kernel
theorem dX7_readDivisor_1 : decode cX7_readDivisor 1 = .ok (.getfield 22, 3) := by decide +kernel
theorem dX7_readDivisor_4 : decode cX7_readDivisor 4 = .ok (.aload_n 0, 1) := by decide +kernel
theorem dX7_readDivisor_5 : decode cX7_readDivisor 5 = .ok (.getfield 40, 3) := by decide +kernel
theorem dX7_readDivisor_8 : decode cX7_readDivisor 8 = .ok (.invokevirtual 94, 3) := by decide +kernel
theorem dX7_readDivisor_11 : decode cX7_readDivisor 11 = .ok (.istore_n 1, 1) := by decide +kernel
theorem dX7_readDivisor_12 : decode cX7_readDivisor 12 = .ok (.aload_n 0, 1) := by decide +kernel
theorem dX7_readDivisor_13 : decode cX7_readDivisor 13 = .ok (.getfield 47, 3) := by decide +kernel
theorem dX7_readDivisor_16 : decode cX7_readDivisor 16 = .ok (.iconst 2, 1) := by decide +kernel
theorem dX7_readDivisor_17 : decode cX7_readDivisor 17 = .ok (.if_icmp .eq 11, 3) := by decide +kernel
theorem dX7_readDivisor_20 : decode cX7_readDivisor 20 = .ok (.aload_n 0, 1) := by decide +kernel
theorem dX7_readDivisor_21 : decode cX7_readDivisor 21 = .ok (.iconst 1, 1) := by decide +kernel
theorem dX7_readDivisor_22 : decode cX7_readDivisor 22 = .ok (.invokevirtual 53, 3) := by decide +kernel
theorem dX7_readDivisor_25 : decode cX7_readDivisor 25 = .ok (.goto 27, 3) := by decide +kernel
theorem dX7_readDivisor_28 : decode cX7_readDivisor 28 = .ok (.iload_n 1, 1) := by decide +kernel
theorem dX7_readDivisor_29 : decode cX7_readDivisor 29 = .ok (.ifCond .ne 11, 3) := by decide +kernel
theorem dX7_readDivisor_32 : decode cX7_readDivisor 32 = .ok (.aload_n 0, 1) := by decide +kernel
theorem dX7_readDivisor_33 : decode cX7_readDivisor 33 = .ok (.iconst 2, 1) := by decide +kernel
theorem dX7_readDivisor_34 : decode cX7_readDivisor 34 = .ok (.invokevirtual 53, 3) := by decide +kernel
theorem dX7_readDivisor_37 : decode cX7_readDivisor 37 = .ok (.goto 15, 3) := by decide +kernel
theorem dX7_readDivisor_40 : decode cX7_readDivisor 40 = .ok (.aload_n 0, 1) := by decide +kernel
theorem dX7_readDivisor_41 : decode cX7_readDivisor 41 = .ok (.getfield 12, 3) := by decide +kernel
theorem dX7_readDivisor_44 : decode cX7_readDivisor 44 = .ok (.iload_n 1, 1) := by decide +kernel
theorem dX7_readDivisor_45 : decode cX7_readDivisor 45 = .ok (.invokevirtual 82, 3) := by decide +kernel
theorem dX7_readDivisor_48 : decode cX7_readDivisor 48 = .ok (.aload_n 0, 1) := by decide +kernel
theorem dX7_readDivisor_49 : decode cX7_readDivisor 49 = .ok (.invokevirtual 64, 3) := by decide +kernel
theorem dX7_readDivisor_52 : decode cX7_readDivisor 52 = .ok (.return_, 1) := by decide +kernel
theorem dX7_step_0 : decode cX7_step 0 = .ok (.aload_n 0, 1) := by decide +kernel
theorem dX7_step_1 : decode cX7_step 1 = .ok (.dup, 1) := by decide +kernel
theorem dX7_step_2 : decode cX7_step 2 = .ok (.getfield 40, 3) := by decide +kernel
theorem dX7_step_5 : decode cX7_step 5 = .ok (.iconst 1, 1) := by decide +kernel
theorem dX7_step_6 : decode cX7_step 6 = .ok (.iadd, 1) := by decide +kernel
theorem dX7_step_7 : decode cX7_step 7 = .ok (.putfield 40, 3) := by decide +kernel
theorem dX7_step_10 : decode cX7_step 10 = .ok (.aload_n 0, 1) := by decide +kernel
theorem dX7_step_11 : decode cX7_step 11 = .ok (.aload_n 0, 1) := by decide +kernel
theorem dX7_step_12 : decode cX7_step 12 = .ok (.getfield 40, 3) := by decide +kernel
theorem dX7_step_15 : decode cX7_step 15 = .ok (.aload_n 0, 1) := by decide +kernel
theorem dX7_step_16 : decode cX7_step 16 = .ok (.getfield 22, 3) := by decide +kernel
theorem dX7_step_19 : decode cX7_step 19 = .ok (.getfield 97, 3) := by decide +kernel
theorem dX7_step_22 : decode cX7_step 22 = .ok (.if_icmp .ge 33, 3) := by decide +kernel
theorem dX7_step_25 : decode cX7_step 25 = .ok (.aload_n 0, 1) := by decide +kernel
theorem dX7_step_26 : decode cX7_step 26 = .ok (.getfield 40, 3) := by decide +kernel
theorem dX7_step_29 : decode cX7_step 29 = .ok (.aload_n 0, 1) := by decide +kernel
theorem dX7_step_30 : decode cX7_step 30 = .ok (.getfield 22, 3) := by decide +kernel
theorem dX7_step_33 : decode cX7_step 33 = .ok (.getfield 100, 3) := by decide +kernel
theorem dX7_step_36 : decode cX7_step 36 = .ok (.arraylength, 1) := by decide +kernel
theorem dX7_step_37 : decode cX7_step 37 = .ok (.if_icmp .ge 18, 3) := by decide +kernel
theorem dX7_step_40 : decode cX7_step 40 = .ok (.aload_n 0, 1) := by decide +kernel
theorem dX7_step_41 : decode cX7_step 41 = .ok (.getfield 22, 3) := by decide +kernel
theorem dX7_step_44 : decode cX7_step 44 = .ok (.getfield 100, 3) := by decide +kernel
theorem dX7_step_47 : decode cX7_step 47 = .ok (.aload_n 0, 1) := by decide +kernel
theorem dX7_step_48 : decode cX7_step 48 = .ok (.getfield 40, 3) := by decide +kernel
theorem dX7_step_51 : decode cX7_step 51 = .ok (.iaload, 1) := by decide +kernel
theorem dX7_step_52 : decode cX7_step 52 = .ok (.goto 4, 3) := by decide +kernel
theorem dX7_step_55 : decode cX7_step 55 = .ok (.iconst 1, 1) := by decide +kernel
theorem dX7_step_56 : decode cX7_step 56 = .ok (.putfield 47, 3) := by decide +kernel
theorem dX7_step_59 : decode cX7_step 59 = .ok (.return_, 1) := by decide +kernel
theorem dX7_blame_0 : decode cX7_blame 0 = .ok (.aload_n 0, 1) := by decide +kernel
theorem dX7_blame_1 : decode cX7_blame 1 = .ok (.getfield 26, 3) := by decide +kernel
theorem dX7_blame_4 : decode cX7_blame 4 = .ok (.ifCond .ne 68, 3) := by decide +kernel
theorem dX7_blame_7 : decode cX7_blame 7 = .ok (.aload_n 0, 1) := by decide +kernel
theorem dX7_blame_8 : decode cX7_blame 8 = .ok (.iload_n 1, 1) := by decide +kernel
theorem dX7_blame_9 : decode cX7_blame 9 = .ok (.putfield 26, 3) := by decide +kernel
theorem dX7_blame_12 : decode cX7_blame 12 = .ok (.aload_n 0, 1) := by decide +kernel
theorem dX7_blame_13 : decode cX7_blame 13 = .ok (.aload_n 0, 1) := by decide +kernel
theorem dX7_blame_14 : decode cX7_blame 14 = .ok (.getfield 40, 3) := by decide +kernel
theorem dX7_blame_17 : decode cX7_blame 17 = .ok (.aload_n 0, 1) := by decide +kernel
theorem dX7_blame_18 : decode cX7_blame 18 = .ok (.getfield 22, 3) := by decide +kernel
theorem dX7_blame_21 : decode cX7_blame 21 = .ok (.getfield 97, 3) := by decide +kernel
theorem dX7_blame_24 : decode cX7_blame 24 = .ok (.if_icmp .ge 33, 3) := by decide +kernel
theorem dX7_blame_27 : decode cX7_blame 27 = .ok (.aload_n 0, 1) := by decide +kernel
theorem dX7_blame_28 : decode cX7_blame 28 = .ok (.getfield 40, 3) := by decide +kernel
theorem dX7_blame_31 : decode cX7_blame 31 = .ok (.aload_n 0, 1) := by decide +kernel
theorem dX7_blame_32 : decode cX7_blame 32 = .ok (.getfield 22, 3) := by decide +kernel
theorem dX7_blame_35 : decode cX7_blame 35 = .ok (.getfield 104, 3) := by decide +kernel
theorem dX7_blame_38 : decode cX7_blame 38 = .ok (.arraylength, 1) := by decide +kernel
theorem dX7_blame_39 : decode cX7_blame 39 = .ok (.if_icmp .ge 18, 3) := by decide +kernel
theorem dX7_blame_42 : decode cX7_blame 42 = .ok (.aload_n 0, 1) := by decide +kernel
theorem dX7_blame_43 : decode cX7_blame 43 = .ok (.getfield 22, 3) := by decide +kernel
theorem dX7_blame_46 : decode cX7_blame 46 = .ok (.getfield 104, 3) := by decide +kernel
theorem dX7_blame_49 : decode cX7_blame 49 = .ok (.aload_n 0, 1) := by decide +kernel
theorem dX7_blame_50 : decode cX7_blame 50 = .ok (.getfield 40, 3) := by decide +kernel
theorem dX7_blame_53 : decode cX7_blame 53 = .ok (.iaload, 1) := by decide +kernel
theorem dX7_blame_54 : decode cX7_blame 54 = .ok (.goto 10, 3) := by decide +kernel
theorem dX7_blame_57 : decode cX7_blame 57 = .ok (.aload_n 0, 1) := by decide +kernel
theorem dX7_blame_58 : decode cX7_blame 58 = .ok (.getfield 22, 3) := by decide +kernel
theorem dX7_blame_61 : decode cX7_blame 61 = .ok (.getfield 107, 3) := by decide +kernel
theorem dX7_blame_64 : decode cX7_blame 64 = .ok (.putfield 18, 3) := by decide +kernel
theorem dX7_blame_67 : decode cX7_blame 67 = .ok (.aload_n 0, 1) := by decide +kernel
theorem dX7_blame_68 : decode cX7_blame 68 = .ok (.iconst 1, 1) := by decide +kernel
theorem dX7_blame_69 : decode cX7_blame 69 = .ok (.putfield 47, 3) := by decide +kernel
theorem dX7_blame_72 : decode cX7_blame 72 = .ok (.return_, 1) := by decide +kernel
theorem dX8_init_0 : decode cX8_init 0 = .ok (.aload_n 0, 1) := by decide +kernel
theorem dX8_init_1 : decode cX8_init 1 = .ok (.invokespecial 1, 3) := by decide +kernel
theorem dX8_init_4 : decode cX8_init 4 = .ok (.aload_n 0, 1) := by decide +kernel
theorem dX8_init_5 : decode cX8_init 5 = .ok (.sipush 400, 3) := by decide +kernel
theorem dX8_init_8 : decode cX8_init 8 = .ok (.newarray .byte, 2) := by decide +kernel
theorem dX8_init_10 : decode cX8_init 10 = .ok (.putfield 9, 3) := by decide +kernel
theorem dX8_init_13 : decode cX8_init 13 = .ok (.aload_n 0, 1) := by decide +kernel
theorem dX8_init_14 : decode cX8_init 14 = .ok (.sipush 401, 3) := by decide +kernel
theorem dX8_init_17 : decode cX8_init 17 = .ok (.newarray .int, 2) := by decide +kernel
theorem dX8_init_19 : decode cX8_init 19 = .ok (.putfield 13, 3) := by decide +kernel
theorem dX8_init_22 : decode cX8_init 22 = .ok (.aload_n 0, 1) := by decide +kernel
theorem dX8_init_23 : decode cX8_init 23 = .ok (.sipush 401, 3) := by decide +kernel
theorem dX8_init_26 : decode cX8_init 26 = .ok (.newarray .int, 2) := by decide +kernel
theorem dX8_init_28 : decode cX8_init 28 = .ok (.putfield 17, 3) := by decide +kernel
theorem dX8_init_31 : decode cX8_init 31 = .ok (.aload_n 0, 1) := by decide +kernel
theorem dX8_init_32 : decode cX8_init 32 = .ok (.sipush 401, 3) := by decide +kernel
theorem dX8_init_35 : decode cX8_init 35 = .ok (.newarray .int, 2) := by decide +kernel
theorem dX8_init_37 : decode cX8_init 37 = .ok (.putfield 20, 3) := by decide +kernel
theorem dX8_init_40 : decode cX8_init 40 = .ok (.return_, 1) := by decide +kernel
theorem dX8_size_0 : decode cX8_size 0 = .ok (.aload_n 0, 1) := by decide +kernel
theorem dX8_size_1 : decode cX8_size 1 = .ok (.getfield 23, 3) := by decide +kernel
theorem dX8_size_4 : decode cX8_size 4 = .ok (.ireturn, 1) := by decide +kernel
theorem dX8_hasRoom_0 : decode cX8_hasRoom 0 = .ok (.aload_n 0, 1) := by decide +kernel
theorem dX8_hasRoom_1 : decode cX8_hasRoom 1 = .ok (.getfield 23, 3) := by decide +kernel
theorem dX8_hasRoom_4 : decode cX8_hasRoom 4 = .ok (.bipush 20, 2) := by decide +kernel
theorem dX8_hasRoom_6 : decode cX8_hasRoom 6 = .ok (.iadd, 1) := by decide +kernel
theorem dX8_hasRoom_7 : decode cX8_hasRoom 7 = .ok (.sipush 400, 3) := by decide +kernel
theorem dX8_hasRoom_10 : decode cX8_hasRoom 10 = .ok (.if_icmp .gt 7, 3) := by decide +kernel
theorem dX8_hasRoom_13 : decode cX8_hasRoom 13 = .ok (.iconst 1, 1) := by decide +kernel
theorem dX8_hasRoom_14 : decode cX8_hasRoom 14 = .ok (.goto 4, 3) := by decide +kernel
theorem dX8_hasRoom_17 : decode cX8_hasRoom 17 = .ok (.iconst 0, 1) := by decide +kernel
theorem dX8_hasRoom_18 : decode cX8_hasRoom 18 = .ok (.ireturn, 1) := by decide +kernel
theorem dX8_put_0 : decode cX8_put 0 = .ok (.bipush 24, 2) := by decide +kernel
theorem dX8_put_2 : decode cX8_put 2 = .ok (.istore_n 2, 1) := by decide +kernel
theorem dX8_put_3 : decode cX8_put 3 = .ok (.iload_n 2, 1) := by decide +kernel
theorem dX8_put_4 : decode cX8_put 4 = .ok (.ifCond .lt 42, 3) := by decide +kernel
theorem dX8_put_7 : decode cX8_put 7 = .ok (.aload_n 0, 1) := by decide +kernel
theorem dX8_put_8 : decode cX8_put 8 = .ok (.getfield 23, 3) := by decide +kernel
theorem dX8_put_11 : decode cX8_put 11 = .ok (.sipush 400, 3) := by decide +kernel
theorem dX8_put_14 : decode cX8_put 14 = .ok (.if_icmp .ge 32, 3) := by decide +kernel
theorem dX8_put_17 : decode cX8_put 17 = .ok (.aload_n 0, 1) := by decide +kernel
theorem dX8_put_18 : decode cX8_put 18 = .ok (.getfield 9, 3) := by decide +kernel
theorem dX8_put_21 : decode cX8_put 21 = .ok (.aload_n 0, 1) := by decide +kernel
theorem dX8_put_22 : decode cX8_put 22 = .ok (.getfield 23, 3) := by decide +kernel
theorem dX8_put_25 : decode cX8_put 25 = .ok (.iload_n 1, 1) := by decide +kernel
theorem dX8_put_26 : decode cX8_put 26 = .ok (.iload_n 2, 1) := by decide +kernel
theorem dX8_put_27 : decode cX8_put 27 = .ok (.iushr, 1) := by decide +kernel
theorem dX8_put_28 : decode cX8_put 28 = .ok (.i2b, 1) := by decide +kernel
theorem dX8_put_29 : decode cX8_put 29 = .ok (.bastore, 1) := by decide +kernel
theorem dX8_put_30 : decode cX8_put 30 = .ok (.aload_n 0, 1) := by decide +kernel
theorem dX8_put_31 : decode cX8_put 31 = .ok (.dup, 1) := by decide +kernel
theorem dX8_put_32 : decode cX8_put 32 = .ok (.getfield 23, 3) := by decide +kernel
theorem dX8_put_35 : decode cX8_put 35 = .ok (.iconst 1, 1) := by decide +kernel
theorem dX8_put_36 : decode cX8_put 36 = .ok (.iadd, 1) := by decide +kernel
theorem dX8_put_37 : decode cX8_put 37 = .ok (.putfield 23, 3) := by decide +kernel
theorem dX8_put_40 : decode cX8_put 40 = .ok (.iinc 2 (-8), 3) := by decide +kernel
theorem dX8_put_43 : decode cX8_put 43 = .ok (.goto (-40), 3) := by decide +kernel
theorem dX8_put_46 : decode cX8_put 46 = .ok (.return_, 1) := by decide +kernel
theorem dX8_cut_0 : decode cX8_cut 0 = .ok (.iload_n 1, 1) := by decide +kernel
theorem dX8_cut_1 : decode cX8_cut 1 = .ok (.ifCond .lt 11, 3) := by decide +kernel
theorem dX8_cut_4 : decode cX8_cut 4 = .ok (.iload_n 1, 1) := by decide +kernel
theorem dX8_cut_5 : decode cX8_cut 5 = .ok (.aload_n 0, 1) := by decide +kernel
theorem dX8_cut_6 : decode cX8_cut 6 = .ok (.getfield 23, 3) := by decide +kernel
theorem dX8_cut_9 : decode cX8_cut 9 = .ok (.if_icmp .le 5, 3) := by decide +kernel
theorem dX8_cut_12 : decode cX8_cut 12 = .ok (.iconst 0, 1) := by decide +kernel
theorem dX8_cut_13 : decode cX8_cut 13 = .ok (.ireturn, 1) := by decide +kernel
theorem dX8_cut_14 : decode cX8_cut 14 = .ok (.aload_n 0, 1) := by decide +kernel
theorem dX8_cut_15 : decode cX8_cut 15 = .ok (.iload_n 1, 1) := by decide +kernel
theorem dX8_cut_16 : decode cX8_cut 16 = .ok (.putfield 23, 3) := by decide +kernel
theorem dX8_cut_19 : decode cX8_cut 19 = .ok (.iconst 1, 1) := by decide +kernel
theorem dX8_cut_20 : decode cX8_cut 20 = .ok (.ireturn, 1) := by decide +kernel
theorem dX8_kind_0 : decode cX8_kind 0 = .ok (.iload_n 1, 1) := by decide +kernel
theorem dX8_kind_1 : decode cX8_kind 1 = .ok (.ifCond .lt 20, 3) := by decide +kernel
theorem dX8_kind_4 : decode cX8_kind 4 = .ok (.iload_n 1, 1) := by decide +kernel
theorem dX8_kind_5 : decode cX8_kind 5 = .ok (.aload_n 0, 1) := by decide +kernel
theorem dX8_kind_6 : decode cX8_kind 6 = .ok (.getfield 27, 3) := by decide +kernel
theorem dX8_kind_9 : decode cX8_kind 9 = .ok (.if_icmp .ge 12, 3) := by decide +kernel
theorem dX8_kind_12 : decode cX8_kind 12 = .ok (.aload_n 0, 1) := by decide +kernel
theorem dX8_kind_13 : decode cX8_kind 13 = .ok (.getfield 13, 3) := by decide +kernel
theorem dX8_kind_16 : decode cX8_kind 16 = .ok (.iload_n 1, 1) := by decide +kernel
theorem dX8_kind_17 : decode cX8_kind 17 = .ok (.iaload, 1) := by decide +kernel
theorem dX8_kind_18 : decode cX8_kind 18 = .ok (.goto 4, 3) := by decide +kernel
theorem dX8_kind_21 : decode cX8_kind 21 = .ok (.iconst 1, 1) := by decide +kernel
theorem dX8_kind_22 : decode cX8_kind 22 = .ok (.ireturn, 1) := by decide +kernel
theorem dX8_number_0 : decode cX8_number 0 = .ok (.iload_n 1, 1) := by decide +kernel
theorem dX8_number_1 : decode cX8_number 1 = .ok (.ifCond .lt 20, 3) := by decide +kernel
theorem dX8_number_4 : decode cX8_number 4 = .ok (.iload_n 1, 1) := by decide +kernel
theorem dX8_number_5 : decode cX8_number 5 = .ok (.aload_n 0, 1) := by decide +kernel
theorem dX8_number_6 : decode cX8_number 6 = .ok (.getfield 27, 3) := by decide +kernel
theorem dX8_number_9 : decode cX8_number 9 = .ok (.if_icmp .ge 12, 3) := by decide +kernel
theorem dX8_number_12 : decode cX8_number 12 = .ok (.aload_n 0, 1) := by decide +kernel
theorem dX8_number_13 : decode cX8_number 13 = .ok (.getfield 20, 3) := by decide +kernel
theorem dX8_number_16 : decode cX8_number 16 = .ok (.iload_n 1, 1) := by decide +kernel
theorem dX8_number_17 : decode cX8_number 17 = .ok (.iaload, 1) := by decide +kernel
theorem dX8_number_18 : decode cX8_number 18 = .ok (.goto 4, 3) := by decide +kernel
theorem dX8_number_21 : decode cX8_number 21 = .ok (.iconst 0, 1) := by decide +kernel
theorem dX8_number_22 : decode cX8_number 22 = .ok (.ireturn, 1) := by decide +kernel
theorem dX8_makeTokens_0 : decode cX8_makeTokens 0 = .ok (.aload_n 0, 1) := by decide +kernel
theorem dX8_makeTokens_1 : decode cX8_makeTokens 1 = .ok (.iconst 0, 1) := by decide +kernel
theorem dX8_makeTokens_2 : decode cX8_makeTokens 2 = .ok (.putfield 27, 3) := by decide +kernel
theorem dX8_makeTokens_5 : decode cX8_makeTokens 5 = .ok (.iconst 0, 1) := by decide +kernel
theorem dX8_makeTokens_6 : decode cX8_makeTokens 6 = .ok (.istore_n 1, 1) := by decide +kernel
theorem dX8_makeTokens_7 : decode cX8_makeTokens 7 = .ok (.iconst 1, 1) := by decide +kernel
theorem dX8_makeTokens_8 : decode cX8_makeTokens 8 = .ok (.istore_n 2, 1) := by decide +kernel
theorem dX8_makeTokens_9 : decode cX8_makeTokens 9 = .ok (.iconst 0, 1) := by decide +kernel
theorem dX8_makeTokens_10 : decode cX8_makeTokens 10 = .ok (.istore_n 3, 1) := by decide +kernel
theorem dX8_makeTokens_11 : decode cX8_makeTokens 11 = .ok (.iload_n 3, 1) := by decide +kernel
theorem dX8_makeTokens_12 : decode cX8_makeTokens 12 = .ok (.sipush 400, 3) := by decide +kernel
theorem dX8_makeTokens_15 : decode cX8_makeTokens 15 = .ok (.if_icmp .ge 76, 3) := by decide +kernel
theorem dX8_makeTokens_18 : decode cX8_makeTokens 18 = .ok (.iload_n 1, 1) := by decide +kernel
theorem dX8_makeTokens_19 : decode cX8_makeTokens 19 = .ok (.aload_n 0, 1) := by decide +kernel
theorem dX8_makeTokens_20 : decode cX8_makeTokens 20 = .ok (.getfield 23, 3) := by decide +kernel
theorem dX8_makeTokens_23 : decode cX8_makeTokens 23 = .ok (.if_icmp .ge 68, 3) := by decide +kernel
theorem dX8_makeTokens_26 : decode cX8_makeTokens 26 = .ok (.iload_n 2, 1) := by decide +kernel
theorem dX8_makeTokens_27 : decode cX8_makeTokens 27 = .ok (.ifCond .eq 64, 3) := by decide +kernel
theorem dX8_makeTokens_30 : decode cX8_makeTokens 30 = .ok (.aload_n 0, 1) := by decide +kernel
theorem dX8_makeTokens_31 : decode cX8_makeTokens 31 = .ok (.iload_n 1, 1) := by decide +kernel
theorem dX8_makeTokens_32 : decode cX8_makeTokens 32 = .ok (.invokevirtual 30, 3) := by decide +kernel
theorem dX8_makeTokens_35 : decode cX8_makeTokens 35 = .ok (.istore 4, 2) := by decide +kernel
theorem dX8_makeTokens_37 : decode cX8_makeTokens 37 = .ok (.iload 4, 2) := by decide +kernel
theorem dX8_makeTokens_39 : decode cX8_makeTokens 39 = .ok (.bipush 32, 2) := by decide +kernel
theorem dX8_makeTokens_41 : decode cX8_makeTokens 41 = .ok (.if_icmp .eq 10, 3) := by decide +kernel
theorem dX8_makeTokens_44 : decode cX8_makeTokens 44 = .ok (.iload 4, 2) := by decide +kernel
theorem dX8_makeTokens_46 : decode cX8_makeTokens 46 = .ok (.bipush 10, 2) := by decide +kernel
theorem dX8_makeTokens_48 : decode cX8_makeTokens 48 = .ok (.if_icmp .ne 9, 3) := by decide +kernel
theorem dX8_makeTokens_51 : decode cX8_makeTokens 51 = .ok (.iinc 1 1, 3) := by decide +kernel
theorem dX8_makeTokens_54 : decode cX8_makeTokens 54 = .ok (.goto 31, 3) := by decide +kernel
theorem dX8_makeTokens_57 : decode cX8_makeTokens 57 = .ok (.aload_n 0, 1) := by decide +kernel
theorem dX8_makeTokens_58 : decode cX8_makeTokens 58 = .ok (.iload_n 1, 1) := by decide +kernel
theorem dX8_makeTokens_59 : decode cX8_makeTokens 59 = .ok (.iload 4, 2) := by decide +kernel
theorem dX8_makeTokens_61 : decode cX8_makeTokens 61 = .ok (.invokevirtual 34, 3) := by decide +kernel
theorem dX8_makeTokens_64 : decode cX8_makeTokens 64 = .ok (.istore_n 1, 1) := by decide +kernel
theorem dX8_makeTokens_65 : decode cX8_makeTokens 65 = .ok (.aload_n 0, 1) := by decide +kernel
theorem dX8_makeTokens_66 : decode cX8_makeTokens 66 = .ok (.aload_n 0, 1) := by decide +kernel
theorem dX8_makeTokens_67 : decode cX8_makeTokens 67 = .ok (.getfield 27, 3) := by decide +kernel
theorem dX8_makeTokens_70 : decode cX8_makeTokens 70 = .ok (.iconst 1, 1) := by decide +kernel
theorem dX8_makeTokens_71 : decode cX8_makeTokens 71 = .ok (.isub, 1) := by decide +kernel
theorem dX8_makeTokens_72 : decode cX8_makeTokens 72 = .ok (.invokevirtual 38, 3) := by decide +kernel
theorem dX8_makeTokens_75 : decode cX8_makeTokens 75 = .ok (.iconst 1, 1) := by decide +kernel
theorem dX8_makeTokens_76 : decode cX8_makeTokens 76 = .ok (.if_icmp .eq 7, 3) := by decide +kernel
theorem dX8_makeTokens_79 : decode cX8_makeTokens 79 = .ok (.iconst 1, 1) := by decide +kernel
theorem dX8_makeTokens_80 : decode cX8_makeTokens 80 = .ok (.goto 4, 3) := by decide +kernel
theorem dX8_makeTokens_83 : decode cX8_makeTokens 83 = .ok (.iconst 0, 1) := by decide +kernel
theorem dX8_makeTokens_84 : decode cX8_makeTokens 84 = .ok (.istore_n 2, 1) := by decide +kernel
theorem dX8_makeTokens_85 : decode cX8_makeTokens 85 = .ok (.iinc 3 1, 3) := by decide +kernel
theorem dX8_makeTokens_88 : decode cX8_makeTokens 88 = .ok (.goto (-77), 3) := by decide +kernel
theorem dX8_makeTokens_91 : decode cX8_makeTokens 91 = .ok (.iload_n 2, 1) := by decide +kernel
theorem dX8_makeTokens_92 : decode cX8_makeTokens 92 = .ok (.ifCond .eq 13, 3) := by decide +kernel
theorem dX8_makeTokens_95 : decode cX8_makeTokens 95 = .ok (.aload_n 0, 1) := by decide +kernel
theorem dX8_makeTokens_96 : decode cX8_makeTokens 96 = .ok (.iconst 0, 1) := by decide +kernel
theorem dX8_makeTokens_97 : decode cX8_makeTokens 97 = .ok (.aload_n 0, 1) := by decide +kernel
theorem dX8_makeTokens_98 : decode cX8_makeTokens 98 = .ok (.getfield 23, 3) := by decide +kernel
theorem dX8_makeTokens_101 : decode cX8_makeTokens 101 = .ok (.iconst 0, 1) := by decide +kernel
theorem dX8_makeTokens_102 : decode cX8_makeTokens 102 = .ok (.invokevirtual 41, 3) := by decide +kernel
theorem dX8_makeTokens_105 : decode cX8_makeTokens 105 = .ok (.return_, 1) := by decide +kernel
theorem dX8_keep_0 : decode cX8_keep 0 = .ok (.aload_n 0, 1) := by decide +kernel
theorem dX8_keep_1 : decode cX8_keep 1 = .ok (.getfield 27, 3) := by decide +kernel
theorem dX8_keep_4 : decode cX8_keep 4 = .ok (.aload_n 0, 1) := by decide +kernel
theorem dX8_keep_5 : decode cX8_keep 5 = .ok (.getfield 13, 3) := by decide +kernel
theorem dX8_keep_8 : decode cX8_keep 8 = .ok (.arraylength, 1) := by decide +kernel
theorem dX8_keep_9 : decode cX8_keep 9 = .ok (.if_icmp .ge 43, 3) := by decide +kernel
theorem dX8_keep_12 : decode cX8_keep 12 = .ok (.aload_n 0, 1) := by decide +kernel
theorem dX8_keep_13 : decode cX8_keep 13 = .ok (.getfield 13, 3) := by decide +kernel
theorem dX8_keep_16 : decode cX8_keep 16 = .ok (.aload_n 0, 1) := by decide +kernel
theorem dX8_keep_17 : decode cX8_keep 17 = .ok (.getfield 27, 3) := by decide +kernel
theorem dX8_keep_20 : decode cX8_keep 20 = .ok (.iload_n 1, 1) := by decide +kernel
theorem dX8_keep_21 : decode cX8_keep 21 = .ok (.iastore, 1) := by decide +kernel
theorem dX8_keep_22 : decode cX8_keep 22 = .ok (.aload_n 0, 1) := by decide +kernel
theorem dX8_keep_23 : decode cX8_keep 23 = .ok (.getfield 17, 3) := by decide +kernel
theorem dX8_keep_26 : decode cX8_keep 26 = .ok (.aload_n 0, 1) := by decide +kernel
theorem dX8_keep_27 : decode cX8_keep 27 = .ok (.getfield 27, 3) := by decide +kernel
theorem dX8_keep_30 : decode cX8_keep 30 = .ok (.iload_n 2, 1) := by decide +kernel
theorem dX8_keep_31 : decode cX8_keep 31 = .ok (.iastore, 1) := by decide +kernel
theorem dX8_keep_32 : decode cX8_keep 32 = .ok (.aload_n 0, 1) := by decide +kernel
theorem dX8_keep_33 : decode cX8_keep 33 = .ok (.getfield 20, 3) := by decide +kernel
theorem dX8_keep_36 : decode cX8_keep 36 = .ok (.aload_n 0, 1) := by decide +kernel
theorem dX8_keep_37 : decode cX8_keep 37 = .ok (.getfield 27, 3) := by decide +kernel
theorem dX8_keep_40 : decode cX8_keep 40 = .ok (.iload_n 3, 1) := by decide +kernel
theorem dX8_keep_41 : decode cX8_keep 41 = .ok (.iastore, 1) := by decide +kernel
theorem dX8_keep_42 : decode cX8_keep 42 = .ok (.aload_n 0, 1) := by decide +kernel
theorem dX8_keep_43 : decode cX8_keep 43 = .ok (.dup, 1) := by decide +kernel
theorem dX8_keep_44 : decode cX8_keep 44 = .ok (.getfield 27, 3) := by decide +kernel
theorem dX8_keep_47 : decode cX8_keep 47 = .ok (.iconst 1, 1) := by decide +kernel
theorem dX8_keep_48 : decode cX8_keep 48 = .ok (.iadd, 1) := by decide +kernel
theorem dX8_keep_49 : decode cX8_keep 49 = .ok (.putfield 27, 3) := by decide +kernel
theorem dX8_keep_52 : decode cX8_keep 52 = .ok (.return_, 1) := by decide +kernel
theorem dX8_makeOne_0 : decode cX8_makeOne 0 = .ok (.iload_n 2, 1) := by decide +kernel
theorem dX8_makeOne_1 : decode cX8_makeOne 1 = .ok (.invokestatic 45, 3) := by decide +kernel
theorem dX8_makeOne_4 : decode cX8_makeOne 4 = .ok (.ifCond .eq 9, 3) := by decide +kernel
theorem dX8_makeOne_7 : decode cX8_makeOne 7 = .ok (.aload_n 0, 1) := by decide +kernel
theorem dX8_makeOne_8 : decode cX8_makeOne 8 = .ok (.iload_n 1, 1) := by decide +kernel
theorem dX8_makeOne_9 : decode cX8_makeOne 9 = .ok (.invokevirtual 49, 3) := by decide +kernel
theorem dX8_makeOne_12 : decode cX8_makeOne 12 = .ok (.ireturn, 1) := by decide +kernel
theorem dX8_makeOne_13 : decode cX8_makeOne 13 = .ok (.iload_n 2, 1) := by decide +kernel
theorem dX8_makeOne_14 : decode cX8_makeOne 14 = .ok (.invokestatic 52, 3) := by decide +kernel
theorem dX8_makeOne_17 : decode cX8_makeOne 17 = .ok (.ifCond .eq 9, 3) := by decide +kernel
theorem dX8_makeOne_20 : decode cX8_makeOne 20 = .ok (.aload_n 0, 1) := by decide +kernel
theorem dX8_makeOne_21 : decode cX8_makeOne 21 = .ok (.iload_n 1, 1) := by decide +kernel
theorem dX8_makeOne_22 : decode cX8_makeOne 22 = .ok (.invokevirtual 55, 3) := by decide +kernel
theorem dX8_makeOne_25 : decode cX8_makeOne 25 = .ok (.ireturn, 1) := by decide +kernel
theorem dX8_makeOne_26 : decode cX8_makeOne 26 = .ok (.aload_n 0, 1) := by decide +kernel
theorem dX8_makeOne_27 : decode cX8_makeOne 27 = .ok (.ldc 58, 2) := by decide +kernel
theorem dX8_makeOne_29 : decode cX8_makeOne 29 = .ok (.iload_n 2, 1) := by decide +kernel
theorem dX8_makeOne_30 : decode cX8_makeOne 30 = .ok (.i2c, 1) := by decide +kernel
theorem dX8_makeOne_31 : decode cX8_makeOne 31 = .ok (.invokevirtual 60, 3) := by decide +kernel
theorem dX8_makeOne_34 : decode cX8_makeOne 34 = .ok (.ifCond .lt 7, 3) := by decide +kernel
theorem dX8_makeOne_37 : decode cX8_makeOne 37 = .ok (.iload_n 2, 1) := by decide +kernel
theorem dX8_makeOne_38 : decode cX8_makeOne 38 = .ok (.goto 4, 3) := by decide +kernel
theorem dX8_makeOne_41 : decode cX8_makeOne 41 = .ok (.iconst 1, 1) := by decide +kernel
theorem dX8_makeOne_42 : decode cX8_makeOne 42 = .ok (.iload_n 1, 1) := by decide +kernel
theorem dX8_makeOne_43 : decode cX8_makeOne 43 = .ok (.iconst 0, 1) := by decide +kernel
theorem dX8_makeOne_44 : decode cX8_makeOne 44 = .ok (.invokevirtual 41, 3) := by decide +kernel
theorem dX8_makeOne_47 : decode cX8_makeOne 47 = .ok (.iload_n 1, 1) := by decide +kernel
theorem dX8_makeOne_48 : decode cX8_makeOne 48 = .ok (.iconst 1, 1) := by decide +kernel
theorem dX8_makeOne_49 : decode cX8_makeOne 49 = .ok (.iadd, 1) := by decide +kernel
theorem dX8_makeOne_50 : decode cX8_makeOne 50 = .ok (.ireturn, 1) := by decide +kernel
theorem dX8_makeWord_0 : decode cX8_makeWord 0 = .ok (.iload_n 1, 1) := by decide +kernel
theorem dX8_makeWord_1 : decode cX8_makeWord 1 = .ok (.iconst 1, 1) := by decide +kernel
theorem dX8_makeWord_2 : decode cX8_makeWord 2 = .ok (.iadd, 1) := by decide +kernel
theorem dX8_makeWord_3 : decode cX8_makeWord 3 = .ok (.istore_n 2, 1) := by decide +kernel
theorem dX8_makeWord_4 : decode cX8_makeWord 4 = .ok (.iload_n 2, 1) := by decide +kernel
theorem dX8_makeWord_5 : decode cX8_makeWord 5 = .ok (.aload_n 0, 1) := by decide +kernel
theorem dX8_makeWord_6 : decode cX8_makeWord 6 = .ok (.getfield 23, 3) := by decide +kernel
theorem dX8_makeWord_9 : decode cX8_makeWord 9 = .ok (.if_icmp .ge 20, 3) := by decide +kernel
theorem dX8_makeWord_12 : decode cX8_makeWord 12 = .ok (.aload_n 0, 1) := by decide +kernel
theorem dX8_makeWord_13 : decode cX8_makeWord 13 = .ok (.iload_n 2, 1) := by decide +kernel
theorem dX8_makeWord_14 : decode cX8_makeWord 14 = .ok (.invokevirtual 30, 3) := by decide +kernel
theorem dX8_makeWord_17 : decode cX8_makeWord 17 = .ok (.invokestatic 45, 3) := by decide +kernel
theorem dX8_makeWord_20 : decode cX8_makeWord 20 = .ok (.ifCond .eq 9, 3) := by decide +kernel
theorem dX8_makeWord_23 : decode cX8_makeWord 23 = .ok (.iinc 2 1, 3) := by decide +kernel
theorem dX8_makeWord_26 : decode cX8_makeWord 26 = .ok (.goto (-22), 3) := by decide +kernel
theorem dX8_makeWord_29 : decode cX8_makeWord 29 = .ok (.aload_n 0, 1) := by decide +kernel
theorem dX8_makeWord_30 : decode cX8_makeWord 30 = .ok (.aload_n 0, 1) := by decide +kernel
theorem dX8_makeWord_31 : decode cX8_makeWord 31 = .ok (.iload_n 1, 1) := by decide +kernel
theorem dX8_makeWord_32 : decode cX8_makeWord 32 = .ok (.iload_n 2, 1) := by decide +kernel
theorem dX8_makeWord_33 : decode cX8_makeWord 33 = .ok (.iload_n 1, 1) := by decide +kernel
theorem dX8_makeWord_34 : decode cX8_makeWord 34 = .ok (.isub, 1) := by decide +kernel
theorem dX8_makeWord_35 : decode cX8_makeWord 35 = .ok (.invokevirtual 65, 3) := by decide +kernel
theorem dX8_makeWord_38 : decode cX8_makeWord 38 = .ok (.iload_n 1, 1) := by decide +kernel
theorem dX8_makeWord_39 : decode cX8_makeWord 39 = .ok (.iconst 0, 1) := by decide +kernel
theorem dX8_makeWord_40 : decode cX8_makeWord 40 = .ok (.invokevirtual 41, 3) := by decide +kernel
theorem dX8_makeWord_43 : decode cX8_makeWord 43 = .ok (.iload_n 2, 1) := by decide +kernel
theorem dX8_makeWord_44 : decode cX8_makeWord 44 = .ok (.ireturn, 1) := by decide +kernel
theorem dX8_makeNumber_0 : decode cX8_makeNumber 0 = .ok (.iload_n 1, 1) := by decide +kernel
theorem dX8_makeNumber_1 : decode cX8_makeNumber 1 = .ok (.istore_n 2, 1) := by decide +kernel
theorem dX8_makeNumber_2 : decode cX8_makeNumber 2 = .ok (.iconst 0, 1) := by decide +kernel
theorem dX8_makeNumber_3 : decode cX8_makeNumber 3 = .ok (.istore_n 3, 1) := by decide +kernel
theorem dX8_makeNumber_4 : decode cX8_makeNumber 4 = .ok (.iload_n 2, 1) := by decide +kernel
theorem dX8_makeNumber_5 : decode cX8_makeNumber 5 = .ok (.aload_n 0, 1) := by decide +kernel
theorem dX8_makeNumber_6 : decode cX8_makeNumber 6 = .ok (.getfield 23, 3) := by decide +kernel
theorem dX8_makeNumber_9 : decode cX8_makeNumber 9 = .ok (.if_icmp .ge 34, 3) := by decide +kernel
theorem dX8_makeNumber_12 : decode cX8_makeNumber 12 = .ok (.aload_n 0, 1) := by decide +kernel
theorem dX8_makeNumber_13 : decode cX8_makeNumber 13 = .ok (.iload_n 2, 1) := by decide +kernel
theorem dX8_makeNumber_14 : decode cX8_makeNumber 14 = .ok (.invokevirtual 30, 3) := by decide +kernel
theorem dX8_makeNumber_17 : decode cX8_makeNumber 17 = .ok (.invokestatic 52, 3) := by decide +kernel
theorem dX8_makeNumber_20 : decode cX8_makeNumber 20 = .ok (.ifCond .eq 23, 3) := by decide +kernel
theorem dX8_makeNumber_23 : decode cX8_makeNumber 23 = .ok (.iload_n 3, 1) := by decide +kernel
theorem dX8_makeNumber_24 : decode cX8_makeNumber 24 = .ok (.bipush 10, 2) := by decide +kernel
theorem dX8_makeNumber_26 : decode cX8_makeNumber 26 = .ok (.imul, 1) := by decide +kernel
theorem dX8_makeNumber_27 : decode cX8_makeNumber 27 = .ok (.aload_n 0, 1) := by decide +kernel
theorem dX8_makeNumber_28 : decode cX8_makeNumber 28 = .ok (.iload_n 2, 1) := by decide +kernel
theorem dX8_makeNumber_29 : decode cX8_makeNumber 29 = .ok (.invokevirtual 30, 3) := by decide +kernel
theorem dX8_makeNumber_32 : decode cX8_makeNumber 32 = .ok (.iadd, 1) := by decide +kernel
theorem dX8_makeNumber_33 : decode cX8_makeNumber 33 = .ok (.bipush 48, 2) := by decide +kernel
theorem dX8_makeNumber_35 : decode cX8_makeNumber 35 = .ok (.isub, 1) := by decide +kernel
theorem dX8_makeNumber_36 : decode cX8_makeNumber 36 = .ok (.istore_n 3, 1) := by decide +kernel
theorem dX8_makeNumber_37 : decode cX8_makeNumber 37 = .ok (.iinc 2 1, 3) := by decide +kernel
theorem dX8_makeNumber_40 : decode cX8_makeNumber 40 = .ok (.goto (-36), 3) := by decide +kernel
theorem dX8_makeNumber_43 : decode cX8_makeNumber 43 = .ok (.aload_n 0, 1) := by decide +kernel
theorem dX8_makeNumber_44 : decode cX8_makeNumber 44 = .ok (.iload_n 2, 1) := by decide +kernel
theorem dX8_makeNumber_45 : decode cX8_makeNumber 45 = .ok (.iload_n 1, 1) := by decide +kernel
theorem dX8_makeNumber_46 : decode cX8_makeNumber 46 = .ok (.isub, 1) := by decide +kernel
theorem dX8_makeNumber_47 : decode cX8_makeNumber 47 = .ok (.iconst 4, 1) := by decide +kernel
theorem dX8_makeNumber_48 : decode cX8_makeNumber 48 = .ok (.if_icmp .gt 7, 3) := by decide +kernel
theorem dX8_makeNumber_51 : decode cX8_makeNumber 51 = .ok (.iconst 2, 1) := by decide +kernel
theorem dX8_makeNumber_52 : decode cX8_makeNumber 52 = .ok (.goto 4, 3) := by decide +kernel
theorem dX8_makeNumber_55 : decode cX8_makeNumber 55 = .ok (.iconst 1, 1) := by decide +kernel
theorem dX8_makeNumber_56 : decode cX8_makeNumber 56 = .ok (.iload_n 1, 1) := by decide +kernel
theorem dX8_makeNumber_57 : decode cX8_makeNumber 57 = .ok (.iload_n 3, 1) := by decide +kernel
theorem dX8_makeNumber_58 : decode cX8_makeNumber 58 = .ok (.invokevirtual 41, 3) := by decide +kernel
theorem dX8_makeNumber_61 : decode cX8_makeNumber 61 = .ok (.iload_n 2, 1) := by decide +kernel
theorem dX8_makeNumber_62 : decode cX8_makeNumber 62 = .ok (.ireturn, 1) := by decide +kernel
theorem dX8_keyword_0 : decode cX8_keyword 0 = .ok (.iconst 0, 1) := by decide +kernel
theorem dX8_keyword_1 : decode cX8_keyword 1 = .ok (.istore_n 3, 1) := by decide +kernel
theorem dX8_keyword_2 : decode cX8_keyword 2 = .ok (.iconst 0, 1) := by decide +kernel
theorem dX8_keyword_3 : decode cX8_keyword 3 = .ok (.istore 4, 2) := by decide +kernel
theorem dX8_keyword_5 : decode cX8_keyword 5 = .ok (.iconst 0, 1) := by decide +kernel
theorem dX8_keyword_6 : decode cX8_keyword 6 = .ok (.istore 5, 2) := by decide +kernel
theorem dX8_keyword_8 : decode cX8_keyword 8 = .ok (.iload 5, 2) := by decide +kernel
theorem dX8_keyword_10 : decode cX8_keyword 10 = .ok (.ldc 68, 2) := by decide +kernel
theorem dX8_keyword_12 : decode cX8_keyword 12 = .ok (.invokevirtual 70, 3) := by decide +kernel
theorem dX8_keyword_15 : decode cX8_keyword 15 = .ok (.if_icmp .ge 54, 3) := by decide +kernel
theorem dX8_keyword_18 : decode cX8_keyword 18 = .ok (.ldc 68, 2) := by decide +kernel
theorem dX8_keyword_20 : decode cX8_keyword 20 = .ok (.iload 5, 2) := by decide +kernel
theorem dX8_keyword_22 : decode cX8_keyword 22 = .ok (.invokevirtual 74, 3) := by decide +kernel
theorem dX8_keyword_25 : decode cX8_keyword 25 = .ok (.bipush 32, 2) := by decide +kernel
theorem dX8_keyword_27 : decode cX8_keyword 27 = .ok (.if_icmp .ne 36, 3) := by decide +kernel
theorem dX8_keyword_30 : decode cX8_keyword 30 = .ok (.iload 5, 2) := by decide +kernel
theorem dX8_keyword_32 : decode cX8_keyword 32 = .ok (.iload_n 3, 1) := by decide +kernel
theorem dX8_keyword_33 : decode cX8_keyword 33 = .ok (.isub, 1) := by decide +kernel
theorem dX8_keyword_34 : decode cX8_keyword 34 = .ok (.iload_n 2, 1) := by decide +kernel
theorem dX8_keyword_35 : decode cX8_keyword 35 = .ok (.if_icmp .ne 20, 3) := by decide +kernel
theorem dX8_keyword_38 : decode cX8_keyword 38 = .ok (.aload_n 0, 1) := by decide +kernel
theorem dX8_keyword_39 : decode cX8_keyword 39 = .ok (.iload_n 3, 1) := by decide +kernel
theorem dX8_keyword_40 : decode cX8_keyword 40 = .ok (.iload_n 1, 1) := by decide +kernel
theorem dX8_keyword_41 : decode cX8_keyword 41 = .ok (.iload_n 2, 1) := by decide +kernel
theorem dX8_keyword_42 : decode cX8_keyword 42 = .ok (.invokevirtual 78, 3) := by decide +kernel
theorem dX8_keyword_45 : decode cX8_keyword 45 = .ok (.ifCond .eq 10, 3) := by decide +kernel
theorem dX8_keyword_48 : decode cX8_keyword 48 = .ok (.sipush 256, 3) := by decide +kernel
theorem dX8_keyword_51 : decode cX8_keyword 51 = .ok (.iload 4, 2) := by decide +kernel
theorem dX8_keyword_53 : decode cX8_keyword 53 = .ok (.iadd, 1) := by decide +kernel
theorem dX8_keyword_54 : decode cX8_keyword 54 = .ok (.ireturn, 1) := by decide +kernel
theorem dX8_keyword_55 : decode cX8_keyword 55 = .ok (.iload 5, 2) := by decide +kernel
theorem dX8_keyword_57 : decode cX8_keyword 57 = .ok (.iconst 1, 1) := by decide +kernel
theorem dX8_keyword_58 : decode cX8_keyword 58 = .ok (.iadd, 1) := by decide +kernel
theorem dX8_keyword_59 : decode cX8_keyword 59 = .ok (.istore_n 3, 1) := by decide +kernel
theorem dX8_keyword_60 : decode cX8_keyword 60 = .ok (.iinc 4 1, 3) := by decide +kernel
theorem dX8_keyword_63 : decode cX8_keyword 63 = .ok (.iinc 5 1, 3) := by decide +kernel
theorem dX8_keyword_66 : decode cX8_keyword 66 = .ok (.goto (-58), 3) := by decide +kernel
theorem dX8_keyword_69 : decode cX8_keyword 69 = .ok (.iconst 1, 1) := by decide +kernel
theorem dX8_keyword_70 : decode cX8_keyword 70 = .ok (.ireturn, 1) := by decide +kernel
theorem dX8_spells_0 : decode cX8_spells 0 = .ok (.iconst 0, 1) := by decide +kernel
theorem dX8_spells_1 : decode cX8_spells 1 = .ok (.istore 4, 2) := by decide +kernel
theorem dX8_spells_3 : decode cX8_spells 3 = .ok (.iload 4, 2) := by decide +kernel
theorem dX8_spells_5 : decode cX8_spells 5 = .ok (.iload_n 3, 1) := by decide +kernel
theorem dX8_spells_6 : decode cX8_spells 6 = .ok (.if_icmp .ge 43, 3) := by decide +kernel
theorem dX8_spells_9 : decode cX8_spells 9 = .ok (.iload_n 1, 1) := by decide +kernel
theorem dX8_spells_10 : decode cX8_spells 10 = .ok (.iload 4, 2) := by decide +kernel
theorem dX8_spells_12 : decode cX8_spells 12 = .ok (.iadd, 1) := by decide +kernel
theorem dX8_spells_13 : decode cX8_spells 13 = .ok (.ldc 68, 2) := by decide +kernel
theorem dX8_spells_15 : decode cX8_spells 15 = .ok (.invokevirtual 70, 3) := by decide +kernel
theorem dX8_spells_18 : decode cX8_spells 18 = .ok (.if_icmp .ge 23, 3) := by decide +kernel
theorem dX8_spells_21 : decode cX8_spells 21 = .ok (.ldc 68, 2) := by decide +kernel
theorem dX8_spells_23 : decode cX8_spells 23 = .ok (.iload_n 1, 1) := by decide +kernel
theorem dX8_spells_24 : decode cX8_spells 24 = .ok (.iload 4, 2) := by decide +kernel
theorem dX8_spells_26 : decode cX8_spells 26 = .ok (.iadd, 1) := by decide +kernel
theorem dX8_spells_27 : decode cX8_spells 27 = .ok (.invokevirtual 74, 3) := by decide +kernel
theorem dX8_spells_30 : decode cX8_spells 30 = .ok (.aload_n 0, 1) := by decide +kernel
theorem dX8_spells_31 : decode cX8_spells 31 = .ok (.iload_n 2, 1) := by decide +kernel
theorem dX8_spells_32 : decode cX8_spells 32 = .ok (.iload 4, 2) := by decide +kernel
theorem dX8_spells_34 : decode cX8_spells 34 = .ok (.iadd, 1) := by decide +kernel
theorem dX8_spells_35 : decode cX8_spells 35 = .ok (.invokevirtual 30, 3) := by decide +kernel
theorem dX8_spells_38 : decode cX8_spells 38 = .ok (.if_icmp .eq 5, 3) := by decide +kernel
theorem dX8_spells_41 : decode cX8_spells 41 = .ok (.iconst 0, 1) := by decide +kernel
theorem dX8_spells_42 : decode cX8_spells 42 = .ok (.ireturn, 1) := by decide +kernel
theorem dX8_spells_43 : decode cX8_spells 43 = .ok (.iinc 4 1, 3) := by decide +kernel
theorem dX8_spells_46 : decode cX8_spells 46 = .ok (.goto (-43), 3) := by decide +kernel
theorem dX8_spells_49 : decode cX8_spells 49 = .ok (.iconst 1, 1) := by decide +kernel
theorem dX8_spells_50 : decode cX8_spells 50 = .ok (.ireturn, 1) := by decide +kernel
theorem dX8_signAt_0 : decode cX8_signAt 0 = .ok (.iload_n 1, 1) := by decide +kernel
theorem dX8_signAt_1 : decode cX8_signAt 1 = .ok (.ifCond .lt 24, 3) := by decide +kernel
theorem dX8_signAt_4 : decode cX8_signAt 4 = .ok (.iload_n 1, 1) := by decide +kernel
theorem dX8_signAt_5 : decode cX8_signAt 5 = .ok (.aload_n 0, 1) := by decide +kernel
theorem dX8_signAt_6 : decode cX8_signAt 6 = .ok (.getfield 23, 3) := by decide +kernel
theorem dX8_signAt_9 : decode cX8_signAt 9 = .ok (.if_icmp .ge 16, 3) := by decide +kernel
theorem dX8_signAt_12 : decode cX8_signAt 12 = .ok (.aload_n 0, 1) := by decide +kernel
theorem dX8_signAt_13 : decode cX8_signAt 13 = .ok (.getfield 9, 3) := by decide +kernel
theorem dX8_signAt_16 : decode cX8_signAt 16 = .ok (.iload_n 1, 1) := by decide +kernel
theorem dX8_signAt_17 : decode cX8_signAt 17 = .ok (.baload, 1) := by decide +kernel
theorem dX8_signAt_18 : decode cX8_signAt 18 = .ok (.sipush 255, 3) := by decide +kernel
theorem dX8_signAt_21 : decode cX8_signAt 21 = .ok (.iand, 1) := by decide +kernel
theorem dX8_signAt_22 : decode cX8_signAt 22 = .ok (.goto 4, 3) := by decide +kernel
theorem dX8_signAt_25 : decode cX8_signAt 25 = .ok (.iconst 0, 1) := by decide +kernel
theorem dX8_signAt_26 : decode cX8_signAt 26 = .ok (.ireturn, 1) := by decide +kernel
theorem dX8_isLetter_0 : decode cX8_isLetter 0 = .ok (.iload_n 0, 1) := by decide +kernel
theorem dX8_isLetter_1 : decode cX8_isLetter 1 = .ok (.bipush 97, 2) := by decide +kernel
theorem dX8_isLetter_3 : decode cX8_isLetter 3 = .ok (.if_icmp .lt 9, 3) := by decide +kernel
theorem dX8_isLetter_6 : decode cX8_isLetter 6 = .ok (.iload_n 0, 1) := by decide +kernel
theorem dX8_isLetter_7 : decode cX8_isLetter 7 = .ok (.bipush 122, 2) := by decide +kernel
theorem dX8_isLetter_9 : decode cX8_isLetter 9 = .ok (.if_icmp .le 15, 3) := by decide +kernel
theorem dX8_isLetter_12 : decode cX8_isLetter 12 = .ok (.iload_n 0, 1) := by decide +kernel
theorem dX8_isLetter_13 : decode cX8_isLetter 13 = .ok (.bipush 65, 2) := by decide +kernel
theorem dX8_isLetter_15 : decode cX8_isLetter 15 = .ok (.if_icmp .lt 13, 3) := by decide +kernel
theorem dX8_isLetter_18 : decode cX8_isLetter 18 = .ok (.iload_n 0, 1) := by decide +kernel
theorem dX8_isLetter_19 : decode cX8_isLetter 19 = .ok (.bipush 90, 2) := by decide +kernel
theorem dX8_isLetter_21 : decode cX8_isLetter 21 = .ok (.if_icmp .gt 7, 3) := by decide +kernel
theorem dX8_isLetter_24 : decode cX8_isLetter 24 = .ok (.iconst 1, 1) := by decide +kernel
theorem dX8_isLetter_25 : decode cX8_isLetter 25 = .ok (.goto 4, 3) := by decide +kernel
theorem dX8_isLetter_28 : decode cX8_isLetter 28 = .ok (.iconst 0, 1) := by decide +kernel
theorem dX8_isLetter_29 : decode cX8_isLetter 29 = .ok (.ireturn, 1) := by decide +kernel
theorem dX8_isDigit_0 : decode cX8_isDigit 0 = .ok (.iload_n 0, 1) := by decide +kernel
theorem dX8_isDigit_1 : decode cX8_isDigit 1 = .ok (.bipush 48, 2) := by decide +kernel
theorem dX8_isDigit_3 : decode cX8_isDigit 3 = .ok (.if_icmp .lt 13, 3) := by decide +kernel
theorem dX8_isDigit_6 : decode cX8_isDigit 6 = .ok (.iload_n 0, 1) := by decide +kernel
theorem dX8_isDigit_7 : decode cX8_isDigit 7 = .ok (.bipush 57, 2) := by decide +kernel
theorem dX8_isDigit_9 : decode cX8_isDigit 9 = .ok (.if_icmp .gt 7, 3) := by decide +kernel
theorem dX8_isDigit_12 : decode cX8_isDigit 12 = .ok (.iconst 1, 1) := by decide +kernel
theorem dX8_isDigit_13 : decode cX8_isDigit 13 = .ok (.goto 4, 3) := by decide +kernel
theorem dX8_isDigit_16 : decode cX8_isDigit 16 = .ok (.iconst 0, 1) := by decide +kernel
theorem dX8_isDigit_17 : decode cX8_isDigit 17 = .ok (.ireturn, 1) := by decide +kernel
theorem dX9_init_0 : decode cX9_init 0 = .ok (.aload_n 0, 1) := by decide +kernel
theorem dX9_init_1 : decode cX9_init 1 = .ok (.invokespecial 5, 3) := by decide +kernel
theorem dX9_init_4 : decode cX9_init 4 = .ok (.aload_n 0, 1) := by decide +kernel
theorem dX9_init_5 : decode cX9_init 5 = .ok (.sipush 732, 3) := by decide +kernel
theorem dX9_init_8 : decode cX9_init 8 = .ok (.newarray .int, 2) := by decide +kernel
theorem dX9_init_10 : decode cX9_init 10 = .ok (.putfield 13, 3) := by decide +kernel
theorem dX9_init_13 : decode cX9_init 13 = .ok (.aload_n 0, 1) := by decide +kernel
theorem dX9_init_14 : decode cX9_init 14 = .ok (.bipush 72, 2) := by decide +kernel
theorem dX9_init_16 : decode cX9_init 16 = .ok (.newarray .int, 2) := by decide +kernel
theorem dX9_init_18 : decode cX9_init 18 = .ok (.putfield 17, 3) := by decide +kernel
theorem dX9_init_21 : decode cX9_init 21 = .ok (.aload_n 0, 1) := by decide +kernel
theorem dX9_init_22 : decode cX9_init 22 = .ok (.iconst (-1), 1) := by decide +kernel
theorem dX9_init_23 : decode cX9_init 23 = .ok (.putfield 20, 3) := by decide +kernel
theorem dX9_init_26 : decode cX9_init 26 = .ok (.aload_n 0, 1) := by decide +kernel
theorem dX9_init_27 : decode cX9_init 27 = .ok (.aload_n 1, 1) := by decide +kernel
theorem dX9_init_28 : decode cX9_init 28 = .ok (.putfield 24, 3) := by decide +kernel
theorem dX9_init_31 : decode cX9_init 31 = .ok (.return_, 1) := by decide +kernel
theorem dX9_behind_0 : decode cX9_behind 0 = .ok (.aload_n 0, 1) := by decide +kernel
theorem dX9_behind_1 : decode cX9_behind 1 = .ok (.getfield 24, 3) := by decide +kernel
theorem dX9_behind_4 : decode cX9_behind 4 = .ok (.iload_n 1, 1) := by decide +kernel
theorem dX9_behind_5 : decode cX9_behind 5 = .ok (.iload_n 2, 1) := by decide +kernel
theorem dX9_behind_6 : decode cX9_behind 6 = .ok (.invokevirtual 28, 3) := by decide +kernel
theorem dX9_behind_9 : decode cX9_behind 9 = .ok (.ifCond .eq 19, 3) := by decide +kernel
theorem dX9_behind_12 : decode cX9_behind 12 = .ok (.iload_n 3, 1) := by decide +kernel
theorem dX9_behind_13 : decode cX9_behind 13 = .ok (.ifCond .lt 15, 3) := by decide +kernel
theorem dX9_behind_16 : decode cX9_behind 16 = .ok (.iload_n 3, 1) := by decide +kernel
theorem dX9_behind_17 : decode cX9_behind 17 = .ok (.aload_n 0, 1) := by decide +kernel
theorem dX9_behind_18 : decode cX9_behind 18 = .ok (.getfield 24, 3) := by decide +kernel
theorem dX9_behind_21 : decode cX9_behind 21 = .ok (.iconst 2, 1) := by decide +kernel
theorem dX9_behind_22 : decode cX9_behind 22 = .ok (.invokevirtual 32, 3) := by decide +kernel
theorem dX9_behind_25 : decode cX9_behind 25 = .ok (.if_icmp .lt 5, 3) := by decide +kernel
theorem dX9_behind_28 : decode cX9_behind 28 = .ok (.iconst 0, 1) := by decide +kernel
theorem dX9_behind_29 : decode cX9_behind 29 = .ok (.ireturn, 1) := by decide +kernel
theorem dX9_behind_30 : decode cX9_behind 30 = .ok (.aload_n 0, 1) := by decide +kernel
theorem dX9_behind_31 : decode cX9_behind 31 = .ok (.getfield 13, 3) := by decide +kernel
theorem dX9_behind_34 : decode cX9_behind 34 = .ok (.iload_n 1, 1) := by decide +kernel
theorem dX9_behind_35 : decode cX9_behind 35 = .ok (.bipush 6, 2) := by decide +kernel
theorem dX9_behind_37 : decode cX9_behind 37 = .ok (.imul, 1) := by decide +kernel
theorem dX9_behind_38 : decode cX9_behind 38 = .ok (.iload_n 2, 1) := by decide +kernel
theorem dX9_behind_39 : decode cX9_behind 39 = .ok (.iadd, 1) := by decide +kernel
theorem dX9_behind_40 : decode cX9_behind 40 = .ok (.bipush 61, 2) := by decide +kernel
theorem dX9_behind_42 : decode cX9_behind 42 = .ok (.imul, 1) := by decide +kernel
theorem dX9_behind_43 : decode cX9_behind 43 = .ok (.iload_n 3, 1) := by decide +kernel
theorem dX9_behind_44 : decode cX9_behind 44 = .ok (.iadd, 1) := by decide +kernel
theorem dX9_behind_45 : decode cX9_behind 45 = .ok (.iaload, 1) := by decide +kernel
theorem dX9_behind_46 : decode cX9_behind 46 = .ok (.ireturn, 1) := by decide +kernel
theorem dX9_refresh_0 : decode cX9_refresh 0 = .ok (.aload_n 0, 1) := by decide +kernel
theorem dX9_refresh_1 : decode cX9_refresh 1 = .ok (.getfield 20, 3) := by decide +kernel
theorem dX9_refresh_4 : decode cX9_refresh 4 = .ok (.aload_n 0, 1) := by decide +kernel
theorem dX9_refresh_5 : decode cX9_refresh 5 = .ok (.getfield 24, 3) := by decide +kernel
theorem dX9_refresh_8 : decode cX9_refresh 8 = .ok (.invokevirtual 36, 3) := by decide +kernel
theorem dX9_refresh_11 : decode cX9_refresh 11 = .ok (.if_icmp .ne 4, 3) := by decide +kernel
theorem dX9_refresh_14 : decode cX9_refresh 14 = .ok (.return_, 1) := by decide +kernel
theorem dX9_refresh_15 : decode cX9_refresh 15 = .ok (.aload_n 0, 1) := by decide +kernel
theorem dX9_refresh_16 : decode cX9_refresh 16 = .ok (.aload_n 0, 1) := by decide +kernel
theorem dX9_refresh_17 : decode cX9_refresh 17 = .ok (.getfield 24, 3) := by decide +kernel
theorem dX9_refresh_20 : decode cX9_refresh 20 = .ok (.invokevirtual 36, 3) := by decide +kernel
theorem dX9_refresh_23 : decode cX9_refresh 23 = .ok (.putfield 20, 3) := by decide +kernel
theorem dX9_refresh_26 : decode cX9_refresh 26 = .ok (.aload_n 0, 1) := by decide +kernel
theorem dX9_refresh_27 : decode cX9_refresh 27 = .ok (.invokevirtual 39, 3) := by decide +kernel
theorem dX9_refresh_30 : decode cX9_refresh 30 = .ok (.aload_n 0, 1) := by decide +kernel
theorem dX9_refresh_31 : decode cX9_refresh 31 = .ok (.getfield 24, 3) := by decide +kernel
theorem dX9_refresh_34 : decode cX9_refresh 34 = .ok (.iconst 2, 1) := by decide +kernel
theorem dX9_refresh_35 : decode cX9_refresh 35 = .ok (.invokevirtual 32, 3) := by decide +kernel
theorem dX9_refresh_38 : decode cX9_refresh 38 = .ok (.bipush 60, 2) := by decide +kernel
theorem dX9_refresh_40 : decode cX9_refresh 40 = .ok (.invokestatic 42, 3) := by decide +kernel
theorem dX9_refresh_43 : decode cX9_refresh 43 = .ok (.istore_n 1, 1) := by decide +kernel
theorem dX9_refresh_44 : decode cX9_refresh 44 = .ok (.iconst 0, 1) := by decide +kernel
theorem dX9_refresh_45 : decode cX9_refresh 45 = .ok (.istore_n 2, 1) := by decide +kernel
theorem dX9_refresh_46 : decode cX9_refresh 46 = .ok (.iload_n 2, 1) := by decide +kernel
theorem dX9_refresh_47 : decode cX9_refresh 47 = .ok (.bipush 12, 2) := by decide +kernel
theorem dX9_refresh_49 : decode cX9_refresh 49 = .ok (.if_icmp .ge 21, 3) := by decide +kernel
theorem dX9_refresh_52 : decode cX9_refresh 52 = .ok (.aload_n 0, 1) := by decide +kernel
theorem dX9_refresh_53 : decode cX9_refresh 53 = .ok (.getfield 13, 3) := by decide +kernel
theorem dX9_refresh_56 : decode cX9_refresh 56 = .ok (.iload_n 2, 1) := by decide +kernel
theorem dX9_refresh_57 : decode cX9_refresh 57 = .ok (.bipush 61, 2) := by decide +kernel
theorem dX9_refresh_59 : decode cX9_refresh 59 = .ok (.imul, 1) := by decide +kernel
theorem dX9_refresh_60 : decode cX9_refresh 60 = .ok (.iload_n 1, 1) := by decide +kernel
theorem dX9_refresh_61 : decode cX9_refresh 61 = .ok (.iadd, 1) := by decide +kernel
theorem dX9_refresh_62 : decode cX9_refresh 62 = .ok (.iconst 0, 1) := by decide +kernel
theorem dX9_refresh_63 : decode cX9_refresh 63 = .ok (.iastore, 1) := by decide +kernel
theorem dX9_refresh_64 : decode cX9_refresh 64 = .ok (.iinc 2 1, 3) := by decide +kernel
theorem dX9_refresh_67 : decode cX9_refresh 67 = .ok (.goto (-21), 3) := by decide +kernel
theorem dX9_refresh_70 : decode cX9_refresh 70 = .ok (.iload_n 1, 1) := by decide +kernel
theorem dX9_refresh_71 : decode cX9_refresh 71 = .ok (.istore_n 2, 1) := by decide +kernel
theorem dX9_refresh_72 : decode cX9_refresh 72 = .ok (.iload_n 2, 1) := by decide +kernel
theorem dX9_refresh_73 : decode cX9_refresh 73 = .ok (.iconst 1, 1) := by decide +kernel
theorem dX9_refresh_74 : decode cX9_refresh 74 = .ok (.if_icmp .lt 49, 3) := by decide +kernel
theorem dX9_refresh_77 : decode cX9_refresh 77 = .ok (.iconst 0, 1) := by decide +kernel
theorem dX9_refresh_78 : decode cX9_refresh 78 = .ok (.istore_n 3, 1) := by decide +kernel
theorem dX9_refresh_79 : decode cX9_refresh 79 = .ok (.iload_n 3, 1) := by decide +kernel
theorem dX9_refresh_80 : decode cX9_refresh 80 = .ok (.bipush 12, 2) := by decide +kernel
theorem dX9_refresh_82 : decode cX9_refresh 82 = .ok (.if_icmp .ge 35, 3) := by decide +kernel
theorem dX9_refresh_85 : decode cX9_refresh 85 = .ok (.aload_n 0, 1) := by decide +kernel
theorem dX9_refresh_86 : decode cX9_refresh 86 = .ok (.getfield 13, 3) := by decide +kernel
theorem dX9_refresh_89 : decode cX9_refresh 89 = .ok (.iload_n 3, 1) := by decide +kernel
theorem dX9_refresh_90 : decode cX9_refresh 90 = .ok (.bipush 61, 2) := by decide +kernel
theorem dX9_refresh_92 : decode cX9_refresh 92 = .ok (.imul, 1) := by decide +kernel
theorem dX9_refresh_93 : decode cX9_refresh 93 = .ok (.iload_n 2, 1) := by decide +kernel
theorem dX9_refresh_94 : decode cX9_refresh 94 = .ok (.iadd, 1) := by decide +kernel
theorem dX9_refresh_95 : decode cX9_refresh 95 = .ok (.iconst 1, 1) := by decide +kernel
theorem dX9_refresh_96 : decode cX9_refresh 96 = .ok (.isub, 1) := by decide +kernel
theorem dX9_refresh_97 : decode cX9_refresh 97 = .ok (.aload_n 0, 1) := by decide +kernel
theorem dX9_refresh_98 : decode cX9_refresh 98 = .ok (.iload_n 3, 1) := by decide +kernel
theorem dX9_refresh_99 : decode cX9_refresh 99 = .ok (.bipush 6, 2) := by decide +kernel
theorem dX9_refresh_101 : decode cX9_refresh 101 = .ok (.idiv, 1) := by decide +kernel
theorem dX9_refresh_102 : decode cX9_refresh 102 = .ok (.iload_n 3, 1) := by decide +kernel
theorem dX9_refresh_103 : decode cX9_refresh 103 = .ok (.bipush 6, 2) := by decide +kernel
theorem dX9_refresh_105 : decode cX9_refresh 105 = .ok (.irem, 1) := by decide +kernel
theorem dX9_refresh_106 : decode cX9_refresh 106 = .ok (.iload_n 2, 1) := by decide +kernel
theorem dX9_refresh_107 : decode cX9_refresh 107 = .ok (.invokevirtual 48, 3) := by decide +kernel
theorem dX9_refresh_110 : decode cX9_refresh 110 = .ok (.iastore, 1) := by decide +kernel
theorem dX9_refresh_111 : decode cX9_refresh 111 = .ok (.iinc 3 1, 3) := by decide +kernel
theorem dX9_refresh_114 : decode cX9_refresh 114 = .ok (.goto (-35), 3) := by decide +kernel
theorem dX9_refresh_117 : decode cX9_refresh 117 = .ok (.iinc 2 (-1), 3) := by decide +kernel
theorem dX9_refresh_120 : decode cX9_refresh 120 = .ok (.goto (-48), 3) := by decide +kernel
theorem dX9_refresh_123 : decode cX9_refresh 123 = .ok (.return_, 1) := by decide +kernel
theorem dX9_gatherWorths_0 : decode cX9_gatherWorths 0 = .ok (.iconst 0, 1) := by decide +kernel
theorem dX9_gatherWorths_1 : decode cX9_gatherWorths 1 = .ok (.istore_n 1, 1) := by decide +kernel
theorem dX9_gatherWorths_2 : decode cX9_gatherWorths 2 = .ok (.iload_n 1, 1) := by decide +kernel
theorem dX9_gatherWorths_3 : decode cX9_gatherWorths 3 = .ok (.bipush 12, 2) := by decide +kernel
theorem dX9_gatherWorths_5 : decode cX9_gatherWorths 5 = .ok (.if_icmp .ge 50, 3) := by decide +kernel
theorem dX9_gatherWorths_8 : decode cX9_gatherWorths 8 = .ok (.iconst 0, 1) := by decide +kernel
theorem dX9_gatherWorths_9 : decode cX9_gatherWorths 9 = .ok (.istore_n 2, 1) := by decide +kernel
theorem dX9_gatherWorths_10 : decode cX9_gatherWorths 10 = .ok (.iload_n 2, 1) := by decide +kernel
theorem dX9_gatherWorths_11 : decode cX9_gatherWorths 11 = .ok (.bipush 6, 2) := by decide +kernel
theorem dX9_gatherWorths_13 : decode cX9_gatherWorths 13 = .ok (.if_icmp .ge 36, 3) := by decide +kernel
theorem dX9_gatherWorths_16 : decode cX9_gatherWorths 16 = .ok (.aload_n 0, 1) := by decide +kernel
theorem dX9_gatherWorths_17 : decode cX9_gatherWorths 17 = .ok (.getfield 17, 3) := by decide +kernel
theorem dX9_gatherWorths_20 : decode cX9_gatherWorths 20 = .ok (.iload_n 1, 1) := by decide +kernel
theorem dX9_gatherWorths_21 : decode cX9_gatherWorths 21 = .ok (.bipush 6, 2) := by decide +kernel
theorem dX9_gatherWorths_23 : decode cX9_gatherWorths 23 = .ok (.imul, 1) := by decide +kernel
theorem dX9_gatherWorths_24 : decode cX9_gatherWorths 24 = .ok (.iload_n 2, 1) := by decide +kernel
theorem dX9_gatherWorths_25 : decode cX9_gatherWorths 25 = .ok (.iadd, 1) := by decide +kernel
theorem dX9_gatherWorths_26 : decode cX9_gatherWorths 26 = .ok (.aload_n 0, 1) := by decide +kernel
theorem dX9_gatherWorths_27 : decode cX9_gatherWorths 27 = .ok (.getfield 24, 3) := by decide +kernel
theorem dX9_gatherWorths_30 : decode cX9_gatherWorths 30 = .ok (.iload_n 1, 1) := by decide +kernel
theorem dX9_gatherWorths_31 : decode cX9_gatherWorths 31 = .ok (.bipush 6, 2) := by decide +kernel
theorem dX9_gatherWorths_33 : decode cX9_gatherWorths 33 = .ok (.idiv, 1) := by decide +kernel
theorem dX9_gatherWorths_34 : decode cX9_gatherWorths 34 = .ok (.iload_n 1, 1) := by decide +kernel
theorem dX9_gatherWorths_35 : decode cX9_gatherWorths 35 = .ok (.bipush 6, 2) := by decide +kernel
theorem dX9_gatherWorths_37 : decode cX9_gatherWorths 37 = .ok (.irem, 1) := by decide +kernel
theorem dX9_gatherWorths_38 : decode cX9_gatherWorths 38 = .ok (.iload_n 2, 1) := by decide +kernel
theorem dX9_gatherWorths_39 : decode cX9_gatherWorths 39 = .ok (.invokevirtual 52, 3) := by decide +kernel
theorem dX9_gatherWorths_42 : decode cX9_gatherWorths 42 = .ok (.iastore, 1) := by decide +kernel
theorem dX9_gatherWorths_43 : decode cX9_gatherWorths 43 = .ok (.iinc 2 1, 3) := by decide +kernel
theorem dX9_gatherWorths_46 : decode cX9_gatherWorths 46 = .ok (.goto (-36), 3) := by decide +kernel
theorem dX9_gatherWorths_49 : decode cX9_gatherWorths 49 = .ok (.iinc 1 1, 3) := by decide +kernel
theorem dX9_gatherWorths_52 : decode cX9_gatherWorths 52 = .ok (.goto (-50), 3) := by decide +kernel
theorem dX9_gatherWorths_55 : decode cX9_gatherWorths 55 = .ok (.return_, 1) := by decide +kernel
theorem dX9_ahead_0 : decode cX9_ahead 0 = .ok (.aload_n 0, 1) := by decide +kernel
theorem dX9_ahead_1 : decode cX9_ahead 1 = .ok (.getfield 24, 3) := by decide +kernel
theorem dX9_ahead_4 : decode cX9_ahead 4 = .ok (.iload_n 1, 1) := by decide +kernel
theorem dX9_ahead_5 : decode cX9_ahead 5 = .ok (.iload_n 2, 1) := by decide +kernel
theorem dX9_ahead_6 : decode cX9_ahead 6 = .ok (.invokevirtual 28, 3) := by decide +kernel
theorem dX9_ahead_9 : decode cX9_ahead 9 = .ok (.ifCond .eq 14, 3) := by decide +kernel
theorem dX9_ahead_12 : decode cX9_ahead 12 = .ok (.iload_n 3, 1) := by decide +kernel
theorem dX9_ahead_13 : decode cX9_ahead 13 = .ok (.iconst 1, 1) := by decide +kernel
theorem dX9_ahead_14 : decode cX9_ahead 14 = .ok (.if_icmp .lt 9, 3) := by decide +kernel
theorem dX9_ahead_17 : decode cX9_ahead 17 = .ok (.iload_n 3, 1) := by decide +kernel
theorem dX9_ahead_18 : decode cX9_ahead 18 = .ok (.bipush 61, 2) := by decide +kernel
theorem dX9_ahead_20 : decode cX9_ahead 20 = .ok (.if_icmp .lt 5, 3) := by decide +kernel
theorem dX9_ahead_23 : decode cX9_ahead 23 = .ok (.iconst 0, 1) := by decide +kernel
theorem dX9_ahead_24 : decode cX9_ahead 24 = .ok (.ireturn, 1) := by decide +kernel
theorem dX9_ahead_25 : decode cX9_ahead 25 = .ok (.iconst 1, 1) := by decide +kernel
theorem dX9_ahead_26 : decode cX9_ahead 26 = .ok (.iload_n 1, 1) := by decide +kernel
theorem dX9_ahead_27 : decode cX9_ahead 27 = .ok (.isub, 1) := by decide +kernel
theorem dX9_ahead_28 : decode cX9_ahead 28 = .ok (.istore 4, 2) := by decide +kernel
theorem dX9_ahead_30 : decode cX9_ahead 30 = .ok (.aload_n 0, 1) := by decide +kernel
theorem dX9_ahead_31 : decode cX9_ahead 31 = .ok (.getfield 13, 3) := by decide +kernel
theorem dX9_ahead_34 : decode cX9_ahead 34 = .ok (.iload_n 1, 1) := by decide +kernel
