theorem dX12_isSort_8 : decode cX12_isSort 8 = .ok (.aload_n 0, 1) := by decide +kernel
theorem dX12_isSort_9 : decode cX12_isSort 9 = .ok (.iload_n 2, 1) := by decide +kernel
theorem dX12_isSort_10 : decode cX12_isSort 10 = .ok (.iconst 0, 1) := by decide +kernel
theorem dX12_isSort_11 : decode cX12_isSort 11 = .ok (.aload_n 0, 1) := by decide +kernel
theorem dX12_isSort_12 : decode cX12_isSort 12 = .ok (.getfield 7, 3) := by decide +kernel
theorem dX12_isSort_15 : decode cX12_isSort 15 = .ok (.iload_n 1, 1) := by decide +kernel
theorem dX12_isSort_16 : decode cX12_isSort 16 = .ok (.iaload, 1) := by decide +kernel
theorem dX12_isSort_17 : decode cX12_isSort 17 = .ok (.iconst 1, 1) := by decide +kernel
theorem dX12_isSort_18 : decode cX12_isSort 18 = .ok (.isub, 1) := by decide +kernel
theorem dX12_isSort_19 : decode cX12_isSort 19 = .ok (.invokevirtual 149, 3) := by decide +kernel
theorem dX12_isSort_22 : decode cX12_isSort 22 = .ok (.ifCond .eq 7, 3) := by decide +kernel
theorem dX12_isSort_25 : decode cX12_isSort 25 = .ok (.iconst 1, 1) := by decide +kernel
theorem dX12_isSort_26 : decode cX12_isSort 26 = .ok (.goto 4, 3) := by decide +kernel
theorem dX12_isSort_29 : decode cX12_isSort 29 = .ok (.iconst 0, 1) := by decide +kernel
theorem dX12_isSort_30 : decode cX12_isSort 30 = .ok (.ireturn, 1) := by decide +kernel
theorem dX12_sorts_0 : decode cX12_sorts 0 = .ok (.aload_n 0, 1) := by decide +kernel
theorem dX12_sorts_1 : decode cX12_sorts 1 = .ok (.iconst 0, 1) := by decide +kernel
theorem dX12_sorts_2 : decode cX12_sorts 2 = .ok (.putfield 142, 3) := by decide +kernel
theorem dX12_sorts_5 : decode cX12_sorts 5 = .ok (.aload_n 0, 1) := by decide +kernel
theorem dX12_sorts_6 : decode cX12_sorts 6 = .ok (.iload_n 1, 1) := by decide +kernel
theorem dX12_sorts_7 : decode cX12_sorts 7 = .ok (.invokevirtual 145, 3) := by decide +kernel
theorem dX12_sorts_10 : decode cX12_sorts 10 = .ok (.ifCond .eq 21, 3) := by decide +kernel
theorem dX12_sorts_13 : decode cX12_sorts 13 = .ok (.aload_n 0, 1) := by decide +kernel
theorem dX12_sorts_14 : decode cX12_sorts 14 = .ok (.iload_n 2, 1) := by decide +kernel
theorem dX12_sorts_15 : decode cX12_sorts 15 = .ok (.iconst 1, 1) := by decide +kernel
theorem dX12_sorts_16 : decode cX12_sorts 16 = .ok (.bipush 6, 2) := by decide +kernel
theorem dX12_sorts_18 : decode cX12_sorts 18 = .ok (.invokevirtual 149, 3) := by decide +kernel
theorem dX12_sorts_21 : decode cX12_sorts 21 = .ok (.ifCond .eq 10, 3) := by decide +kernel
theorem dX12_sorts_24 : decode cX12_sorts 24 = .ok (.aload_n 0, 1) := by decide +kernel
theorem dX12_sorts_25 : decode cX12_sorts 25 = .ok (.getfield 153, 3) := by decide +kernel
theorem dX12_sorts_28 : decode cX12_sorts 28 = .ok (.ifCond .le 5, 3) := by decide +kernel
theorem dX12_sorts_31 : decode cX12_sorts 31 = .ok (.iconst 0, 1) := by decide +kernel
theorem dX12_sorts_32 : decode cX12_sorts 32 = .ok (.ireturn, 1) := by decide +kernel
theorem dX12_sorts_33 : decode cX12_sorts 33 = .ok (.aload_n 0, 1) := by decide +kernel
theorem dX12_sorts_34 : decode cX12_sorts 34 = .ok (.getfield 7, 3) := by decide +kernel
theorem dX12_sorts_37 : decode cX12_sorts 37 = .ok (.iload_n 1, 1) := by decide +kernel
theorem dX12_sorts_38 : decode cX12_sorts 38 = .ok (.iload_n 2, 1) := by decide +kernel
theorem dX12_sorts_39 : decode cX12_sorts 39 = .ok (.iastore, 1) := by decide +kernel
theorem dX12_sorts_40 : decode cX12_sorts 40 = .ok (.bipush 6, 2) := by decide +kernel
theorem dX12_sorts_42 : decode cX12_sorts 42 = .ok (.iload_n 1, 1) := by decide +kernel
theorem dX12_sorts_43 : decode cX12_sorts 43 = .ok (.imul, 1) := by decide +kernel
theorem dX12_sorts_44 : decode cX12_sorts 44 = .ok (.istore_n 3, 1) := by decide +kernel
theorem dX12_sorts_45 : decode cX12_sorts 45 = .ok (.iload_n 3, 1) := by decide +kernel
theorem dX12_sorts_46 : decode cX12_sorts 46 = .ok (.bipush 6, 2) := by decide +kernel
theorem dX12_sorts_48 : decode cX12_sorts 48 = .ok (.iload_n 1, 1) := by decide +kernel
theorem dX12_sorts_49 : decode cX12_sorts 49 = .ok (.imul, 1) := by decide +kernel
theorem dX12_sorts_50 : decode cX12_sorts 50 = .ok (.bipush 6, 2) := by decide +kernel
theorem dX12_sorts_52 : decode cX12_sorts 52 = .ok (.iadd, 1) := by decide +kernel
theorem dX12_sorts_53 : decode cX12_sorts 53 = .ok (.if_icmp .ge 23, 3) := by decide +kernel
theorem dX12_sorts_56 : decode cX12_sorts 56 = .ok (.aload_n 0, 1) := by decide +kernel
theorem dX12_sorts_57 : decode cX12_sorts 57 = .ok (.getfield 13, 3) := by decide +kernel
theorem dX12_sorts_60 : decode cX12_sorts 60 = .ok (.iload_n 3, 1) := by decide +kernel
theorem dX12_sorts_61 : decode cX12_sorts 61 = .ok (.iconst 0, 1) := by decide +kernel
theorem dX12_sorts_62 : decode cX12_sorts 62 = .ok (.iastore, 1) := by decide +kernel
theorem dX12_sorts_63 : decode cX12_sorts 63 = .ok (.aload_n 0, 1) := by decide +kernel
theorem dX12_sorts_64 : decode cX12_sorts 64 = .ok (.getfield 16, 3) := by decide +kernel
theorem dX12_sorts_67 : decode cX12_sorts 67 = .ok (.iload_n 3, 1) := by decide +kernel
theorem dX12_sorts_68 : decode cX12_sorts 68 = .ok (.iconst 0, 1) := by decide +kernel
theorem dX12_sorts_69 : decode cX12_sorts 69 = .ok (.iastore, 1) := by decide +kernel
theorem dX12_sorts_70 : decode cX12_sorts 70 = .ok (.iinc 3 1, 3) := by decide +kernel
theorem dX12_sorts_73 : decode cX12_sorts 73 = .ok (.goto (-28), 3) := by decide +kernel
theorem dX12_sorts_76 : decode cX12_sorts 76 = .ok (.iconst 0, 1) := by decide +kernel
theorem dX12_sorts_77 : decode cX12_sorts 77 = .ok (.istore_n 3, 1) := by decide +kernel
theorem dX12_sorts_78 : decode cX12_sorts 78 = .ok (.iload_n 3, 1) := by decide +kernel
theorem dX12_sorts_79 : decode cX12_sorts 79 = .ok (.bipush 72, 2) := by decide +kernel
theorem dX12_sorts_81 : decode cX12_sorts 81 = .ok (.if_icmp .ge 16, 3) := by decide +kernel
theorem dX12_sorts_84 : decode cX12_sorts 84 = .ok (.aload_n 0, 1) := by decide +kernel
theorem dX12_sorts_85 : decode cX12_sorts 85 = .ok (.getfield 19, 3) := by decide +kernel
theorem dX12_sorts_88 : decode cX12_sorts 88 = .ok (.iload_n 3, 1) := by decide +kernel
theorem dX12_sorts_89 : decode cX12_sorts 89 = .ok (.iconst (-1), 1) := by decide +kernel
theorem dX12_sorts_90 : decode cX12_sorts 90 = .ok (.iastore, 1) := by decide +kernel
theorem dX12_sorts_91 : decode cX12_sorts 91 = .ok (.iinc 3 1, 3) := by decide +kernel
theorem dX12_sorts_94 : decode cX12_sorts 94 = .ok (.goto (-16), 3) := by decide +kernel
theorem dX12_sorts_97 : decode cX12_sorts 97 = .ok (.aload_n 0, 1) := by decide +kernel
theorem dX12_sorts_98 : decode cX12_sorts 98 = .ok (.iconst 0, 1) := by decide +kernel
theorem dX12_sorts_99 : decode cX12_sorts 99 = .ok (.putfield 156, 3) := by decide +kernel
theorem dX12_sorts_102 : decode cX12_sorts 102 = .ok (.iconst 1, 1) := by decide +kernel
theorem dX12_sorts_103 : decode cX12_sorts 103 = .ok (.ireturn, 1) := by decide +kernel
theorem dX12_look_0 : decode cX12_look 0 = .ok (.aload_n 0, 1) := by decide +kernel
theorem dX12_look_1 : decode cX12_look 1 = .ok (.iconst 0, 1) := by decide +kernel
theorem dX12_look_2 : decode cX12_look 2 = .ok (.putfield 142, 3) := by decide +kernel
theorem dX12_look_5 : decode cX12_look 5 = .ok (.aload_n 0, 1) := by decide +kernel
theorem dX12_look_6 : decode cX12_look 6 = .ok (.iload_n 1, 1) := by decide +kernel
theorem dX12_look_7 : decode cX12_look 7 = .ok (.iload_n 2, 1) := by decide +kernel
theorem dX12_look_8 : decode cX12_look 8 = .ok (.invokevirtual 160, 3) := by decide +kernel
theorem dX12_look_11 : decode cX12_look 11 = .ok (.ifCond .eq 28, 3) := by decide +kernel
theorem dX12_look_14 : decode cX12_look 14 = .ok (.aload_n 0, 1) := by decide +kernel
theorem dX12_look_15 : decode cX12_look 15 = .ok (.iload_n 3, 1) := by decide +kernel
theorem dX12_look_16 : decode cX12_look 16 = .ok (.iconst 0, 1) := by decide +kernel
theorem dX12_look_17 : decode cX12_look 17 = .ok (.sipush 999, 3) := by decide +kernel
theorem dX12_look_20 : decode cX12_look 20 = .ok (.invokevirtual 149, 3) := by decide +kernel
theorem dX12_look_23 : decode cX12_look 23 = .ok (.ifCond .eq 16, 3) := by decide +kernel
theorem dX12_look_26 : decode cX12_look 26 = .ok (.aload_n 0, 1) := by decide +kernel
theorem dX12_look_27 : decode cX12_look 27 = .ok (.iload 4, 2) := by decide +kernel
theorem dX12_look_29 : decode cX12_look 29 = .ok (.iconst 0, 1) := by decide +kernel
theorem dX12_look_30 : decode cX12_look 30 = .ok (.sipush 999, 3) := by decide +kernel
theorem dX12_look_33 : decode cX12_look 33 = .ok (.invokevirtual 149, 3) := by decide +kernel
theorem dX12_look_36 : decode cX12_look 36 = .ok (.ifCond .ne 5, 3) := by decide +kernel
theorem dX12_look_39 : decode cX12_look 39 = .ok (.iconst 0, 1) := by decide +kernel
theorem dX12_look_40 : decode cX12_look 40 = .ok (.ireturn, 1) := by decide +kernel
theorem dX12_look_41 : decode cX12_look 41 = .ok (.iload 4, 2) := by decide +kernel
theorem dX12_look_43 : decode cX12_look 43 = .ok (.istore 5, 2) := by decide +kernel
theorem dX12_look_45 : decode cX12_look 45 = .ok (.iconst 0, 1) := by decide +kernel
theorem dX12_look_46 : decode cX12_look 46 = .ok (.istore 6, 2) := by decide +kernel
theorem dX12_look_48 : decode cX12_look 48 = .ok (.iload 6, 2) := by decide +kernel
theorem dX12_look_50 : decode cX12_look 50 = .ok (.aload_n 0, 1) := by decide +kernel
theorem dX12_look_51 : decode cX12_look 51 = .ok (.getfield 7, 3) := by decide +kernel
theorem dX12_look_54 : decode cX12_look 54 = .ok (.iload_n 1, 1) := by decide +kernel
theorem dX12_look_55 : decode cX12_look 55 = .ok (.iaload, 1) := by decide +kernel
theorem dX12_look_56 : decode cX12_look 56 = .ok (.if_icmp .ge 32, 3) := by decide +kernel
theorem dX12_look_59 : decode cX12_look 59 = .ok (.iload 6, 2) := by decide +kernel
theorem dX12_look_61 : decode cX12_look 61 = .ok (.iload_n 2, 1) := by decide +kernel
theorem dX12_look_62 : decode cX12_look 62 = .ok (.if_icmp .eq 20, 3) := by decide +kernel
theorem dX12_look_65 : decode cX12_look 65 = .ok (.iload 5, 2) := by decide +kernel
theorem dX12_look_67 : decode cX12_look 67 = .ok (.aload_n 0, 1) := by decide +kernel
theorem dX12_look_68 : decode cX12_look 68 = .ok (.getfield 16, 3) := by decide +kernel
theorem dX12_look_71 : decode cX12_look 71 = .ok (.bipush 6, 2) := by decide +kernel
theorem dX12_look_73 : decode cX12_look 73 = .ok (.iload_n 1, 1) := by decide +kernel
theorem dX12_look_74 : decode cX12_look 74 = .ok (.imul, 1) := by decide +kernel
theorem dX12_look_75 : decode cX12_look 75 = .ok (.iload 6, 2) := by decide +kernel
theorem dX12_look_77 : decode cX12_look 77 = .ok (.iadd, 1) := by decide +kernel
theorem dX12_look_78 : decode cX12_look 78 = .ok (.iaload, 1) := by decide +kernel
theorem dX12_look_79 : decode cX12_look 79 = .ok (.iadd, 1) := by decide +kernel
theorem dX12_look_80 : decode cX12_look 80 = .ok (.istore 5, 2) := by decide +kernel
theorem dX12_look_82 : decode cX12_look 82 = .ok (.iinc 6 1, 3) := by decide +kernel
theorem dX12_look_85 : decode cX12_look 85 = .ok (.goto (-37), 3) := by decide +kernel
theorem dX12_look_88 : decode cX12_look 88 = .ok (.iload 5, 2) := by decide +kernel
theorem dX12_look_90 : decode cX12_look 90 = .ok (.sipush 1000, 3) := by decide +kernel
theorem dX12_look_93 : decode cX12_look 93 = .ok (.if_icmp .le 5, 3) := by decide +kernel
theorem dX12_look_96 : decode cX12_look 96 = .ok (.iconst 0, 1) := by decide +kernel
theorem dX12_look_97 : decode cX12_look 97 = .ok (.ireturn, 1) := by decide +kernel
theorem dX12_look_98 : decode cX12_look 98 = .ok (.aload_n 0, 1) := by decide +kernel
theorem dX12_look_99 : decode cX12_look 99 = .ok (.getfield 13, 3) := by decide +kernel
theorem dX12_look_102 : decode cX12_look 102 = .ok (.bipush 6, 2) := by decide +kernel
theorem dX12_look_104 : decode cX12_look 104 = .ok (.iload_n 1, 1) := by decide +kernel
theorem dX12_look_105 : decode cX12_look 105 = .ok (.imul, 1) := by decide +kernel
theorem dX12_look_106 : decode cX12_look 106 = .ok (.iload_n 2, 1) := by decide +kernel
theorem dX12_look_107 : decode cX12_look 107 = .ok (.iadd, 1) := by decide +kernel
theorem dX12_look_108 : decode cX12_look 108 = .ok (.iload_n 3, 1) := by decide +kernel
theorem dX12_look_109 : decode cX12_look 109 = .ok (.iastore, 1) := by decide +kernel
theorem dX12_look_110 : decode cX12_look 110 = .ok (.aload_n 0, 1) := by decide +kernel
theorem dX12_look_111 : decode cX12_look 111 = .ok (.getfield 16, 3) := by decide +kernel
theorem dX12_look_114 : decode cX12_look 114 = .ok (.bipush 6, 2) := by decide +kernel
theorem dX12_look_116 : decode cX12_look 116 = .ok (.iload_n 1, 1) := by decide +kernel
theorem dX12_look_117 : decode cX12_look 117 = .ok (.imul, 1) := by decide +kernel
theorem dX12_look_118 : decode cX12_look 118 = .ok (.iload_n 2, 1) := by decide +kernel
theorem dX12_look_119 : decode cX12_look 119 = .ok (.iadd, 1) := by decide +kernel
theorem dX12_look_120 : decode cX12_look 120 = .ok (.iload 4, 2) := by decide +kernel
theorem dX12_look_122 : decode cX12_look 122 = .ok (.iastore, 1) := by decide +kernel
theorem dX12_look_123 : decode cX12_look 123 = .ok (.aload_n 0, 1) := by decide +kernel
theorem dX12_look_124 : decode cX12_look 124 = .ok (.iconst 0, 1) := by decide +kernel
theorem dX12_look_125 : decode cX12_look 125 = .ok (.putfield 156, 3) := by decide +kernel
theorem dX12_look_128 : decode cX12_look 128 = .ok (.iconst 1, 1) := by decide +kernel
theorem dX12_look_129 : decode cX12_look 129 = .ok (.ireturn, 1) := by decide +kernel
theorem dX12_worth_0 : decode cX12_worth 0 = .ok (.aload_n 0, 1) := by decide +kernel
theorem dX12_worth_1 : decode cX12_worth 1 = .ok (.iconst 0, 1) := by decide +kernel
theorem dX12_worth_2 : decode cX12_worth 2 = .ok (.putfield 142, 3) := by decide +kernel
theorem dX12_worth_5 : decode cX12_worth 5 = .ok (.aload_n 0, 1) := by decide +kernel
theorem dX12_worth_6 : decode cX12_worth 6 = .ok (.iload_n 1, 1) := by decide +kernel
theorem dX12_worth_7 : decode cX12_worth 7 = .ok (.iload_n 2, 1) := by decide +kernel
theorem dX12_worth_8 : decode cX12_worth 8 = .ok (.invokevirtual 160, 3) := by decide +kernel
theorem dX12_worth_11 : decode cX12_worth 11 = .ok (.ifCond .eq 27, 3) := by decide +kernel
theorem dX12_worth_14 : decode cX12_worth 14 = .ok (.aload_n 0, 1) := by decide +kernel
theorem dX12_worth_15 : decode cX12_worth 15 = .ok (.iconst 1, 1) := by decide +kernel
theorem dX12_worth_16 : decode cX12_worth 16 = .ok (.iload_n 1, 1) := by decide +kernel
theorem dX12_worth_17 : decode cX12_worth 17 = .ok (.isub, 1) := by decide +kernel
theorem dX12_worth_18 : decode cX12_worth 18 = .ok (.iload_n 3, 1) := by decide +kernel
theorem dX12_worth_19 : decode cX12_worth 19 = .ok (.invokevirtual 160, 3) := by decide +kernel
theorem dX12_worth_22 : decode cX12_worth 22 = .ok (.ifCond .eq 16, 3) := by decide +kernel
theorem dX12_worth_25 : decode cX12_worth 25 = .ok (.aload_n 0, 1) := by decide +kernel
theorem dX12_worth_26 : decode cX12_worth 26 = .ok (.iload 4, 2) := by decide +kernel
theorem dX12_worth_28 : decode cX12_worth 28 = .ok (.iconst (-1), 1) := by decide +kernel
theorem dX12_worth_29 : decode cX12_worth 29 = .ok (.sipush 999, 3) := by decide +kernel
theorem dX12_worth_32 : decode cX12_worth 32 = .ok (.invokevirtual 149, 3) := by decide +kernel
theorem dX12_worth_35 : decode cX12_worth 35 = .ok (.ifCond .ne 5, 3) := by decide +kernel
theorem dX12_worth_38 : decode cX12_worth 38 = .ok (.iconst 0, 1) := by decide +kernel
theorem dX12_worth_39 : decode cX12_worth 39 = .ok (.ireturn, 1) := by decide +kernel
theorem dX12_worth_40 : decode cX12_worth 40 = .ok (.aload_n 0, 1) := by decide +kernel
theorem dX12_worth_41 : decode cX12_worth 41 = .ok (.getfield 19, 3) := by decide +kernel
theorem dX12_worth_44 : decode cX12_worth 44 = .ok (.bipush 36, 2) := by decide +kernel
theorem dX12_worth_46 : decode cX12_worth 46 = .ok (.iload_n 1, 1) := by decide +kernel
theorem dX12_worth_47 : decode cX12_worth 47 = .ok (.imul, 1) := by decide +kernel
theorem dX12_worth_48 : decode cX12_worth 48 = .ok (.bipush 6, 2) := by decide +kernel
theorem dX12_worth_50 : decode cX12_worth 50 = .ok (.iload_n 2, 1) := by decide +kernel
theorem dX12_worth_51 : decode cX12_worth 51 = .ok (.imul, 1) := by decide +kernel
theorem dX12_worth_52 : decode cX12_worth 52 = .ok (.iadd, 1) := by decide +kernel
theorem dX12_worth_53 : decode cX12_worth 53 = .ok (.iload_n 3, 1) := by decide +kernel
theorem dX12_worth_54 : decode cX12_worth 54 = .ok (.iadd, 1) := by decide +kernel
theorem dX12_worth_55 : decode cX12_worth 55 = .ok (.iload 4, 2) := by decide +kernel
theorem dX12_worth_57 : decode cX12_worth 57 = .ok (.iastore, 1) := by decide +kernel
theorem dX12_worth_58 : decode cX12_worth 58 = .ok (.aload_n 0, 1) := by decide +kernel
theorem dX12_worth_59 : decode cX12_worth 59 = .ok (.iconst 0, 1) := by decide +kernel
theorem dX12_worth_60 : decode cX12_worth 60 = .ok (.putfield 156, 3) := by decide +kernel
theorem dX12_worth_63 : decode cX12_worth 63 = .ok (.iconst 1, 1) := by decide +kernel
theorem dX12_worth_64 : decode cX12_worth 64 = .ok (.ireturn, 1) := by decide +kernel
theorem dX12_worthTo_0 : decode cX12_worthTo 0 = .ok (.aload_n 0, 1) := by decide +kernel
theorem dX12_worthTo_1 : decode cX12_worthTo 1 = .ok (.getfield 19, 3) := by decide +kernel
theorem dX12_worthTo_4 : decode cX12_worthTo 4 = .ok (.bipush 36, 2) := by decide +kernel
theorem dX12_worthTo_6 : decode cX12_worthTo 6 = .ok (.iload_n 1, 1) := by decide +kernel
theorem dX12_worthTo_7 : decode cX12_worthTo 7 = .ok (.imul, 1) := by decide +kernel
theorem dX12_worthTo_8 : decode cX12_worthTo 8 = .ok (.bipush 6, 2) := by decide +kernel
theorem dX12_worthTo_10 : decode cX12_worthTo 10 = .ok (.iload_n 2, 1) := by decide +kernel
theorem dX12_worthTo_11 : decode cX12_worthTo 11 = .ok (.imul, 1) := by decide +kernel
theorem dX12_worthTo_12 : decode cX12_worthTo 12 = .ok (.iadd, 1) := by decide +kernel
theorem dX12_worthTo_13 : decode cX12_worthTo 13 = .ok (.iload_n 3, 1) := by decide +kernel
theorem dX12_worthTo_14 : decode cX12_worthTo 14 = .ok (.iadd, 1) := by decide +kernel
theorem dX12_worthTo_15 : decode cX12_worthTo 15 = .ok (.iaload, 1) := by decide +kernel
theorem dX12_worthTo_16 : decode cX12_worthTo 16 = .ok (.istore 4, 2) := by decide +kernel
theorem dX12_worthTo_18 : decode cX12_worthTo 18 = .ok (.iload 4, 2) := by decide +kernel
theorem dX12_worthTo_20 : decode cX12_worthTo 20 = .ok (.iconst (-1), 1) := by decide +kernel
theorem dX12_worthTo_21 : decode cX12_worthTo 21 = .ok (.if_icmp .ne 19, 3) := by decide +kernel
theorem dX12_worthTo_24 : decode cX12_worthTo 24 = .ok (.aload_n 0, 1) := by decide +kernel
theorem dX12_worthTo_25 : decode cX12_worthTo 25 = .ok (.getfield 13, 3) := by decide +kernel
theorem dX12_worthTo_28 : decode cX12_worthTo 28 = .ok (.bipush 6, 2) := by decide +kernel
theorem dX12_worthTo_30 : decode cX12_worthTo 30 = .ok (.iconst 1, 1) := by decide +kernel
theorem dX12_worthTo_31 : decode cX12_worthTo 31 = .ok (.iload_n 1, 1) := by decide +kernel
theorem dX12_worthTo_32 : decode cX12_worthTo 32 = .ok (.isub, 1) := by decide +kernel
theorem dX12_worthTo_33 : decode cX12_worthTo 33 = .ok (.imul, 1) := by decide +kernel
theorem dX12_worthTo_34 : decode cX12_worthTo 34 = .ok (.iload_n 3, 1) := by decide +kernel
theorem dX12_worthTo_35 : decode cX12_worthTo 35 = .ok (.iadd, 1) := by decide +kernel
theorem dX12_worthTo_36 : decode cX12_worthTo 36 = .ok (.iaload, 1) := by decide +kernel
theorem dX12_worthTo_37 : decode cX12_worthTo 37 = .ok (.goto 5, 3) := by decide +kernel
theorem dX12_worthTo_40 : decode cX12_worthTo 40 = .ok (.iload 4, 2) := by decide +kernel
theorem dX12_worthTo_42 : decode cX12_worthTo 42 = .ok (.ireturn, 1) := by decide +kernel
theorem dX12_set_0 : decode cX12_set 0 = .ok (.aload_n 0, 1) := by decide +kernel
theorem dX12_set_1 : decode cX12_set 1 = .ok (.iconst 0, 1) := by decide +kernel
theorem dX12_set_2 : decode cX12_set 2 = .ok (.putfield 142, 3) := by decide +kernel
theorem dX12_set_5 : decode cX12_set 5 = .ok (.iload_n 1, 1) := by decide +kernel
theorem dX12_set_6 : decode cX12_set 6 = .ok (.iconst 1, 1) := by decide +kernel
theorem dX12_set_7 : decode cX12_set 7 = .ok (.if_icmp .eq 13, 3) := by decide +kernel
theorem dX12_set_10 : decode cX12_set 10 = .ok (.iload_n 1, 1) := by decide +kernel
theorem dX12_set_11 : decode cX12_set 11 = .ok (.iconst 2, 1) := by decide +kernel
theorem dX12_set_12 : decode cX12_set 12 = .ok (.if_icmp .eq 8, 3) := by decide +kernel
theorem dX12_set_15 : decode cX12_set 15 = .ok (.iload_n 1, 1) := by decide +kernel
theorem dX12_set_16 : decode cX12_set 16 = .ok (.iconst 4, 1) := by decide +kernel
theorem dX12_set_17 : decode cX12_set 17 = .ok (.if_icmp .ne 7, 3) := by decide +kernel
theorem dX12_set_20 : decode cX12_set 20 = .ok (.iconst 1, 1) := by decide +kernel
theorem dX12_set_21 : decode cX12_set 21 = .ok (.goto 4, 3) := by decide +kernel
theorem dX12_set_24 : decode cX12_set 24 = .ok (.iconst 0, 1) := by decide +kernel
theorem dX12_set_25 : decode cX12_set 25 = .ok (.istore_n 3, 1) := by decide +kernel
theorem dX12_set_26 : decode cX12_set 26 = .ok (.iload_n 1, 1) := by decide +kernel
theorem dX12_set_27 : decode cX12_set 27 = .ok (.iconst 1, 1) := by decide +kernel
theorem dX12_set_28 : decode cX12_set 28 = .ok (.if_icmp .ne 9, 3) := by decide +kernel
theorem dX12_set_31 : decode cX12_set 31 = .ok (.sipush 999, 3) := by decide +kernel
theorem dX12_set_34 : decode cX12_set 34 = .ok (.goto 30, 3) := by decide +kernel
theorem dX12_set_37 : decode cX12_set 37 = .ok (.iload_n 1, 1) := by decide +kernel
theorem dX12_set_38 : decode cX12_set 38 = .ok (.iconst 2, 1) := by decide +kernel
theorem dX12_set_39 : decode cX12_set 39 = .ok (.if_icmp .ne 8, 3) := by decide +kernel
theorem dX12_set_42 : decode cX12_set 42 = .ok (.bipush 60, 2) := by decide +kernel
theorem dX12_set_44 : decode cX12_set 44 = .ok (.goto 20, 3) := by decide +kernel
theorem dX12_set_47 : decode cX12_set 47 = .ok (.iload_n 1, 1) := by decide +kernel
theorem dX12_set_48 : decode cX12_set 48 = .ok (.iconst 5, 1) := by decide +kernel
theorem dX12_set_49 : decode cX12_set 49 = .ok (.if_icmp .eq 9, 3) := by decide +kernel
theorem dX12_set_52 : decode cX12_set 52 = .ok (.iload_n 1, 1) := by decide +kernel
theorem dX12_set_53 : decode cX12_set 53 = .ok (.bipush 6, 2) := by decide +kernel
theorem dX12_set_55 : decode cX12_set 55 = .ok (.if_icmp .ne 7, 3) := by decide +kernel
theorem dX12_set_58 : decode cX12_set 58 = .ok (.iconst 1, 1) := by decide +kernel
theorem dX12_set_59 : decode cX12_set 59 = .ok (.goto 5, 3) := by decide +kernel
theorem dX12_set_62 : decode cX12_set 62 = .ok (.bipush 99, 2) := by decide +kernel
theorem dX12_set_64 : decode cX12_set 64 = .ok (.istore 4, 2) := by decide +kernel
theorem dX12_set_66 : decode cX12_set 66 = .ok (.aload_n 0, 1) := by decide +kernel
theorem dX12_set_67 : decode cX12_set 67 = .ok (.iload_n 1, 1) := by decide +kernel
theorem dX12_set_68 : decode cX12_set 68 = .ok (.iconst 0, 1) := by decide +kernel
theorem dX12_set_69 : decode cX12_set 69 = .ok (.bipush 6, 2) := by decide +kernel
theorem dX12_set_71 : decode cX12_set 71 = .ok (.invokevirtual 149, 3) := by decide +kernel
theorem dX12_set_74 : decode cX12_set 74 = .ok (.ifCond .eq 14, 3) := by decide +kernel
theorem dX12_set_77 : decode cX12_set 77 = .ok (.aload_n 0, 1) := by decide +kernel
theorem dX12_set_78 : decode cX12_set 78 = .ok (.iload_n 2, 1) := by decide +kernel
theorem dX12_set_79 : decode cX12_set 79 = .ok (.iload_n 3, 1) := by decide +kernel
theorem dX12_set_80 : decode cX12_set 80 = .ok (.iload 4, 2) := by decide +kernel
theorem dX12_set_82 : decode cX12_set 82 = .ok (.invokevirtual 149, 3) := by decide +kernel
theorem dX12_set_85 : decode cX12_set 85 = .ok (.ifCond .ne 5, 3) := by decide +kernel
theorem dX12_set_88 : decode cX12_set 88 = .ok (.iconst 0, 1) := by decide +kernel
theorem dX12_set_89 : decode cX12_set 89 = .ok (.ireturn, 1) := by decide +kernel
theorem dX12_set_90 : decode cX12_set 90 = .ok (.iload_n 1, 1) := by decide +kernel
theorem dX12_set_91 : decode cX12_set 91 = .ok (.ifCond .ne 11, 3) := by decide +kernel
theorem dX12_set_94 : decode cX12_set 94 = .ok (.aload_n 0, 1) := by decide +kernel
theorem dX12_set_95 : decode cX12_set 95 = .ok (.iload_n 2, 1) := by decide +kernel
theorem dX12_set_96 : decode cX12_set 96 = .ok (.putfield 22, 3) := by decide +kernel
theorem dX12_set_99 : decode cX12_set 99 = .ok (.goto 73, 3) := by decide +kernel
theorem dX12_set_102 : decode cX12_set 102 = .ok (.iload_n 1, 1) := by decide +kernel
theorem dX12_set_103 : decode cX12_set 103 = .ok (.iconst 1, 1) := by decide +kernel
theorem dX12_set_104 : decode cX12_set 104 = .ok (.if_icmp .ne 11, 3) := by decide +kernel
theorem dX12_set_107 : decode cX12_set 107 = .ok (.aload_n 0, 1) := by decide +kernel
theorem dX12_set_108 : decode cX12_set 108 = .ok (.iload_n 2, 1) := by decide +kernel
theorem dX12_set_109 : decode cX12_set 109 = .ok (.putfield 26, 3) := by decide +kernel
theorem dX12_set_112 : decode cX12_set 112 = .ok (.goto 60, 3) := by decide +kernel
theorem dX12_set_115 : decode cX12_set 115 = .ok (.iload_n 1, 1) := by decide +kernel
theorem dX12_set_116 : decode cX12_set 116 = .ok (.iconst 2, 1) := by decide +kernel
theorem dX12_set_117 : decode cX12_set 117 = .ok (.if_icmp .ne 11, 3) := by decide +kernel
theorem dX12_set_120 : decode cX12_set 120 = .ok (.aload_n 0, 1) := by decide +kernel
theorem dX12_set_121 : decode cX12_set 121 = .ok (.iload_n 2, 1) := by decide +kernel
theorem dX12_set_122 : decode cX12_set 122 = .ok (.putfield 29, 3) := by decide +kernel
theorem dX12_set_125 : decode cX12_set 125 = .ok (.goto 47, 3) := by decide +kernel
theorem dX12_set_128 : decode cX12_set 128 = .ok (.iload_n 1, 1) := by decide +kernel
theorem dX12_set_129 : decode cX12_set 129 = .ok (.iconst 3, 1) := by decide +kernel
theorem dX12_set_130 : decode cX12_set 130 = .ok (.if_icmp .ne 11, 3) := by decide +kernel
theorem dX12_set_133 : decode cX12_set 133 = .ok (.aload_n 0, 1) := by decide +kernel
theorem dX12_set_134 : decode cX12_set 134 = .ok (.iload_n 2, 1) := by decide +kernel
theorem dX12_set_135 : decode cX12_set 135 = .ok (.putfield 164, 3) := by decide +kernel
theorem dX12_set_138 : decode cX12_set 138 = .ok (.goto 34, 3) := by decide +kernel
theorem dX12_set_141 : decode cX12_set 141 = .ok (.iload_n 1, 1) := by decide +kernel
theorem dX12_set_142 : decode cX12_set 142 = .ok (.iconst 4, 1) := by decide +kernel
theorem dX12_set_143 : decode cX12_set 143 = .ok (.if_icmp .ne 11, 3) := by decide +kernel
theorem dX12_set_146 : decode cX12_set 146 = .ok (.aload_n 0, 1) := by decide +kernel
theorem dX12_set_147 : decode cX12_set 147 = .ok (.iload_n 2, 1) := by decide +kernel
theorem dX12_set_148 : decode cX12_set 148 = .ok (.putfield 32, 3) := by decide +kernel
theorem dX12_set_151 : decode cX12_set 151 = .ok (.goto 21, 3) := by decide +kernel
theorem dX12_set_154 : decode cX12_set 154 = .ok (.iload_n 1, 1) := by decide +kernel
theorem dX12_set_155 : decode cX12_set 155 = .ok (.iconst 5, 1) := by decide +kernel
theorem dX12_set_156 : decode cX12_set 156 = .ok (.if_icmp .ne 11, 3) := by decide +kernel
theorem dX12_set_159 : decode cX12_set 159 = .ok (.aload_n 0, 1) := by decide +kernel
theorem dX12_set_160 : decode cX12_set 160 = .ok (.iload_n 2, 1) := by decide +kernel
theorem dX12_set_161 : decode cX12_set 161 = .ok (.putfield 167, 3) := by decide +kernel
theorem dX12_set_164 : decode cX12_set 164 = .ok (.goto 8, 3) := by decide +kernel
theorem dX12_set_167 : decode cX12_set 167 = .ok (.aload_n 0, 1) := by decide +kernel
theorem dX12_set_168 : decode cX12_set 168 = .ok (.iload_n 2, 1) := by decide +kernel
theorem dX12_set_169 : decode cX12_set 169 = .ok (.putfield 170, 3) := by decide +kernel
theorem dX12_set_172 : decode cX12_set 172 = .ok (.aload_n 0, 1) := by decide +kernel
theorem dX12_set_173 : decode cX12_set 173 = .ok (.iconst 0, 1) := by decide +kernel
theorem dX12_set_174 : decode cX12_set 174 = .ok (.putfield 156, 3) := by decide +kernel
theorem dX12_set_177 : decode cX12_set 177 = .ok (.iconst 1, 1) := by decide +kernel
theorem dX12_set_178 : decode cX12_set 178 = .ok (.ireturn, 1) := by decide +kernel
theorem dX12_areFalling_0 : decode cX12_areFalling 0 = .ok (.iconst 0, 1) := by decide +kernel
theorem dX12_areFalling_1 : decode cX12_areFalling 1 = .ok (.istore_n 1, 1) := by decide +kernel
theorem dX12_areFalling_2 : decode cX12_areFalling 2 = .ok (.iload_n 1, 1) := by decide +kernel
theorem dX12_areFalling_3 : decode cX12_areFalling 3 = .ok (.iconst 2, 1) := by decide +kernel
theorem dX12_areFalling_4 : decode cX12_areFalling 4 = .ok (.if_icmp .ge 56, 3) := by decide +kernel
theorem dX12_areFalling_7 : decode cX12_areFalling 7 = .ok (.iconst 1, 1) := by decide +kernel
theorem dX12_areFalling_8 : decode cX12_areFalling 8 = .ok (.istore_n 2, 1) := by decide +kernel
theorem dX12_areFalling_9 : decode cX12_areFalling 9 = .ok (.iload_n 2, 1) := by decide +kernel
theorem dX12_areFalling_10 : decode cX12_areFalling 10 = .ok (.aload_n 0, 1) := by decide +kernel
theorem dX12_areFalling_11 : decode cX12_areFalling 11 = .ok (.getfield 7, 3) := by decide +kernel
theorem dX12_areFalling_14 : decode cX12_areFalling 14 = .ok (.iload_n 1, 1) := by decide +kernel
theorem dX12_areFalling_15 : decode cX12_areFalling 15 = .ok (.iaload, 1) := by decide +kernel
theorem dX12_areFalling_16 : decode cX12_areFalling 16 = .ok (.if_icmp .ge 38, 3) := by decide +kernel
theorem dX12_areFalling_19 : decode cX12_areFalling 19 = .ok (.aload_n 0, 1) := by decide +kernel
theorem dX12_areFalling_20 : decode cX12_areFalling 20 = .ok (.getfield 13, 3) := by decide +kernel
theorem dX12_areFalling_23 : decode cX12_areFalling 23 = .ok (.bipush 6, 2) := by decide +kernel
theorem dX12_areFalling_25 : decode cX12_areFalling 25 = .ok (.iload_n 1, 1) := by decide +kernel
theorem dX12_areFalling_26 : decode cX12_areFalling 26 = .ok (.imul, 1) := by decide +kernel
theorem dX12_areFalling_27 : decode cX12_areFalling 27 = .ok (.iload_n 2, 1) := by decide +kernel
theorem dX12_areFalling_28 : decode cX12_areFalling 28 = .ok (.iadd, 1) := by decide +kernel
theorem dX12_areFalling_29 : decode cX12_areFalling 29 = .ok (.iaload, 1) := by decide +kernel
theorem dX12_areFalling_30 : decode cX12_areFalling 30 = .ok (.aload_n 0, 1) := by decide +kernel
theorem dX12_areFalling_31 : decode cX12_areFalling 31 = .ok (.getfield 13, 3) := by decide +kernel
theorem dX12_areFalling_34 : decode cX12_areFalling 34 = .ok (.bipush 6, 2) := by decide +kernel
theorem dX12_areFalling_36 : decode cX12_areFalling 36 = .ok (.iload_n 1, 1) := by decide +kernel
theorem dX12_areFalling_37 : decode cX12_areFalling 37 = .ok (.imul, 1) := by decide +kernel
theorem dX12_areFalling_38 : decode cX12_areFalling 38 = .ok (.iload_n 2, 1) := by decide +kernel
theorem dX12_areFalling_39 : decode cX12_areFalling 39 = .ok (.iadd, 1) := by decide +kernel
theorem dX12_areFalling_40 : decode cX12_areFalling 40 = .ok (.iconst 1, 1) := by decide +kernel
theorem dX12_areFalling_41 : decode cX12_areFalling 41 = .ok (.isub, 1) := by decide +kernel
theorem dX12_areFalling_42 : decode cX12_areFalling 42 = .ok (.iaload, 1) := by decide +kernel
theorem dX12_areFalling_43 : decode cX12_areFalling 43 = .ok (.if_icmp .le 5, 3) := by decide +kernel
theorem dX12_areFalling_46 : decode cX12_areFalling 46 = .ok (.iconst 0, 1) := by decide +kernel
theorem dX12_areFalling_47 : decode cX12_areFalling 47 = .ok (.ireturn, 1) := by decide +kernel
theorem dX12_areFalling_48 : decode cX12_areFalling 48 = .ok (.iinc 2 1, 3) := by decide +kernel
theorem dX12_areFalling_51 : decode cX12_areFalling 51 = .ok (.goto (-42), 3) := by decide +kernel
theorem dX12_areFalling_54 : decode cX12_areFalling 54 = .ok (.iinc 1 1, 3) := by decide +kernel
theorem dX12_areFalling_57 : decode cX12_areFalling 57 = .ok (.goto (-55), 3) := by decide +kernel
theorem dX12_areFalling_60 : decode cX12_areFalling 60 = .ok (.iconst 1, 1) := by decide +kernel
theorem dX12_areFalling_61 : decode cX12_areFalling 61 = .ok (.ireturn, 1) := by decide +kernel
theorem dX12_barFrom_0 : decode cX12_barFrom 0 = .ok (.iconst (-1), 1) := by decide +kernel
theorem dX12_barFrom_1 : decode cX12_barFrom 1 = .ok (.istore_n 3, 1) := by decide +kernel
theorem dX12_barFrom_2 : decode cX12_barFrom 2 = .ok (.sipush (-1000), 3) := by decide +kernel
theorem dX12_barFrom_5 : decode cX12_barFrom 5 = .ok (.aload_n 0, 1) := by decide +kernel
theorem dX12_barFrom_6 : decode cX12_barFrom 6 = .ok (.getfield 22, 3) := by decide +kernel
theorem dX12_barFrom_9 : decode cX12_barFrom 9 = .ok (.imul, 1) := by decide +kernel
theorem dX12_barFrom_10 : decode cX12_barFrom 10 = .ok (.istore 4, 2) := by decide +kernel
theorem dX12_barFrom_12 : decode cX12_barFrom 12 = .ok (.aload_n 0, 1) := by decide +kernel
theorem dX12_barFrom_13 : decode cX12_barFrom 13 = .ok (.getfield 26, 3) := by decide +kernel
theorem dX12_barFrom_16 : decode cX12_barFrom 16 = .ok (.istore 5, 2) := by decide +kernel
theorem dX12_barFrom_18 : decode cX12_barFrom 18 = .ok (.iload_n 2, 1) := by decide +kernel
theorem dX12_barFrom_19 : decode cX12_barFrom 19 = .ok (.istore 6, 2) := by decide +kernel
theorem dX12_barFrom_21 : decode cX12_barFrom 21 = .ok (.iload 6, 2) := by decide +kernel
theorem dX12_barFrom_23 : decode cX12_barFrom 23 = .ok (.aload_n 0, 1) := by decide +kernel
theorem dX12_barFrom_24 : decode cX12_barFrom 24 = .ok (.getfield 7, 3) := by decide +kernel
theorem dX12_barFrom_27 : decode cX12_barFrom 27 = .ok (.iload_n 1, 1) := by decide +kernel
theorem dX12_barFrom_28 : decode cX12_barFrom 28 = .ok (.iaload, 1) := by decide +kernel
theorem dX12_barFrom_29 : decode cX12_barFrom 29 = .ok (.if_icmp .ge 101, 3) := by decide +kernel
theorem dX12_barFrom_32 : decode cX12_barFrom 32 = .ok (.iload 4, 2) := by decide +kernel
theorem dX12_barFrom_34 : decode cX12_barFrom 34 = .ok (.aload_n 0, 1) := by decide +kernel
theorem dX12_barFrom_35 : decode cX12_barFrom 35 = .ok (.getfield 16, 3) := by decide +kernel
theorem dX12_barFrom_38 : decode cX12_barFrom 38 = .ok (.bipush 6, 2) := by decide +kernel
theorem dX12_barFrom_40 : decode cX12_barFrom 40 = .ok (.iload_n 1, 1) := by decide +kernel
theorem dX12_barFrom_41 : decode cX12_barFrom 41 = .ok (.imul, 1) := by decide +kernel
theorem dX12_barFrom_42 : decode cX12_barFrom 42 = .ok (.iload 6, 2) := by decide +kernel
theorem dX12_barFrom_44 : decode cX12_barFrom 44 = .ok (.iadd, 1) := by decide +kernel
theorem dX12_barFrom_45 : decode cX12_barFrom 45 = .ok (.iaload, 1) := by decide +kernel
theorem dX12_barFrom_46 : decode cX12_barFrom 46 = .ok (.aload_n 0, 1) := by decide +kernel
theorem dX12_barFrom_47 : decode cX12_barFrom 47 = .ok (.getfield 13, 3) := by decide +kernel
theorem dX12_barFrom_50 : decode cX12_barFrom 50 = .ok (.bipush 6, 2) := by decide +kernel
theorem dX12_barFrom_52 : decode cX12_barFrom 52 = .ok (.iload_n 1, 1) := by decide +kernel
theorem dX12_barFrom_53 : decode cX12_barFrom 53 = .ok (.imul, 1) := by decide +kernel
theorem dX12_barFrom_54 : decode cX12_barFrom 54 = .ok (.iload 6, 2) := by decide +kernel
theorem dX12_barFrom_56 : decode cX12_barFrom 56 = .ok (.iadd, 1) := by decide +kernel
theorem dX12_barFrom_57 : decode cX12_barFrom 57 = .ok (.iaload, 1) := by decide +kernel
theorem dX12_barFrom_58 : decode cX12_barFrom 58 = .ok (.imul, 1) := by decide +kernel
theorem dX12_barFrom_59 : decode cX12_barFrom 59 = .ok (.iadd, 1) := by decide +kernel
theorem dX12_barFrom_60 : decode cX12_barFrom 60 = .ok (.istore 4, 2) := by decide +kernel
theorem dX12_barFrom_62 : decode cX12_barFrom 62 = .ok (.iload 5, 2) := by decide +kernel
theorem dX12_barFrom_64 : decode cX12_barFrom 64 = .ok (.aload_n 0, 1) := by decide +kernel
theorem dX12_barFrom_65 : decode cX12_barFrom 65 = .ok (.getfield 16, 3) := by decide +kernel
theorem dX12_barFrom_68 : decode cX12_barFrom 68 = .ok (.bipush 6, 2) := by decide +kernel
theorem dX12_barFrom_70 : decode cX12_barFrom 70 = .ok (.iload_n 1, 1) := by decide +kernel
theorem dX12_barFrom_71 : decode cX12_barFrom 71 = .ok (.imul, 1) := by decide +kernel
theorem dX12_barFrom_72 : decode cX12_barFrom 72 = .ok (.iload 6, 2) := by decide +kernel
theorem dX12_barFrom_74 : decode cX12_barFrom 74 = .ok (.iadd, 1) := by decide +kernel
theorem dX12_barFrom_75 : decode cX12_barFrom 75 = .ok (.iaload, 1) := by decide +kernel
theorem dX12_barFrom_76 : decode cX12_barFrom 76 = .ok (.iadd, 1) := by decide +kernel
theorem dX12_barFrom_77 : decode cX12_barFrom 77 = .ok (.istore 5, 2) := by decide +kernel
theorem dX12_barFrom_79 : decode cX12_barFrom 79 = .ok (.iload_n 3, 1) := by decide +kernel
theorem dX12_barFrom_80 : decode cX12_barFrom 80 = .ok (.iconst (-1), 1) := by decide +kernel
theorem dX12_barFrom_81 : decode cX12_barFrom 81 = .ok (.if_icmp .eq 28, 3) := by decide +kernel
theorem dX12_barFrom_84 : decode cX12_barFrom 84 = .ok (.iload 4, 2) := by decide +kernel
theorem dX12_barFrom_86 : decode cX12_barFrom 86 = .ok (.i2l, 1) := by decide +kernel
theorem dX12_barFrom_87 : decode cX12_barFrom 87 = .ok (.aload_n 0, 1) := by decide +kernel
theorem dX12_barFrom_88 : decode cX12_barFrom 88 = .ok (.getfield 173, 3) := by decide +kernel
theorem dX12_barFrom_91 : decode cX12_barFrom 91 = .ok (.i2l, 1) := by decide +kernel
theorem dX12_barFrom_92 : decode cX12_barFrom 92 = .ok (.lmul, 1) := by decide +kernel
theorem dX12_barFrom_93 : decode cX12_barFrom 93 = .ok (.aload_n 0, 1) := by decide +kernel
theorem dX12_barFrom_94 : decode cX12_barFrom 94 = .ok (.getfield 176, 3) := by decide +kernel
theorem dX12_barFrom_97 : decode cX12_barFrom 97 = .ok (.i2l, 1) := by decide +kernel
theorem dX12_barFrom_98 : decode cX12_barFrom 98 = .ok (.iload 5, 2) := by decide +kernel
theorem dX12_barFrom_100 : decode cX12_barFrom 100 = .ok (.i2l, 1) := by decide +kernel
theorem dX12_barFrom_101 : decode cX12_barFrom 101 = .ok (.lmul, 1) := by decide +kernel
theorem dX12_barFrom_102 : decode cX12_barFrom 102 = .ok (.lcmp, 1) := by decide +kernel
theorem dX12_barFrom_103 : decode cX12_barFrom 103 = .ok (.ifCond .gt 6, 3) := by decide +kernel
theorem dX12_barFrom_106 : decode cX12_barFrom 106 = .ok (.goto 18, 3) := by decide +kernel
theorem dX12_barFrom_109 : decode cX12_barFrom 109 = .ok (.iload 6, 2) := by decide +kernel
theorem dX12_barFrom_111 : decode cX12_barFrom 111 = .ok (.istore_n 3, 1) := by decide +kernel
theorem dX12_barFrom_112 : decode cX12_barFrom 112 = .ok (.aload_n 0, 1) := by decide +kernel
theorem dX12_barFrom_113 : decode cX12_barFrom 113 = .ok (.iload 4, 2) := by decide +kernel
theorem dX12_barFrom_115 : decode cX12_barFrom 115 = .ok (.putfield 176, 3) := by decide +kernel
theorem dX12_barFrom_118 : decode cX12_barFrom 118 = .ok (.aload_n 0, 1) := by decide +kernel
theorem dX12_barFrom_119 : decode cX12_barFrom 119 = .ok (.iload 5, 2) := by decide +kernel
theorem dX12_barFrom_121 : decode cX12_barFrom 121 = .ok (.putfield 173, 3) := by decide +kernel
theorem dX12_barFrom_124 : decode cX12_barFrom 124 = .ok (.iinc 6 1, 3) := by decide +kernel
theorem dX12_barFrom_127 : decode cX12_barFrom 127 = .ok (.goto (-106), 3) := by decide +kernel
theorem dX12_barFrom_130 : decode cX12_barFrom 130 = .ok (.iload_n 3, 1) := by decide +kernel
theorem dX12_barFrom_131 : decode cX12_barFrom 131 = .ok (.ireturn, 1) := by decide +kernel
theorem dX12_findsClasses_0 : decode cX12_findsClasses 0 = .ok (.aload_n 0, 1) := by decide +kernel
theorem dX12_findsClasses_1 : decode cX12_findsClasses 1 = .ok (.iconst 0, 1) := by decide +kernel
theorem dX12_findsClasses_2 : decode cX12_findsClasses 2 = .ok (.putfield 179, 3) := by decide +kernel
theorem dX12_findsClasses_5 : decode cX12_findsClasses 5 = .ok (.iconst 0, 1) := by decide +kernel
theorem dX12_findsClasses_6 : decode cX12_findsClasses 6 = .ok (.istore_n 1, 1) := by decide +kernel
theorem dX12_findsClasses_7 : decode cX12_findsClasses 7 = .ok (.iconst 0, 1) := by decide +kernel
theorem dX12_findsClasses_8 : decode cX12_findsClasses 8 = .ok (.istore_n 2, 1) := by decide +kernel
theorem dX12_findsClasses_9 : decode cX12_findsClasses 9 = .ok (.iconst 1, 1) := by decide +kernel
theorem dX12_findsClasses_10 : decode cX12_findsClasses 10 = .ok (.istore_n 3, 1) := by decide +kernel
theorem dX12_findsClasses_11 : decode cX12_findsClasses 11 = .ok (.iload_n 3, 1) := by decide +kernel
theorem dX12_findsClasses_12 : decode cX12_findsClasses 12 = .ok (.ifCond .eq 176, 3) := by decide +kernel
theorem dX12_findsClasses_15 : decode cX12_findsClasses 15 = .ok (.iload_n 1, 1) := by decide +kernel
theorem dX12_findsClasses_16 : decode cX12_findsClasses 16 = .ok (.aload_n 0, 1) := by decide +kernel
theorem dX12_findsClasses_17 : decode cX12_findsClasses 17 = .ok (.getfield 7, 3) := by decide +kernel
theorem dX12_findsClasses_20 : decode cX12_findsClasses 20 = .ok (.iconst 0, 1) := by decide +kernel
theorem dX12_findsClasses_21 : decode cX12_findsClasses 21 = .ok (.iaload, 1) := by decide +kernel
theorem dX12_findsClasses_22 : decode cX12_findsClasses 22 = .ok (.if_icmp .ge 166, 3) := by decide +kernel
theorem dX12_findsClasses_25 : decode cX12_findsClasses 25 = .ok (.iload_n 2, 1) := by decide +kernel
theorem dX12_findsClasses_26 : decode cX12_findsClasses 26 = .ok (.aload_n 0, 1) := by decide +kernel
theorem dX12_findsClasses_27 : decode cX12_findsClasses 27 = .ok (.getfield 7, 3) := by decide +kernel
theorem dX12_findsClasses_30 : decode cX12_findsClasses 30 = .ok (.iconst 1, 1) := by decide +kernel
theorem dX12_findsClasses_31 : decode cX12_findsClasses 31 = .ok (.iaload, 1) := by decide +kernel
theorem dX12_findsClasses_32 : decode cX12_findsClasses 32 = .ok (.if_icmp .ge 156, 3) := by decide +kernel
theorem dX12_findsClasses_35 : decode cX12_findsClasses 35 = .ok (.aload_n 0, 1) := by decide +kernel
theorem dX12_findsClasses_36 : decode cX12_findsClasses 36 = .ok (.getfield 179, 3) := by decide +kernel
theorem dX12_findsClasses_39 : decode cX12_findsClasses 39 = .ok (.istore 4, 2) := by decide +kernel
theorem dX12_findsClasses_41 : decode cX12_findsClasses 41 = .ok (.aload_n 0, 1) := by decide +kernel
theorem dX12_findsClasses_42 : decode cX12_findsClasses 42 = .ok (.iconst 1, 1) := by decide +kernel
theorem dX12_findsClasses_43 : decode cX12_findsClasses 43 = .ok (.iload_n 2, 1) := by decide +kernel
theorem dX12_findsClasses_44 : decode cX12_findsClasses 44 = .ok (.invokevirtual 182, 3) := by decide +kernel
theorem dX12_findsClasses_47 : decode cX12_findsClasses 47 = .ok (.istore 5, 2) := by decide +kernel
theorem dX12_findsClasses_49 : decode cX12_findsClasses 49 = .ok (.aload_n 0, 1) := by decide +kernel
theorem dX12_findsClasses_50 : decode cX12_findsClasses 50 = .ok (.getfield 38, 3) := by decide +kernel
theorem dX12_findsClasses_53 : decode cX12_findsClasses 53 = .ok (.iload 4, 2) := by decide +kernel
theorem dX12_findsClasses_55 : decode cX12_findsClasses 55 = .ok (.aload_n 0, 1) := by decide +kernel
theorem dX12_findsClasses_56 : decode cX12_findsClasses 56 = .ok (.getfield 176, 3) := by decide +kernel
theorem dX12_findsClasses_59 : decode cX12_findsClasses 59 = .ok (.iastore, 1) := by decide +kernel
theorem dX12_findsClasses_60 : decode cX12_findsClasses 60 = .ok (.aload_n 0, 1) := by decide +kernel
theorem dX12_findsClasses_61 : decode cX12_findsClasses 61 = .ok (.getfield 41, 3) := by decide +kernel
theorem dX12_findsClasses_64 : decode cX12_findsClasses 64 = .ok (.iload 4, 2) := by decide +kernel
theorem dX12_findsClasses_66 : decode cX12_findsClasses 66 = .ok (.aload_n 0, 1) := by decide +kernel
theorem dX12_findsClasses_67 : decode cX12_findsClasses 67 = .ok (.getfield 173, 3) := by decide +kernel
theorem dX12_findsClasses_70 : decode cX12_findsClasses 70 = .ok (.iastore, 1) := by decide +kernel
theorem dX12_findsClasses_71 : decode cX12_findsClasses 71 = .ok (.aload_n 0, 1) := by decide +kernel
theorem dX12_findsClasses_72 : decode cX12_findsClasses 72 = .ok (.getfield 176, 3) := by decide +kernel
theorem dX12_findsClasses_75 : decode cX12_findsClasses 75 = .ok (.ifCond .lt 7, 3) := by decide +kernel
theorem dX12_findsClasses_78 : decode cX12_findsClasses 78 = .ok (.iconst 1, 1) := by decide +kernel
theorem dX12_findsClasses_79 : decode cX12_findsClasses 79 = .ok (.goto 4, 3) := by decide +kernel
theorem dX12_findsClasses_82 : decode cX12_findsClasses 82 = .ok (.iconst 0, 1) := by decide +kernel
theorem dX12_findsClasses_83 : decode cX12_findsClasses 83 = .ok (.istore_n 3, 1) := by decide +kernel
theorem dX12_findsClasses_84 : decode cX12_findsClasses 84 = .ok (.aload_n 0, 1) := by decide +kernel
theorem dX12_findsClasses_85 : decode cX12_findsClasses 85 = .ok (.iconst 0, 1) := by decide +kernel
theorem dX12_findsClasses_86 : decode cX12_findsClasses 86 = .ok (.iload_n 1, 1) := by decide +kernel
theorem dX12_findsClasses_87 : decode cX12_findsClasses 87 = .ok (.invokevirtual 182, 3) := by decide +kernel
theorem dX12_findsClasses_90 : decode cX12_findsClasses 90 = .ok (.istore 6, 2) := by decide +kernel
theorem dX12_findsClasses_92 : decode cX12_findsClasses 92 = .ok (.aload_n 0, 1) := by decide +kernel
theorem dX12_findsClasses_93 : decode cX12_findsClasses 93 = .ok (.getfield 38, 3) := by decide +kernel
theorem dX12_findsClasses_96 : decode cX12_findsClasses 96 = .ok (.bipush 6, 2) := by decide +kernel
theorem dX12_findsClasses_98 : decode cX12_findsClasses 98 = .ok (.iload 4, 2) := by decide +kernel
theorem dX12_findsClasses_100 : decode cX12_findsClasses 100 = .ok (.iadd, 1) := by decide +kernel
theorem dX12_findsClasses_101 : decode cX12_findsClasses 101 = .ok (.aload_n 0, 1) := by decide +kernel
theorem dX12_findsClasses_102 : decode cX12_findsClasses 102 = .ok (.getfield 176, 3) := by decide +kernel
theorem dX12_findsClasses_105 : decode cX12_findsClasses 105 = .ok (.iastore, 1) := by decide +kernel
theorem dX12_findsClasses_106 : decode cX12_findsClasses 106 = .ok (.aload_n 0, 1) := by decide +kernel
theorem dX12_findsClasses_107 : decode cX12_findsClasses 107 = .ok (.getfield 41, 3) := by decide +kernel
theorem dX12_findsClasses_110 : decode cX12_findsClasses 110 = .ok (.bipush 6, 2) := by decide +kernel
theorem dX12_findsClasses_112 : decode cX12_findsClasses 112 = .ok (.iload 4, 2) := by decide +kernel
theorem dX12_findsClasses_114 : decode cX12_findsClasses 114 = .ok (.iadd, 1) := by decide +kernel
theorem dX12_findsClasses_115 : decode cX12_findsClasses 115 = .ok (.aload_n 0, 1) := by decide +kernel
theorem dX12_findsClasses_116 : decode cX12_findsClasses 116 = .ok (.getfield 173, 3) := by decide +kernel
theorem dX12_findsClasses_119 : decode cX12_findsClasses 119 = .ok (.iastore, 1) := by decide +kernel
theorem dX12_findsClasses_120 : decode cX12_findsClasses 120 = .ok (.iload_n 3, 1) := by decide +kernel
theorem dX12_findsClasses_121 : decode cX12_findsClasses 121 = .ok (.ifCond .eq 14, 3) := by decide +kernel
theorem dX12_findsClasses_124 : decode cX12_findsClasses 124 = .ok (.aload_n 0, 1) := by decide +kernel
theorem dX12_findsClasses_125 : decode cX12_findsClasses 125 = .ok (.getfield 176, 3) := by decide +kernel
theorem dX12_findsClasses_128 : decode cX12_findsClasses 128 = .ok (.ifCond .lt 7, 3) := by decide +kernel
theorem dX12_findsClasses_131 : decode cX12_findsClasses 131 = .ok (.iconst 1, 1) := by decide +kernel
theorem dX12_findsClasses_132 : decode cX12_findsClasses 132 = .ok (.goto 4, 3) := by decide +kernel
theorem dX12_findsClasses_135 : decode cX12_findsClasses 135 = .ok (.iconst 0, 1) := by decide +kernel
theorem dX12_findsClasses_136 : decode cX12_findsClasses 136 = .ok (.istore_n 3, 1) := by decide +kernel
theorem dX12_findsClasses_137 : decode cX12_findsClasses 137 = .ok (.iload_n 3, 1) := by decide +kernel
theorem dX12_findsClasses_138 : decode cX12_findsClasses 138 = .ok (.ifCond .ne 6, 3) := by decide +kernel
theorem dX12_findsClasses_141 : decode cX12_findsClasses 141 = .ok (.goto (-130), 3) := by decide +kernel
theorem dX12_findsClasses_144 : decode cX12_findsClasses 144 = .ok (.aload_n 0, 1) := by decide +kernel
theorem dX12_findsClasses_145 : decode cX12_findsClasses 145 = .ok (.getfield 35, 3) := by decide +kernel
theorem dX12_findsClasses_148 : decode cX12_findsClasses 148 = .ok (.iload 4, 2) := by decide +kernel
theorem dX12_findsClasses_150 : decode cX12_findsClasses 150 = .ok (.iload 6, 2) := by decide +kernel
theorem dX12_findsClasses_152 : decode cX12_findsClasses 152 = .ok (.iastore, 1) := by decide +kernel
theorem dX12_findsClasses_153 : decode cX12_findsClasses 153 = .ok (.aload_n 0, 1) := by decide +kernel
theorem dX12_findsClasses_154 : decode cX12_findsClasses 154 = .ok (.getfield 35, 3) := by decide +kernel
theorem dX12_findsClasses_157 : decode cX12_findsClasses 157 = .ok (.bipush 6, 2) := by decide +kernel
theorem dX12_findsClasses_159 : decode cX12_findsClasses 159 = .ok (.iload 4, 2) := by decide +kernel
theorem dX12_findsClasses_161 : decode cX12_findsClasses 161 = .ok (.iadd, 1) := by decide +kernel
theorem dX12_findsClasses_162 : decode cX12_findsClasses 162 = .ok (.iload 5, 2) := by decide +kernel
theorem dX12_findsClasses_164 : decode cX12_findsClasses 164 = .ok (.iastore, 1) := by decide +kernel
theorem dX12_findsClasses_165 : decode cX12_findsClasses 165 = .ok (.aload_n 0, 1) := by decide +kernel
theorem dX12_findsClasses_166 : decode cX12_findsClasses 166 = .ok (.aload_n 0, 1) := by decide +kernel
theorem dX12_findsClasses_167 : decode cX12_findsClasses 167 = .ok (.getfield 179, 3) := by decide +kernel
theorem dX12_findsClasses_170 : decode cX12_findsClasses 170 = .ok (.iconst 1, 1) := by decide +kernel
theorem dX12_findsClasses_171 : decode cX12_findsClasses 171 = .ok (.iadd, 1) := by decide +kernel
theorem dX12_findsClasses_172 : decode cX12_findsClasses 172 = .ok (.putfield 179, 3) := by decide +kernel
theorem dX12_findsClasses_175 : decode cX12_findsClasses 175 = .ok (.iload 6, 2) := by decide +kernel
theorem dX12_findsClasses_177 : decode cX12_findsClasses 177 = .ok (.iconst 1, 1) := by decide +kernel
theorem dX12_findsClasses_178 : decode cX12_findsClasses 178 = .ok (.iadd, 1) := by decide +kernel
theorem dX12_findsClasses_179 : decode cX12_findsClasses 179 = .ok (.istore_n 1, 1) := by decide +kernel
theorem dX12_findsClasses_180 : decode cX12_findsClasses 180 = .ok (.iload 5, 2) := by decide +kernel
theorem dX12_findsClasses_182 : decode cX12_findsClasses 182 = .ok (.iconst 1, 1) := by decide +kernel
theorem dX12_findsClasses_183 : decode cX12_findsClasses 183 = .ok (.iadd, 1) := by decide +kernel
theorem dX12_findsClasses_184 : decode cX12_findsClasses 184 = .ok (.istore_n 2, 1) := by decide +kernel
theorem dX12_findsClasses_185 : decode cX12_findsClasses 185 = .ok (.goto (-174), 3) := by decide +kernel
theorem dX12_findsClasses_188 : decode cX12_findsClasses 188 = .ok (.return_, 1) := by decide +kernel
theorem dX12_classes_0 : decode cX12_classes 0 = .ok (.aload_n 0, 1) := by decide +kernel
theorem dX12_classes_1 : decode cX12_classes 1 = .ok (.iconst 0, 1) := by decide +kernel
theorem dX12_classes_2 : decode cX12_classes 2 = .ok (.putfield 142, 3) := by decide +kernel
theorem dX12_classes_5 : decode cX12_classes 5 = .ok (.aload_n 0, 1) := by decide +kernel
theorem dX12_classes_6 : decode cX12_classes 6 = .ok (.iload_n 2, 1) := by decide +kernel
theorem dX12_classes_7 : decode cX12_classes 7 = .ok (.iconst 0, 1) := by decide +kernel
theorem dX12_classes_8 : decode cX12_classes 8 = .ok (.bipush 8, 2) := by decide +kernel
theorem dX12_classes_10 : decode cX12_classes 10 = .ok (.invokevirtual 149, 3) := by decide +kernel
theorem dX12_classes_13 : decode cX12_classes 13 = .ok (.ifCond .ne 6, 3) := by decide +kernel
theorem dX12_classes_16 : decode cX12_classes 16 = .ok (.ldc 186, 2) := by decide +kernel
theorem dX12_classes_18 : decode cX12_classes 18 = .ok (.ireturn, 1) := by decide +kernel
theorem dX12_classes_19 : decode cX12_classes 19 = .ok (.aload_n 0, 1) := by decide +kernel
theorem dX12_classes_20 : decode cX12_classes 20 = .ok (.invokevirtual 187, 3) := by decide +kernel
theorem dX12_classes_23 : decode cX12_classes 23 = .ok (.ifCond .ne 14, 3) := by decide +kernel
theorem dX12_classes_26 : decode cX12_classes 26 = .ok (.iload_n 2, 1) := by decide +kernel
theorem dX12_classes_27 : decode cX12_classes 27 = .ok (.ifCond .ne 7, 3) := by decide +kernel
theorem dX12_classes_30 : decode cX12_classes 30 = .ok (.iconst (-1), 1) := by decide +kernel
theorem dX12_classes_31 : decode cX12_classes 31 = .ok (.goto 5, 3) := by decide +kernel
theorem dX12_classes_34 : decode cX12_classes 34 = .ok (.ldc 186, 2) := by decide +kernel
theorem dX12_classes_36 : decode cX12_classes 36 = .ok (.ireturn, 1) := by decide +kernel
theorem dX12_classes_37 : decode cX12_classes 37 = .ok (.aload_n 0, 1) := by decide +kernel
theorem dX12_classes_38 : decode cX12_classes 38 = .ok (.invokevirtual 191, 3) := by decide +kernel
theorem dX12_classes_41 : decode cX12_classes 41 = .ok (.iload_n 2, 1) := by decide +kernel
theorem dX12_classes_42 : decode cX12_classes 42 = .ok (.ifCond .ne 8, 3) := by decide +kernel
theorem dX12_classes_45 : decode cX12_classes 45 = .ok (.aload_n 0, 1) := by decide +kernel
theorem dX12_classes_46 : decode cX12_classes 46 = .ok (.getfield 179, 3) := by decide +kernel
theorem dX12_classes_49 : decode cX12_classes 49 = .ok (.ireturn, 1) := by decide +kernel
theorem dX12_classes_50 : decode cX12_classes 50 = .ok (.iload_n 2, 1) := by decide +kernel
theorem dX12_classes_51 : decode cX12_classes 51 = .ok (.bipush 6, 2) := by decide +kernel
theorem dX12_classes_53 : decode cX12_classes 53 = .ok (.if_icmp .le 45, 3) := by decide +kernel
theorem dX12_classes_56 : decode cX12_classes 56 = .ok (.iload_n 2, 1) := by decide +kernel
theorem dX12_classes_57 : decode cX12_classes 57 = .ok (.bipush 7, 2) := by decide +kernel
theorem dX12_classes_59 : decode cX12_classes 59 = .ok (.isub, 1) := by decide +kernel
theorem dX12_classes_60 : decode cX12_classes 60 = .ok (.istore_n 3, 1) := by decide +kernel
theorem dX12_classes_61 : decode cX12_classes 61 = .ok (.aload_n 0, 1) := by decide +kernel
theorem dX12_classes_62 : decode cX12_classes 62 = .ok (.getfield 7, 3) := by decide +kernel
theorem dX12_classes_65 : decode cX12_classes 65 = .ok (.iload_n 3, 1) := by decide +kernel
theorem dX12_classes_66 : decode cX12_classes 66 = .ok (.iaload, 1) := by decide +kernel
theorem dX12_classes_67 : decode cX12_classes 67 = .ok (.aload_n 0, 1) := by decide +kernel
theorem dX12_classes_68 : decode cX12_classes 68 = .ok (.getfield 179, 3) := by decide +kernel
theorem dX12_classes_71 : decode cX12_classes 71 = .ok (.ifCond .ne 7, 3) := by decide +kernel
theorem dX12_classes_74 : decode cX12_classes 74 = .ok (.iconst 0, 1) := by decide +kernel
theorem dX12_classes_75 : decode cX12_classes 75 = .ok (.goto 21, 3) := by decide +kernel
theorem dX12_classes_78 : decode cX12_classes 78 = .ok (.aload_n 0, 1) := by decide +kernel
theorem dX12_classes_79 : decode cX12_classes 79 = .ok (.getfield 35, 3) := by decide +kernel
theorem dX12_classes_82 : decode cX12_classes 82 = .ok (.bipush 6, 2) := by decide +kernel
theorem dX12_classes_84 : decode cX12_classes 84 = .ok (.iload_n 3, 1) := by decide +kernel
theorem dX12_classes_85 : decode cX12_classes 85 = .ok (.imul, 1) := by decide +kernel
theorem dX12_classes_86 : decode cX12_classes 86 = .ok (.aload_n 0, 1) := by decide +kernel
theorem dX12_classes_87 : decode cX12_classes 87 = .ok (.getfield 179, 3) := by decide +kernel
theorem dX12_classes_90 : decode cX12_classes 90 = .ok (.iadd, 1) := by decide +kernel
theorem dX12_classes_91 : decode cX12_classes 91 = .ok (.iconst 1, 1) := by decide +kernel
theorem dX12_classes_92 : decode cX12_classes 92 = .ok (.isub, 1) := by decide +kernel
theorem dX12_classes_93 : decode cX12_classes 93 = .ok (.iaload, 1) := by decide +kernel
theorem dX12_classes_94 : decode cX12_classes 94 = .ok (.iconst 1, 1) := by decide +kernel
theorem dX12_classes_95 : decode cX12_classes 95 = .ok (.iadd, 1) := by decide +kernel
theorem dX12_classes_96 : decode cX12_classes 96 = .ok (.isub, 1) := by decide +kernel
theorem dX12_classes_97 : decode cX12_classes 97 = .ok (.ireturn, 1) := by decide +kernel
theorem dX12_classes_98 : decode cX12_classes 98 = .ok (.aload_n 0, 1) := by decide +kernel
theorem dX12_classes_99 : decode cX12_classes 99 = .ok (.iload_n 1, 1) := by decide +kernel
theorem dX12_classes_100 : decode cX12_classes 100 = .ok (.iconst 0, 1) := by decide +kernel
theorem dX12_classes_101 : decode cX12_classes 101 = .ok (.aload_n 0, 1) := by decide +kernel
theorem dX12_classes_102 : decode cX12_classes 102 = .ok (.getfield 179, 3) := by decide +kernel
theorem dX12_classes_105 : decode cX12_classes 105 = .ok (.iconst 1, 1) := by decide +kernel
theorem dX12_classes_106 : decode cX12_classes 106 = .ok (.isub, 1) := by decide +kernel
theorem dX12_classes_107 : decode cX12_classes 107 = .ok (.invokevirtual 149, 3) := by decide +kernel
theorem dX12_classes_110 : decode cX12_classes 110 = .ok (.ifCond .ne 6, 3) := by decide +kernel
theorem dX12_classes_113 : decode cX12_classes 113 = .ok (.ldc 186, 2) := by decide +kernel
theorem dX12_classes_115 : decode cX12_classes 115 = .ok (.ireturn, 1) := by decide +kernel
theorem dX12_classes_116 : decode cX12_classes 116 = .ok (.iload_n 2, 1) := by decide +kernel
theorem dX12_classes_117 : decode cX12_classes 117 = .ok (.iconst 3, 1) := by decide +kernel
theorem dX12_classes_118 : decode cX12_classes 118 = .ok (.if_icmp .ge 17, 3) := by decide +kernel
theorem dX12_classes_121 : decode cX12_classes 121 = .ok (.aload_n 0, 1) := by decide +kernel
theorem dX12_classes_122 : decode cX12_classes 122 = .ok (.getfield 35, 3) := by decide +kernel
theorem dX12_classes_125 : decode cX12_classes 125 = .ok (.bipush 6, 2) := by decide +kernel
theorem dX12_classes_127 : decode cX12_classes 127 = .ok (.iload_n 2, 1) := by decide +kernel
theorem dX12_classes_128 : decode cX12_classes 128 = .ok (.iconst 1, 1) := by decide +kernel
theorem dX12_classes_129 : decode cX12_classes 129 = .ok (.isub, 1) := by decide +kernel
theorem dX12_classes_130 : decode cX12_classes 130 = .ok (.imul, 1) := by decide +kernel
theorem dX12_classes_131 : decode cX12_classes 131 = .ok (.iload_n 1, 1) := by decide +kernel
theorem dX12_classes_132 : decode cX12_classes 132 = .ok (.iadd, 1) := by decide +kernel
theorem dX12_classes_133 : decode cX12_classes 133 = .ok (.iaload, 1) := by decide +kernel
theorem dX12_classes_134 : decode cX12_classes 134 = .ok (.ireturn, 1) := by decide +kernel
theorem dX12_classes_135 : decode cX12_classes 135 = .ok (.iload_n 2, 1) := by decide +kernel
theorem dX12_classes_136 : decode cX12_classes 136 = .ok (.iconst 3, 1) := by decide +kernel
theorem dX12_classes_137 : decode cX12_classes 137 = .ok (.isub, 1) := by decide +kernel
theorem dX12_classes_138 : decode cX12_classes 138 = .ok (.iconst 2, 1) := by decide +kernel
theorem dX12_classes_139 : decode cX12_classes 139 = .ok (.idiv, 1) := by decide +kernel
theorem dX12_classes_140 : decode cX12_classes 140 = .ok (.istore_n 3, 1) := by decide +kernel
theorem dX12_classes_141 : decode cX12_classes 141 = .ok (.iload_n 2, 1) := by decide +kernel
theorem dX12_classes_142 : decode cX12_classes 142 = .ok (.iconst 2, 1) := by decide +kernel
theorem dX12_classes_143 : decode cX12_classes 143 = .ok (.irem, 1) := by decide +kernel
theorem dX12_classes_144 : decode cX12_classes 144 = .ok (.iconst 1, 1) := by decide +kernel
theorem dX12_classes_145 : decode cX12_classes 145 = .ok (.if_icmp .ne 17, 3) := by decide +kernel
theorem dX12_classes_148 : decode cX12_classes 148 = .ok (.aload_n 0, 1) := by decide +kernel
theorem dX12_classes_149 : decode cX12_classes 149 = .ok (.getfield 38, 3) := by decide +kernel
theorem dX12_classes_152 : decode cX12_classes 152 = .ok (.bipush 6, 2) := by decide +kernel
theorem dX12_classes_154 : decode cX12_classes 154 = .ok (.iload_n 3, 1) := by decide +kernel
theorem dX12_classes_155 : decode cX12_classes 155 = .ok (.imul, 1) := by decide +kernel
theorem dX12_classes_156 : decode cX12_classes 156 = .ok (.iload_n 1, 1) := by decide +kernel
theorem dX12_classes_157 : decode cX12_classes 157 = .ok (.iadd, 1) := by decide +kernel
theorem dX12_classes_158 : decode cX12_classes 158 = .ok (.iaload, 1) := by decide +kernel
theorem dX12_classes_159 : decode cX12_classes 159 = .ok (.goto 14, 3) := by decide +kernel
theorem dX12_classes_162 : decode cX12_classes 162 = .ok (.aload_n 0, 1) := by decide +kernel
theorem dX12_classes_163 : decode cX12_classes 163 = .ok (.getfield 41, 3) := by decide +kernel
theorem dX12_classes_166 : decode cX12_classes 166 = .ok (.bipush 6, 2) := by decide +kernel
theorem dX12_classes_168 : decode cX12_classes 168 = .ok (.iload_n 3, 1) := by decide +kernel
theorem dX12_classes_169 : decode cX12_classes 169 = .ok (.imul, 1) := by decide +kernel
theorem dX12_classes_170 : decode cX12_classes 170 = .ok (.iload_n 1, 1) := by decide +kernel
theorem dX12_classes_171 : decode cX12_classes 171 = .ok (.iadd, 1) := by decide +kernel
theorem dX12_classes_172 : decode cX12_classes 172 = .ok (.iaload, 1) := by decide +kernel
theorem dX12_classes_173 : decode cX12_classes 173 = .ok (.ireturn, 1) := by decide +kernel
theorem dX12_waitOf_0 : decode cX12_waitOf 0 = .ok (.aload_n 0, 1) := by decide +kernel
theorem dX12_waitOf_1 : decode cX12_waitOf 1 = .ok (.getfield 44, 3) := by decide +kernel
theorem dX12_waitOf_4 : decode cX12_waitOf 4 = .ok (.bipush 12, 2) := by decide +kernel
theorem dX12_waitOf_6 : decode cX12_waitOf 6 = .ok (.iload_n 3, 1) := by decide +kernel
theorem dX12_waitOf_7 : decode cX12_waitOf 7 = .ok (.imul, 1) := by decide +kernel
theorem dX12_waitOf_8 : decode cX12_waitOf 8 = .ok (.bipush 6, 2) := by decide +kernel
theorem dX12_waitOf_10 : decode cX12_waitOf 10 = .ok (.iload_n 1, 1) := by decide +kernel
theorem dX12_waitOf_11 : decode cX12_waitOf 11 = .ok (.imul, 1) := by decide +kernel
theorem dX12_waitOf_12 : decode cX12_waitOf 12 = .ok (.iadd, 1) := by decide +kernel
theorem dX12_waitOf_13 : decode cX12_waitOf 13 = .ok (.iload_n 2, 1) := by decide +kernel
theorem dX12_waitOf_14 : decode cX12_waitOf 14 = .ok (.iadd, 1) := by decide +kernel
theorem dX12_waitOf_15 : decode cX12_waitOf 15 = .ok (.iaload, 1) := by decide +kernel
theorem dX12_waitOf_16 : decode cX12_waitOf 16 = .ok (.ireturn, 1) := by decide +kernel
theorem dX12_takes_0 : decode cX12_takes 0 = .ok (.aload_n 0, 1) := by decide +kernel
theorem dX12_takes_1 : decode cX12_takes 1 = .ok (.iload_n 1, 1) := by decide +kernel
theorem dX12_takes_2 : decode cX12_takes 2 = .ok (.iload_n 2, 1) := by decide +kernel
theorem dX12_takes_3 : decode cX12_takes 3 = .ok (.iload_n 3, 1) := by decide +kernel
theorem dX12_takes_4 : decode cX12_takes 4 = .ok (.invokevirtual 194, 3) := by decide +kernel
theorem dX12_takes_7 : decode cX12_takes 7 = .ok (.aload_n 0, 1) := by decide +kernel
theorem dX12_takes_8 : decode cX12_takes 8 = .ok (.iload_n 1, 1) := by decide +kernel
theorem dX12_takes_9 : decode cX12_takes 9 = .ok (.iload_n 2, 1) := by decide +kernel
theorem dX12_takes_10 : decode cX12_takes 10 = .ok (.iload 4, 2) := by decide +kernel
theorem dX12_takes_12 : decode cX12_takes 12 = .ok (.invokevirtual 198, 3) := by decide +kernel
theorem dX12_takes_15 : decode cX12_takes 15 = .ok (.if_icmp .lt 7, 3) := by decide +kernel
theorem dX12_takes_18 : decode cX12_takes 18 = .ok (.iconst 1, 1) := by decide +kernel
theorem dX12_takes_19 : decode cX12_takes 19 = .ok (.goto 4, 3) := by decide +kernel
theorem dX12_takes_22 : decode cX12_takes 22 = .ok (.iconst 0, 1) := by decide +kernel
theorem dX12_takes_23 : decode cX12_takes 23 = .ok (.ireturn, 1) := by decide +kernel
theorem dX12_waitAhead_0 : decode cX12_waitAhead 0 = .ok (.iconst 1, 1) := by decide +kernel
theorem dX12_waitAhead_1 : decode cX12_waitAhead 1 = .ok (.iload_n 1, 1) := by decide +kernel
theorem dX12_waitAhead_2 : decode cX12_waitAhead 2 = .ok (.isub, 1) := by decide +kernel
theorem dX12_waitAhead_3 : decode cX12_waitAhead 3 = .ok (.istore 4, 2) := by decide +kernel
theorem dX12_waitAhead_5 : decode cX12_waitAhead 5 = .ok (.iconst 0, 1) := by decide +kernel
theorem dX12_waitAhead_6 : decode cX12_waitAhead 6 = .ok (.istore 5, 2) := by decide +kernel
theorem dX12_waitAhead_8 : decode cX12_waitAhead 8 = .ok (.sipush 1000, 3) := by decide +kernel
theorem dX12_waitAhead_11 : decode cX12_waitAhead 11 = .ok (.istore 6, 2) := by decide +kernel
theorem dX12_waitAhead_13 : decode cX12_waitAhead 13 = .ok (.iconst 0, 1) := by decide +kernel
theorem dX12_waitAhead_14 : decode cX12_waitAhead 14 = .ok (.istore 7, 2) := by decide +kernel
theorem dX12_waitAhead_16 : decode cX12_waitAhead 16 = .ok (.iload 7, 2) := by decide +kernel
theorem dX12_waitAhead_18 : decode cX12_waitAhead 18 = .ok (.aload_n 0, 1) := by decide +kernel
theorem dX12_waitAhead_19 : decode cX12_waitAhead 19 = .ok (.getfield 7, 3) := by decide +kernel
theorem dX12_waitAhead_22 : decode cX12_waitAhead 22 = .ok (.iload 4, 2) := by decide +kernel
theorem dX12_waitAhead_24 : decode cX12_waitAhead 24 = .ok (.iaload, 1) := by decide +kernel
theorem dX12_waitAhead_25 : decode cX12_waitAhead 25 = .ok (.if_icmp .ge 94, 3) := by decide +kernel
theorem dX12_waitAhead_28 : decode cX12_waitAhead 28 = .ok (.aload_n 0, 1) := by decide +kernel
theorem dX12_waitAhead_29 : decode cX12_waitAhead 29 = .ok (.getfield 16, 3) := by decide +kernel
theorem dX12_waitAhead_32 : decode cX12_waitAhead 32 = .ok (.bipush 6, 2) := by decide +kernel
theorem dX12_waitAhead_34 : decode cX12_waitAhead 34 = .ok (.iload 4, 2) := by decide +kernel
theorem dX12_waitAhead_36 : decode cX12_waitAhead 36 = .ok (.imul, 1) := by decide +kernel
theorem dX12_waitAhead_37 : decode cX12_waitAhead 37 = .ok (.iload 7, 2) := by decide +kernel
theorem dX12_waitAhead_39 : decode cX12_waitAhead 39 = .ok (.iadd, 1) := by decide +kernel
theorem dX12_waitAhead_40 : decode cX12_waitAhead 40 = .ok (.iaload, 1) := by decide +kernel
theorem dX12_waitAhead_41 : decode cX12_waitAhead 41 = .ok (.istore 8, 2) := by decide +kernel
theorem dX12_waitAhead_43 : decode cX12_waitAhead 43 = .ok (.aload_n 0, 1) := by decide +kernel
theorem dX12_waitAhead_44 : decode cX12_waitAhead 44 = .ok (.iload_n 1, 1) := by decide +kernel
theorem dX12_waitAhead_45 : decode cX12_waitAhead 45 = .ok (.iload_n 2, 1) := by decide +kernel
theorem dX12_waitAhead_46 : decode cX12_waitAhead 46 = .ok (.iload 7, 2) := by decide +kernel
theorem dX12_waitAhead_48 : decode cX12_waitAhead 48 = .ok (.iload_n 3, 1) := by decide +kernel
theorem dX12_waitAhead_49 : decode cX12_waitAhead 49 = .ok (.invokevirtual 201, 3) := by decide +kernel
theorem dX12_waitAhead_52 : decode cX12_waitAhead 52 = .ok (.ifCond .eq 20, 3) := by decide +kernel
theorem dX12_waitAhead_55 : decode cX12_waitAhead 55 = .ok (.aload_n 0, 1) := by decide +kernel
theorem dX12_waitAhead_56 : decode cX12_waitAhead 56 = .ok (.iload 4, 2) := by decide +kernel
theorem dX12_waitAhead_58 : decode cX12_waitAhead 58 = .ok (.iload 7, 2) := by decide +kernel
theorem dX12_waitAhead_60 : decode cX12_waitAhead 60 = .ok (.iload_n 2, 1) := by decide +kernel
theorem dX12_waitAhead_61 : decode cX12_waitAhead 61 = .ok (.iload_n 3, 1) := by decide +kernel
theorem dX12_waitAhead_62 : decode cX12_waitAhead 62 = .ok (.invokevirtual 201, 3) := by decide +kernel
theorem dX12_waitAhead_65 : decode cX12_waitAhead 65 = .ok (.ifCond .eq 7, 3) := by decide +kernel
theorem dX12_waitAhead_68 : decode cX12_waitAhead 68 = .ok (.iconst 1, 1) := by decide +kernel
theorem dX12_waitAhead_69 : decode cX12_waitAhead 69 = .ok (.goto 4, 3) := by decide +kernel
theorem dX12_waitAhead_72 : decode cX12_waitAhead 72 = .ok (.iconst 0, 1) := by decide +kernel
theorem dX12_waitAhead_73 : decode cX12_waitAhead 73 = .ok (.istore 9, 2) := by decide +kernel
theorem dX12_waitAhead_75 : decode cX12_waitAhead 75 = .ok (.iload 5, 2) := by decide +kernel
theorem dX12_waitAhead_77 : decode cX12_waitAhead 77 = .ok (.iload 8, 2) := by decide +kernel
theorem dX12_waitAhead_79 : decode cX12_waitAhead 79 = .ok (.iload 9, 2) := by decide +kernel
theorem dX12_waitAhead_81 : decode cX12_waitAhead 81 = .ok (.ifCond .eq 14, 3) := by decide +kernel
theorem dX12_waitAhead_84 : decode cX12_waitAhead 84 = .ok (.aload_n 0, 1) := by decide +kernel
theorem dX12_waitAhead_85 : decode cX12_waitAhead 85 = .ok (.iload_n 1, 1) := by decide +kernel
theorem dX12_waitAhead_86 : decode cX12_waitAhead 86 = .ok (.iload_n 2, 1) := by decide +kernel
theorem dX12_waitAhead_87 : decode cX12_waitAhead 87 = .ok (.iload 7, 2) := by decide +kernel
theorem dX12_waitAhead_89 : decode cX12_waitAhead 89 = .ok (.invokevirtual 194, 3) := by decide +kernel
theorem dX12_waitAhead_92 : decode cX12_waitAhead 92 = .ok (.goto 10, 3) := by decide +kernel
theorem dX12_waitAhead_95 : decode cX12_waitAhead 95 = .ok (.aload_n 0, 1) := by decide +kernel
theorem dX12_waitAhead_96 : decode cX12_waitAhead 96 = .ok (.iload_n 1, 1) := by decide +kernel
theorem dX12_waitAhead_97 : decode cX12_waitAhead 97 = .ok (.iload_n 2, 1) := by decide +kernel
theorem dX12_waitAhead_98 : decode cX12_waitAhead 98 = .ok (.iload_n 3, 1) := by decide +kernel
theorem dX12_waitAhead_99 : decode cX12_waitAhead 99 = .ok (.invokevirtual 198, 3) := by decide +kernel
theorem dX12_waitAhead_102 : decode cX12_waitAhead 102 = .ok (.imul, 1) := by decide +kernel
theorem dX12_waitAhead_103 : decode cX12_waitAhead 103 = .ok (.iadd, 1) := by decide +kernel
theorem dX12_waitAhead_104 : decode cX12_waitAhead 104 = .ok (.istore 5, 2) := by decide +kernel
theorem dX12_waitAhead_106 : decode cX12_waitAhead 106 = .ok (.iload 6, 2) := by decide +kernel
theorem dX12_waitAhead_108 : decode cX12_waitAhead 108 = .ok (.iload 8, 2) := by decide +kernel
theorem dX12_waitAhead_110 : decode cX12_waitAhead 110 = .ok (.isub, 1) := by decide +kernel
theorem dX12_waitAhead_111 : decode cX12_waitAhead 111 = .ok (.istore 6, 2) := by decide +kernel
theorem dX12_waitAhead_113 : decode cX12_waitAhead 113 = .ok (.iinc 7 1, 3) := by decide +kernel
theorem dX12_waitAhead_116 : decode cX12_waitAhead 116 = .ok (.goto (-100), 3) := by decide +kernel
theorem dX12_waitAhead_119 : decode cX12_waitAhead 119 = .ok (.iload 5, 2) := by decide +kernel
theorem dX12_waitAhead_121 : decode cX12_waitAhead 121 = .ok (.iload 6, 2) := by decide +kernel
theorem dX12_waitAhead_123 : decode cX12_waitAhead 123 = .ok (.aload_n 0, 1) := by decide +kernel
theorem dX12_waitAhead_124 : decode cX12_waitAhead 124 = .ok (.iload_n 1, 1) := by decide +kernel
theorem dX12_waitAhead_125 : decode cX12_waitAhead 125 = .ok (.iload_n 2, 1) := by decide +kernel
theorem dX12_waitAhead_126 : decode cX12_waitAhead 126 = .ok (.iload_n 3, 1) := by decide +kernel
theorem dX12_waitAhead_127 : decode cX12_waitAhead 127 = .ok (.invokevirtual 198, 3) := by decide +kernel
theorem dX12_waitAhead_130 : decode cX12_waitAhead 130 = .ok (.imul, 1) := by decide +kernel
theorem dX12_waitAhead_131 : decode cX12_waitAhead 131 = .ok (.iadd, 1) := by decide +kernel
theorem dX12_waitAhead_132 : decode cX12_waitAhead 132 = .ok (.sipush 1000, 3) := by decide +kernel
theorem dX12_waitAhead_135 : decode cX12_waitAhead 135 = .ok (.idiv, 1) := by decide +kernel
theorem dX12_waitAhead_136 : decode cX12_waitAhead 136 = .ok (.aload_n 0, 1) := by decide +kernel
theorem dX12_waitAhead_137 : decode cX12_waitAhead 137 = .ok (.getfield 22, 3) := by decide +kernel
theorem dX12_waitAhead_140 : decode cX12_waitAhead 140 = .ok (.isub, 1) := by decide +kernel
theorem dX12_waitAhead_141 : decode cX12_waitAhead 141 = .ok (.istore 7, 2) := by decide +kernel
theorem dX12_waitAhead_143 : decode cX12_waitAhead 143 = .ok (.iload 7, 2) := by decide +kernel
theorem dX12_waitAhead_145 : decode cX12_waitAhead 145 = .ok (.ifCond .ge 7, 3) := by decide +kernel
theorem dX12_waitAhead_148 : decode cX12_waitAhead 148 = .ok (.iconst 0, 1) := by decide +kernel
theorem dX12_waitAhead_149 : decode cX12_waitAhead 149 = .ok (.goto 5, 3) := by decide +kernel
theorem dX12_waitAhead_152 : decode cX12_waitAhead 152 = .ok (.iload 7, 2) := by decide +kernel
theorem dX12_waitAhead_154 : decode cX12_waitAhead 154 = .ok (.ireturn, 1) := by decide +kernel
theorem dX12_findsWaits_0 : decode cX12_findsWaits 0 = .ok (.aload_n 0, 1) := by decide +kernel
theorem dX12_findsWaits_1 : decode cX12_findsWaits 1 = .ok (.getfield 156, 3) := by decide +kernel
theorem dX12_findsWaits_4 : decode cX12_findsWaits 4 = .ok (.ifCond .eq 4, 3) := by decide +kernel
theorem dX12_findsWaits_7 : decode cX12_findsWaits 7 = .ok (.return_, 1) := by decide +kernel
theorem dX12_findsWaits_8 : decode cX12_findsWaits 8 = .ok (.aload_n 0, 1) := by decide +kernel
theorem dX12_findsWaits_9 : decode cX12_findsWaits 9 = .ok (.iconst 1, 1) := by decide +kernel
theorem dX12_findsWaits_10 : decode cX12_findsWaits 10 = .ok (.putfield 156, 3) := by decide +kernel
theorem dX12_findsWaits_13 : decode cX12_findsWaits 13 = .ok (.iconst 0, 1) := by decide +kernel
theorem dX12_findsWaits_14 : decode cX12_findsWaits 14 = .ok (.istore_n 1, 1) := by decide +kernel
theorem dX12_findsWaits_15 : decode cX12_findsWaits 15 = .ok (.iload_n 1, 1) := by decide +kernel
theorem dX12_findsWaits_16 : decode cX12_findsWaits 16 = .ok (.bipush 12, 2) := by decide +kernel
theorem dX12_findsWaits_18 : decode cX12_findsWaits 18 = .ok (.if_icmp .ge 24, 3) := by decide +kernel
theorem dX12_findsWaits_21 : decode cX12_findsWaits 21 = .ok (.aload_n 0, 1) := by decide +kernel
theorem dX12_findsWaits_22 : decode cX12_findsWaits 22 = .ok (.getfield 44, 3) := by decide +kernel
theorem dX12_findsWaits_25 : decode cX12_findsWaits 25 = .ok (.bipush 12, 2) := by decide +kernel
theorem dX12_findsWaits_27 : decode cX12_findsWaits 27 = .ok (.aload_n 0, 1) := by decide +kernel
theorem dX12_findsWaits_28 : decode cX12_findsWaits 28 = .ok (.getfield 29, 3) := by decide +kernel
theorem dX12_findsWaits_31 : decode cX12_findsWaits 31 = .ok (.imul, 1) := by decide +kernel
theorem dX12_findsWaits_32 : decode cX12_findsWaits 32 = .ok (.iload_n 1, 1) := by decide +kernel
theorem dX12_findsWaits_33 : decode cX12_findsWaits 33 = .ok (.iadd, 1) := by decide +kernel
theorem dX12_findsWaits_34 : decode cX12_findsWaits 34 = .ok (.iconst 0, 1) := by decide +kernel
theorem dX12_findsWaits_35 : decode cX12_findsWaits 35 = .ok (.iastore, 1) := by decide +kernel
theorem dX12_findsWaits_36 : decode cX12_findsWaits 36 = .ok (.iinc 1 1, 3) := by decide +kernel
theorem dX12_findsWaits_39 : decode cX12_findsWaits 39 = .ok (.goto (-24), 3) := by decide +kernel
theorem dX12_findsWaits_42 : decode cX12_findsWaits 42 = .ok (.aload_n 0, 1) := by decide +kernel
theorem dX12_findsWaits_43 : decode cX12_findsWaits 43 = .ok (.getfield 29, 3) := by decide +kernel
theorem dX12_findsWaits_46 : decode cX12_findsWaits 46 = .ok (.istore_n 1, 1) := by decide +kernel
theorem dX12_findsWaits_47 : decode cX12_findsWaits 47 = .ok (.iload_n 1, 1) := by decide +kernel
theorem dX12_findsWaits_48 : decode cX12_findsWaits 48 = .ok (.ifCond .le 66, 3) := by decide +kernel
theorem dX12_findsWaits_51 : decode cX12_findsWaits 51 = .ok (.iconst 0, 1) := by decide +kernel
theorem dX12_findsWaits_52 : decode cX12_findsWaits 52 = .ok (.istore_n 2, 1) := by decide +kernel
theorem dX12_findsWaits_53 : decode cX12_findsWaits 53 = .ok (.iload_n 2, 1) := by decide +kernel
theorem dX12_findsWaits_54 : decode cX12_findsWaits 54 = .ok (.iconst 2, 1) := by decide +kernel
theorem dX12_findsWaits_55 : decode cX12_findsWaits 55 = .ok (.if_icmp .ge 53, 3) := by decide +kernel
theorem dX12_findsWaits_58 : decode cX12_findsWaits 58 = .ok (.iconst 0, 1) := by decide +kernel
theorem dX12_findsWaits_59 : decode cX12_findsWaits 59 = .ok (.istore_n 3, 1) := by decide +kernel
theorem dX12_findsWaits_60 : decode cX12_findsWaits 60 = .ok (.iload_n 3, 1) := by decide +kernel
theorem dX12_findsWaits_61 : decode cX12_findsWaits 61 = .ok (.aload_n 0, 1) := by decide +kernel
theorem dX12_findsWaits_62 : decode cX12_findsWaits 62 = .ok (.getfield 7, 3) := by decide +kernel
theorem dX12_findsWaits_65 : decode cX12_findsWaits 65 = .ok (.iload_n 2, 1) := by decide +kernel
theorem dX12_findsWaits_66 : decode cX12_findsWaits 66 = .ok (.iaload, 1) := by decide +kernel
theorem dX12_findsWaits_67 : decode cX12_findsWaits 67 = .ok (.if_icmp .ge 35, 3) := by decide +kernel
theorem dX12_findsWaits_70 : decode cX12_findsWaits 70 = .ok (.aload_n 0, 1) := by decide +kernel
theorem dX12_findsWaits_71 : decode cX12_findsWaits 71 = .ok (.getfield 44, 3) := by decide +kernel
theorem dX12_findsWaits_74 : decode cX12_findsWaits 74 = .ok (.bipush 12, 2) := by decide +kernel
theorem dX12_findsWaits_76 : decode cX12_findsWaits 76 = .ok (.iload_n 1, 1) := by decide +kernel
theorem dX12_findsWaits_77 : decode cX12_findsWaits 77 = .ok (.imul, 1) := by decide +kernel
theorem dX12_findsWaits_78 : decode cX12_findsWaits 78 = .ok (.bipush 12, 2) := by decide +kernel
theorem dX12_findsWaits_80 : decode cX12_findsWaits 80 = .ok (.isub, 1) := by decide +kernel
theorem dX12_findsWaits_81 : decode cX12_findsWaits 81 = .ok (.bipush 6, 2) := by decide +kernel
theorem dX12_findsWaits_83 : decode cX12_findsWaits 83 = .ok (.iload_n 2, 1) := by decide +kernel
theorem dX12_findsWaits_84 : decode cX12_findsWaits 84 = .ok (.imul, 1) := by decide +kernel
theorem dX12_findsWaits_85 : decode cX12_findsWaits 85 = .ok (.iadd, 1) := by decide +kernel
theorem dX12_findsWaits_86 : decode cX12_findsWaits 86 = .ok (.iload_n 3, 1) := by decide +kernel
theorem dX12_findsWaits_87 : decode cX12_findsWaits 87 = .ok (.iadd, 1) := by decide +kernel
theorem dX12_findsWaits_88 : decode cX12_findsWaits 88 = .ok (.aload_n 0, 1) := by decide +kernel
theorem dX12_findsWaits_89 : decode cX12_findsWaits 89 = .ok (.iload_n 2, 1) := by decide +kernel
theorem dX12_findsWaits_90 : decode cX12_findsWaits 90 = .ok (.iload_n 3, 1) := by decide +kernel
theorem dX12_findsWaits_91 : decode cX12_findsWaits 91 = .ok (.iload_n 1, 1) := by decide +kernel
theorem dX12_findsWaits_92 : decode cX12_findsWaits 92 = .ok (.invokevirtual 205, 3) := by decide +kernel
theorem dX12_findsWaits_95 : decode cX12_findsWaits 95 = .ok (.iastore, 1) := by decide +kernel
theorem dX12_findsWaits_96 : decode cX12_findsWaits 96 = .ok (.iinc 3 1, 3) := by decide +kernel
theorem dX12_findsWaits_99 : decode cX12_findsWaits 99 = .ok (.goto (-39), 3) := by decide +kernel
theorem dX12_findsWaits_102 : decode cX12_findsWaits 102 = .ok (.iinc 2 1, 3) := by decide +kernel
theorem dX12_findsWaits_105 : decode cX12_findsWaits 105 = .ok (.goto (-52), 3) := by decide +kernel
theorem dX12_findsWaits_108 : decode cX12_findsWaits 108 = .ok (.iinc 1 (-1), 3) := by decide +kernel
theorem dX12_findsWaits_111 : decode cX12_findsWaits 111 = .ok (.goto (-64), 3) := by decide +kernel
theorem dX12_findsWaits_114 : decode cX12_findsWaits 114 = .ok (.return_, 1) := by decide +kernel
theorem dX12_patience_0 : decode cX12_patience 0 = .ok (.aload_n 0, 1) := by decide +kernel
theorem dX12_patience_1 : decode cX12_patience 1 = .ok (.iconst 0, 1) := by decide +kernel
theorem dX12_patience_2 : decode cX12_patience 2 = .ok (.putfield 142, 3) := by decide +kernel
theorem dX12_patience_5 : decode cX12_patience 5 = .ok (.aload_n 0, 1) := by decide +kernel
theorem dX12_patience_6 : decode cX12_patience 6 = .ok (.iload_n 1, 1) := by decide +kernel
theorem dX12_patience_7 : decode cX12_patience 7 = .ok (.iload_n 2, 1) := by decide +kernel
theorem dX12_patience_8 : decode cX12_patience 8 = .ok (.invokevirtual 160, 3) := by decide +kernel
theorem dX12_patience_11 : decode cX12_patience 11 = .ok (.ifCond .eq 16, 3) := by decide +kernel
theorem dX12_patience_14 : decode cX12_patience 14 = .ok (.aload_n 0, 1) := by decide +kernel
theorem dX12_patience_15 : decode cX12_patience 15 = .ok (.iload_n 3, 1) := by decide +kernel
theorem dX12_patience_16 : decode cX12_patience 16 = .ok (.iconst 0, 1) := by decide +kernel
theorem dX12_patience_17 : decode cX12_patience 17 = .ok (.aload_n 0, 1) := by decide +kernel
theorem dX12_patience_18 : decode cX12_patience 18 = .ok (.getfield 29, 3) := by decide +kernel
theorem dX12_patience_21 : decode cX12_patience 21 = .ok (.invokevirtual 149, 3) := by decide +kernel
theorem dX12_patience_24 : decode cX12_patience 24 = .ok (.ifCond .ne 5, 3) := by decide +kernel
theorem dX12_patience_27 : decode cX12_patience 27 = .ok (.iconst (-1), 1) := by decide +kernel
theorem dX12_patience_28 : decode cX12_patience 28 = .ok (.ireturn, 1) := by decide +kernel
theorem dX12_patience_29 : decode cX12_patience 29 = .ok (.aload_n 0, 1) := by decide +kernel
theorem dX12_patience_30 : decode cX12_patience 30 = .ok (.invokevirtual 208, 3) := by decide +kernel
theorem dX12_patience_33 : decode cX12_patience 33 = .ok (.aload_n 0, 1) := by decide +kernel
theorem dX12_patience_34 : decode cX12_patience 34 = .ok (.iload_n 1, 1) := by decide +kernel
theorem dX12_patience_35 : decode cX12_patience 35 = .ok (.iload_n 2, 1) := by decide +kernel
theorem dX12_patience_36 : decode cX12_patience 36 = .ok (.iload_n 3, 1) := by decide +kernel
theorem dX12_patience_37 : decode cX12_patience 37 = .ok (.invokevirtual 198, 3) := by decide +kernel
theorem dX12_patience_40 : decode cX12_patience 40 = .ok (.ireturn, 1) := by decide +kernel
theorem dX12_pairs_0 : decode cX12_pairs 0 = .ok (.aload_n 0, 1) := by decide +kernel
theorem dX12_pairs_1 : decode cX12_pairs 1 = .ok (.iconst 0, 1) := by decide +kernel
theorem dX12_pairs_2 : decode cX12_pairs 2 = .ok (.putfield 142, 3) := by decide +kernel
theorem dX12_pairs_5 : decode cX12_pairs 5 = .ok (.aload_n 0, 1) := by decide +kernel
theorem dX12_pairs_6 : decode cX12_pairs 6 = .ok (.iconst 0, 1) := by decide +kernel
theorem dX12_pairs_7 : decode cX12_pairs 7 = .ok (.iload_n 1, 1) := by decide +kernel
theorem dX12_pairs_8 : decode cX12_pairs 8 = .ok (.invokevirtual 160, 3) := by decide +kernel
theorem dX12_pairs_11 : decode cX12_pairs 11 = .ok (.ifCond .eq 36, 3) := by decide +kernel
theorem dX12_pairs_14 : decode cX12_pairs 14 = .ok (.aload_n 0, 1) := by decide +kernel
theorem dX12_pairs_15 : decode cX12_pairs 15 = .ok (.iconst 1, 1) := by decide +kernel
theorem dX12_pairs_16 : decode cX12_pairs 16 = .ok (.iload_n 2, 1) := by decide +kernel
theorem dX12_pairs_17 : decode cX12_pairs 17 = .ok (.invokevirtual 160, 3) := by decide +kernel
theorem dX12_pairs_20 : decode cX12_pairs 20 = .ok (.ifCond .eq 27, 3) := by decide +kernel
theorem dX12_pairs_23 : decode cX12_pairs 23 = .ok (.aload_n 0, 1) := by decide +kernel
theorem dX12_pairs_24 : decode cX12_pairs 24 = .ok (.iload_n 3, 1) := by decide +kernel
theorem dX12_pairs_25 : decode cX12_pairs 25 = .ok (.iconst 1, 1) := by decide +kernel
theorem dX12_pairs_26 : decode cX12_pairs 26 = .ok (.aload_n 0, 1) := by decide +kernel
theorem dX12_pairs_27 : decode cX12_pairs 27 = .ok (.getfield 29, 3) := by decide +kernel
theorem dX12_pairs_30 : decode cX12_pairs 30 = .ok (.invokevirtual 149, 3) := by decide +kernel
theorem dX12_pairs_33 : decode cX12_pairs 33 = .ok (.ifCond .eq 14, 3) := by decide +kernel
theorem dX12_pairs_36 : decode cX12_pairs 36 = .ok (.aload_n 0, 1) := by decide +kernel
theorem dX12_pairs_37 : decode cX12_pairs 37 = .ok (.iload 4, 2) := by decide +kernel
theorem dX12_pairs_39 : decode cX12_pairs 39 = .ok (.iconst 0, 1) := by decide +kernel
theorem dX12_pairs_40 : decode cX12_pairs 40 = .ok (.iconst 2, 1) := by decide +kernel
theorem dX12_pairs_41 : decode cX12_pairs 41 = .ok (.invokevirtual 149, 3) := by decide +kernel
theorem dX12_pairs_44 : decode cX12_pairs 44 = .ok (.ifCond .ne 5, 3) := by decide +kernel
theorem dX12_pairs_47 : decode cX12_pairs 47 = .ok (.iconst (-1), 1) := by decide +kernel
theorem dX12_pairs_48 : decode cX12_pairs 48 = .ok (.ireturn, 1) := by decide +kernel
theorem dX12_pairs_49 : decode cX12_pairs 49 = .ok (.aload_n 0, 1) := by decide +kernel
theorem dX12_pairs_50 : decode cX12_pairs 50 = .ok (.invokevirtual 208, 3) := by decide +kernel
theorem dX12_pairs_53 : decode cX12_pairs 53 = .ok (.aload_n 0, 1) := by decide +kernel
theorem dX12_pairs_54 : decode cX12_pairs 54 = .ok (.iconst 0, 1) := by decide +kernel
theorem dX12_pairs_55 : decode cX12_pairs 55 = .ok (.iload_n 1, 1) := by decide +kernel
theorem dX12_pairs_56 : decode cX12_pairs 56 = .ok (.iload_n 2, 1) := by decide +kernel
theorem dX12_pairs_57 : decode cX12_pairs 57 = .ok (.iload_n 3, 1) := by decide +kernel
theorem dX12_pairs_58 : decode cX12_pairs 58 = .ok (.invokevirtual 201, 3) := by decide +kernel
theorem dX12_pairs_61 : decode cX12_pairs 61 = .ok (.istore 5, 2) := by decide +kernel
theorem dX12_pairs_63 : decode cX12_pairs 63 = .ok (.aload_n 0, 1) := by decide +kernel
theorem dX12_pairs_64 : decode cX12_pairs 64 = .ok (.iconst 1, 1) := by decide +kernel
theorem dX12_pairs_65 : decode cX12_pairs 65 = .ok (.iload_n 2, 1) := by decide +kernel
theorem dX12_pairs_66 : decode cX12_pairs 66 = .ok (.iload_n 1, 1) := by decide +kernel
theorem dX12_pairs_67 : decode cX12_pairs 67 = .ok (.iload_n 3, 1) := by decide +kernel
theorem dX12_pairs_68 : decode cX12_pairs 68 = .ok (.invokevirtual 201, 3) := by decide +kernel
theorem dX12_pairs_71 : decode cX12_pairs 71 = .ok (.istore 6, 2) := by decide +kernel
theorem dX12_pairs_73 : decode cX12_pairs 73 = .ok (.iload 4, 2) := by decide +kernel
theorem dX12_pairs_75 : decode cX12_pairs 75 = .ok (.ifCond .ne 16, 3) := by decide +kernel
theorem dX12_pairs_78 : decode cX12_pairs 78 = .ok (.iload 5, 2) := by decide +kernel
theorem dX12_pairs_80 : decode cX12_pairs 80 = .ok (.ifCond .eq 34, 3) := by decide +kernel
theorem dX12_pairs_83 : decode cX12_pairs 83 = .ok (.iload 6, 2) := by decide +kernel
theorem dX12_pairs_85 : decode cX12_pairs 85 = .ok (.ifCond .eq 29, 3) := by decide +kernel
theorem dX12_pairs_88 : decode cX12_pairs 88 = .ok (.goto 22, 3) := by decide +kernel
theorem dX12_pairs_91 : decode cX12_pairs 91 = .ok (.iload 4, 2) := by decide +kernel
theorem dX12_pairs_93 : decode cX12_pairs 93 = .ok (.iconst 1, 1) := by decide +kernel
theorem dX12_pairs_94 : decode cX12_pairs 94 = .ok (.if_icmp .ne 11, 3) := by decide +kernel
theorem dX12_pairs_97 : decode cX12_pairs 97 = .ok (.iload 5, 2) := by decide +kernel
theorem dX12_pairs_99 : decode cX12_pairs 99 = .ok (.ifCond .eq 15, 3) := by decide +kernel
theorem dX12_pairs_102 : decode cX12_pairs 102 = .ok (.goto 8, 3) := by decide +kernel
theorem dX12_pairs_105 : decode cX12_pairs 105 = .ok (.iload 6, 2) := by decide +kernel
theorem dX12_pairs_107 : decode cX12_pairs 107 = .ok (.ifCond .eq 7, 3) := by decide +kernel
theorem dX12_pairs_110 : decode cX12_pairs 110 = .ok (.iconst 1, 1) := by decide +kernel
theorem dX12_pairs_111 : decode cX12_pairs 111 = .ok (.goto 4, 3) := by decide +kernel
theorem dX12_pairs_114 : decode cX12_pairs 114 = .ok (.iconst 0, 1) := by decide +kernel
theorem dX12_pairs_115 : decode cX12_pairs 115 = .ok (.ireturn, 1) := by decide +kernel
theorem dX12_puts_0 : decode cX12_puts 0 = .ok (.bipush 24, 2) := by decide +kernel
theorem dX12_puts_2 : decode cX12_puts 2 = .ok (.istore_n 2, 1) := by decide +kernel
theorem dX12_puts_3 : decode cX12_puts 3 = .ok (.iload_n 2, 1) := by decide +kernel
theorem dX12_puts_4 : decode cX12_puts 4 = .ok (.ifCond .lt 35, 3) := by decide +kernel
theorem dX12_puts_7 : decode cX12_puts 7 = .ok (.aload_n 0, 1) := by decide +kernel
theorem dX12_puts_8 : decode cX12_puts 8 = .ok (.getfield 47, 3) := by decide +kernel
theorem dX12_puts_11 : decode cX12_puts 11 = .ok (.aload_n 0, 1) := by decide +kernel
theorem dX12_puts_12 : decode cX12_puts 12 = .ok (.getfield 211, 3) := by decide +kernel
theorem dX12_puts_15 : decode cX12_puts 15 = .ok (.iload_n 1, 1) := by decide +kernel
theorem dX12_puts_16 : decode cX12_puts 16 = .ok (.iload_n 2, 1) := by decide +kernel
theorem dX12_puts_17 : decode cX12_puts 17 = .ok (.ishr, 1) := by decide +kernel
theorem dX12_puts_18 : decode cX12_puts 18 = .ok (.sipush 255, 3) := by decide +kernel
theorem dX12_puts_21 : decode cX12_puts 21 = .ok (.iand, 1) := by decide +kernel
theorem dX12_puts_22 : decode cX12_puts 22 = .ok (.iastore, 1) := by decide +kernel
theorem dX12_puts_23 : decode cX12_puts 23 = .ok (.aload_n 0, 1) := by decide +kernel
theorem dX12_puts_24 : decode cX12_puts 24 = .ok (.aload_n 0, 1) := by decide +kernel
theorem dX12_puts_25 : decode cX12_puts 25 = .ok (.getfield 211, 3) := by decide +kernel
theorem dX12_puts_28 : decode cX12_puts 28 = .ok (.iconst 1, 1) := by decide +kernel
theorem dX12_puts_29 : decode cX12_puts 29 = .ok (.iadd, 1) := by decide +kernel
theorem dX12_puts_30 : decode cX12_puts 30 = .ok (.putfield 211, 3) := by decide +kernel
theorem dX12_puts_33 : decode cX12_puts 33 = .ok (.iinc 2 (-8), 3) := by decide +kernel
theorem dX12_puts_36 : decode cX12_puts 36 = .ok (.goto (-33), 3) := by decide +kernel
theorem dX12_puts_39 : decode cX12_puts 39 = .ok (.return_, 1) := by decide +kernel
theorem dX12_feed_0 : decode cX12_feed 0 = .ok (.aload_n 0, 1) := by decide +kernel
theorem dX12_feed_1 : decode cX12_feed 1 = .ok (.iconst 0, 1) := by decide +kernel
theorem dX12_feed_2 : decode cX12_feed 2 = .ok (.putfield 142, 3) := by decide +kernel
theorem dX12_feed_5 : decode cX12_feed 5 = .ok (.aload_n 0, 1) := by decide +kernel
theorem dX12_feed_6 : decode cX12_feed 6 = .ok (.getfield 211, 3) := by decide +kernel
theorem dX12_feed_9 : decode cX12_feed 9 = .ok (.sipush 380, 3) := by decide +kernel
theorem dX12_feed_12 : decode cX12_feed 12 = .ok (.if_icmp .le 5, 3) := by decide +kernel
theorem dX12_feed_15 : decode cX12_feed 15 = .ok (.iconst (-1), 1) := by decide +kernel
theorem dX12_feed_16 : decode cX12_feed 16 = .ok (.ireturn, 1) := by decide +kernel
theorem dX12_feed_17 : decode cX12_feed 17 = .ok (.aload_n 0, 1) := by decide +kernel
theorem dX12_feed_18 : decode cX12_feed 18 = .ok (.iload_n 1, 1) := by decide +kernel
theorem dX12_feed_19 : decode cX12_feed 19 = .ok (.invokevirtual 214, 3) := by decide +kernel
theorem dX12_feed_22 : decode cX12_feed 22 = .ok (.aload_n 0, 1) := by decide +kernel
theorem dX12_feed_23 : decode cX12_feed 23 = .ok (.iload_n 2, 1) := by decide +kernel
theorem dX12_feed_24 : decode cX12_feed 24 = .ok (.invokevirtual 214, 3) := by decide +kernel
theorem dX12_feed_27 : decode cX12_feed 27 = .ok (.aload_n 0, 1) := by decide +kernel
theorem dX12_feed_28 : decode cX12_feed 28 = .ok (.iload_n 3, 1) := by decide +kernel
theorem dX12_feed_29 : decode cX12_feed 29 = .ok (.invokevirtual 214, 3) := by decide +kernel
theorem dX12_feed_32 : decode cX12_feed 32 = .ok (.aload_n 0, 1) := by decide +kernel
theorem dX12_feed_33 : decode cX12_feed 33 = .ok (.iload 4, 2) := by decide +kernel
theorem dX12_feed_35 : decode cX12_feed 35 = .ok (.invokevirtual 214, 3) := by decide +kernel
theorem dX12_feed_38 : decode cX12_feed 38 = .ok (.aload_n 0, 1) := by decide +kernel
theorem dX12_feed_39 : decode cX12_feed 39 = .ok (.iload 5, 2) := by decide +kernel
theorem dX12_feed_41 : decode cX12_feed 41 = .ok (.invokevirtual 214, 3) := by decide +kernel
theorem dX12_feed_44 : decode cX12_feed 44 = .ok (.aload_n 0, 1) := by decide +kernel
theorem dX12_feed_45 : decode cX12_feed 45 = .ok (.getfield 211, 3) := by decide +kernel
theorem dX12_feed_48 : decode cX12_feed 48 = .ok (.ireturn, 1) := by decide +kernel
theorem dX12_end_0 : decode cX12_end 0 = .ok (.aload_n 0, 1) := by decide +kernel
theorem dX12_end_1 : decode cX12_end 1 = .ok (.iconst 0, 1) := by decide +kernel
theorem dX12_end_2 : decode cX12_end 2 = .ok (.putfield 142, 3) := by decide +kernel
theorem dX12_end_5 : decode cX12_end 5 = .ok (.aload_n 0, 1) := by decide +kernel
theorem dX12_end_6 : decode cX12_end 6 = .ok (.iload_n 1, 1) := by decide +kernel
theorem dX12_end_7 : decode cX12_end 7 = .ok (.iconst 0, 1) := by decide +kernel
theorem dX12_end_8 : decode cX12_end 8 = .ok (.aload_n 0, 1) := by decide +kernel
theorem dX12_end_9 : decode cX12_end 9 = .ok (.getfield 211, 3) := by decide +kernel
theorem dX12_end_12 : decode cX12_end 12 = .ok (.invokevirtual 149, 3) := by decide +kernel
theorem dX12_end_15 : decode cX12_end 15 = .ok (.ifCond .ne 5, 3) := by decide +kernel
theorem dX12_end_18 : decode cX12_end 18 = .ok (.iconst 0, 1) := by decide +kernel
theorem dX12_end_19 : decode cX12_end 19 = .ok (.ireturn, 1) := by decide +kernel
theorem dX12_end_20 : decode cX12_end 20 = .ok (.aload_n 0, 1) := by decide +kernel
theorem dX12_end_21 : decode cX12_end 21 = .ok (.iload_n 1, 1) := by decide +kernel
theorem dX12_end_22 : decode cX12_end 22 = .ok (.putfield 211, 3) := by decide +kernel
theorem dX12_end_25 : decode cX12_end 25 = .ok (.iconst 1, 1) := by decide +kernel
theorem dX12_end_26 : decode cX12_end 26 = .ok (.ireturn, 1) := by decide +kernel
theorem dX12_raw_0 : decode cX12_raw 0 = .ok (.iload_n 1, 1) := by decide +kernel
theorem dX12_raw_1 : decode cX12_raw 1 = .ok (.aload_n 0, 1) := by decide +kernel
theorem dX12_raw_2 : decode cX12_raw 2 = .ok (.getfield 211, 3) := by decide +kernel
theorem dX12_raw_5 : decode cX12_raw 5 = .ok (.if_icmp .ge 12, 3) := by decide +kernel
theorem dX12_raw_8 : decode cX12_raw 8 = .ok (.aload_n 0, 1) := by decide +kernel
theorem dX12_raw_9 : decode cX12_raw 9 = .ok (.getfield 47, 3) := by decide +kernel
theorem dX12_raw_12 : decode cX12_raw 12 = .ok (.iload_n 1, 1) := by decide +kernel
theorem dX12_raw_13 : decode cX12_raw 13 = .ok (.iaload, 1) := by decide +kernel
theorem dX12_raw_14 : decode cX12_raw 14 = .ok (.goto 4, 3) := by decide +kernel
theorem dX12_raw_17 : decode cX12_raw 17 = .ok (.iconst (-1), 1) := by decide +kernel
theorem dX12_raw_18 : decode cX12_raw 18 = .ok (.ireturn, 1) := by decide +kernel
theorem dX12_isLetter_0 : decode cX12_isLetter 0 = .ok (.aload_n 0, 1) := by decide +kernel
theorem dX12_isLetter_1 : decode cX12_isLetter 1 = .ok (.iload_n 1, 1) := by decide +kernel
theorem dX12_isLetter_2 : decode cX12_isLetter 2 = .ok (.bipush 97, 2) := by decide +kernel
theorem dX12_isLetter_4 : decode cX12_isLetter 4 = .ok (.bipush 122, 2) := by decide +kernel
theorem dX12_isLetter_6 : decode cX12_isLetter 6 = .ok (.invokevirtual 149, 3) := by decide +kernel
theorem dX12_isLetter_9 : decode cX12_isLetter 9 = .ok (.ifCond .ne 15, 3) := by decide +kernel
theorem dX12_isLetter_12 : decode cX12_isLetter 12 = .ok (.aload_n 0, 1) := by decide +kernel
theorem dX12_isLetter_13 : decode cX12_isLetter 13 = .ok (.iload_n 1, 1) := by decide +kernel
theorem dX12_isLetter_14 : decode cX12_isLetter 14 = .ok (.bipush 65, 2) := by decide +kernel
theorem dX12_isLetter_16 : decode cX12_isLetter 16 = .ok (.bipush 90, 2) := by decide +kernel
theorem dX12_isLetter_18 : decode cX12_isLetter 18 = .ok (.invokevirtual 149, 3) := by decide +kernel
theorem dX12_isLetter_21 : decode cX12_isLetter 21 = .ok (.ifCond .eq 7, 3) := by decide +kernel
theorem dX12_isLetter_24 : decode cX12_isLetter 24 = .ok (.iconst 1, 1) := by decide +kernel
theorem dX12_isLetter_25 : decode cX12_isLetter 25 = .ok (.goto 4, 3) := by decide +kernel
theorem dX12_isLetter_28 : decode cX12_isLetter 28 = .ok (.iconst 0, 1) := by decide +kernel
theorem dX12_isLetter_29 : decode cX12_isLetter 29 = .ok (.ireturn, 1) := by decide +kernel
theorem dX12_isDigit_0 : decode cX12_isDigit 0 = .ok (.aload_n 0, 1) := by decide +kernel
theorem dX12_isDigit_1 : decode cX12_isDigit 1 = .ok (.iload_n 1, 1) := by decide +kernel
theorem dX12_isDigit_2 : decode cX12_isDigit 2 = .ok (.bipush 48, 2) := by decide +kernel
theorem dX12_isDigit_4 : decode cX12_isDigit 4 = .ok (.bipush 57, 2) := by decide +kernel
theorem dX12_isDigit_6 : decode cX12_isDigit 6 = .ok (.invokevirtual 149, 3) := by decide +kernel
theorem dX12_isDigit_9 : decode cX12_isDigit 9 = .ok (.ireturn, 1) := by decide +kernel
theorem dX12_isMarkSign_0 : decode cX12_isMarkSign 0 = .ok (.iload_n 1, 1) := by decide +kernel
theorem dX12_isMarkSign_1 : decode cX12_isMarkSign 1 = .ok (.bipush 59, 2) := by decide +kernel
theorem dX12_isMarkSign_3 : decode cX12_isMarkSign 3 = .ok (.if_icmp .eq 57, 3) := by decide +kernel
theorem dX12_isMarkSign_6 : decode cX12_isMarkSign 6 = .ok (.iload_n 1, 1) := by decide +kernel
theorem dX12_isMarkSign_7 : decode cX12_isMarkSign 7 = .ok (.bipush 43, 2) := by decide +kernel
theorem dX12_isMarkSign_9 : decode cX12_isMarkSign 9 = .ok (.if_icmp .eq 51, 3) := by decide +kernel
theorem dX12_isMarkSign_12 : decode cX12_isMarkSign 12 = .ok (.iload_n 1, 1) := by decide +kernel
theorem dX12_isMarkSign_13 : decode cX12_isMarkSign 13 = .ok (.bipush 45, 2) := by decide +kernel
theorem dX12_isMarkSign_15 : decode cX12_isMarkSign 15 = .ok (.if_icmp .eq 45, 3) := by decide +kernel
theorem dX12_isMarkSign_18 : decode cX12_isMarkSign 18 = .ok (.iload_n 1, 1) := by decide +kernel
theorem dX12_isMarkSign_19 : decode cX12_isMarkSign 19 = .ok (.bipush 42, 2) := by decide +kernel
theorem dX12_isMarkSign_21 : decode cX12_isMarkSign 21 = .ok (.if_icmp .eq 39, 3) := by decide +kernel
theorem dX12_isMarkSign_24 : decode cX12_isMarkSign 24 = .ok (.iload_n 1, 1) := by decide +kernel
theorem dX12_isMarkSign_25 : decode cX12_isMarkSign 25 = .ok (.bipush 47, 2) := by decide +kernel
theorem dX12_isMarkSign_27 : decode cX12_isMarkSign 27 = .ok (.if_icmp .eq 33, 3) := by decide +kernel
theorem dX12_isMarkSign_30 : decode cX12_isMarkSign 30 = .ok (.iload_n 1, 1) := by decide +kernel
theorem dX12_isMarkSign_31 : decode cX12_isMarkSign 31 = .ok (.bipush 40, 2) := by decide +kernel
theorem dX12_isMarkSign_33 : decode cX12_isMarkSign 33 = .ok (.if_icmp .eq 27, 3) := by decide +kernel
theorem dX12_isMarkSign_36 : decode cX12_isMarkSign 36 = .ok (.iload_n 1, 1) := by decide +kernel
theorem dX12_isMarkSign_37 : decode cX12_isMarkSign 37 = .ok (.bipush 41, 2) := by decide +kernel
theorem dX12_isMarkSign_39 : decode cX12_isMarkSign 39 = .ok (.if_icmp .eq 21, 3) := by decide +kernel
theorem dX12_isMarkSign_42 : decode cX12_isMarkSign 42 = .ok (.iload_n 1, 1) := by decide +kernel
theorem dX12_isMarkSign_43 : decode cX12_isMarkSign 43 = .ok (.bipush 60, 2) := by decide +kernel
theorem dX12_isMarkSign_45 : decode cX12_isMarkSign 45 = .ok (.if_icmp .eq 15, 3) := by decide +kernel
theorem dX12_isMarkSign_48 : decode cX12_isMarkSign 48 = .ok (.iload_n 1, 1) := by decide +kernel
theorem dX12_isMarkSign_49 : decode cX12_isMarkSign 49 = .ok (.bipush 61, 2) := by decide +kernel
theorem dX12_isMarkSign_51 : decode cX12_isMarkSign 51 = .ok (.if_icmp .eq 9, 3) := by decide +kernel
theorem dX12_isMarkSign_54 : decode cX12_isMarkSign 54 = .ok (.iload_n 1, 1) := by decide +kernel
theorem dX12_isMarkSign_55 : decode cX12_isMarkSign 55 = .ok (.bipush 62, 2) := by decide +kernel
theorem dX12_isMarkSign_57 : decode cX12_isMarkSign 57 = .ok (.if_icmp .ne 7, 3) := by decide +kernel
theorem dX12_isMarkSign_60 : decode cX12_isMarkSign 60 = .ok (.iconst 1, 1) := by decide +kernel
theorem dX12_isMarkSign_61 : decode cX12_isMarkSign 61 = .ok (.goto 4, 3) := by decide +kernel
theorem dX12_isMarkSign_64 : decode cX12_isMarkSign 64 = .ok (.iconst 0, 1) := by decide +kernel
theorem dX12_isMarkSign_65 : decode cX12_isMarkSign 65 = .ok (.ireturn, 1) := by decide +kernel
theorem dX12_wordAt_0 : decode cX12_wordAt 0 = .ok (.iconst (-1), 1) := by decide +kernel
theorem dX12_wordAt_1 : decode cX12_wordAt 1 = .ok (.istore_n 3, 1) := by decide +kernel
theorem dX12_wordAt_2 : decode cX12_wordAt 2 = .ok (.iconst 0, 1) := by decide +kernel
theorem dX12_wordAt_3 : decode cX12_wordAt 3 = .ok (.istore 4, 2) := by decide +kernel
theorem dX12_wordAt_5 : decode cX12_wordAt 5 = .ok (.iload 4, 2) := by decide +kernel
theorem dX12_wordAt_7 : decode cX12_wordAt 7 = .ok (.bipush 64, 2) := by decide +kernel
theorem dX12_wordAt_9 : decode cX12_wordAt 9 = .ok (.if_icmp .ge 108, 3) := by decide +kernel
theorem dX12_wordAt_12 : decode cX12_wordAt 12 = .ok (.iconst 0, 1) := by decide +kernel
theorem dX12_wordAt_13 : decode cX12_wordAt 13 = .ok (.istore 5, 2) := by decide +kernel
theorem dX12_wordAt_15 : decode cX12_wordAt 15 = .ok (.iload_n 3, 1) := by decide +kernel
theorem dX12_wordAt_16 : decode cX12_wordAt 16 = .ok (.iconst 1, 1) := by decide +kernel
theorem dX12_wordAt_17 : decode cX12_wordAt 17 = .ok (.iadd, 1) := by decide +kernel
theorem dX12_wordAt_18 : decode cX12_wordAt 18 = .ok (.istore_n 3, 1) := by decide +kernel
theorem dX12_wordAt_19 : decode cX12_wordAt 19 = .ok (.iload_n 1, 1) := by decide +kernel
theorem dX12_wordAt_20 : decode cX12_wordAt 20 = .ok (.iload 5, 2) := by decide +kernel
theorem dX12_wordAt_22 : decode cX12_wordAt 22 = .ok (.iadd, 1) := by decide +kernel
theorem dX12_wordAt_23 : decode cX12_wordAt 23 = .ok (.iload_n 2, 1) := by decide +kernel
theorem dX12_wordAt_24 : decode cX12_wordAt 24 = .ok (.if_icmp .ge 36, 3) := by decide +kernel
theorem dX12_wordAt_27 : decode cX12_wordAt 27 = .ok (.aload_n 0, 1) := by decide +kernel
theorem dX12_wordAt_28 : decode cX12_wordAt 28 = .ok (.getfield 50, 3) := by decide +kernel
theorem dX12_wordAt_31 : decode cX12_wordAt 31 = .ok (.iload 4, 2) := by decide +kernel
theorem dX12_wordAt_33 : decode cX12_wordAt 33 = .ok (.iconst 1, 1) := by decide +kernel
theorem dX12_wordAt_34 : decode cX12_wordAt 34 = .ok (.iadd, 1) := by decide +kernel
theorem dX12_wordAt_35 : decode cX12_wordAt 35 = .ok (.iload 5, 2) := by decide +kernel
theorem dX12_wordAt_37 : decode cX12_wordAt 37 = .ok (.iadd, 1) := by decide +kernel
theorem dX12_wordAt_38 : decode cX12_wordAt 38 = .ok (.iaload, 1) := by decide +kernel
theorem dX12_wordAt_39 : decode cX12_wordAt 39 = .ok (.aload_n 0, 1) := by decide +kernel
theorem dX12_wordAt_40 : decode cX12_wordAt 40 = .ok (.getfield 47, 3) := by decide +kernel
theorem dX12_wordAt_43 : decode cX12_wordAt 43 = .ok (.iload_n 1, 1) := by decide +kernel
theorem dX12_wordAt_44 : decode cX12_wordAt 44 = .ok (.iload 5, 2) := by decide +kernel
theorem dX12_wordAt_46 : decode cX12_wordAt 46 = .ok (.iadd, 1) := by decide +kernel
theorem dX12_wordAt_47 : decode cX12_wordAt 47 = .ok (.iaload, 1) := by decide +kernel
theorem dX12_wordAt_48 : decode cX12_wordAt 48 = .ok (.if_icmp .ne 12, 3) := by decide +kernel
theorem dX12_wordAt_51 : decode cX12_wordAt 51 = .ok (.iload 5, 2) := by decide +kernel
theorem dX12_wordAt_53 : decode cX12_wordAt 53 = .ok (.iconst 1, 1) := by decide +kernel
theorem dX12_wordAt_54 : decode cX12_wordAt 54 = .ok (.iadd, 1) := by decide +kernel
theorem dX12_wordAt_55 : decode cX12_wordAt 55 = .ok (.istore 5, 2) := by decide +kernel
theorem dX12_wordAt_57 : decode cX12_wordAt 57 = .ok (.goto (-38), 3) := by decide +kernel
theorem dX12_wordAt_60 : decode cX12_wordAt 60 = .ok (.iload_n 1, 1) := by decide +kernel
theorem dX12_wordAt_61 : decode cX12_wordAt 61 = .ok (.iload 5, 2) := by decide +kernel
theorem dX12_wordAt_63 : decode cX12_wordAt 63 = .ok (.iadd, 1) := by decide +kernel
theorem dX12_wordAt_64 : decode cX12_wordAt 64 = .ok (.iload_n 2, 1) := by decide +kernel
theorem dX12_wordAt_65 : decode cX12_wordAt 65 = .ok (.if_icmp .ne 22, 3) := by decide +kernel
theorem dX12_wordAt_68 : decode cX12_wordAt 68 = .ok (.aload_n 0, 1) := by decide +kernel
theorem dX12_wordAt_69 : decode cX12_wordAt 69 = .ok (.getfield 50, 3) := by decide +kernel
theorem dX12_wordAt_72 : decode cX12_wordAt 72 = .ok (.iload 4, 2) := by decide +kernel
theorem dX12_wordAt_74 : decode cX12_wordAt 74 = .ok (.iconst 1, 1) := by decide +kernel
theorem dX12_wordAt_75 : decode cX12_wordAt 75 = .ok (.iadd, 1) := by decide +kernel
theorem dX12_wordAt_76 : decode cX12_wordAt 76 = .ok (.iload 5, 2) := by decide +kernel
theorem dX12_wordAt_78 : decode cX12_wordAt 78 = .ok (.iadd, 1) := by decide +kernel
theorem dX12_wordAt_79 : decode cX12_wordAt 79 = .ok (.iaload, 1) := by decide +kernel
theorem dX12_wordAt_80 : decode cX12_wordAt 80 = .ok (.bipush 32, 2) := by decide +kernel
theorem dX12_wordAt_82 : decode cX12_wordAt 82 = .ok (.if_icmp .ne 5, 3) := by decide +kernel
theorem dX12_wordAt_85 : decode cX12_wordAt 85 = .ok (.iload_n 3, 1) := by decide +kernel
theorem dX12_wordAt_86 : decode cX12_wordAt 86 = .ok (.ireturn, 1) := by decide +kernel
theorem dX12_wordAt_87 : decode cX12_wordAt 87 = .ok (.iload 4, 2) := by decide +kernel
theorem dX12_wordAt_89 : decode cX12_wordAt 89 = .ok (.iconst 1, 1) := by decide +kernel
theorem dX12_wordAt_90 : decode cX12_wordAt 90 = .ok (.iadd, 1) := by decide +kernel
theorem dX12_wordAt_91 : decode cX12_wordAt 91 = .ok (.istore 4, 2) := by decide +kernel
theorem dX12_wordAt_93 : decode cX12_wordAt 93 = .ok (.aload_n 0, 1) := by decide +kernel
theorem dX12_wordAt_94 : decode cX12_wordAt 94 = .ok (.getfield 50, 3) := by decide +kernel
theorem dX12_wordAt_97 : decode cX12_wordAt 97 = .ok (.iload 4, 2) := by decide +kernel
theorem dX12_wordAt_99 : decode cX12_wordAt 99 = .ok (.iaload, 1) := by decide +kernel
theorem dX12_wordAt_100 : decode cX12_wordAt 100 = .ok (.bipush 32, 2) := by decide +kernel
theorem dX12_wordAt_102 : decode cX12_wordAt 102 = .ok (.if_icmp .eq 12, 3) := by decide +kernel
theorem dX12_wordAt_105 : decode cX12_wordAt 105 = .ok (.iload 4, 2) := by decide +kernel
theorem dX12_wordAt_107 : decode cX12_wordAt 107 = .ok (.iconst 1, 1) := by decide +kernel
theorem dX12_wordAt_108 : decode cX12_wordAt 108 = .ok (.iadd, 1) := by decide +kernel
theorem dX12_wordAt_109 : decode cX12_wordAt 109 = .ok (.istore 4, 2) := by decide +kernel
theorem dX12_wordAt_111 : decode cX12_wordAt 111 = .ok (.goto (-18), 3) := by decide +kernel
theorem dX12_wordAt_114 : decode cX12_wordAt 114 = .ok (.goto (-109), 3) := by decide +kernel
theorem dX12_wordAt_117 : decode cX12_wordAt 117 = .ok (.iconst (-1), 1) := by decide +kernel
theorem dX12_wordAt_118 : decode cX12_wordAt 118 = .ok (.ireturn, 1) := by decide +kernel
theorem dX12_reads_0 : decode cX12_reads 0 = .ok (.aload_n 0, 1) := by decide +kernel
theorem dX12_reads_1 : decode cX12_reads 1 = .ok (.aload_n 0, 1) := by decide +kernel
theorem dX12_reads_2 : decode cX12_reads 2 = .ok (.getfield 218, 3) := by decide +kernel
theorem dX12_reads_5 : decode cX12_reads 5 = .ok (.invokevirtual 221, 3) := by decide +kernel
theorem dX12_reads_8 : decode cX12_reads 8 = .ok (.bipush 32, 2) := by decide +kernel
theorem dX12_reads_10 : decode cX12_reads 10 = .ok (.if_icmp .eq 16, 3) := by decide +kernel
theorem dX12_reads_13 : decode cX12_reads 13 = .ok (.aload_n 0, 1) := by decide +kernel
theorem dX12_reads_14 : decode cX12_reads 14 = .ok (.aload_n 0, 1) := by decide +kernel
theorem dX12_reads_15 : decode cX12_reads 15 = .ok (.getfield 218, 3) := by decide +kernel
theorem dX12_reads_18 : decode cX12_reads 18 = .ok (.invokevirtual 221, 3) := by decide +kernel
theorem dX12_reads_21 : decode cX12_reads 21 = .ok (.bipush 10, 2) := by decide +kernel
theorem dX12_reads_23 : decode cX12_reads 23 = .ok (.if_icmp .ne 16, 3) := by decide +kernel
theorem dX12_reads_26 : decode cX12_reads 26 = .ok (.aload_n 0, 1) := by decide +kernel
theorem dX12_reads_27 : decode cX12_reads 27 = .ok (.aload_n 0, 1) := by decide +kernel
theorem dX12_reads_28 : decode cX12_reads 28 = .ok (.getfield 218, 3) := by decide +kernel
theorem dX12_reads_31 : decode cX12_reads 31 = .ok (.iconst 1, 1) := by decide +kernel
theorem dX12_reads_32 : decode cX12_reads 32 = .ok (.iadd, 1) := by decide +kernel
theorem dX12_reads_33 : decode cX12_reads 33 = .ok (.putfield 218, 3) := by decide +kernel
theorem dX12_reads_36 : decode cX12_reads 36 = .ok (.goto (-36), 3) := by decide +kernel
theorem dX12_reads_39 : decode cX12_reads 39 = .ok (.aload_n 0, 1) := by decide +kernel
theorem dX12_reads_40 : decode cX12_reads 40 = .ok (.aload_n 0, 1) := by decide +kernel
theorem dX12_reads_41 : decode cX12_reads 41 = .ok (.getfield 218, 3) := by decide +kernel
theorem dX12_reads_44 : decode cX12_reads 44 = .ok (.putfield 225, 3) := by decide +kernel
theorem dX12_reads_47 : decode cX12_reads 47 = .ok (.aload_n 0, 1) := by decide +kernel
theorem dX12_reads_48 : decode cX12_reads 48 = .ok (.iconst 1, 1) := by decide +kernel
theorem dX12_reads_49 : decode cX12_reads 49 = .ok (.putfield 228, 3) := by decide +kernel
theorem dX12_reads_52 : decode cX12_reads 52 = .ok (.aload_n 0, 1) := by decide +kernel
theorem dX12_reads_53 : decode cX12_reads 53 = .ok (.aload_n 0, 1) := by decide +kernel
theorem dX12_reads_54 : decode cX12_reads 54 = .ok (.getfield 218, 3) := by decide +kernel
theorem dX12_reads_57 : decode cX12_reads 57 = .ok (.invokevirtual 221, 3) := by decide +kernel
theorem dX12_reads_60 : decode cX12_reads 60 = .ok (.istore_n 1, 1) := by decide +kernel
theorem dX12_reads_61 : decode cX12_reads 61 = .ok (.iload_n 1, 1) := by decide +kernel
theorem dX12_reads_62 : decode cX12_reads 62 = .ok (.iconst (-1), 1) := by decide +kernel
theorem dX12_reads_63 : decode cX12_reads 63 = .ok (.if_icmp .ne 9, 3) := by decide +kernel
theorem dX12_reads_66 : decode cX12_reads 66 = .ok (.aload_n 0, 1) := by decide +kernel
theorem dX12_reads_67 : decode cX12_reads 67 = .ok (.iconst 0, 1) := by decide +kernel
theorem dX12_reads_68 : decode cX12_reads 68 = .ok (.putfield 228, 3) := by decide +kernel
theorem dX12_reads_71 : decode cX12_reads 71 = .ok (.return_, 1) := by decide +kernel
theorem dX12_reads_72 : decode cX12_reads 72 = .ok (.aload_n 0, 1) := by decide +kernel
theorem dX12_reads_73 : decode cX12_reads 73 = .ok (.aload_n 0, 1) := by decide +kernel
theorem dX12_reads_74 : decode cX12_reads 74 = .ok (.getfield 218, 3) := by decide +kernel
theorem dX12_reads_77 : decode cX12_reads 77 = .ok (.iconst 1, 1) := by decide +kernel
theorem dX12_reads_78 : decode cX12_reads 78 = .ok (.iadd, 1) := by decide +kernel
theorem dX12_reads_79 : decode cX12_reads 79 = .ok (.putfield 218, 3) := by decide +kernel
theorem dX12_reads_82 : decode cX12_reads 82 = .ok (.aload_n 0, 1) := by decide +kernel
theorem dX12_reads_83 : decode cX12_reads 83 = .ok (.iload_n 1, 1) := by decide +kernel
theorem dX12_reads_84 : decode cX12_reads 84 = .ok (.putfield 231, 3) := by decide +kernel
theorem dX12_reads_87 : decode cX12_reads 87 = .ok (.aload_n 0, 1) := by decide +kernel
theorem dX12_reads_88 : decode cX12_reads 88 = .ok (.iload_n 1, 1) := by decide +kernel
theorem dX12_reads_89 : decode cX12_reads 89 = .ok (.invokevirtual 234, 3) := by decide +kernel
theorem dX12_reads_92 : decode cX12_reads 92 = .ok (.ifCond .eq 63, 3) := by decide +kernel
theorem dX12_reads_95 : decode cX12_reads 95 = .ok (.aload_n 0, 1) := by decide +kernel
theorem dX12_reads_96 : decode cX12_reads 96 = .ok (.aload_n 0, 1) := by decide +kernel
theorem dX12_reads_97 : decode cX12_reads 97 = .ok (.aload_n 0, 1) := by decide +kernel
theorem dX12_reads_98 : decode cX12_reads 98 = .ok (.getfield 218, 3) := by decide +kernel
theorem dX12_reads_101 : decode cX12_reads 101 = .ok (.invokevirtual 221, 3) := by decide +kernel
theorem dX12_reads_104 : decode cX12_reads 104 = .ok (.invokevirtual 234, 3) := by decide +kernel
theorem dX12_reads_107 : decode cX12_reads 107 = .ok (.ifCond .eq 16, 3) := by decide +kernel
theorem dX12_reads_110 : decode cX12_reads 110 = .ok (.aload_n 0, 1) := by decide +kernel
theorem dX12_reads_111 : decode cX12_reads 111 = .ok (.aload_n 0, 1) := by decide +kernel
theorem dX12_reads_112 : decode cX12_reads 112 = .ok (.getfield 218, 3) := by decide +kernel
theorem dX12_reads_115 : decode cX12_reads 115 = .ok (.iconst 1, 1) := by decide +kernel
theorem dX12_reads_116 : decode cX12_reads 116 = .ok (.iadd, 1) := by decide +kernel
theorem dX12_reads_117 : decode cX12_reads 117 = .ok (.putfield 218, 3) := by decide +kernel
theorem dX12_reads_120 : decode cX12_reads 120 = .ok (.goto (-25), 3) := by decide +kernel
theorem dX12_reads_123 : decode cX12_reads 123 = .ok (.aload_n 0, 1) := by decide +kernel
theorem dX12_reads_124 : decode cX12_reads 124 = .ok (.aload_n 0, 1) := by decide +kernel
theorem dX12_reads_125 : decode cX12_reads 125 = .ok (.aload_n 0, 1) := by decide +kernel
theorem dX12_reads_126 : decode cX12_reads 126 = .ok (.getfield 225, 3) := by decide +kernel
theorem dX12_reads_129 : decode cX12_reads 129 = .ok (.aload_n 0, 1) := by decide +kernel
theorem dX12_reads_130 : decode cX12_reads 130 = .ok (.getfield 218, 3) := by decide +kernel
theorem dX12_reads_133 : decode cX12_reads 133 = .ok (.invokevirtual 237, 3) := by decide +kernel
theorem dX12_reads_136 : decode cX12_reads 136 = .ok (.putfield 231, 3) := by decide +kernel
theorem dX12_reads_139 : decode cX12_reads 139 = .ok (.aload_n 0, 1) := by decide +kernel
theorem dX12_reads_140 : decode cX12_reads 140 = .ok (.getfield 231, 3) := by decide +kernel
theorem dX12_reads_143 : decode cX12_reads 143 = .ok (.iconst (-1), 1) := by decide +kernel
theorem dX12_reads_144 : decode cX12_reads 144 = .ok (.if_icmp .eq 129, 3) := by decide +kernel
theorem dX12_reads_147 : decode cX12_reads 147 = .ok (.aload_n 0, 1) := by decide +kernel
theorem dX12_reads_148 : decode cX12_reads 148 = .ok (.iconst 2, 1) := by decide +kernel
theorem dX12_reads_149 : decode cX12_reads 149 = .ok (.putfield 228, 3) := by decide +kernel
theorem dX12_reads_152 : decode cX12_reads 152 = .ok (.goto 121, 3) := by decide +kernel
theorem dX12_reads_155 : decode cX12_reads 155 = .ok (.aload_n 0, 1) := by decide +kernel
theorem dX12_reads_156 : decode cX12_reads 156 = .ok (.iload_n 1, 1) := by decide +kernel
theorem dX12_reads_157 : decode cX12_reads 157 = .ok (.invokevirtual 240, 3) := by decide +kernel
theorem dX12_reads_160 : decode cX12_reads 160 = .ok (.ifCond .eq 100, 3) := by decide +kernel
theorem dX12_reads_163 : decode cX12_reads 163 = .ok (.aload_n 0, 1) := by decide +kernel
theorem dX12_reads_164 : decode cX12_reads 164 = .ok (.iload_n 1, 1) := by decide +kernel
theorem dX12_reads_165 : decode cX12_reads 165 = .ok (.bipush 48, 2) := by decide +kernel
theorem dX12_reads_167 : decode cX12_reads 167 = .ok (.isub, 1) := by decide +kernel
theorem dX12_reads_168 : decode cX12_reads 168 = .ok (.putfield 231, 3) := by decide +kernel
theorem dX12_reads_171 : decode cX12_reads 171 = .ok (.aload_n 0, 1) := by decide +kernel
theorem dX12_reads_172 : decode cX12_reads 172 = .ok (.aload_n 0, 1) := by decide +kernel
theorem dX12_reads_173 : decode cX12_reads 173 = .ok (.aload_n 0, 1) := by decide +kernel
theorem dX12_reads_174 : decode cX12_reads 174 = .ok (.getfield 218, 3) := by decide +kernel
theorem dX12_reads_177 : decode cX12_reads 177 = .ok (.invokevirtual 221, 3) := by decide +kernel
theorem dX12_reads_180 : decode cX12_reads 180 = .ok (.invokevirtual 240, 3) := by decide +kernel
theorem dX12_reads_183 : decode cX12_reads 183 = .ok (.ifCond .eq 56, 3) := by decide +kernel
theorem dX12_reads_186 : decode cX12_reads 186 = .ok (.aload_n 0, 1) := by decide +kernel
theorem dX12_reads_187 : decode cX12_reads 187 = .ok (.aload_n 0, 1) := by decide +kernel
theorem dX12_reads_188 : decode cX12_reads 188 = .ok (.getfield 231, 3) := by decide +kernel
theorem dX12_reads_191 : decode cX12_reads 191 = .ok (.sipush 10000, 3) := by decide +kernel
theorem dX12_reads_194 : decode cX12_reads 194 = .ok (.if_icmp .ge 25, 3) := by decide +kernel
theorem dX12_reads_197 : decode cX12_reads 197 = .ok (.bipush 10, 2) := by decide +kernel
theorem dX12_reads_199 : decode cX12_reads 199 = .ok (.aload_n 0, 1) := by decide +kernel
theorem dX12_reads_200 : decode cX12_reads 200 = .ok (.getfield 231, 3) := by decide +kernel
theorem dX12_reads_203 : decode cX12_reads 203 = .ok (.imul, 1) := by decide +kernel
theorem dX12_reads_204 : decode cX12_reads 204 = .ok (.aload_n 0, 1) := by decide +kernel
theorem dX12_reads_205 : decode cX12_reads 205 = .ok (.aload_n 0, 1) := by decide +kernel
theorem dX12_reads_206 : decode cX12_reads 206 = .ok (.getfield 218, 3) := by decide +kernel
theorem dX12_reads_209 : decode cX12_reads 209 = .ok (.invokevirtual 221, 3) := by decide +kernel
theorem dX12_reads_212 : decode cX12_reads 212 = .ok (.iadd, 1) := by decide +kernel
theorem dX12_reads_213 : decode cX12_reads 213 = .ok (.bipush 48, 2) := by decide +kernel
theorem dX12_reads_215 : decode cX12_reads 215 = .ok (.isub, 1) := by decide +kernel
theorem dX12_reads_216 : decode cX12_reads 216 = .ok (.goto 7, 3) := by decide +kernel
theorem dX12_reads_219 : decode cX12_reads 219 = .ok (.aload_n 0, 1) := by decide +kernel
theorem dX12_reads_220 : decode cX12_reads 220 = .ok (.getfield 231, 3) := by decide +kernel
theorem dX12_reads_223 : decode cX12_reads 223 = .ok (.putfield 231, 3) := by decide +kernel
theorem dX12_reads_226 : decode cX12_reads 226 = .ok (.aload_n 0, 1) := by decide +kernel
theorem dX12_reads_227 : decode cX12_reads 227 = .ok (.aload_n 0, 1) := by decide +kernel
theorem dX12_reads_228 : decode cX12_reads 228 = .ok (.getfield 218, 3) := by decide +kernel
theorem dX12_reads_231 : decode cX12_reads 231 = .ok (.iconst 1, 1) := by decide +kernel
theorem dX12_reads_232 : decode cX12_reads 232 = .ok (.iadd, 1) := by decide +kernel
theorem dX12_reads_233 : decode cX12_reads 233 = .ok (.putfield 218, 3) := by decide +kernel
theorem dX12_reads_236 : decode cX12_reads 236 = .ok (.goto (-65), 3) := by decide +kernel
theorem dX12_reads_239 : decode cX12_reads 239 = .ok (.aload_n 0, 1) := by decide +kernel
theorem dX12_reads_240 : decode cX12_reads 240 = .ok (.getfield 218, 3) := by decide +kernel
theorem dX12_reads_243 : decode cX12_reads 243 = .ok (.aload_n 0, 1) := by decide +kernel
theorem dX12_reads_244 : decode cX12_reads 244 = .ok (.getfield 225, 3) := by decide +kernel
theorem dX12_reads_247 : decode cX12_reads 247 = .ok (.isub, 1) := by decide +kernel
theorem dX12_reads_248 : decode cX12_reads 248 = .ok (.iconst 5, 1) := by decide +kernel
theorem dX12_reads_249 : decode cX12_reads 249 = .ok (.if_icmp .ge 24, 3) := by decide +kernel
theorem dX12_reads_252 : decode cX12_reads 252 = .ok (.aload_n 0, 1) := by decide +kernel
theorem dX12_reads_253 : decode cX12_reads 253 = .ok (.iconst 3, 1) := by decide +kernel
theorem dX12_reads_254 : decode cX12_reads 254 = .ok (.putfield 228, 3) := by decide +kernel
theorem dX12_reads_257 : decode cX12_reads 257 = .ok (.goto 16, 3) := by decide +kernel
theorem dX12_reads_260 : decode cX12_reads 260 = .ok (.aload_n 0, 1) := by decide +kernel
theorem dX12_reads_261 : decode cX12_reads 261 = .ok (.iload_n 1, 1) := by decide +kernel
theorem dX12_reads_262 : decode cX12_reads 262 = .ok (.invokevirtual 243, 3) := by decide +kernel
theorem dX12_reads_265 : decode cX12_reads 265 = .ok (.ifCond .eq 8, 3) := by decide +kernel
theorem dX12_reads_268 : decode cX12_reads 268 = .ok (.aload_n 0, 1) := by decide +kernel
theorem dX12_reads_269 : decode cX12_reads 269 = .ok (.iconst 4, 1) := by decide +kernel
theorem dX12_reads_270 : decode cX12_reads 270 = .ok (.putfield 228, 3) := by decide +kernel
theorem dX12_reads_273 : decode cX12_reads 273 = .ok (.return_, 1) := by decide +kernel
theorem dX12_fails_0 : decode cX12_fails 0 = .ok (.aload_n 0, 1) := by decide +kernel
theorem dX12_fails_1 : decode cX12_fails 1 = .ok (.iload_n 1, 1) := by decide +kernel
theorem dX12_fails_2 : decode cX12_fails 2 = .ok (.putfield 246, 3) := by decide +kernel
theorem dX12_fails_5 : decode cX12_fails 5 = .ok (.aload_n 0, 1) := by decide +kernel
theorem dX12_fails_6 : decode cX12_fails 6 = .ok (.aload_n 0, 1) := by decide +kernel
theorem dX12_fails_7 : decode cX12_fails 7 = .ok (.getfield 225, 3) := by decide +kernel
theorem dX12_fails_10 : decode cX12_fails 10 = .ok (.putfield 249, 3) := by decide +kernel
theorem dX12_fails_13 : decode cX12_fails 13 = .ok (.iconst (-1), 1) := by decide +kernel
theorem dX12_fails_14 : decode cX12_fails 14 = .ok (.ireturn, 1) := by decide +kernel
theorem dX12_isWord_0 : decode cX12_isWord 0 = .ok (.aload_n 0, 1) := by decide +kernel
theorem dX12_isWord_1 : decode cX12_isWord 1 = .ok (.getfield 228, 3) := by decide +kernel
theorem dX12_isWord_4 : decode cX12_isWord 4 = .ok (.iconst 2, 1) := by decide +kernel
theorem dX12_isWord_5 : decode cX12_isWord 5 = .ok (.if_icmp .ne 15, 3) := by decide +kernel
theorem dX12_isWord_8 : decode cX12_isWord 8 = .ok (.aload_n 0, 1) := by decide +kernel
theorem dX12_isWord_9 : decode cX12_isWord 9 = .ok (.getfield 231, 3) := by decide +kernel
theorem dX12_isWord_12 : decode cX12_isWord 12 = .ok (.iload_n 1, 1) := by decide +kernel
theorem dX12_isWord_13 : decode cX12_isWord 13 = .ok (.if_icmp .ne 7, 3) := by decide +kernel
theorem dX12_isWord_16 : decode cX12_isWord 16 = .ok (.iconst 1, 1) := by decide +kernel
theorem dX12_isWord_17 : decode cX12_isWord 17 = .ok (.goto 4, 3) := by decide +kernel
theorem dX12_isWord_20 : decode cX12_isWord 20 = .ok (.iconst 0, 1) := by decide +kernel
theorem dX12_isWord_21 : decode cX12_isWord 21 = .ok (.ireturn, 1) := by decide +kernel
theorem dX12_isSign_0 : decode cX12_isSign 0 = .ok (.aload_n 0, 1) := by decide +kernel
theorem dX12_isSign_1 : decode cX12_isSign 1 = .ok (.getfield 228, 3) := by decide +kernel
theorem dX12_isSign_4 : decode cX12_isSign 4 = .ok (.iconst 4, 1) := by decide +kernel
theorem dX12_isSign_5 : decode cX12_isSign 5 = .ok (.if_icmp .ne 15, 3) := by decide +kernel
theorem dX12_isSign_8 : decode cX12_isSign 8 = .ok (.aload_n 0, 1) := by decide +kernel
theorem dX12_isSign_9 : decode cX12_isSign 9 = .ok (.getfield 231, 3) := by decide +kernel
theorem dX12_isSign_12 : decode cX12_isSign 12 = .ok (.iload_n 1, 1) := by decide +kernel
theorem dX12_isSign_13 : decode cX12_isSign 13 = .ok (.if_icmp .ne 7, 3) := by decide +kernel
theorem dX12_isSign_16 : decode cX12_isSign 16 = .ok (.iconst 1, 1) := by decide +kernel
theorem dX12_isSign_17 : decode cX12_isSign 17 = .ok (.goto 4, 3) := by decide +kernel
theorem dX12_isSign_20 : decode cX12_isSign 20 = .ok (.iconst 0, 1) := by decide +kernel
theorem dX12_isSign_21 : decode cX12_isSign 21 = .ok (.ireturn, 1) := by decide +kernel
theorem dX12_emits_0 : decode cX12_emits 0 = .ok (.aload_n 0, 1) := by decide +kernel
theorem dX12_emits_1 : decode cX12_emits 1 = .ok (.getfield 68, 3) := by decide +kernel
theorem dX12_emits_4 : decode cX12_emits 4 = .ok (.sipush 2400, 3) := by decide +kernel
theorem dX12_emits_7 : decode cX12_emits 7 = .ok (.aload_n 0, 1) := by decide +kernel
theorem dX12_emits_8 : decode cX12_emits 8 = .ok (.getfield 252, 3) := by decide +kernel
theorem dX12_emits_11 : decode cX12_emits 11 = .ok (.iadd, 1) := by decide +kernel
theorem dX12_emits_12 : decode cX12_emits 12 = .ok (.iload_n 1, 1) := by decide +kernel
theorem dX12_emits_13 : decode cX12_emits 13 = .ok (.iastore, 1) := by decide +kernel
theorem dX12_emits_14 : decode cX12_emits 14 = .ok (.aload_n 0, 1) := by decide +kernel
theorem dX12_emits_15 : decode cX12_emits 15 = .ok (.getfield 71, 3) := by decide +kernel
theorem dX12_emits_18 : decode cX12_emits 18 = .ok (.sipush 2400, 3) := by decide +kernel
theorem dX12_emits_21 : decode cX12_emits 21 = .ok (.aload_n 0, 1) := by decide +kernel
theorem dX12_emits_22 : decode cX12_emits 22 = .ok (.getfield 252, 3) := by decide +kernel
theorem dX12_emits_25 : decode cX12_emits 25 = .ok (.iadd, 1) := by decide +kernel
theorem dX12_emits_26 : decode cX12_emits 26 = .ok (.iload_n 2, 1) := by decide +kernel
theorem dX12_emits_27 : decode cX12_emits 27 = .ok (.iastore, 1) := by decide +kernel
theorem dX12_emits_28 : decode cX12_emits 28 = .ok (.aload_n 0, 1) := by decide +kernel
theorem dX12_emits_29 : decode cX12_emits 29 = .ok (.aload_n 0, 1) := by decide +kernel
theorem dX12_emits_30 : decode cX12_emits 30 = .ok (.getfield 252, 3) := by decide +kernel
theorem dX12_emits_33 : decode cX12_emits 33 = .ok (.iconst 1, 1) := by decide +kernel
theorem dX12_emits_34 : decode cX12_emits 34 = .ok (.iadd, 1) := by decide +kernel
theorem dX12_emits_35 : decode cX12_emits 35 = .ok (.putfield 252, 3) := by decide +kernel
theorem dX12_emits_38 : decode cX12_emits 38 = .ok (.return_, 1) := by decide +kernel
theorem dX12_readUnit_0 : decode cX12_readUnit 0 = .ok (.aload_n 0, 1) := by decide +kernel
theorem dX12_readUnit_1 : decode cX12_readUnit 1 = .ok (.getfield 228, 3) := by decide +kernel
theorem dX12_readUnit_4 : decode cX12_readUnit 4 = .ok (.iconst 2, 1) := by decide +kernel
theorem dX12_readUnit_5 : decode cX12_readUnit 5 = .ok (.if_icmp .ne 16, 3) := by decide +kernel
theorem dX12_readUnit_8 : decode cX12_readUnit 8 = .ok (.aload_n 0, 1) := by decide +kernel
theorem dX12_readUnit_9 : decode cX12_readUnit 9 = .ok (.getfield 231, 3) := by decide +kernel
theorem dX12_readUnit_12 : decode cX12_readUnit 12 = .ok (.bipush 6, 2) := by decide +kernel
theorem dX12_readUnit_14 : decode cX12_readUnit 14 = .ok (.if_icmp .lt 7, 3) := by decide +kernel
theorem dX12_readUnit_17 : decode cX12_readUnit 17 = .ok (.iconst 1, 1) := by decide +kernel
theorem dX12_readUnit_18 : decode cX12_readUnit 18 = .ok (.goto 4, 3) := by decide +kernel
theorem dX12_readUnit_21 : decode cX12_readUnit 21 = .ok (.iconst 0, 1) := by decide +kernel
theorem dX12_readUnit_22 : decode cX12_readUnit 22 = .ok (.istore_n 1, 1) := by decide +kernel
theorem dX12_readUnit_23 : decode cX12_readUnit 23 = .ok (.iload_n 1, 1) := by decide +kernel
theorem dX12_readUnit_24 : decode cX12_readUnit 24 = .ok (.ifCond .ne 17, 3) := by decide +kernel
theorem dX12_readUnit_27 : decode cX12_readUnit 27 = .ok (.aload_n 0, 1) := by decide +kernel
theorem dX12_readUnit_28 : decode cX12_readUnit 28 = .ok (.getfield 228, 3) := by decide +kernel
theorem dX12_readUnit_31 : decode cX12_readUnit 31 = .ok (.iconst 3, 1) := by decide +kernel
theorem dX12_readUnit_32 : decode cX12_readUnit 32 = .ok (.if_icmp .eq 9, 3) := by decide +kernel
theorem dX12_readUnit_35 : decode cX12_readUnit 35 = .ok (.aload_n 0, 1) := by decide +kernel
theorem dX12_readUnit_36 : decode cX12_readUnit 36 = .ok (.iconst 1, 1) := by decide +kernel
theorem dX12_readUnit_37 : decode cX12_readUnit 37 = .ok (.invokevirtual 255, 3) := by decide +kernel
theorem dX12_readUnit_40 : decode cX12_readUnit 40 = .ok (.ireturn, 1) := by decide +kernel
theorem dX12_readUnit_41 : decode cX12_readUnit 41 = .ok (.aload_n 0, 1) := by decide +kernel
theorem dX12_readUnit_42 : decode cX12_readUnit 42 = .ok (.iload_n 1, 1) := by decide +kernel
theorem dX12_readUnit_43 : decode cX12_readUnit 43 = .ok (.ifCond .eq 7, 3) := by decide +kernel
theorem dX12_readUnit_46 : decode cX12_readUnit 46 = .ok (.iconst 1, 1) := by decide +kernel
theorem dX12_readUnit_47 : decode cX12_readUnit 47 = .ok (.goto 4, 3) := by decide +kernel
theorem dX12_readUnit_50 : decode cX12_readUnit 50 = .ok (.iconst 0, 1) := by decide +kernel
theorem dX12_readUnit_51 : decode cX12_readUnit 51 = .ok (.iload_n 1, 1) := by decide +kernel
theorem dX12_readUnit_52 : decode cX12_readUnit 52 = .ok (.ifCond .eq 13, 3) := by decide +kernel
theorem dX12_readUnit_55 : decode cX12_readUnit 55 = .ok (.aload_n 0, 1) := by decide +kernel
theorem dX12_readUnit_56 : decode cX12_readUnit 56 = .ok (.getfield 231, 3) := by decide +kernel
theorem dX12_readUnit_59 : decode cX12_readUnit 59 = .ok (.bipush 6, 2) := by decide +kernel
theorem dX12_readUnit_61 : decode cX12_readUnit 61 = .ok (.isub, 1) := by decide +kernel
theorem dX12_readUnit_62 : decode cX12_readUnit 62 = .ok (.goto 7, 3) := by decide +kernel
theorem dX12_readUnit_65 : decode cX12_readUnit 65 = .ok (.aload_n 0, 1) := by decide +kernel
theorem dX12_readUnit_66 : decode cX12_readUnit 66 = .ok (.getfield 231, 3) := by decide +kernel
theorem dX12_readUnit_69 : decode cX12_readUnit 69 = .ok (.invokevirtual 258, 3) := by decide +kernel
theorem dX12_readUnit_72 : decode cX12_readUnit 72 = .ok (.aload_n 0, 1) := by decide +kernel
theorem dX12_readUnit_73 : decode cX12_readUnit 73 = .ok (.invokevirtual 262, 3) := by decide +kernel
theorem dX12_readUnit_76 : decode cX12_readUnit 76 = .ok (.iconst 0, 1) := by decide +kernel
theorem dX12_readUnit_77 : decode cX12_readUnit 77 = .ok (.ireturn, 1) := by decide +kernel
theorem dX12_readProduct_0 : decode cX12_readProduct 0 = .ok (.aload_n 0, 1) := by decide +kernel
theorem dX12_readProduct_1 : decode cX12_readProduct 1 = .ok (.invokevirtual 265, 3) := by decide +kernel
theorem dX12_readProduct_4 : decode cX12_readProduct 4 = .ok (.iconst (-1), 1) := by decide +kernel
theorem dX12_readProduct_5 : decode cX12_readProduct 5 = .ok (.if_icmp .ne 5, 3) := by decide +kernel
theorem dX12_readProduct_8 : decode cX12_readProduct 8 = .ok (.iconst (-1), 1) := by decide +kernel
theorem dX12_readProduct_9 : decode cX12_readProduct 9 = .ok (.ireturn, 1) := by decide +kernel
theorem dX12_readProduct_10 : decode cX12_readProduct 10 = .ok (.aload_n 0, 1) := by decide +kernel
theorem dX12_readProduct_11 : decode cX12_readProduct 11 = .ok (.bipush 42, 2) := by decide +kernel
theorem dX12_readProduct_13 : decode cX12_readProduct 13 = .ok (.invokevirtual 269, 3) := by decide +kernel
theorem dX12_readProduct_16 : decode cX12_readProduct 16 = .ok (.ifCond .ne 12, 3) := by decide +kernel
theorem dX12_readProduct_19 : decode cX12_readProduct 19 = .ok (.aload_n 0, 1) := by decide +kernel
theorem dX12_readProduct_20 : decode cX12_readProduct 20 = .ok (.bipush 47, 2) := by decide +kernel
theorem dX12_readProduct_22 : decode cX12_readProduct 22 = .ok (.invokevirtual 269, 3) := by decide +kernel
theorem dX12_readProduct_25 : decode cX12_readProduct 25 = .ok (.ifCond .eq 76, 3) := by decide +kernel
theorem dX12_readProduct_28 : decode cX12_readProduct 28 = .ok (.aload_n 0, 1) := by decide +kernel
theorem dX12_readProduct_29 : decode cX12_readProduct 29 = .ok (.bipush 42, 2) := by decide +kernel
theorem dX12_readProduct_31 : decode cX12_readProduct 31 = .ok (.invokevirtual 269, 3) := by decide +kernel
theorem dX12_readProduct_34 : decode cX12_readProduct 34 = .ok (.istore_n 1, 1) := by decide +kernel
theorem dX12_readProduct_35 : decode cX12_readProduct 35 = .ok (.aload_n 0, 1) := by decide +kernel
theorem dX12_readProduct_36 : decode cX12_readProduct 36 = .ok (.invokevirtual 262, 3) := by decide +kernel
theorem dX12_readProduct_39 : decode cX12_readProduct 39 = .ok (.iload_n 1, 1) := by decide +kernel
theorem dX12_readProduct_40 : decode cX12_readProduct 40 = .ok (.ifCond .ne 17, 3) := by decide +kernel
theorem dX12_readProduct_43 : decode cX12_readProduct 43 = .ok (.aload_n 0, 1) := by decide +kernel
theorem dX12_readProduct_44 : decode cX12_readProduct 44 = .ok (.getfield 228, 3) := by decide +kernel
theorem dX12_readProduct_47 : decode cX12_readProduct 47 = .ok (.iconst 3, 1) := by decide +kernel
theorem dX12_readProduct_48 : decode cX12_readProduct 48 = .ok (.if_icmp .eq 9, 3) := by decide +kernel
theorem dX12_readProduct_51 : decode cX12_readProduct 51 = .ok (.aload_n 0, 1) := by decide +kernel
theorem dX12_readProduct_52 : decode cX12_readProduct 52 = .ok (.iconst 1, 1) := by decide +kernel
theorem dX12_readProduct_53 : decode cX12_readProduct 53 = .ok (.invokevirtual 255, 3) := by decide +kernel
theorem dX12_readProduct_56 : decode cX12_readProduct 56 = .ok (.ireturn, 1) := by decide +kernel
theorem dX12_readProduct_57 : decode cX12_readProduct 57 = .ok (.iload_n 1, 1) := by decide +kernel
theorem dX12_readProduct_58 : decode cX12_readProduct 58 = .ok (.ifCond .ne 16, 3) := by decide +kernel
theorem dX12_readProduct_61 : decode cX12_readProduct 61 = .ok (.aload_n 0, 1) := by decide +kernel
theorem dX12_readProduct_62 : decode cX12_readProduct 62 = .ok (.getfield 231, 3) := by decide +kernel
theorem dX12_readProduct_65 : decode cX12_readProduct 65 = .ok (.ifCond .ne 9, 3) := by decide +kernel
theorem dX12_readProduct_68 : decode cX12_readProduct 68 = .ok (.aload_n 0, 1) := by decide +kernel
theorem dX12_readProduct_69 : decode cX12_readProduct 69 = .ok (.iconst 2, 1) := by decide +kernel
theorem dX12_readProduct_70 : decode cX12_readProduct 70 = .ok (.invokevirtual 255, 3) := by decide +kernel
theorem dX12_readProduct_73 : decode cX12_readProduct 73 = .ok (.ireturn, 1) := by decide +kernel
theorem dX12_readProduct_74 : decode cX12_readProduct 74 = .ok (.aload_n 0, 1) := by decide +kernel
theorem dX12_readProduct_75 : decode cX12_readProduct 75 = .ok (.invokevirtual 265, 3) := by decide +kernel
theorem dX12_readProduct_78 : decode cX12_readProduct 78 = .ok (.iconst (-1), 1) := by decide +kernel
theorem dX12_readProduct_79 : decode cX12_readProduct 79 = .ok (.if_icmp .ne 5, 3) := by decide +kernel
theorem dX12_readProduct_82 : decode cX12_readProduct 82 = .ok (.iconst (-1), 1) := by decide +kernel
theorem dX12_readProduct_83 : decode cX12_readProduct 83 = .ok (.ireturn, 1) := by decide +kernel
theorem dX12_readProduct_84 : decode cX12_readProduct 84 = .ok (.aload_n 0, 1) := by decide +kernel
theorem dX12_readProduct_85 : decode cX12_readProduct 85 = .ok (.iload_n 1, 1) := by decide +kernel
theorem dX12_readProduct_86 : decode cX12_readProduct 86 = .ok (.ifCond .eq 7, 3) := by decide +kernel
theorem dX12_readProduct_89 : decode cX12_readProduct 89 = .ok (.iconst 4, 1) := by decide +kernel
theorem dX12_readProduct_90 : decode cX12_readProduct 90 = .ok (.goto 4, 3) := by decide +kernel
theorem dX12_readProduct_93 : decode cX12_readProduct 93 = .ok (.iconst 5, 1) := by decide +kernel
theorem dX12_readProduct_94 : decode cX12_readProduct 94 = .ok (.iconst 0, 1) := by decide +kernel
theorem dX12_readProduct_95 : decode cX12_readProduct 95 = .ok (.invokevirtual 258, 3) := by decide +kernel
theorem dX12_readProduct_98 : decode cX12_readProduct 98 = .ok (.goto (-88), 3) := by decide +kernel
theorem dX12_readProduct_101 : decode cX12_readProduct 101 = .ok (.iconst 0, 1) := by decide +kernel
theorem dX12_readProduct_102 : decode cX12_readProduct 102 = .ok (.ireturn, 1) := by decide +kernel
theorem dX12_readSum_0 : decode cX12_readSum 0 = .ok (.aload_n 0, 1) := by decide +kernel
theorem dX12_readSum_1 : decode cX12_readSum 1 = .ok (.invokevirtual 272, 3) := by decide +kernel
theorem dX12_readSum_4 : decode cX12_readSum 4 = .ok (.iconst (-1), 1) := by decide +kernel
theorem dX12_readSum_5 : decode cX12_readSum 5 = .ok (.if_icmp .ne 5, 3) := by decide +kernel
theorem dX12_readSum_8 : decode cX12_readSum 8 = .ok (.iconst (-1), 1) := by decide +kernel
theorem dX12_readSum_9 : decode cX12_readSum 9 = .ok (.ireturn, 1) := by decide +kernel
theorem dX12_readSum_10 : decode cX12_readSum 10 = .ok (.aload_n 0, 1) := by decide +kernel
theorem dX12_readSum_11 : decode cX12_readSum 11 = .ok (.bipush 43, 2) := by decide +kernel
theorem dX12_readSum_13 : decode cX12_readSum 13 = .ok (.invokevirtual 269, 3) := by decide +kernel
theorem dX12_readSum_16 : decode cX12_readSum 16 = .ok (.ifCond .ne 12, 3) := by decide +kernel
theorem dX12_readSum_19 : decode cX12_readSum 19 = .ok (.aload_n 0, 1) := by decide +kernel
theorem dX12_readSum_20 : decode cX12_readSum 20 = .ok (.bipush 45, 2) := by decide +kernel
theorem dX12_readSum_22 : decode cX12_readSum 22 = .ok (.invokevirtual 269, 3) := by decide +kernel
theorem dX12_readSum_25 : decode cX12_readSum 25 = .ok (.ifCond .eq 41, 3) := by decide +kernel
theorem dX12_readSum_28 : decode cX12_readSum 28 = .ok (.aload_n 0, 1) := by decide +kernel
theorem dX12_readSum_29 : decode cX12_readSum 29 = .ok (.getfield 231, 3) := by decide +kernel
theorem dX12_readSum_32 : decode cX12_readSum 32 = .ok (.bipush 43, 2) := by decide +kernel
theorem dX12_readSum_34 : decode cX12_readSum 34 = .ok (.if_icmp .ne 7, 3) := by decide +kernel
theorem dX12_readSum_37 : decode cX12_readSum 37 = .ok (.iconst 2, 1) := by decide +kernel
theorem dX12_readSum_38 : decode cX12_readSum 38 = .ok (.goto 4, 3) := by decide +kernel
theorem dX12_readSum_41 : decode cX12_readSum 41 = .ok (.iconst 3, 1) := by decide +kernel
theorem dX12_readSum_42 : decode cX12_readSum 42 = .ok (.istore_n 1, 1) := by decide +kernel
theorem dX12_readSum_43 : decode cX12_readSum 43 = .ok (.aload_n 0, 1) := by decide +kernel
theorem dX12_readSum_44 : decode cX12_readSum 44 = .ok (.invokevirtual 262, 3) := by decide +kernel
theorem dX12_readSum_47 : decode cX12_readSum 47 = .ok (.aload_n 0, 1) := by decide +kernel
theorem dX12_readSum_48 : decode cX12_readSum 48 = .ok (.invokevirtual 272, 3) := by decide +kernel
theorem dX12_readSum_51 : decode cX12_readSum 51 = .ok (.iconst (-1), 1) := by decide +kernel
theorem dX12_readSum_52 : decode cX12_readSum 52 = .ok (.if_icmp .ne 5, 3) := by decide +kernel
theorem dX12_readSum_55 : decode cX12_readSum 55 = .ok (.iconst (-1), 1) := by decide +kernel
theorem dX12_readSum_56 : decode cX12_readSum 56 = .ok (.ireturn, 1) := by decide +kernel
theorem dX12_readSum_57 : decode cX12_readSum 57 = .ok (.aload_n 0, 1) := by decide +kernel
theorem dX12_readSum_58 : decode cX12_readSum 58 = .ok (.iload_n 1, 1) := by decide +kernel
theorem dX12_readSum_59 : decode cX12_readSum 59 = .ok (.iconst 0, 1) := by decide +kernel
theorem dX12_readSum_60 : decode cX12_readSum 60 = .ok (.invokevirtual 258, 3) := by decide +kernel
theorem dX12_readSum_63 : decode cX12_readSum 63 = .ok (.goto (-53), 3) := by decide +kernel
theorem dX12_readSum_66 : decode cX12_readSum 66 = .ok (.iconst 0, 1) := by decide +kernel
theorem dX12_readSum_67 : decode cX12_readSum 67 = .ok (.ireturn, 1) := by decide +kernel
theorem dX12_readCompared_0 : decode cX12_readCompared 0 = .ok (.aload_n 0, 1) := by decide +kernel
theorem dX12_readCompared_1 : decode cX12_readCompared 1 = .ok (.invokevirtual 275, 3) := by decide +kernel
theorem dX12_readCompared_4 : decode cX12_readCompared 4 = .ok (.iconst (-1), 1) := by decide +kernel
theorem dX12_readCompared_5 : decode cX12_readCompared 5 = .ok (.if_icmp .ne 5, 3) := by decide +kernel
theorem dX12_readCompared_8 : decode cX12_readCompared 8 = .ok (.iconst (-1), 1) := by decide +kernel
theorem dX12_readCompared_9 : decode cX12_readCompared 9 = .ok (.ireturn, 1) := by decide +kernel
theorem dX12_readCompared_10 : decode cX12_readCompared 10 = .ok (.aload_n 0, 1) := by decide +kernel
theorem dX12_readCompared_11 : decode cX12_readCompared 11 = .ok (.bipush 60, 2) := by decide +kernel
theorem dX12_readCompared_13 : decode cX12_readCompared 13 = .ok (.invokevirtual 269, 3) := by decide +kernel
theorem dX12_readCompared_16 : decode cX12_readCompared 16 = .ok (.ifCond .ne 27, 3) := by decide +kernel
theorem dX12_readCompared_19 : decode cX12_readCompared 19 = .ok (.aload_n 0, 1) := by decide +kernel
theorem dX12_readCompared_20 : decode cX12_readCompared 20 = .ok (.bipush 61, 2) := by decide +kernel
theorem dX12_readCompared_22 : decode cX12_readCompared 22 = .ok (.invokevirtual 269, 3) := by decide +kernel
theorem dX12_readCompared_25 : decode cX12_readCompared 25 = .ok (.ifCond .ne 18, 3) := by decide +kernel
theorem dX12_readCompared_28 : decode cX12_readCompared 28 = .ok (.aload_n 0, 1) := by decide +kernel
theorem dX12_readCompared_29 : decode cX12_readCompared 29 = .ok (.bipush 62, 2) := by decide +kernel
theorem dX12_readCompared_31 : decode cX12_readCompared 31 = .ok (.invokevirtual 269, 3) := by decide +kernel
theorem dX12_readCompared_34 : decode cX12_readCompared 34 = .ok (.ifCond .ne 9, 3) := by decide +kernel
theorem dX12_readCompared_37 : decode cX12_readCompared 37 = .ok (.aload_n 0, 1) := by decide +kernel
theorem dX12_readCompared_38 : decode cX12_readCompared 38 = .ok (.iconst 1, 1) := by decide +kernel
theorem dX12_readCompared_39 : decode cX12_readCompared 39 = .ok (.invokevirtual 255, 3) := by decide +kernel
theorem dX12_readCompared_42 : decode cX12_readCompared 42 = .ok (.ireturn, 1) := by decide +kernel
theorem dX12_readCompared_43 : decode cX12_readCompared 43 = .ok (.aload_n 0, 1) := by decide +kernel
theorem dX12_readCompared_44 : decode cX12_readCompared 44 = .ok (.getfield 231, 3) := by decide +kernel
theorem dX12_readCompared_47 : decode cX12_readCompared 47 = .ok (.bipush 60, 2) := by decide +kernel
theorem dX12_readCompared_49 : decode cX12_readCompared 49 = .ok (.if_icmp .ne 8, 3) := by decide +kernel
theorem dX12_readCompared_52 : decode cX12_readCompared 52 = .ok (.bipush 6, 2) := by decide +kernel
theorem dX12_readCompared_54 : decode cX12_readCompared 54 = .ok (.goto 19, 3) := by decide +kernel
theorem dX12_readCompared_57 : decode cX12_readCompared 57 = .ok (.aload_n 0, 1) := by decide +kernel
theorem dX12_readCompared_58 : decode cX12_readCompared 58 = .ok (.getfield 231, 3) := by decide +kernel
theorem dX12_readCompared_61 : decode cX12_readCompared 61 = .ok (.bipush 61, 2) := by decide +kernel
theorem dX12_readCompared_63 : decode cX12_readCompared 63 = .ok (.if_icmp .ne 8, 3) := by decide +kernel
theorem dX12_readCompared_66 : decode cX12_readCompared 66 = .ok (.bipush 7, 2) := by decide +kernel
theorem dX12_readCompared_68 : decode cX12_readCompared 68 = .ok (.goto 5, 3) := by decide +kernel
theorem dX12_readCompared_71 : decode cX12_readCompared 71 = .ok (.bipush 8, 2) := by decide +kernel
theorem dX12_readCompared_73 : decode cX12_readCompared 73 = .ok (.istore_n 1, 1) := by decide +kernel
theorem dX12_readCompared_74 : decode cX12_readCompared 74 = .ok (.aload_n 0, 1) := by decide +kernel
theorem dX12_readCompared_75 : decode cX12_readCompared 75 = .ok (.invokevirtual 262, 3) := by decide +kernel
theorem dX12_readCompared_78 : decode cX12_readCompared 78 = .ok (.aload_n 0, 1) := by decide +kernel
theorem dX12_readCompared_79 : decode cX12_readCompared 79 = .ok (.invokevirtual 275, 3) := by decide +kernel
theorem dX12_readCompared_82 : decode cX12_readCompared 82 = .ok (.iconst (-1), 1) := by decide +kernel
theorem dX12_readCompared_83 : decode cX12_readCompared 83 = .ok (.if_icmp .ne 5, 3) := by decide +kernel
theorem dX12_readCompared_86 : decode cX12_readCompared 86 = .ok (.iconst (-1), 1) := by decide +kernel
theorem dX12_readCompared_87 : decode cX12_readCompared 87 = .ok (.ireturn, 1) := by decide +kernel
theorem dX12_readCompared_88 : decode cX12_readCompared 88 = .ok (.aload_n 0, 1) := by decide +kernel
theorem dX12_readCompared_89 : decode cX12_readCompared 89 = .ok (.iload_n 1, 1) := by decide +kernel
theorem dX12_readCompared_90 : decode cX12_readCompared 90 = .ok (.iconst 0, 1) := by decide +kernel
theorem dX12_readCompared_91 : decode cX12_readCompared 91 = .ok (.invokevirtual 258, 3) := by decide +kernel
theorem dX12_readCompared_94 : decode cX12_readCompared 94 = .ok (.iconst 0, 1) := by decide +kernel
theorem dX12_readCompared_95 : decode cX12_readCompared 95 = .ok (.ireturn, 1) := by decide +kernel
theorem dX12_waitsFor_0 : decode cX12_waitsFor 0 = .ok (.aload_n 0, 1) := by decide +kernel
theorem dX12_waitsFor_1 : decode cX12_waitsFor 1 = .ok (.getfield 74, 3) := by decide +kernel
theorem dX12_waitsFor_4 : decode cX12_waitsFor 4 = .ok (.aload_n 0, 1) := by decide +kernel
theorem dX12_waitsFor_5 : decode cX12_waitsFor 5 = .ok (.getfield 278, 3) := by decide +kernel
theorem dX12_waitsFor_8 : decode cX12_waitsFor 8 = .ok (.iload_n 1, 1) := by decide +kernel
theorem dX12_waitsFor_9 : decode cX12_waitsFor 9 = .ok (.iastore, 1) := by decide +kernel
theorem dX12_waitsFor_10 : decode cX12_waitsFor 10 = .ok (.aload_n 0, 1) := by decide +kernel
theorem dX12_waitsFor_11 : decode cX12_waitsFor 11 = .ok (.aload_n 0, 1) := by decide +kernel
theorem dX12_waitsFor_12 : decode cX12_waitsFor 12 = .ok (.getfield 278, 3) := by decide +kernel
theorem dX12_waitsFor_15 : decode cX12_waitsFor 15 = .ok (.iconst 1, 1) := by decide +kernel
theorem dX12_waitsFor_16 : decode cX12_waitsFor 16 = .ok (.iadd, 1) := by decide +kernel
theorem dX12_waitsFor_17 : decode cX12_waitsFor 17 = .ok (.putfield 278, 3) := by decide +kernel
theorem dX12_waitsFor_20 : decode cX12_waitsFor 20 = .ok (.return_, 1) := by decide +kernel
theorem dX12_settles_0 : decode cX12_settles 0 = .ok (.aload_n 0, 1) := by decide +kernel
theorem dX12_settles_1 : decode cX12_settles 1 = .ok (.getfield 278, 3) := by decide +kernel
theorem dX12_settles_4 : decode cX12_settles 4 = .ok (.ifCond .le 53, 3) := by decide +kernel
theorem dX12_settles_7 : decode cX12_settles 7 = .ok (.aload_n 0, 1) := by decide +kernel
theorem dX12_settles_8 : decode cX12_settles 8 = .ok (.getfield 74, 3) := by decide +kernel
theorem dX12_settles_11 : decode cX12_settles 11 = .ok (.aload_n 0, 1) := by decide +kernel
theorem dX12_settles_12 : decode cX12_settles 12 = .ok (.getfield 278, 3) := by decide +kernel
theorem dX12_settles_15 : decode cX12_settles 15 = .ok (.iconst 1, 1) := by decide +kernel
theorem dX12_settles_16 : decode cX12_settles 16 = .ok (.isub, 1) := by decide +kernel
theorem dX12_settles_17 : decode cX12_settles 17 = .ok (.iaload, 1) := by decide +kernel
theorem dX12_settles_18 : decode cX12_settles 18 = .ok (.iload_n 1, 1) := by decide +kernel
theorem dX12_settles_19 : decode cX12_settles 19 = .ok (.if_icmp .ne 38, 3) := by decide +kernel
theorem dX12_settles_22 : decode cX12_settles 22 = .ok (.aload_n 0, 1) := by decide +kernel
theorem dX12_settles_23 : decode cX12_settles 23 = .ok (.aload_n 0, 1) := by decide +kernel
theorem dX12_settles_24 : decode cX12_settles 24 = .ok (.getfield 278, 3) := by decide +kernel
theorem dX12_settles_27 : decode cX12_settles 27 = .ok (.iconst 1, 1) := by decide +kernel
theorem dX12_settles_28 : decode cX12_settles 28 = .ok (.isub, 1) := by decide +kernel
theorem dX12_settles_29 : decode cX12_settles 29 = .ok (.putfield 278, 3) := by decide +kernel
theorem dX12_settles_32 : decode cX12_settles 32 = .ok (.aload_n 0, 1) := by decide +kernel
theorem dX12_settles_33 : decode cX12_settles 33 = .ok (.iload_n 1, 1) := by decide +kernel
theorem dX12_settles_34 : decode cX12_settles 34 = .ok (.iconst 0, 1) := by decide +kernel
theorem dX12_settles_35 : decode cX12_settles 35 = .ok (.invokevirtual 258, 3) := by decide +kernel
theorem dX12_settles_38 : decode cX12_settles 38 = .ok (.iload_n 1, 1) := by decide +kernel
theorem dX12_settles_39 : decode cX12_settles 39 = .ok (.bipush 9, 2) := by decide +kernel
theorem dX12_settles_41 : decode cX12_settles 41 = .ok (.if_icmp .ne (-41), 3) := by decide +kernel
theorem dX12_settles_44 : decode cX12_settles 44 = .ok (.aload_n 0, 1) := by decide +kernel
theorem dX12_settles_45 : decode cX12_settles 45 = .ok (.aload_n 0, 1) := by decide +kernel
theorem dX12_settles_46 : decode cX12_settles 46 = .ok (.getfield 281, 3) := by decide +kernel
theorem dX12_settles_49 : decode cX12_settles 49 = .ok (.iconst 1, 1) := by decide +kernel
theorem dX12_settles_50 : decode cX12_settles 50 = .ok (.isub, 1) := by decide +kernel
theorem dX12_settles_51 : decode cX12_settles 51 = .ok (.putfield 281, 3) := by decide +kernel
theorem dX12_settles_54 : decode cX12_settles 54 = .ok (.goto (-54), 3) := by decide +kernel
theorem dX12_settles_57 : decode cX12_settles 57 = .ok (.return_, 1) := by decide +kernel
theorem dX12_readAny_0 : decode cX12_readAny 0 = .ok (.iconst 0, 1) := by decide +kernel
theorem dX12_readAny_1 : decode cX12_readAny 1 = .ok (.istore_n 1, 1) := by decide +kernel
theorem dX12_readAny_2 : decode cX12_readAny 2 = .ok (.aload_n 0, 1) := by decide +kernel
theorem dX12_readAny_3 : decode cX12_readAny 3 = .ok (.iconst 0, 1) := by decide +kernel
theorem dX12_readAny_4 : decode cX12_readAny 4 = .ok (.putfield 278, 3) := by decide +kernel
theorem dX12_readAny_7 : decode cX12_readAny 7 = .ok (.iconst 1, 1) := by decide +kernel
theorem dX12_readAny_8 : decode cX12_readAny 8 = .ok (.istore_n 2, 1) := by decide +kernel
theorem dX12_readAny_9 : decode cX12_readAny 9 = .ok (.iload_n 2, 1) := by decide +kernel
theorem dX12_readAny_10 : decode cX12_readAny 10 = .ok (.ifCond .eq 98, 3) := by decide +kernel
theorem dX12_readAny_13 : decode cX12_readAny 13 = .ok (.aload_n 0, 1) := by decide +kernel
theorem dX12_readAny_14 : decode cX12_readAny 14 = .ok (.iconst 5, 1) := by decide +kernel
theorem dX12_readAny_15 : decode cX12_readAny 15 = .ok (.invokevirtual 284, 3) := by decide +kernel
theorem dX12_readAny_18 : decode cX12_readAny 18 = .ok (.istore_n 3, 1) := by decide +kernel
theorem dX12_readAny_19 : decode cX12_readAny 19 = .ok (.iload_n 3, 1) := by decide +kernel
theorem dX12_readAny_20 : decode cX12_readAny 20 = .ok (.ifCond .ne 12, 3) := by decide +kernel
theorem dX12_readAny_23 : decode cX12_readAny 23 = .ok (.aload_n 0, 1) := by decide +kernel
theorem dX12_readAny_24 : decode cX12_readAny 24 = .ok (.bipush 40, 2) := by decide +kernel
theorem dX12_readAny_26 : decode cX12_readAny 26 = .ok (.invokevirtual 269, 3) := by decide +kernel
theorem dX12_readAny_29 : decode cX12_readAny 29 = .ok (.ifCond .eq 58, 3) := by decide +kernel
theorem dX12_readAny_32 : decode cX12_readAny 32 = .ok (.aload_n 0, 1) := by decide +kernel
theorem dX12_readAny_33 : decode cX12_readAny 33 = .ok (.getfield 281, 3) := by decide +kernel
theorem dX12_readAny_36 : decode cX12_readAny 36 = .ok (.bipush 8, 2) := by decide +kernel
theorem dX12_readAny_38 : decode cX12_readAny 38 = .ok (.if_icmp .ne 9, 3) := by decide +kernel
theorem dX12_readAny_41 : decode cX12_readAny 41 = .ok (.aload_n 0, 1) := by decide +kernel
theorem dX12_readAny_42 : decode cX12_readAny 42 = .ok (.iconst 3, 1) := by decide +kernel
theorem dX12_readAny_43 : decode cX12_readAny 43 = .ok (.invokevirtual 255, 3) := by decide +kernel
theorem dX12_readAny_46 : decode cX12_readAny 46 = .ok (.ireturn, 1) := by decide +kernel
theorem dX12_readAny_47 : decode cX12_readAny 47 = .ok (.aload_n 0, 1) := by decide +kernel
theorem dX12_readAny_48 : decode cX12_readAny 48 = .ok (.aload_n 0, 1) := by decide +kernel
theorem dX12_readAny_49 : decode cX12_readAny 49 = .ok (.getfield 281, 3) := by decide +kernel
theorem dX12_readAny_52 : decode cX12_readAny 52 = .ok (.iconst 1, 1) := by decide +kernel
theorem dX12_readAny_53 : decode cX12_readAny 53 = .ok (.iadd, 1) := by decide +kernel
theorem dX12_readAny_54 : decode cX12_readAny 54 = .ok (.putfield 281, 3) := by decide +kernel
theorem dX12_readAny_57 : decode cX12_readAny 57 = .ok (.iload_n 3, 1) := by decide +kernel
theorem dX12_readAny_58 : decode cX12_readAny 58 = .ok (.ifCond .ne 7, 3) := by decide +kernel
theorem dX12_readAny_61 : decode cX12_readAny 61 = .ok (.iload_n 1, 1) := by decide +kernel
theorem dX12_readAny_62 : decode cX12_readAny 62 = .ok (.iconst 1, 1) := by decide +kernel
theorem dX12_readAny_63 : decode cX12_readAny 63 = .ok (.iadd, 1) := by decide +kernel
theorem dX12_readAny_64 : decode cX12_readAny 64 = .ok (.istore_n 1, 1) := by decide +kernel
theorem dX12_readAny_65 : decode cX12_readAny 65 = .ok (.aload_n 0, 1) := by decide +kernel
theorem dX12_readAny_66 : decode cX12_readAny 66 = .ok (.iload_n 3, 1) := by decide +kernel
theorem dX12_readAny_67 : decode cX12_readAny 67 = .ok (.ifCond .eq 8, 3) := by decide +kernel
theorem dX12_readAny_70 : decode cX12_readAny 70 = .ok (.bipush 9, 2) := by decide +kernel
theorem dX12_readAny_72 : decode cX12_readAny 72 = .ok (.goto 5, 3) := by decide +kernel
theorem dX12_readAny_75 : decode cX12_readAny 75 = .ok (.bipush 12, 2) := by decide +kernel
theorem dX12_readAny_77 : decode cX12_readAny 77 = .ok (.invokevirtual 287, 3) := by decide +kernel
theorem dX12_readAny_80 : decode cX12_readAny 80 = .ok (.aload_n 0, 1) := by decide +kernel
theorem dX12_readAny_81 : decode cX12_readAny 81 = .ok (.invokevirtual 262, 3) := by decide +kernel
theorem dX12_readAny_84 : decode cX12_readAny 84 = .ok (.goto (-75), 3) := by decide +kernel
theorem dX12_readAny_87 : decode cX12_readAny 87 = .ok (.aload_n 0, 1) := by decide +kernel
theorem dX12_readAny_88 : decode cX12_readAny 88 = .ok (.invokevirtual 290, 3) := by decide +kernel
theorem dX12_readAny_91 : decode cX12_readAny 91 = .ok (.iconst (-1), 1) := by decide +kernel
theorem dX12_readAny_92 : decode cX12_readAny 92 = .ok (.if_icmp .ne 5, 3) := by decide +kernel
theorem dX12_readAny_95 : decode cX12_readAny 95 = .ok (.iconst (-1), 1) := by decide +kernel
theorem dX12_readAny_96 : decode cX12_readAny 96 = .ok (.ireturn, 1) := by decide +kernel
theorem dX12_readAny_97 : decode cX12_readAny 97 = .ok (.aload_n 0, 1) := by decide +kernel
theorem dX12_readAny_98 : decode cX12_readAny 98 = .ok (.bipush 9, 2) := by decide +kernel
theorem dX12_readAny_100 : decode cX12_readAny 100 = .ok (.invokevirtual 293, 3) := by decide +kernel
theorem dX12_readAny_103 : decode cX12_readAny 103 = .ok (.iconst 0, 1) := by decide +kernel
theorem dX12_readAny_104 : decode cX12_readAny 104 = .ok (.istore_n 2, 1) := by decide +kernel
theorem dX12_readAny_105 : decode cX12_readAny 105 = .ok (.goto (-96), 3) := by decide +kernel
theorem dX12_readAny_108 : decode cX12_readAny 108 = .ok (.aload_n 0, 1) := by decide +kernel
theorem dX12_readAny_109 : decode cX12_readAny 109 = .ok (.iconst 4, 1) := by decide +kernel
theorem dX12_readAny_110 : decode cX12_readAny 110 = .ok (.invokevirtual 284, 3) := by decide +kernel
theorem dX12_readAny_113 : decode cX12_readAny 113 = .ok (.ifCond .eq 24, 3) := by decide +kernel
theorem dX12_readAny_116 : decode cX12_readAny 116 = .ok (.aload_n 0, 1) := by decide +kernel
theorem dX12_readAny_117 : decode cX12_readAny 117 = .ok (.bipush 10, 2) := by decide +kernel
theorem dX12_readAny_119 : decode cX12_readAny 119 = .ok (.invokevirtual 293, 3) := by decide +kernel
theorem dX12_readAny_122 : decode cX12_readAny 122 = .ok (.aload_n 0, 1) := by decide +kernel
theorem dX12_readAny_123 : decode cX12_readAny 123 = .ok (.bipush 10, 2) := by decide +kernel
theorem dX12_readAny_125 : decode cX12_readAny 125 = .ok (.invokevirtual 287, 3) := by decide +kernel
theorem dX12_readAny_128 : decode cX12_readAny 128 = .ok (.aload_n 0, 1) := by decide +kernel
theorem dX12_readAny_129 : decode cX12_readAny 129 = .ok (.invokevirtual 262, 3) := by decide +kernel
theorem dX12_readAny_132 : decode cX12_readAny 132 = .ok (.iconst 1, 1) := by decide +kernel
theorem dX12_readAny_133 : decode cX12_readAny 133 = .ok (.istore_n 2, 1) := by decide +kernel
theorem dX12_readAny_134 : decode cX12_readAny 134 = .ok (.goto (-125), 3) := by decide +kernel
theorem dX12_readAny_137 : decode cX12_readAny 137 = .ok (.aload_n 0, 1) := by decide +kernel
theorem dX12_readAny_138 : decode cX12_readAny 138 = .ok (.iconst 3, 1) := by decide +kernel
theorem dX12_readAny_139 : decode cX12_readAny 139 = .ok (.invokevirtual 284, 3) := by decide +kernel
theorem dX12_readAny_142 : decode cX12_readAny 142 = .ok (.ifCond .eq 30, 3) := by decide +kernel
theorem dX12_readAny_145 : decode cX12_readAny 145 = .ok (.aload_n 0, 1) := by decide +kernel
theorem dX12_readAny_146 : decode cX12_readAny 146 = .ok (.bipush 10, 2) := by decide +kernel
theorem dX12_readAny_148 : decode cX12_readAny 148 = .ok (.invokevirtual 293, 3) := by decide +kernel
theorem dX12_readAny_151 : decode cX12_readAny 151 = .ok (.aload_n 0, 1) := by decide +kernel
theorem dX12_readAny_152 : decode cX12_readAny 152 = .ok (.bipush 11, 2) := by decide +kernel
theorem dX12_readAny_154 : decode cX12_readAny 154 = .ok (.invokevirtual 293, 3) := by decide +kernel
theorem dX12_readAny_157 : decode cX12_readAny 157 = .ok (.aload_n 0, 1) := by decide +kernel
theorem dX12_readAny_158 : decode cX12_readAny 158 = .ok (.bipush 11, 2) := by decide +kernel
theorem dX12_readAny_160 : decode cX12_readAny 160 = .ok (.invokevirtual 287, 3) := by decide +kernel
theorem dX12_readAny_163 : decode cX12_readAny 163 = .ok (.aload_n 0, 1) := by decide +kernel
theorem dX12_readAny_164 : decode cX12_readAny 164 = .ok (.invokevirtual 262, 3) := by decide +kernel
theorem dX12_readAny_167 : decode cX12_readAny 167 = .ok (.iconst 1, 1) := by decide +kernel
theorem dX12_readAny_168 : decode cX12_readAny 168 = .ok (.istore_n 2, 1) := by decide +kernel
theorem dX12_readAny_169 : decode cX12_readAny 169 = .ok (.goto (-160), 3) := by decide +kernel
theorem dX12_readAny_172 : decode cX12_readAny 172 = .ok (.aload_n 0, 1) := by decide +kernel
theorem dX12_readAny_173 : decode cX12_readAny 173 = .ok (.bipush 10, 2) := by decide +kernel
theorem dX12_readAny_175 : decode cX12_readAny 175 = .ok (.invokevirtual 293, 3) := by decide +kernel
theorem dX12_readAny_178 : decode cX12_readAny 178 = .ok (.aload_n 0, 1) := by decide +kernel
theorem dX12_readAny_179 : decode cX12_readAny 179 = .ok (.bipush 11, 2) := by decide +kernel
theorem dX12_readAny_181 : decode cX12_readAny 181 = .ok (.invokevirtual 293, 3) := by decide +kernel
theorem dX12_readAny_184 : decode cX12_readAny 184 = .ok (.iload_n 1, 1) := by decide +kernel
theorem dX12_readAny_185 : decode cX12_readAny 185 = .ok (.ifCond .ne 5, 3) := by decide +kernel
theorem dX12_readAny_188 : decode cX12_readAny 188 = .ok (.iconst 0, 1) := by decide +kernel
theorem dX12_readAny_189 : decode cX12_readAny 189 = .ok (.ireturn, 1) := by decide +kernel
theorem dX12_readAny_190 : decode cX12_readAny 190 = .ok (.aload_n 0, 1) := by decide +kernel
theorem dX12_readAny_191 : decode cX12_readAny 191 = .ok (.bipush 41, 2) := by decide +kernel
theorem dX12_readAny_193 : decode cX12_readAny 193 = .ok (.invokevirtual 269, 3) := by decide +kernel
theorem dX12_readAny_196 : decode cX12_readAny 196 = .ok (.ifCond .ne 9, 3) := by decide +kernel
theorem dX12_readAny_199 : decode cX12_readAny 199 = .ok (.aload_n 0, 1) := by decide +kernel
theorem dX12_readAny_200 : decode cX12_readAny 200 = .ok (.iconst 1, 1) := by decide +kernel
theorem dX12_readAny_201 : decode cX12_readAny 201 = .ok (.invokevirtual 255, 3) := by decide +kernel
theorem dX12_readAny_204 : decode cX12_readAny 204 = .ok (.ireturn, 1) := by decide +kernel
theorem dX12_readAny_205 : decode cX12_readAny 205 = .ok (.aload_n 0, 1) := by decide +kernel
theorem dX12_readAny_206 : decode cX12_readAny 206 = .ok (.aload_n 0, 1) := by decide +kernel
theorem dX12_readAny_207 : decode cX12_readAny 207 = .ok (.getfield 278, 3) := by decide +kernel
theorem dX12_readAny_210 : decode cX12_readAny 210 = .ok (.iconst 1, 1) := by decide +kernel
theorem dX12_readAny_211 : decode cX12_readAny 211 = .ok (.isub, 1) := by decide +kernel
theorem dX12_readAny_212 : decode cX12_readAny 212 = .ok (.putfield 278, 3) := by decide +kernel
theorem dX12_readAny_215 : decode cX12_readAny 215 = .ok (.iload_n 1, 1) := by decide +kernel
theorem dX12_readAny_216 : decode cX12_readAny 216 = .ok (.iconst 1, 1) := by decide +kernel
theorem dX12_readAny_217 : decode cX12_readAny 217 = .ok (.isub, 1) := by decide +kernel
theorem dX12_readAny_218 : decode cX12_readAny 218 = .ok (.istore_n 1, 1) := by decide +kernel
theorem dX12_readAny_219 : decode cX12_readAny 219 = .ok (.aload_n 0, 1) := by decide +kernel
theorem dX12_readAny_220 : decode cX12_readAny 220 = .ok (.aload_n 0, 1) := by decide +kernel
theorem dX12_readAny_221 : decode cX12_readAny 221 = .ok (.getfield 281, 3) := by decide +kernel
theorem dX12_readAny_224 : decode cX12_readAny 224 = .ok (.iconst 1, 1) := by decide +kernel
theorem dX12_readAny_225 : decode cX12_readAny 225 = .ok (.isub, 1) := by decide +kernel
theorem dX12_readAny_226 : decode cX12_readAny 226 = .ok (.putfield 281, 3) := by decide +kernel
theorem dX12_readAny_229 : decode cX12_readAny 229 = .ok (.aload_n 0, 1) := by decide +kernel
theorem dX12_readAny_230 : decode cX12_readAny 230 = .ok (.bipush 9, 2) := by decide +kernel
theorem dX12_readAny_232 : decode cX12_readAny 232 = .ok (.invokevirtual 293, 3) := by decide +kernel
theorem dX12_readAny_235 : decode cX12_readAny 235 = .ok (.aload_n 0, 1) := by decide +kernel
theorem dX12_readAny_236 : decode cX12_readAny 236 = .ok (.invokevirtual 262, 3) := by decide +kernel
theorem dX12_readAny_239 : decode cX12_readAny 239 = .ok (.goto (-230), 3) := by decide +kernel
theorem dX12_readLine_0 : decode cX12_readLine 0 = .ok (.aload_n 0, 1) := by decide +kernel
theorem dX12_readLine_1 : decode cX12_readLine 1 = .ok (.getfield 56, 3) := by decide +kernel
theorem dX12_readLine_4 : decode cX12_readLine 4 = .ok (.iload_n 1, 1) := by decide +kernel
theorem dX12_readLine_5 : decode cX12_readLine 5 = .ok (.aload_n 0, 1) := by decide +kernel
theorem dX12_readLine_6 : decode cX12_readLine 6 = .ok (.getfield 231, 3) := by decide +kernel
theorem dX12_readLine_9 : decode cX12_readLine 9 = .ok (.iastore, 1) := by decide +kernel
theorem dX12_readLine_10 : decode cX12_readLine 10 = .ok (.aload_n 0, 1) := by decide +kernel
theorem dX12_readLine_11 : decode cX12_readLine 11 = .ok (.invokevirtual 262, 3) := by decide +kernel
theorem dX12_readLine_14 : decode cX12_readLine 14 = .ok (.aload_n 0, 1) := by decide +kernel
theorem dX12_readLine_15 : decode cX12_readLine 15 = .ok (.getfield 59, 3) := by decide +kernel
theorem dX12_readLine_18 : decode cX12_readLine 18 = .ok (.iload_n 1, 1) := by decide +kernel
theorem dX12_readLine_19 : decode cX12_readLine 19 = .ok (.aload_n 0, 1) := by decide +kernel
theorem dX12_readLine_20 : decode cX12_readLine 20 = .ok (.getfield 252, 3) := by decide +kernel
theorem dX12_readLine_23 : decode cX12_readLine 23 = .ok (.iastore, 1) := by decide +kernel
theorem dX12_readLine_24 : decode cX12_readLine 24 = .ok (.aload_n 0, 1) := by decide +kernel
theorem dX12_readLine_25 : decode cX12_readLine 25 = .ok (.invokevirtual 275, 3) := by decide +kernel
theorem dX12_readLine_28 : decode cX12_readLine 28 = .ok (.iconst (-1), 1) := by decide +kernel
theorem dX12_readLine_29 : decode cX12_readLine 29 = .ok (.if_icmp .ne 5, 3) := by decide +kernel
theorem dX12_readLine_32 : decode cX12_readLine 32 = .ok (.iconst (-1), 1) := by decide +kernel
theorem dX12_readLine_33 : decode cX12_readLine 33 = .ok (.ireturn, 1) := by decide +kernel
theorem dX12_readLine_34 : decode cX12_readLine 34 = .ok (.aload_n 0, 1) := by decide +kernel
theorem dX12_readLine_35 : decode cX12_readLine 35 = .ok (.getfield 62, 3) := by decide +kernel
theorem dX12_readLine_38 : decode cX12_readLine 38 = .ok (.iload_n 1, 1) := by decide +kernel
theorem dX12_readLine_39 : decode cX12_readLine 39 = .ok (.aload_n 0, 1) := by decide +kernel
theorem dX12_readLine_40 : decode cX12_readLine 40 = .ok (.getfield 252, 3) := by decide +kernel
theorem dX12_readLine_43 : decode cX12_readLine 43 = .ok (.iastore, 1) := by decide +kernel
theorem dX12_readLine_44 : decode cX12_readLine 44 = .ok (.aload_n 0, 1) := by decide +kernel
theorem dX12_readLine_45 : decode cX12_readLine 45 = .ok (.iconst 2, 1) := by decide +kernel
theorem dX12_readLine_46 : decode cX12_readLine 46 = .ok (.invokevirtual 284, 3) := by decide +kernel
theorem dX12_readLine_49 : decode cX12_readLine 49 = .ok (.ifCond .eq 17, 3) := by decide +kernel
theorem dX12_readLine_52 : decode cX12_readLine 52 = .ok (.aload_n 0, 1) := by decide +kernel
theorem dX12_readLine_53 : decode cX12_readLine 53 = .ok (.invokevirtual 262, 3) := by decide +kernel
theorem dX12_readLine_56 : decode cX12_readLine 56 = .ok (.aload_n 0, 1) := by decide +kernel
theorem dX12_readLine_57 : decode cX12_readLine 57 = .ok (.invokevirtual 296, 3) := by decide +kernel
theorem dX12_readLine_60 : decode cX12_readLine 60 = .ok (.iconst (-1), 1) := by decide +kernel
theorem dX12_readLine_61 : decode cX12_readLine 61 = .ok (.if_icmp .ne 5, 3) := by decide +kernel
theorem dX12_readLine_64 : decode cX12_readLine 64 = .ok (.iconst (-1), 1) := by decide +kernel
theorem dX12_readLine_65 : decode cX12_readLine 65 = .ok (.ireturn, 1) := by decide +kernel
theorem dX12_readLine_66 : decode cX12_readLine 66 = .ok (.aload_n 0, 1) := by decide +kernel
theorem dX12_readLine_67 : decode cX12_readLine 67 = .ok (.getfield 65, 3) := by decide +kernel
theorem dX12_readLine_70 : decode cX12_readLine 70 = .ok (.iload_n 1, 1) := by decide +kernel
theorem dX12_readLine_71 : decode cX12_readLine 71 = .ok (.aload_n 0, 1) := by decide +kernel
theorem dX12_readLine_72 : decode cX12_readLine 72 = .ok (.getfield 252, 3) := by decide +kernel
theorem dX12_readLine_75 : decode cX12_readLine 75 = .ok (.iastore, 1) := by decide +kernel
theorem dX12_readLine_76 : decode cX12_readLine 76 = .ok (.aload_n 0, 1) := by decide +kernel
theorem dX12_readLine_77 : decode cX12_readLine 77 = .ok (.bipush 59, 2) := by decide +kernel
theorem dX12_readLine_79 : decode cX12_readLine 79 = .ok (.invokevirtual 269, 3) := by decide +kernel
theorem dX12_readLine_82 : decode cX12_readLine 82 = .ok (.ifCond .ne 9, 3) := by decide +kernel
theorem dX12_readLine_85 : decode cX12_readLine 85 = .ok (.aload_n 0, 1) := by decide +kernel
theorem dX12_readLine_86 : decode cX12_readLine 86 = .ok (.iconst 1, 1) := by decide +kernel
theorem dX12_readLine_87 : decode cX12_readLine 87 = .ok (.invokevirtual 255, 3) := by decide +kernel
theorem dX12_readLine_90 : decode cX12_readLine 90 = .ok (.ireturn, 1) := by decide +kernel
theorem dX12_readLine_91 : decode cX12_readLine 91 = .ok (.aload_n 0, 1) := by decide +kernel
theorem dX12_readLine_92 : decode cX12_readLine 92 = .ok (.invokevirtual 262, 3) := by decide +kernel
theorem dX12_readLine_95 : decode cX12_readLine 95 = .ok (.iconst 0, 1) := by decide +kernel
theorem dX12_readLine_96 : decode cX12_readLine 96 = .ok (.ireturn, 1) := by decide +kernel
theorem dX12_readWay_0 : decode cX12_readWay 0 = .ok (.iconst 0, 1) := by decide +kernel
theorem dX12_readWay_1 : decode cX12_readWay 1 = .ok (.istore_n 1, 1) := by decide +kernel
theorem dX12_readWay_2 : decode cX12_readWay 2 = .ok (.aload_n 0, 1) := by decide +kernel
theorem dX12_readWay_3 : decode cX12_readWay 3 = .ok (.iconst 0, 1) := by decide +kernel
theorem dX12_readWay_4 : decode cX12_readWay 4 = .ok (.putfield 218, 3) := by decide +kernel
theorem dX12_readWay_7 : decode cX12_readWay 7 = .ok (.aload_n 0, 1) := by decide +kernel
theorem dX12_readWay_8 : decode cX12_readWay 8 = .ok (.iconst 0, 1) := by decide +kernel
theorem dX12_readWay_9 : decode cX12_readWay 9 = .ok (.putfield 252, 3) := by decide +kernel
theorem dX12_readWay_12 : decode cX12_readWay 12 = .ok (.aload_n 0, 1) := by decide +kernel
theorem dX12_readWay_13 : decode cX12_readWay 13 = .ok (.iconst 0, 1) := by decide +kernel
theorem dX12_readWay_14 : decode cX12_readWay 14 = .ok (.putfield 281, 3) := by decide +kernel
theorem dX12_readWay_17 : decode cX12_readWay 17 = .ok (.aload_n 0, 1) := by decide +kernel
theorem dX12_readWay_18 : decode cX12_readWay 18 = .ok (.invokevirtual 262, 3) := by decide +kernel
theorem dX12_readWay_21 : decode cX12_readWay 21 = .ok (.aload_n 0, 1) := by decide +kernel
theorem dX12_readWay_22 : decode cX12_readWay 22 = .ok (.iconst 0, 1) := by decide +kernel
theorem dX12_readWay_23 : decode cX12_readWay 23 = .ok (.invokevirtual 284, 3) := by decide +kernel
theorem dX12_readWay_26 : decode cX12_readWay 26 = .ok (.ifCond .ne 11, 3) := by decide +kernel
theorem dX12_readWay_29 : decode cX12_readWay 29 = .ok (.aload_n 0, 1) := by decide +kernel
theorem dX12_readWay_30 : decode cX12_readWay 30 = .ok (.iconst 1, 1) := by decide +kernel
theorem dX12_readWay_31 : decode cX12_readWay 31 = .ok (.invokevirtual 284, 3) := by decide +kernel
theorem dX12_readWay_34 : decode cX12_readWay 34 = .ok (.ifCond .eq 36, 3) := by decide +kernel
theorem dX12_readWay_37 : decode cX12_readWay 37 = .ok (.iload_n 1, 1) := by decide +kernel
theorem dX12_readWay_38 : decode cX12_readWay 38 = .ok (.bipush 12, 2) := by decide +kernel
theorem dX12_readWay_40 : decode cX12_readWay 40 = .ok (.if_icmp .ne 9, 3) := by decide +kernel
theorem dX12_readWay_43 : decode cX12_readWay 43 = .ok (.aload_n 0, 1) := by decide +kernel
theorem dX12_readWay_44 : decode cX12_readWay 44 = .ok (.iconst 3, 1) := by decide +kernel
theorem dX12_readWay_45 : decode cX12_readWay 45 = .ok (.invokevirtual 255, 3) := by decide +kernel
theorem dX12_readWay_48 : decode cX12_readWay 48 = .ok (.ireturn, 1) := by decide +kernel
theorem dX12_readWay_49 : decode cX12_readWay 49 = .ok (.aload_n 0, 1) := by decide +kernel
theorem dX12_readWay_50 : decode cX12_readWay 50 = .ok (.bipush 72, 2) := by decide +kernel
theorem dX12_readWay_52 : decode cX12_readWay 52 = .ok (.iload_n 1, 1) := by decide +kernel
theorem dX12_readWay_53 : decode cX12_readWay 53 = .ok (.iadd, 1) := by decide +kernel
theorem dX12_readWay_54 : decode cX12_readWay 54 = .ok (.invokevirtual 299, 3) := by decide +kernel
theorem dX12_readWay_57 : decode cX12_readWay 57 = .ok (.iconst (-1), 1) := by decide +kernel
theorem dX12_readWay_58 : decode cX12_readWay 58 = .ok (.if_icmp .ne 5, 3) := by decide +kernel
theorem dX12_readWay_61 : decode cX12_readWay 61 = .ok (.iconst (-1), 1) := by decide +kernel
