theorem dX12_readWay_62 : decode cX12_readWay 62 = .ok (.ireturn, 1) := by decide +kernel
theorem dX12_readWay_63 : decode cX12_readWay 63 = .ok (.iload_n 1, 1) := by decide +kernel
theorem dX12_readWay_64 : decode cX12_readWay 64 = .ok (.iconst 1, 1) := by decide +kernel
theorem dX12_readWay_65 : decode cX12_readWay 65 = .ok (.iadd, 1) := by decide +kernel
theorem dX12_readWay_66 : decode cX12_readWay 66 = .ok (.istore_n 1, 1) := by decide +kernel
theorem dX12_readWay_67 : decode cX12_readWay 67 = .ok (.goto (-46), 3) := by decide +kernel
theorem dX12_readWay_70 : decode cX12_readWay 70 = .ok (.aload_n 0, 1) := by decide +kernel
theorem dX12_readWay_71 : decode cX12_readWay 71 = .ok (.getfield 228, 3) := by decide +kernel
theorem dX12_readWay_74 : decode cX12_readWay 74 = .ok (.ifCond .ne 7, 3) := by decide +kernel
theorem dX12_readWay_77 : decode cX12_readWay 77 = .ok (.iload_n 1, 1) := by decide +kernel
theorem dX12_readWay_78 : decode cX12_readWay 78 = .ok (.goto 8, 3) := by decide +kernel
theorem dX12_readWay_81 : decode cX12_readWay 81 = .ok (.aload_n 0, 1) := by decide +kernel
theorem dX12_readWay_82 : decode cX12_readWay 82 = .ok (.iconst 1, 1) := by decide +kernel
theorem dX12_readWay_83 : decode cX12_readWay 83 = .ok (.invokevirtual 255, 3) := by decide +kernel
theorem dX12_readWay_86 : decode cX12_readWay 86 = .ok (.ireturn, 1) := by decide +kernel
theorem dX12_way_0 : decode cX12_way 0 = .ok (.aload_n 0, 1) := by decide +kernel
theorem dX12_way_1 : decode cX12_way 1 = .ok (.iconst 0, 1) := by decide +kernel
theorem dX12_way_2 : decode cX12_way 2 = .ok (.putfield 142, 3) := by decide +kernel
theorem dX12_way_5 : decode cX12_way 5 = .ok (.aload_n 0, 1) := by decide +kernel
theorem dX12_way_6 : decode cX12_way 6 = .ok (.iconst 0, 1) := by decide +kernel
theorem dX12_way_7 : decode cX12_way 7 = .ok (.putfield 302, 3) := by decide +kernel
theorem dX12_way_10 : decode cX12_way 10 = .ok (.aload_n 0, 1) := by decide +kernel
theorem dX12_way_11 : decode cX12_way 11 = .ok (.iconst (-1), 1) := by decide +kernel
theorem dX12_way_12 : decode cX12_way 12 = .ok (.putfield 77, 3) := by decide +kernel
theorem dX12_way_15 : decode cX12_way 15 = .ok (.aload_n 0, 1) := by decide +kernel
theorem dX12_way_16 : decode cX12_way 16 = .ok (.iload_n 1, 1) := by decide +kernel
theorem dX12_way_17 : decode cX12_way 17 = .ok (.iconst 0, 1) := by decide +kernel
theorem dX12_way_18 : decode cX12_way 18 = .ok (.iconst 5, 1) := by decide +kernel
theorem dX12_way_19 : decode cX12_way 19 = .ok (.invokevirtual 149, 3) := by decide +kernel
theorem dX12_way_22 : decode cX12_way 22 = .ok (.istore_n 2, 1) := by decide +kernel
theorem dX12_way_23 : decode cX12_way 23 = .ok (.iload_n 2, 1) := by decide +kernel
theorem dX12_way_24 : decode cX12_way 24 = .ok (.ifCond .eq 10, 3) := by decide +kernel
theorem dX12_way_27 : decode cX12_way 27 = .ok (.aload_n 0, 1) := by decide +kernel
theorem dX12_way_28 : decode cX12_way 28 = .ok (.invokevirtual 305, 3) := by decide +kernel
theorem dX12_way_31 : decode cX12_way 31 = .ok (.goto 4, 3) := by decide +kernel
theorem dX12_way_34 : decode cX12_way 34 = .ok (.iconst (-1), 1) := by decide +kernel
theorem dX12_way_35 : decode cX12_way 35 = .ok (.istore_n 3, 1) := by decide +kernel
theorem dX12_way_36 : decode cX12_way 36 = .ok (.aload_n 0, 1) := by decide +kernel
theorem dX12_way_37 : decode cX12_way 37 = .ok (.iconst 0, 1) := by decide +kernel
theorem dX12_way_38 : decode cX12_way 38 = .ok (.putfield 211, 3) := by decide +kernel
theorem dX12_way_41 : decode cX12_way 41 = .ok (.iload_n 2, 1) := by decide +kernel
theorem dX12_way_42 : decode cX12_way 42 = .ok (.ifCond .eq 24, 3) := by decide +kernel
theorem dX12_way_45 : decode cX12_way 45 = .ok (.iload_n 3, 1) := by decide +kernel
theorem dX12_way_46 : decode cX12_way 46 = .ok (.iconst (-1), 1) := by decide +kernel
theorem dX12_way_47 : decode cX12_way 47 = .ok (.if_icmp .ne 19, 3) := by decide +kernel
theorem dX12_way_50 : decode cX12_way 50 = .ok (.aload_n 0, 1) := by decide +kernel
theorem dX12_way_51 : decode cX12_way 51 = .ok (.aload_n 0, 1) := by decide +kernel
theorem dX12_way_52 : decode cX12_way 52 = .ok (.getfield 246, 3) := by decide +kernel
theorem dX12_way_55 : decode cX12_way 55 = .ok (.putfield 302, 3) := by decide +kernel
theorem dX12_way_58 : decode cX12_way 58 = .ok (.aload_n 0, 1) := by decide +kernel
theorem dX12_way_59 : decode cX12_way 59 = .ok (.aload_n 0, 1) := by decide +kernel
theorem dX12_way_60 : decode cX12_way 60 = .ok (.getfield 249, 3) := by decide +kernel
theorem dX12_way_63 : decode cX12_way 63 = .ok (.putfield 77, 3) := by decide +kernel
theorem dX12_way_66 : decode cX12_way 66 = .ok (.iload_n 3, 1) := by decide +kernel
theorem dX12_way_67 : decode cX12_way 67 = .ok (.iconst (-1), 1) := by decide +kernel
theorem dX12_way_68 : decode cX12_way 68 = .ok (.if_icmp .ne 5, 3) := by decide +kernel
theorem dX12_way_71 : decode cX12_way 71 = .ok (.iconst (-1), 1) := by decide +kernel
theorem dX12_way_72 : decode cX12_way 72 = .ok (.ireturn, 1) := by decide +kernel
theorem dX12_way_73 : decode cX12_way 73 = .ok (.iconst 0, 1) := by decide +kernel
theorem dX12_way_74 : decode cX12_way 74 = .ok (.istore 4, 2) := by decide +kernel
theorem dX12_way_76 : decode cX12_way 76 = .ok (.iload 4, 2) := by decide +kernel
theorem dX12_way_78 : decode cX12_way 78 = .ok (.iload_n 3, 1) := by decide +kernel
theorem dX12_way_79 : decode cX12_way 79 = .ok (.if_icmp .ge 97, 3) := by decide +kernel
theorem dX12_way_82 : decode cX12_way 82 = .ok (.aload_n 0, 1) := by decide +kernel
theorem dX12_way_83 : decode cX12_way 83 = .ok (.getfield 56, 3) := by decide +kernel
theorem dX12_way_86 : decode cX12_way 86 = .ok (.bipush 12, 2) := by decide +kernel
theorem dX12_way_88 : decode cX12_way 88 = .ok (.iload_n 1, 1) := by decide +kernel
theorem dX12_way_89 : decode cX12_way 89 = .ok (.imul, 1) := by decide +kernel
theorem dX12_way_90 : decode cX12_way 90 = .ok (.iload 4, 2) := by decide +kernel
theorem dX12_way_92 : decode cX12_way 92 = .ok (.iadd, 1) := by decide +kernel
theorem dX12_way_93 : decode cX12_way 93 = .ok (.aload_n 0, 1) := by decide +kernel
theorem dX12_way_94 : decode cX12_way 94 = .ok (.getfield 56, 3) := by decide +kernel
theorem dX12_way_97 : decode cX12_way 97 = .ok (.bipush 72, 2) := by decide +kernel
theorem dX12_way_99 : decode cX12_way 99 = .ok (.iload 4, 2) := by decide +kernel
theorem dX12_way_101 : decode cX12_way 101 = .ok (.iadd, 1) := by decide +kernel
theorem dX12_way_102 : decode cX12_way 102 = .ok (.iaload, 1) := by decide +kernel
theorem dX12_way_103 : decode cX12_way 103 = .ok (.iastore, 1) := by decide +kernel
theorem dX12_way_104 : decode cX12_way 104 = .ok (.aload_n 0, 1) := by decide +kernel
theorem dX12_way_105 : decode cX12_way 105 = .ok (.getfield 59, 3) := by decide +kernel
theorem dX12_way_108 : decode cX12_way 108 = .ok (.bipush 12, 2) := by decide +kernel
theorem dX12_way_110 : decode cX12_way 110 = .ok (.iload_n 1, 1) := by decide +kernel
theorem dX12_way_111 : decode cX12_way 111 = .ok (.imul, 1) := by decide +kernel
theorem dX12_way_112 : decode cX12_way 112 = .ok (.iload 4, 2) := by decide +kernel
theorem dX12_way_114 : decode cX12_way 114 = .ok (.iadd, 1) := by decide +kernel
theorem dX12_way_115 : decode cX12_way 115 = .ok (.aload_n 0, 1) := by decide +kernel
theorem dX12_way_116 : decode cX12_way 116 = .ok (.getfield 59, 3) := by decide +kernel
theorem dX12_way_119 : decode cX12_way 119 = .ok (.bipush 72, 2) := by decide +kernel
theorem dX12_way_121 : decode cX12_way 121 = .ok (.iload 4, 2) := by decide +kernel
theorem dX12_way_123 : decode cX12_way 123 = .ok (.iadd, 1) := by decide +kernel
theorem dX12_way_124 : decode cX12_way 124 = .ok (.iaload, 1) := by decide +kernel
theorem dX12_way_125 : decode cX12_way 125 = .ok (.iastore, 1) := by decide +kernel
theorem dX12_way_126 : decode cX12_way 126 = .ok (.aload_n 0, 1) := by decide +kernel
theorem dX12_way_127 : decode cX12_way 127 = .ok (.getfield 62, 3) := by decide +kernel
theorem dX12_way_130 : decode cX12_way 130 = .ok (.bipush 12, 2) := by decide +kernel
theorem dX12_way_132 : decode cX12_way 132 = .ok (.iload_n 1, 1) := by decide +kernel
theorem dX12_way_133 : decode cX12_way 133 = .ok (.imul, 1) := by decide +kernel
theorem dX12_way_134 : decode cX12_way 134 = .ok (.iload 4, 2) := by decide +kernel
theorem dX12_way_136 : decode cX12_way 136 = .ok (.iadd, 1) := by decide +kernel
theorem dX12_way_137 : decode cX12_way 137 = .ok (.aload_n 0, 1) := by decide +kernel
theorem dX12_way_138 : decode cX12_way 138 = .ok (.getfield 62, 3) := by decide +kernel
theorem dX12_way_141 : decode cX12_way 141 = .ok (.bipush 72, 2) := by decide +kernel
theorem dX12_way_143 : decode cX12_way 143 = .ok (.iload 4, 2) := by decide +kernel
theorem dX12_way_145 : decode cX12_way 145 = .ok (.iadd, 1) := by decide +kernel
theorem dX12_way_146 : decode cX12_way 146 = .ok (.iaload, 1) := by decide +kernel
theorem dX12_way_147 : decode cX12_way 147 = .ok (.iastore, 1) := by decide +kernel
theorem dX12_way_148 : decode cX12_way 148 = .ok (.aload_n 0, 1) := by decide +kernel
theorem dX12_way_149 : decode cX12_way 149 = .ok (.getfield 65, 3) := by decide +kernel
theorem dX12_way_152 : decode cX12_way 152 = .ok (.bipush 12, 2) := by decide +kernel
theorem dX12_way_154 : decode cX12_way 154 = .ok (.iload_n 1, 1) := by decide +kernel
theorem dX12_way_155 : decode cX12_way 155 = .ok (.imul, 1) := by decide +kernel
theorem dX12_way_156 : decode cX12_way 156 = .ok (.iload 4, 2) := by decide +kernel
theorem dX12_way_158 : decode cX12_way 158 = .ok (.iadd, 1) := by decide +kernel
theorem dX12_way_159 : decode cX12_way 159 = .ok (.aload_n 0, 1) := by decide +kernel
theorem dX12_way_160 : decode cX12_way 160 = .ok (.getfield 65, 3) := by decide +kernel
theorem dX12_way_163 : decode cX12_way 163 = .ok (.bipush 72, 2) := by decide +kernel
theorem dX12_way_165 : decode cX12_way 165 = .ok (.iload 4, 2) := by decide +kernel
theorem dX12_way_167 : decode cX12_way 167 = .ok (.iadd, 1) := by decide +kernel
theorem dX12_way_168 : decode cX12_way 168 = .ok (.iaload, 1) := by decide +kernel
theorem dX12_way_169 : decode cX12_way 169 = .ok (.iastore, 1) := by decide +kernel
theorem dX12_way_170 : decode cX12_way 170 = .ok (.iinc 4 1, 3) := by decide +kernel
theorem dX12_way_173 : decode cX12_way 173 = .ok (.goto (-97), 3) := by decide +kernel
theorem dX12_way_176 : decode cX12_way 176 = .ok (.iconst 0, 1) := by decide +kernel
theorem dX12_way_177 : decode cX12_way 177 = .ok (.istore 4, 2) := by decide +kernel
theorem dX12_way_179 : decode cX12_way 179 = .ok (.iload 4, 2) := by decide +kernel
theorem dX12_way_181 : decode cX12_way 181 = .ok (.aload_n 0, 1) := by decide +kernel
theorem dX12_way_182 : decode cX12_way 182 = .ok (.getfield 252, 3) := by decide +kernel
theorem dX12_way_185 : decode cX12_way 185 = .ok (.if_icmp .ge 57, 3) := by decide +kernel
theorem dX12_way_188 : decode cX12_way 188 = .ok (.aload_n 0, 1) := by decide +kernel
theorem dX12_way_189 : decode cX12_way 189 = .ok (.getfield 68, 3) := by decide +kernel
theorem dX12_way_192 : decode cX12_way 192 = .ok (.sipush 400, 3) := by decide +kernel
theorem dX12_way_195 : decode cX12_way 195 = .ok (.iload_n 1, 1) := by decide +kernel
theorem dX12_way_196 : decode cX12_way 196 = .ok (.imul, 1) := by decide +kernel
theorem dX12_way_197 : decode cX12_way 197 = .ok (.iload 4, 2) := by decide +kernel
theorem dX12_way_199 : decode cX12_way 199 = .ok (.iadd, 1) := by decide +kernel
theorem dX12_way_200 : decode cX12_way 200 = .ok (.aload_n 0, 1) := by decide +kernel
theorem dX12_way_201 : decode cX12_way 201 = .ok (.getfield 68, 3) := by decide +kernel
theorem dX12_way_204 : decode cX12_way 204 = .ok (.sipush 2400, 3) := by decide +kernel
theorem dX12_way_207 : decode cX12_way 207 = .ok (.iload 4, 2) := by decide +kernel
theorem dX12_way_209 : decode cX12_way 209 = .ok (.iadd, 1) := by decide +kernel
theorem dX12_way_210 : decode cX12_way 210 = .ok (.iaload, 1) := by decide +kernel
theorem dX12_way_211 : decode cX12_way 211 = .ok (.iastore, 1) := by decide +kernel
theorem dX12_way_212 : decode cX12_way 212 = .ok (.aload_n 0, 1) := by decide +kernel
theorem dX12_way_213 : decode cX12_way 213 = .ok (.getfield 71, 3) := by decide +kernel
theorem dX12_way_216 : decode cX12_way 216 = .ok (.sipush 400, 3) := by decide +kernel
theorem dX12_way_219 : decode cX12_way 219 = .ok (.iload_n 1, 1) := by decide +kernel
theorem dX12_way_220 : decode cX12_way 220 = .ok (.imul, 1) := by decide +kernel
theorem dX12_way_221 : decode cX12_way 221 = .ok (.iload 4, 2) := by decide +kernel
theorem dX12_way_223 : decode cX12_way 223 = .ok (.iadd, 1) := by decide +kernel
theorem dX12_way_224 : decode cX12_way 224 = .ok (.aload_n 0, 1) := by decide +kernel
theorem dX12_way_225 : decode cX12_way 225 = .ok (.getfield 71, 3) := by decide +kernel
theorem dX12_way_228 : decode cX12_way 228 = .ok (.sipush 2400, 3) := by decide +kernel
theorem dX12_way_231 : decode cX12_way 231 = .ok (.iload 4, 2) := by decide +kernel
theorem dX12_way_233 : decode cX12_way 233 = .ok (.iadd, 1) := by decide +kernel
theorem dX12_way_234 : decode cX12_way 234 = .ok (.iaload, 1) := by decide +kernel
theorem dX12_way_235 : decode cX12_way 235 = .ok (.iastore, 1) := by decide +kernel
theorem dX12_way_236 : decode cX12_way 236 = .ok (.iinc 4 1, 3) := by decide +kernel
theorem dX12_way_239 : decode cX12_way 239 = .ok (.goto (-60), 3) := by decide +kernel
theorem dX12_way_242 : decode cX12_way 242 = .ok (.aload_n 0, 1) := by decide +kernel
theorem dX12_way_243 : decode cX12_way 243 = .ok (.getfield 53, 3) := by decide +kernel
theorem dX12_way_246 : decode cX12_way 246 = .ok (.iload_n 1, 1) := by decide +kernel
theorem dX12_way_247 : decode cX12_way 247 = .ok (.iload_n 3, 1) := by decide +kernel
theorem dX12_way_248 : decode cX12_way 248 = .ok (.iastore, 1) := by decide +kernel
theorem dX12_way_249 : decode cX12_way 249 = .ok (.iload_n 3, 1) := by decide +kernel
theorem dX12_way_250 : decode cX12_way 250 = .ok (.ireturn, 1) := by decide +kernel
theorem dX12_fault_0 : decode cX12_fault 0 = .ok (.aload_n 0, 1) := by decide +kernel
theorem dX12_fault_1 : decode cX12_fault 1 = .ok (.iconst 0, 1) := by decide +kernel
theorem dX12_fault_2 : decode cX12_fault 2 = .ok (.putfield 142, 3) := by decide +kernel
theorem dX12_fault_5 : decode cX12_fault 5 = .ok (.iload_n 1, 1) := by decide +kernel
theorem dX12_fault_6 : decode cX12_fault 6 = .ok (.ifCond .ne 10, 3) := by decide +kernel
theorem dX12_fault_9 : decode cX12_fault 9 = .ok (.aload_n 0, 1) := by decide +kernel
theorem dX12_fault_10 : decode cX12_fault 10 = .ok (.getfield 302, 3) := by decide +kernel
theorem dX12_fault_13 : decode cX12_fault 13 = .ok (.goto 16, 3) := by decide +kernel
theorem dX12_fault_16 : decode cX12_fault 16 = .ok (.iload_n 1, 1) := by decide +kernel
theorem dX12_fault_17 : decode cX12_fault 17 = .ok (.iconst 1, 1) := by decide +kernel
theorem dX12_fault_18 : decode cX12_fault 18 = .ok (.if_icmp .ne 10, 3) := by decide +kernel
theorem dX12_fault_21 : decode cX12_fault 21 = .ok (.aload_n 0, 1) := by decide +kernel
theorem dX12_fault_22 : decode cX12_fault 22 = .ok (.getfield 77, 3) := by decide +kernel
theorem dX12_fault_25 : decode cX12_fault 25 = .ok (.goto 4, 3) := by decide +kernel
theorem dX12_fault_28 : decode cX12_fault 28 = .ok (.iconst (-1), 1) := by decide +kernel
theorem dX12_fault_29 : decode cX12_fault 29 = .ok (.ireturn, 1) := by decide +kernel
theorem dX12_isOne_0 : decode cX12_isOne 0 = .ok (.iload_n 1, 1) := by decide +kernel
theorem dX12_isOne_1 : decode cX12_isOne 1 = .ok (.ifCond .lt 15, 3) := by decide +kernel
theorem dX12_isOne_4 : decode cX12_isOne 4 = .ok (.iload_n 1, 1) := by decide +kernel
theorem dX12_isOne_5 : decode cX12_isOne 5 = .ok (.aload_n 0, 1) := by decide +kernel
theorem dX12_isOne_6 : decode cX12_isOne 6 = .ok (.getfield 153, 3) := by decide +kernel
theorem dX12_isOne_9 : decode cX12_isOne 9 = .ok (.if_icmp .ge 7, 3) := by decide +kernel
theorem dX12_isOne_12 : decode cX12_isOne 12 = .ok (.iconst 1, 1) := by decide +kernel
theorem dX12_isOne_13 : decode cX12_isOne 13 = .ok (.goto 4, 3) := by decide +kernel
theorem dX12_isOne_16 : decode cX12_isOne 16 = .ok (.iconst 0, 1) := by decide +kernel
theorem dX12_isOne_17 : decode cX12_isOne 17 = .ok (.ireturn, 1) := by decide +kernel
theorem dX12_come_0 : decode cX12_come 0 = .ok (.aload_n 0, 1) := by decide +kernel
theorem dX12_come_1 : decode cX12_come 1 = .ok (.iconst 0, 1) := by decide +kernel
theorem dX12_come_2 : decode cX12_come 2 = .ok (.putfield 142, 3) := by decide +kernel
theorem dX12_come_5 : decode cX12_come 5 = .ok (.aload_n 0, 1) := by decide +kernel
theorem dX12_come_6 : decode cX12_come 6 = .ok (.iload_n 1, 1) := by decide +kernel
theorem dX12_come_7 : decode cX12_come 7 = .ok (.iload_n 2, 1) := by decide +kernel
theorem dX12_come_8 : decode cX12_come 8 = .ok (.invokevirtual 160, 3) := by decide +kernel
theorem dX12_come_11 : decode cX12_come 11 = .ok (.ifCond .eq 22, 3) := by decide +kernel
theorem dX12_come_14 : decode cX12_come 14 = .ok (.aload_n 0, 1) := by decide +kernel
theorem dX12_come_15 : decode cX12_come 15 = .ok (.iload_n 3, 1) := by decide +kernel
theorem dX12_come_16 : decode cX12_come 16 = .ok (.iconst 0, 1) := by decide +kernel
theorem dX12_come_17 : decode cX12_come 17 = .ok (.iconst 5, 1) := by decide +kernel
theorem dX12_come_18 : decode cX12_come 18 = .ok (.invokevirtual 149, 3) := by decide +kernel
theorem dX12_come_21 : decode cX12_come 21 = .ok (.ifCond .eq 12, 3) := by decide +kernel
theorem dX12_come_24 : decode cX12_come 24 = .ok (.aload_n 0, 1) := by decide +kernel
theorem dX12_come_25 : decode cX12_come 25 = .ok (.getfield 153, 3) := by decide +kernel
theorem dX12_come_28 : decode cX12_come 28 = .ok (.bipush 40, 2) := by decide +kernel
theorem dX12_come_30 : decode cX12_come 30 = .ok (.if_icmp .ne 5, 3) := by decide +kernel
theorem dX12_come_33 : decode cX12_come 33 = .ok (.iconst (-1), 1) := by decide +kernel
theorem dX12_come_34 : decode cX12_come 34 = .ok (.ireturn, 1) := by decide +kernel
theorem dX12_come_35 : decode cX12_come 35 = .ok (.aload_n 0, 1) := by decide +kernel
theorem dX12_come_36 : decode cX12_come 36 = .ok (.getfield 80, 3) := by decide +kernel
theorem dX12_come_39 : decode cX12_come 39 = .ok (.aload_n 0, 1) := by decide +kernel
theorem dX12_come_40 : decode cX12_come 40 = .ok (.getfield 153, 3) := by decide +kernel
theorem dX12_come_43 : decode cX12_come 43 = .ok (.iload_n 1, 1) := by decide +kernel
theorem dX12_come_44 : decode cX12_come 44 = .ok (.iastore, 1) := by decide +kernel
theorem dX12_come_45 : decode cX12_come 45 = .ok (.aload_n 0, 1) := by decide +kernel
theorem dX12_come_46 : decode cX12_come 46 = .ok (.getfield 83, 3) := by decide +kernel
theorem dX12_come_49 : decode cX12_come 49 = .ok (.aload_n 0, 1) := by decide +kernel
theorem dX12_come_50 : decode cX12_come 50 = .ok (.getfield 153, 3) := by decide +kernel
theorem dX12_come_53 : decode cX12_come 53 = .ok (.iload_n 2, 1) := by decide +kernel
theorem dX12_come_54 : decode cX12_come 54 = .ok (.iastore, 1) := by decide +kernel
theorem dX12_come_55 : decode cX12_come 55 = .ok (.aload_n 0, 1) := by decide +kernel
theorem dX12_come_56 : decode cX12_come 56 = .ok (.getfield 86, 3) := by decide +kernel
theorem dX12_come_59 : decode cX12_come 59 = .ok (.aload_n 0, 1) := by decide +kernel
theorem dX12_come_60 : decode cX12_come 60 = .ok (.getfield 153, 3) := by decide +kernel
theorem dX12_come_63 : decode cX12_come 63 = .ok (.iload_n 3, 1) := by decide +kernel
theorem dX12_come_64 : decode cX12_come 64 = .ok (.iastore, 1) := by decide +kernel
theorem dX12_come_65 : decode cX12_come 65 = .ok (.aload_n 0, 1) := by decide +kernel
theorem dX12_come_66 : decode cX12_come 66 = .ok (.getfield 89, 3) := by decide +kernel
theorem dX12_come_69 : decode cX12_come 69 = .ok (.aload_n 0, 1) := by decide +kernel
theorem dX12_come_70 : decode cX12_come 70 = .ok (.getfield 153, 3) := by decide +kernel
theorem dX12_come_73 : decode cX12_come 73 = .ok (.iconst (-1), 1) := by decide +kernel
theorem dX12_come_74 : decode cX12_come 74 = .ok (.iastore, 1) := by decide +kernel
theorem dX12_come_75 : decode cX12_come 75 = .ok (.aload_n 0, 1) := by decide +kernel
theorem dX12_come_76 : decode cX12_come 76 = .ok (.aload_n 0, 1) := by decide +kernel
theorem dX12_come_77 : decode cX12_come 77 = .ok (.getfield 153, 3) := by decide +kernel
theorem dX12_come_80 : decode cX12_come 80 = .ok (.iconst 1, 1) := by decide +kernel
theorem dX12_come_81 : decode cX12_come 81 = .ok (.iadd, 1) := by decide +kernel
theorem dX12_come_82 : decode cX12_come 82 = .ok (.putfield 153, 3) := by decide +kernel
theorem dX12_come_85 : decode cX12_come 85 = .ok (.aload_n 0, 1) := by decide +kernel
theorem dX12_come_86 : decode cX12_come 86 = .ok (.getfield 153, 3) := by decide +kernel
theorem dX12_come_89 : decode cX12_come 89 = .ok (.iconst 1, 1) := by decide +kernel
theorem dX12_come_90 : decode cX12_come 90 = .ok (.isub, 1) := by decide +kernel
theorem dX12_come_91 : decode cX12_come 91 = .ok (.ireturn, 1) := by decide +kernel
theorem dX12_state_0 : decode cX12_state 0 = .ok (.aload_n 0, 1) := by decide +kernel
theorem dX12_state_1 : decode cX12_state 1 = .ok (.iconst 0, 1) := by decide +kernel
theorem dX12_state_2 : decode cX12_state 2 = .ok (.putfield 142, 3) := by decide +kernel
theorem dX12_state_5 : decode cX12_state 5 = .ok (.aload_n 0, 1) := by decide +kernel
theorem dX12_state_6 : decode cX12_state 6 = .ok (.getfield 308, 3) := by decide +kernel
theorem dX12_state_9 : decode cX12_state 9 = .ok (.istore_n 2, 1) := by decide +kernel
theorem dX12_state_10 : decode cX12_state 10 = .ok (.aload_n 0, 1) := by decide +kernel
theorem dX12_state_11 : decode cX12_state 11 = .ok (.iload_n 1, 1) := by decide +kernel
theorem dX12_state_12 : decode cX12_state 12 = .ok (.putfield 308, 3) := by decide +kernel
theorem dX12_state_15 : decode cX12_state 15 = .ok (.iload_n 2, 1) := by decide +kernel
theorem dX12_state_16 : decode cX12_state 16 = .ok (.ireturn, 1) := by decide +kernel
theorem dX12_twoOf_0 : decode cX12_twoOf 0 = .ok (.iload_n 1, 1) := by decide +kernel
theorem dX12_twoOf_1 : decode cX12_twoOf 1 = .ok (.iconst 2, 1) := by decide +kernel
theorem dX12_twoOf_2 : decode cX12_twoOf 2 = .ok (.if_icmp .ne 7, 3) := by decide +kernel
theorem dX12_twoOf_5 : decode cX12_twoOf 5 = .ok (.iload_n 2, 1) := by decide +kernel
theorem dX12_twoOf_6 : decode cX12_twoOf 6 = .ok (.iload_n 3, 1) := by decide +kernel
theorem dX12_twoOf_7 : decode cX12_twoOf 7 = .ok (.iadd, 1) := by decide +kernel
theorem dX12_twoOf_8 : decode cX12_twoOf 8 = .ok (.ireturn, 1) := by decide +kernel
theorem dX12_twoOf_9 : decode cX12_twoOf 9 = .ok (.iload_n 1, 1) := by decide +kernel
theorem dX12_twoOf_10 : decode cX12_twoOf 10 = .ok (.iconst 3, 1) := by decide +kernel
theorem dX12_twoOf_11 : decode cX12_twoOf 11 = .ok (.if_icmp .ne 7, 3) := by decide +kernel
theorem dX12_twoOf_14 : decode cX12_twoOf 14 = .ok (.iload_n 2, 1) := by decide +kernel
theorem dX12_twoOf_15 : decode cX12_twoOf 15 = .ok (.iload_n 3, 1) := by decide +kernel
theorem dX12_twoOf_16 : decode cX12_twoOf 16 = .ok (.isub, 1) := by decide +kernel
theorem dX12_twoOf_17 : decode cX12_twoOf 17 = .ok (.ireturn, 1) := by decide +kernel
theorem dX12_twoOf_18 : decode cX12_twoOf 18 = .ok (.iload_n 1, 1) := by decide +kernel
theorem dX12_twoOf_19 : decode cX12_twoOf 19 = .ok (.iconst 4, 1) := by decide +kernel
theorem dX12_twoOf_20 : decode cX12_twoOf 20 = .ok (.if_icmp .ne 7, 3) := by decide +kernel
theorem dX12_twoOf_23 : decode cX12_twoOf 23 = .ok (.iload_n 2, 1) := by decide +kernel
theorem dX12_twoOf_24 : decode cX12_twoOf 24 = .ok (.iload_n 3, 1) := by decide +kernel
theorem dX12_twoOf_25 : decode cX12_twoOf 25 = .ok (.imul, 1) := by decide +kernel
theorem dX12_twoOf_26 : decode cX12_twoOf 26 = .ok (.ireturn, 1) := by decide +kernel
theorem dX12_twoOf_27 : decode cX12_twoOf 27 = .ok (.iload_n 1, 1) := by decide +kernel
theorem dX12_twoOf_28 : decode cX12_twoOf 28 = .ok (.iconst 5, 1) := by decide +kernel
theorem dX12_twoOf_29 : decode cX12_twoOf 29 = .ok (.if_icmp .ne 7, 3) := by decide +kernel
theorem dX12_twoOf_32 : decode cX12_twoOf 32 = .ok (.iload_n 2, 1) := by decide +kernel
theorem dX12_twoOf_33 : decode cX12_twoOf 33 = .ok (.iload_n 3, 1) := by decide +kernel
theorem dX12_twoOf_34 : decode cX12_twoOf 34 = .ok (.idiv, 1) := by decide +kernel
theorem dX12_twoOf_35 : decode cX12_twoOf 35 = .ok (.ireturn, 1) := by decide +kernel
theorem dX12_twoOf_36 : decode cX12_twoOf 36 = .ok (.iload_n 1, 1) := by decide +kernel
theorem dX12_twoOf_37 : decode cX12_twoOf 37 = .ok (.bipush 6, 2) := by decide +kernel
theorem dX12_twoOf_39 : decode cX12_twoOf 39 = .ok (.if_icmp .ne 14, 3) := by decide +kernel
theorem dX12_twoOf_42 : decode cX12_twoOf 42 = .ok (.iload_n 2, 1) := by decide +kernel
theorem dX12_twoOf_43 : decode cX12_twoOf 43 = .ok (.iload_n 3, 1) := by decide +kernel
theorem dX12_twoOf_44 : decode cX12_twoOf 44 = .ok (.if_icmp .ge 7, 3) := by decide +kernel
theorem dX12_twoOf_47 : decode cX12_twoOf 47 = .ok (.iconst 1, 1) := by decide +kernel
theorem dX12_twoOf_48 : decode cX12_twoOf 48 = .ok (.goto 4, 3) := by decide +kernel
theorem dX12_twoOf_51 : decode cX12_twoOf 51 = .ok (.iconst 0, 1) := by decide +kernel
theorem dX12_twoOf_52 : decode cX12_twoOf 52 = .ok (.ireturn, 1) := by decide +kernel
theorem dX12_twoOf_53 : decode cX12_twoOf 53 = .ok (.iload_n 1, 1) := by decide +kernel
theorem dX12_twoOf_54 : decode cX12_twoOf 54 = .ok (.bipush 7, 2) := by decide +kernel
theorem dX12_twoOf_56 : decode cX12_twoOf 56 = .ok (.if_icmp .ne 14, 3) := by decide +kernel
theorem dX12_twoOf_59 : decode cX12_twoOf 59 = .ok (.iload_n 2, 1) := by decide +kernel
theorem dX12_twoOf_60 : decode cX12_twoOf 60 = .ok (.iload_n 3, 1) := by decide +kernel
theorem dX12_twoOf_61 : decode cX12_twoOf 61 = .ok (.if_icmp .ne 7, 3) := by decide +kernel
theorem dX12_twoOf_64 : decode cX12_twoOf 64 = .ok (.iconst 1, 1) := by decide +kernel
theorem dX12_twoOf_65 : decode cX12_twoOf 65 = .ok (.goto 4, 3) := by decide +kernel
theorem dX12_twoOf_68 : decode cX12_twoOf 68 = .ok (.iconst 0, 1) := by decide +kernel
theorem dX12_twoOf_69 : decode cX12_twoOf 69 = .ok (.ireturn, 1) := by decide +kernel
theorem dX12_twoOf_70 : decode cX12_twoOf 70 = .ok (.iload_n 1, 1) := by decide +kernel
theorem dX12_twoOf_71 : decode cX12_twoOf 71 = .ok (.bipush 8, 2) := by decide +kernel
theorem dX12_twoOf_73 : decode cX12_twoOf 73 = .ok (.if_icmp .ne 14, 3) := by decide +kernel
theorem dX12_twoOf_76 : decode cX12_twoOf 76 = .ok (.iload_n 2, 1) := by decide +kernel
theorem dX12_twoOf_77 : decode cX12_twoOf 77 = .ok (.iload_n 3, 1) := by decide +kernel
theorem dX12_twoOf_78 : decode cX12_twoOf 78 = .ok (.if_icmp .le 7, 3) := by decide +kernel
theorem dX12_twoOf_81 : decode cX12_twoOf 81 = .ok (.iconst 1, 1) := by decide +kernel
theorem dX12_twoOf_82 : decode cX12_twoOf 82 = .ok (.goto 4, 3) := by decide +kernel
theorem dX12_twoOf_85 : decode cX12_twoOf 85 = .ok (.iconst 0, 1) := by decide +kernel
theorem dX12_twoOf_86 : decode cX12_twoOf 86 = .ok (.ireturn, 1) := by decide +kernel
theorem dX12_twoOf_87 : decode cX12_twoOf 87 = .ok (.iload_n 1, 1) := by decide +kernel
theorem dX12_twoOf_88 : decode cX12_twoOf 88 = .ok (.bipush 10, 2) := by decide +kernel
theorem dX12_twoOf_90 : decode cX12_twoOf 90 = .ok (.if_icmp .ne 9, 3) := by decide +kernel
theorem dX12_twoOf_93 : decode cX12_twoOf 93 = .ok (.iload_n 2, 1) := by decide +kernel
theorem dX12_twoOf_94 : decode cX12_twoOf 94 = .ok (.iload_n 3, 1) := by decide +kernel
theorem dX12_twoOf_95 : decode cX12_twoOf 95 = .ok (.imul, 1) := by decide +kernel
theorem dX12_twoOf_96 : decode cX12_twoOf 96 = .ok (.goto 14, 3) := by decide +kernel
theorem dX12_twoOf_99 : decode cX12_twoOf 99 = .ok (.iload_n 2, 1) := by decide +kernel
theorem dX12_twoOf_100 : decode cX12_twoOf 100 = .ok (.iload_n 3, 1) := by decide +kernel
theorem dX12_twoOf_101 : decode cX12_twoOf 101 = .ok (.iadd, 1) := by decide +kernel
theorem dX12_twoOf_102 : decode cX12_twoOf 102 = .ok (.ifCond .le 7, 3) := by decide +kernel
theorem dX12_twoOf_105 : decode cX12_twoOf 105 = .ok (.iconst 1, 1) := by decide +kernel
theorem dX12_twoOf_106 : decode cX12_twoOf 106 = .ok (.goto 4, 3) := by decide +kernel
theorem dX12_twoOf_109 : decode cX12_twoOf 109 = .ok (.iconst 0, 1) := by decide +kernel
theorem dX12_twoOf_110 : decode cX12_twoOf 110 = .ok (.ireturn, 1) := by decide +kernel
theorem dX12_comesTo_0 : decode cX12_comesTo 0 = .ok (.iconst 0, 1) := by decide +kernel
theorem dX12_comesTo_1 : decode cX12_comesTo 1 = .ok (.istore 4, 2) := by decide +kernel
theorem dX12_comesTo_3 : decode cX12_comesTo 3 = .ok (.sipush 400, 3) := by decide +kernel
theorem dX12_comesTo_6 : decode cX12_comesTo 6 = .ok (.iload_n 1, 1) := by decide +kernel
theorem dX12_comesTo_7 : decode cX12_comesTo 7 = .ok (.imul, 1) := by decide +kernel
theorem dX12_comesTo_8 : decode cX12_comesTo 8 = .ok (.iload_n 2, 1) := by decide +kernel
theorem dX12_comesTo_9 : decode cX12_comesTo 9 = .ok (.iadd, 1) := by decide +kernel
theorem dX12_comesTo_10 : decode cX12_comesTo 10 = .ok (.istore 5, 2) := by decide +kernel
theorem dX12_comesTo_12 : decode cX12_comesTo 12 = .ok (.iload 5, 2) := by decide +kernel
theorem dX12_comesTo_14 : decode cX12_comesTo 14 = .ok (.sipush 400, 3) := by decide +kernel
theorem dX12_comesTo_17 : decode cX12_comesTo 17 = .ok (.iload_n 1, 1) := by decide +kernel
theorem dX12_comesTo_18 : decode cX12_comesTo 18 = .ok (.imul, 1) := by decide +kernel
theorem dX12_comesTo_19 : decode cX12_comesTo 19 = .ok (.iload_n 3, 1) := by decide +kernel
theorem dX12_comesTo_20 : decode cX12_comesTo 20 = .ok (.iadd, 1) := by decide +kernel
theorem dX12_comesTo_21 : decode cX12_comesTo 21 = .ok (.if_icmp .ge 155, 3) := by decide +kernel
theorem dX12_comesTo_24 : decode cX12_comesTo 24 = .ok (.aload_n 0, 1) := by decide +kernel
theorem dX12_comesTo_25 : decode cX12_comesTo 25 = .ok (.getfield 68, 3) := by decide +kernel
theorem dX12_comesTo_28 : decode cX12_comesTo 28 = .ok (.iload 5, 2) := by decide +kernel
theorem dX12_comesTo_30 : decode cX12_comesTo 30 = .ok (.iaload, 1) := by decide +kernel
theorem dX12_comesTo_31 : decode cX12_comesTo 31 = .ok (.ifCond .eq 14, 3) := by decide +kernel
theorem dX12_comesTo_34 : decode cX12_comesTo 34 = .ok (.aload_n 0, 1) := by decide +kernel
theorem dX12_comesTo_35 : decode cX12_comesTo 35 = .ok (.getfield 68, 3) := by decide +kernel
theorem dX12_comesTo_38 : decode cX12_comesTo 38 = .ok (.iload 5, 2) := by decide +kernel
theorem dX12_comesTo_40 : decode cX12_comesTo 40 = .ok (.iaload, 1) := by decide +kernel
theorem dX12_comesTo_41 : decode cX12_comesTo 41 = .ok (.iconst 1, 1) := by decide +kernel
theorem dX12_comesTo_42 : decode cX12_comesTo 42 = .ok (.if_icmp .ne 51, 3) := by decide +kernel
theorem dX12_comesTo_45 : decode cX12_comesTo 45 = .ok (.aload_n 0, 1) := by decide +kernel
theorem dX12_comesTo_46 : decode cX12_comesTo 46 = .ok (.getfield 114, 3) := by decide +kernel
theorem dX12_comesTo_49 : decode cX12_comesTo 49 = .ok (.iload 4, 2) := by decide +kernel
theorem dX12_comesTo_51 : decode cX12_comesTo 51 = .ok (.aload_n 0, 1) := by decide +kernel
theorem dX12_comesTo_52 : decode cX12_comesTo 52 = .ok (.getfield 68, 3) := by decide +kernel
theorem dX12_comesTo_55 : decode cX12_comesTo 55 = .ok (.iload 5, 2) := by decide +kernel
theorem dX12_comesTo_57 : decode cX12_comesTo 57 = .ok (.iaload, 1) := by decide +kernel
theorem dX12_comesTo_58 : decode cX12_comesTo 58 = .ok (.ifCond .ne 13, 3) := by decide +kernel
theorem dX12_comesTo_61 : decode cX12_comesTo 61 = .ok (.aload_n 0, 1) := by decide +kernel
theorem dX12_comesTo_62 : decode cX12_comesTo 62 = .ok (.getfield 71, 3) := by decide +kernel
theorem dX12_comesTo_65 : decode cX12_comesTo 65 = .ok (.iload 5, 2) := by decide +kernel
theorem dX12_comesTo_67 : decode cX12_comesTo 67 = .ok (.iaload, 1) := by decide +kernel
theorem dX12_comesTo_68 : decode cX12_comesTo 68 = .ok (.goto 15, 3) := by decide +kernel
theorem dX12_comesTo_71 : decode cX12_comesTo 71 = .ok (.aload_n 0, 1) := by decide +kernel
theorem dX12_comesTo_72 : decode cX12_comesTo 72 = .ok (.getfield 111, 3) := by decide +kernel
theorem dX12_comesTo_75 : decode cX12_comesTo 75 = .ok (.aload_n 0, 1) := by decide +kernel
theorem dX12_comesTo_76 : decode cX12_comesTo 76 = .ok (.getfield 71, 3) := by decide +kernel
theorem dX12_comesTo_79 : decode cX12_comesTo 79 = .ok (.iload 5, 2) := by decide +kernel
theorem dX12_comesTo_81 : decode cX12_comesTo 81 = .ok (.iaload, 1) := by decide +kernel
theorem dX12_comesTo_82 : decode cX12_comesTo 82 = .ok (.iaload, 1) := by decide +kernel
theorem dX12_comesTo_83 : decode cX12_comesTo 83 = .ok (.iastore, 1) := by decide +kernel
theorem dX12_comesTo_84 : decode cX12_comesTo 84 = .ok (.iload 4, 2) := by decide +kernel
theorem dX12_comesTo_86 : decode cX12_comesTo 86 = .ok (.iconst 1, 1) := by decide +kernel
theorem dX12_comesTo_87 : decode cX12_comesTo 87 = .ok (.iadd, 1) := by decide +kernel
theorem dX12_comesTo_88 : decode cX12_comesTo 88 = .ok (.istore 4, 2) := by decide +kernel
theorem dX12_comesTo_90 : decode cX12_comesTo 90 = .ok (.goto 80, 3) := by decide +kernel
theorem dX12_comesTo_93 : decode cX12_comesTo 93 = .ok (.aload_n 0, 1) := by decide +kernel
theorem dX12_comesTo_94 : decode cX12_comesTo 94 = .ok (.getfield 68, 3) := by decide +kernel
theorem dX12_comesTo_97 : decode cX12_comesTo 97 = .ok (.iload 5, 2) := by decide +kernel
theorem dX12_comesTo_99 : decode cX12_comesTo 99 = .ok (.iaload, 1) := by decide +kernel
theorem dX12_comesTo_100 : decode cX12_comesTo 100 = .ok (.bipush 9, 2) := by decide +kernel
theorem dX12_comesTo_102 : decode cX12_comesTo 102 = .ok (.if_icmp .ne 26, 3) := by decide +kernel
theorem dX12_comesTo_105 : decode cX12_comesTo 105 = .ok (.aload_n 0, 1) := by decide +kernel
theorem dX12_comesTo_106 : decode cX12_comesTo 106 = .ok (.getfield 114, 3) := by decide +kernel
theorem dX12_comesTo_109 : decode cX12_comesTo 109 = .ok (.iload 4, 2) := by decide +kernel
theorem dX12_comesTo_111 : decode cX12_comesTo 111 = .ok (.iconst 1, 1) := by decide +kernel
theorem dX12_comesTo_112 : decode cX12_comesTo 112 = .ok (.isub, 1) := by decide +kernel
theorem dX12_comesTo_113 : decode cX12_comesTo 113 = .ok (.iconst 1, 1) := by decide +kernel
theorem dX12_comesTo_114 : decode cX12_comesTo 114 = .ok (.aload_n 0, 1) := by decide +kernel
theorem dX12_comesTo_115 : decode cX12_comesTo 115 = .ok (.getfield 114, 3) := by decide +kernel
theorem dX12_comesTo_118 : decode cX12_comesTo 118 = .ok (.iload 4, 2) := by decide +kernel
theorem dX12_comesTo_120 : decode cX12_comesTo 120 = .ok (.iconst 1, 1) := by decide +kernel
theorem dX12_comesTo_121 : decode cX12_comesTo 121 = .ok (.isub, 1) := by decide +kernel
theorem dX12_comesTo_122 : decode cX12_comesTo 122 = .ok (.iaload, 1) := by decide +kernel
theorem dX12_comesTo_123 : decode cX12_comesTo 123 = .ok (.isub, 1) := by decide +kernel
theorem dX12_comesTo_124 : decode cX12_comesTo 124 = .ok (.iastore, 1) := by decide +kernel
theorem dX12_comesTo_125 : decode cX12_comesTo 125 = .ok (.goto 45, 3) := by decide +kernel
theorem dX12_comesTo_128 : decode cX12_comesTo 128 = .ok (.iload 4, 2) := by decide +kernel
theorem dX12_comesTo_130 : decode cX12_comesTo 130 = .ok (.iconst 1, 1) := by decide +kernel
theorem dX12_comesTo_131 : decode cX12_comesTo 131 = .ok (.isub, 1) := by decide +kernel
theorem dX12_comesTo_132 : decode cX12_comesTo 132 = .ok (.istore 4, 2) := by decide +kernel
theorem dX12_comesTo_134 : decode cX12_comesTo 134 = .ok (.aload_n 0, 1) := by decide +kernel
theorem dX12_comesTo_135 : decode cX12_comesTo 135 = .ok (.getfield 114, 3) := by decide +kernel
theorem dX12_comesTo_138 : decode cX12_comesTo 138 = .ok (.iload 4, 2) := by decide +kernel
theorem dX12_comesTo_140 : decode cX12_comesTo 140 = .ok (.iconst 1, 1) := by decide +kernel
theorem dX12_comesTo_141 : decode cX12_comesTo 141 = .ok (.isub, 1) := by decide +kernel
theorem dX12_comesTo_142 : decode cX12_comesTo 142 = .ok (.aload_n 0, 1) := by decide +kernel
theorem dX12_comesTo_143 : decode cX12_comesTo 143 = .ok (.aload_n 0, 1) := by decide +kernel
theorem dX12_comesTo_144 : decode cX12_comesTo 144 = .ok (.getfield 68, 3) := by decide +kernel
theorem dX12_comesTo_147 : decode cX12_comesTo 147 = .ok (.iload 5, 2) := by decide +kernel
theorem dX12_comesTo_149 : decode cX12_comesTo 149 = .ok (.iaload, 1) := by decide +kernel
theorem dX12_comesTo_150 : decode cX12_comesTo 150 = .ok (.aload_n 0, 1) := by decide +kernel
theorem dX12_comesTo_151 : decode cX12_comesTo 151 = .ok (.getfield 114, 3) := by decide +kernel
theorem dX12_comesTo_154 : decode cX12_comesTo 154 = .ok (.iload 4, 2) := by decide +kernel
theorem dX12_comesTo_156 : decode cX12_comesTo 156 = .ok (.iconst 1, 1) := by decide +kernel
theorem dX12_comesTo_157 : decode cX12_comesTo 157 = .ok (.isub, 1) := by decide +kernel
theorem dX12_comesTo_158 : decode cX12_comesTo 158 = .ok (.iaload, 1) := by decide +kernel
theorem dX12_comesTo_159 : decode cX12_comesTo 159 = .ok (.aload_n 0, 1) := by decide +kernel
theorem dX12_comesTo_160 : decode cX12_comesTo 160 = .ok (.getfield 114, 3) := by decide +kernel
theorem dX12_comesTo_163 : decode cX12_comesTo 163 = .ok (.iload 4, 2) := by decide +kernel
theorem dX12_comesTo_165 : decode cX12_comesTo 165 = .ok (.iaload, 1) := by decide +kernel
theorem dX12_comesTo_166 : decode cX12_comesTo 166 = .ok (.invokevirtual 311, 3) := by decide +kernel
theorem dX12_comesTo_169 : decode cX12_comesTo 169 = .ok (.iastore, 1) := by decide +kernel
theorem dX12_comesTo_170 : decode cX12_comesTo 170 = .ok (.iinc 5 1, 3) := by decide +kernel
theorem dX12_comesTo_173 : decode cX12_comesTo 173 = .ok (.goto (-161), 3) := by decide +kernel
theorem dX12_comesTo_176 : decode cX12_comesTo 176 = .ok (.aload_n 0, 1) := by decide +kernel
theorem dX12_comesTo_177 : decode cX12_comesTo 177 = .ok (.getfield 114, 3) := by decide +kernel
theorem dX12_comesTo_180 : decode cX12_comesTo 180 = .ok (.iconst 0, 1) := by decide +kernel
theorem dX12_comesTo_181 : decode cX12_comesTo 181 = .ok (.iaload, 1) := by decide +kernel
theorem dX12_comesTo_182 : decode cX12_comesTo 182 = .ok (.ireturn, 1) := by decide +kernel
theorem dX12_asksOf_0 : decode cX12_asksOf 0 = .ok (.aload_n 0, 1) := by decide +kernel
theorem dX12_asksOf_1 : decode cX12_asksOf 1 = .ok (.invokevirtual 208, 3) := by decide +kernel
theorem dX12_asksOf_4 : decode cX12_asksOf 4 = .ok (.aload_n 0, 1) := by decide +kernel
theorem dX12_asksOf_5 : decode cX12_asksOf 5 = .ok (.getfield 80, 3) := by decide +kernel
theorem dX12_asksOf_8 : decode cX12_asksOf 8 = .ok (.iload_n 1, 1) := by decide +kernel
theorem dX12_asksOf_9 : decode cX12_asksOf 9 = .ok (.iaload, 1) := by decide +kernel
theorem dX12_asksOf_10 : decode cX12_asksOf 10 = .ok (.istore_n 2, 1) := by decide +kernel
theorem dX12_asksOf_11 : decode cX12_asksOf 11 = .ok (.iconst 0, 1) := by decide +kernel
theorem dX12_asksOf_12 : decode cX12_asksOf 12 = .ok (.istore_n 3, 1) := by decide +kernel
theorem dX12_asksOf_13 : decode cX12_asksOf 13 = .ok (.iconst 0, 1) := by decide +kernel
theorem dX12_asksOf_14 : decode cX12_asksOf 14 = .ok (.istore 4, 2) := by decide +kernel
theorem dX12_asksOf_16 : decode cX12_asksOf 16 = .ok (.iload 4, 2) := by decide +kernel
theorem dX12_asksOf_18 : decode cX12_asksOf 18 = .ok (.aload_n 0, 1) := by decide +kernel
theorem dX12_asksOf_19 : decode cX12_asksOf 19 = .ok (.getfield 7, 3) := by decide +kernel
theorem dX12_asksOf_22 : decode cX12_asksOf 22 = .ok (.iconst 1, 1) := by decide +kernel
theorem dX12_asksOf_23 : decode cX12_asksOf 23 = .ok (.iload_n 2, 1) := by decide +kernel
theorem dX12_asksOf_24 : decode cX12_asksOf 24 = .ok (.isub, 1) := by decide +kernel
theorem dX12_asksOf_25 : decode cX12_asksOf 25 = .ok (.iaload, 1) := by decide +kernel
theorem dX12_asksOf_26 : decode cX12_asksOf 26 = .ok (.if_icmp .ge 42, 3) := by decide +kernel
theorem dX12_asksOf_29 : decode cX12_asksOf 29 = .ok (.aload_n 0, 1) := by decide +kernel
theorem dX12_asksOf_30 : decode cX12_asksOf 30 = .ok (.getfield 13, 3) := by decide +kernel
theorem dX12_asksOf_33 : decode cX12_asksOf 33 = .ok (.bipush 6, 2) := by decide +kernel
theorem dX12_asksOf_35 : decode cX12_asksOf 35 = .ok (.iconst 1, 1) := by decide +kernel
theorem dX12_asksOf_36 : decode cX12_asksOf 36 = .ok (.iload_n 2, 1) := by decide +kernel
theorem dX12_asksOf_37 : decode cX12_asksOf 37 = .ok (.isub, 1) := by decide +kernel
theorem dX12_asksOf_38 : decode cX12_asksOf 38 = .ok (.imul, 1) := by decide +kernel
theorem dX12_asksOf_39 : decode cX12_asksOf 39 = .ok (.iload 4, 2) := by decide +kernel
theorem dX12_asksOf_41 : decode cX12_asksOf 41 = .ok (.iadd, 1) := by decide +kernel
theorem dX12_asksOf_42 : decode cX12_asksOf 42 = .ok (.iaload, 1) := by decide +kernel
theorem dX12_asksOf_43 : decode cX12_asksOf 43 = .ok (.iload_n 3, 1) := by decide +kernel
theorem dX12_asksOf_44 : decode cX12_asksOf 44 = .ok (.if_icmp .le 18, 3) := by decide +kernel
theorem dX12_asksOf_47 : decode cX12_asksOf 47 = .ok (.aload_n 0, 1) := by decide +kernel
theorem dX12_asksOf_48 : decode cX12_asksOf 48 = .ok (.getfield 13, 3) := by decide +kernel
theorem dX12_asksOf_51 : decode cX12_asksOf 51 = .ok (.bipush 6, 2) := by decide +kernel
theorem dX12_asksOf_53 : decode cX12_asksOf 53 = .ok (.iconst 1, 1) := by decide +kernel
theorem dX12_asksOf_54 : decode cX12_asksOf 54 = .ok (.iload_n 2, 1) := by decide +kernel
theorem dX12_asksOf_55 : decode cX12_asksOf 55 = .ok (.isub, 1) := by decide +kernel
theorem dX12_asksOf_56 : decode cX12_asksOf 56 = .ok (.imul, 1) := by decide +kernel
theorem dX12_asksOf_57 : decode cX12_asksOf 57 = .ok (.iload 4, 2) := by decide +kernel
theorem dX12_asksOf_59 : decode cX12_asksOf 59 = .ok (.iadd, 1) := by decide +kernel
theorem dX12_asksOf_60 : decode cX12_asksOf 60 = .ok (.iaload, 1) := by decide +kernel
theorem dX12_asksOf_61 : decode cX12_asksOf 61 = .ok (.istore_n 3, 1) := by decide +kernel
theorem dX12_asksOf_62 : decode cX12_asksOf 62 = .ok (.iinc 4 1, 3) := by decide +kernel
theorem dX12_asksOf_65 : decode cX12_asksOf 65 = .ok (.goto (-49), 3) := by decide +kernel
theorem dX12_asksOf_68 : decode cX12_asksOf 68 = .ok (.aload_n 0, 1) := by decide +kernel
theorem dX12_asksOf_69 : decode cX12_asksOf 69 = .ok (.getfield 111, 3) := by decide +kernel
theorem dX12_asksOf_72 : decode cX12_asksOf 72 = .ok (.iconst 0, 1) := by decide +kernel
theorem dX12_asksOf_73 : decode cX12_asksOf 73 = .ok (.aload_n 0, 1) := by decide +kernel
theorem dX12_asksOf_74 : decode cX12_asksOf 74 = .ok (.getfield 314, 3) := by decide +kernel
theorem dX12_asksOf_77 : decode cX12_asksOf 77 = .ok (.iastore, 1) := by decide +kernel
theorem dX12_asksOf_78 : decode cX12_asksOf 78 = .ok (.aload_n 0, 1) := by decide +kernel
theorem dX12_asksOf_79 : decode cX12_asksOf 79 = .ok (.getfield 111, 3) := by decide +kernel
theorem dX12_asksOf_82 : decode cX12_asksOf 82 = .ok (.iconst 1, 1) := by decide +kernel
theorem dX12_asksOf_83 : decode cX12_asksOf 83 = .ok (.aload_n 0, 1) := by decide +kernel
theorem dX12_asksOf_84 : decode cX12_asksOf 84 = .ok (.getfield 92, 3) := by decide +kernel
theorem dX12_asksOf_87 : decode cX12_asksOf 87 = .ok (.iload_n 1, 1) := by decide +kernel
theorem dX12_asksOf_88 : decode cX12_asksOf 88 = .ok (.iaload, 1) := by decide +kernel
theorem dX12_asksOf_89 : decode cX12_asksOf 89 = .ok (.iastore, 1) := by decide +kernel
theorem dX12_asksOf_90 : decode cX12_asksOf 90 = .ok (.aload_n 0, 1) := by decide +kernel
theorem dX12_asksOf_91 : decode cX12_asksOf 91 = .ok (.getfield 111, 3) := by decide +kernel
theorem dX12_asksOf_94 : decode cX12_asksOf 94 = .ok (.iconst 2, 1) := by decide +kernel
theorem dX12_asksOf_95 : decode cX12_asksOf 95 = .ok (.aload_n 0, 1) := by decide +kernel
theorem dX12_asksOf_96 : decode cX12_asksOf 96 = .ok (.getfield 83, 3) := by decide +kernel
theorem dX12_asksOf_99 : decode cX12_asksOf 99 = .ok (.iload_n 1, 1) := by decide +kernel
theorem dX12_asksOf_100 : decode cX12_asksOf 100 = .ok (.iaload, 1) := by decide +kernel
theorem dX12_asksOf_101 : decode cX12_asksOf 101 = .ok (.iastore, 1) := by decide +kernel
theorem dX12_asksOf_102 : decode cX12_asksOf 102 = .ok (.aload_n 0, 1) := by decide +kernel
theorem dX12_asksOf_103 : decode cX12_asksOf 103 = .ok (.getfield 111, 3) := by decide +kernel
theorem dX12_asksOf_106 : decode cX12_asksOf 106 = .ok (.iconst 3, 1) := by decide +kernel
theorem dX12_asksOf_107 : decode cX12_asksOf 107 = .ok (.aload_n 0, 1) := by decide +kernel
theorem dX12_asksOf_108 : decode cX12_asksOf 108 = .ok (.getfield 13, 3) := by decide +kernel
theorem dX12_asksOf_111 : decode cX12_asksOf 111 = .ok (.bipush 6, 2) := by decide +kernel
theorem dX12_asksOf_113 : decode cX12_asksOf 113 = .ok (.iload_n 2, 1) := by decide +kernel
theorem dX12_asksOf_114 : decode cX12_asksOf 114 = .ok (.imul, 1) := by decide +kernel
theorem dX12_asksOf_115 : decode cX12_asksOf 115 = .ok (.aload_n 0, 1) := by decide +kernel
theorem dX12_asksOf_116 : decode cX12_asksOf 116 = .ok (.getfield 83, 3) := by decide +kernel
theorem dX12_asksOf_119 : decode cX12_asksOf 119 = .ok (.iload_n 1, 1) := by decide +kernel
theorem dX12_asksOf_120 : decode cX12_asksOf 120 = .ok (.iaload, 1) := by decide +kernel
theorem dX12_asksOf_121 : decode cX12_asksOf 121 = .ok (.iadd, 1) := by decide +kernel
theorem dX12_asksOf_122 : decode cX12_asksOf 122 = .ok (.iaload, 1) := by decide +kernel
theorem dX12_asksOf_123 : decode cX12_asksOf 123 = .ok (.iastore, 1) := by decide +kernel
theorem dX12_asksOf_124 : decode cX12_asksOf 124 = .ok (.aload_n 0, 1) := by decide +kernel
theorem dX12_asksOf_125 : decode cX12_asksOf 125 = .ok (.getfield 111, 3) := by decide +kernel
theorem dX12_asksOf_128 : decode cX12_asksOf 128 = .ok (.iconst 4, 1) := by decide +kernel
theorem dX12_asksOf_129 : decode cX12_asksOf 129 = .ok (.iload_n 3, 1) := by decide +kernel
theorem dX12_asksOf_130 : decode cX12_asksOf 130 = .ok (.iastore, 1) := by decide +kernel
theorem dX12_asksOf_131 : decode cX12_asksOf 131 = .ok (.aload_n 0, 1) := by decide +kernel
theorem dX12_asksOf_132 : decode cX12_asksOf 132 = .ok (.getfield 111, 3) := by decide +kernel
theorem dX12_asksOf_135 : decode cX12_asksOf 135 = .ok (.iconst 5, 1) := by decide +kernel
theorem dX12_asksOf_136 : decode cX12_asksOf 136 = .ok (.aload_n 0, 1) := by decide +kernel
theorem dX12_asksOf_137 : decode cX12_asksOf 137 = .ok (.getfield 170, 3) := by decide +kernel
theorem dX12_asksOf_140 : decode cX12_asksOf 140 = .ok (.iastore, 1) := by decide +kernel
theorem dX12_asksOf_141 : decode cX12_asksOf 141 = .ok (.aload_n 0, 1) := by decide +kernel
theorem dX12_asksOf_142 : decode cX12_asksOf 142 = .ok (.getfield 111, 3) := by decide +kernel
theorem dX12_asksOf_145 : decode cX12_asksOf 145 = .ok (.bipush 6, 2) := by decide +kernel
theorem dX12_asksOf_147 : decode cX12_asksOf 147 = .ok (.aload_n 0, 1) := by decide +kernel
theorem dX12_asksOf_148 : decode cX12_asksOf 148 = .ok (.getfield 314, 3) := by decide +kernel
theorem dX12_asksOf_151 : decode cX12_asksOf 151 = .ok (.iconst 1, 1) := by decide +kernel
theorem dX12_asksOf_152 : decode cX12_asksOf 152 = .ok (.iadd, 1) := by decide +kernel
theorem dX12_asksOf_153 : decode cX12_asksOf 153 = .ok (.aload_n 0, 1) := by decide +kernel
theorem dX12_asksOf_154 : decode cX12_asksOf 154 = .ok (.getfield 29, 3) := by decide +kernel
theorem dX12_asksOf_157 : decode cX12_asksOf 157 = .ok (.if_icmp .ge 23, 3) := by decide +kernel
theorem dX12_asksOf_160 : decode cX12_asksOf 160 = .ok (.aload_n 0, 1) := by decide +kernel
theorem dX12_asksOf_161 : decode cX12_asksOf 161 = .ok (.iload_n 2, 1) := by decide +kernel
theorem dX12_asksOf_162 : decode cX12_asksOf 162 = .ok (.aload_n 0, 1) := by decide +kernel
theorem dX12_asksOf_163 : decode cX12_asksOf 163 = .ok (.getfield 83, 3) := by decide +kernel
theorem dX12_asksOf_166 : decode cX12_asksOf 166 = .ok (.iload_n 1, 1) := by decide +kernel
theorem dX12_asksOf_167 : decode cX12_asksOf 167 = .ok (.iaload, 1) := by decide +kernel
theorem dX12_asksOf_168 : decode cX12_asksOf 168 = .ok (.aload_n 0, 1) := by decide +kernel
theorem dX12_asksOf_169 : decode cX12_asksOf 169 = .ok (.getfield 314, 3) := by decide +kernel
theorem dX12_asksOf_172 : decode cX12_asksOf 172 = .ok (.iconst 1, 1) := by decide +kernel
theorem dX12_asksOf_173 : decode cX12_asksOf 173 = .ok (.iadd, 1) := by decide +kernel
theorem dX12_asksOf_174 : decode cX12_asksOf 174 = .ok (.invokevirtual 198, 3) := by decide +kernel
theorem dX12_asksOf_177 : decode cX12_asksOf 177 = .ok (.goto 4, 3) := by decide +kernel
theorem dX12_asksOf_180 : decode cX12_asksOf 180 = .ok (.iconst 0, 1) := by decide +kernel
theorem dX12_asksOf_181 : decode cX12_asksOf 181 = .ok (.iastore, 1) := by decide +kernel
theorem dX12_asksOf_182 : decode cX12_asksOf 182 = .ok (.return_, 1) := by decide +kernel
theorem dX12_saysOf_0 : decode cX12_saysOf 0 = .ok (.aload_n 0, 1) := by decide +kernel
theorem dX12_saysOf_1 : decode cX12_saysOf 1 = .ok (.iload_n 1, 1) := by decide +kernel
theorem dX12_saysOf_2 : decode cX12_saysOf 2 = .ok (.invokevirtual 317, 3) := by decide +kernel
theorem dX12_saysOf_5 : decode cX12_saysOf 5 = .ok (.aload_n 0, 1) := by decide +kernel
theorem dX12_saysOf_6 : decode cX12_saysOf 6 = .ok (.getfield 86, 3) := by decide +kernel
theorem dX12_saysOf_9 : decode cX12_saysOf 9 = .ok (.iload_n 1, 1) := by decide +kernel
theorem dX12_saysOf_10 : decode cX12_saysOf 10 = .ok (.iaload, 1) := by decide +kernel
theorem dX12_saysOf_11 : decode cX12_saysOf 11 = .ok (.istore_n 3, 1) := by decide +kernel
theorem dX12_saysOf_12 : decode cX12_saysOf 12 = .ok (.aload_n 0, 1) := by decide +kernel
theorem dX12_saysOf_13 : decode cX12_saysOf 13 = .ok (.iconst 1, 1) := by decide +kernel
theorem dX12_saysOf_14 : decode cX12_saysOf 14 = .ok (.putfield 320, 3) := by decide +kernel
theorem dX12_saysOf_17 : decode cX12_saysOf 17 = .ok (.bipush 12, 2) := by decide +kernel
theorem dX12_saysOf_19 : decode cX12_saysOf 19 = .ok (.iload_n 3, 1) := by decide +kernel
theorem dX12_saysOf_20 : decode cX12_saysOf 20 = .ok (.imul, 1) := by decide +kernel
theorem dX12_saysOf_21 : decode cX12_saysOf 21 = .ok (.istore 4, 2) := by decide +kernel
theorem dX12_saysOf_23 : decode cX12_saysOf 23 = .ok (.iload 4, 2) := by decide +kernel
theorem dX12_saysOf_25 : decode cX12_saysOf 25 = .ok (.bipush 12, 2) := by decide +kernel
theorem dX12_saysOf_27 : decode cX12_saysOf 27 = .ok (.iload_n 3, 1) := by decide +kernel
theorem dX12_saysOf_28 : decode cX12_saysOf 28 = .ok (.imul, 1) := by decide +kernel
theorem dX12_saysOf_29 : decode cX12_saysOf 29 = .ok (.aload_n 0, 1) := by decide +kernel
theorem dX12_saysOf_30 : decode cX12_saysOf 30 = .ok (.getfield 53, 3) := by decide +kernel
theorem dX12_saysOf_33 : decode cX12_saysOf 33 = .ok (.iload_n 3, 1) := by decide +kernel
theorem dX12_saysOf_34 : decode cX12_saysOf 34 = .ok (.iaload, 1) := by decide +kernel
theorem dX12_saysOf_35 : decode cX12_saysOf 35 = .ok (.iadd, 1) := by decide +kernel
theorem dX12_saysOf_36 : decode cX12_saysOf 36 = .ok (.if_icmp .ge 82, 3) := by decide +kernel
theorem dX12_saysOf_39 : decode cX12_saysOf 39 = .ok (.aload_n 0, 1) := by decide +kernel
theorem dX12_saysOf_40 : decode cX12_saysOf 40 = .ok (.getfield 56, 3) := by decide +kernel
theorem dX12_saysOf_43 : decode cX12_saysOf 43 = .ok (.iload 4, 2) := by decide +kernel
theorem dX12_saysOf_45 : decode cX12_saysOf 45 = .ok (.iaload, 1) := by decide +kernel
theorem dX12_saysOf_46 : decode cX12_saysOf 46 = .ok (.iload_n 2, 1) := by decide +kernel
theorem dX12_saysOf_47 : decode cX12_saysOf 47 = .ok (.if_icmp .eq 6, 3) := by decide +kernel
theorem dX12_saysOf_50 : decode cX12_saysOf 50 = .ok (.goto 62, 3) := by decide +kernel
theorem dX12_saysOf_53 : decode cX12_saysOf 53 = .ok (.aload_n 0, 1) := by decide +kernel
theorem dX12_saysOf_54 : decode cX12_saysOf 54 = .ok (.getfield 65, 3) := by decide +kernel
theorem dX12_saysOf_57 : decode cX12_saysOf 57 = .ok (.iload 4, 2) := by decide +kernel
theorem dX12_saysOf_59 : decode cX12_saysOf 59 = .ok (.iaload, 1) := by decide +kernel
theorem dX12_saysOf_60 : decode cX12_saysOf 60 = .ok (.aload_n 0, 1) := by decide +kernel
theorem dX12_saysOf_61 : decode cX12_saysOf 61 = .ok (.getfield 62, 3) := by decide +kernel
theorem dX12_saysOf_64 : decode cX12_saysOf 64 = .ok (.iload 4, 2) := by decide +kernel
theorem dX12_saysOf_66 : decode cX12_saysOf 66 = .ok (.iaload, 1) := by decide +kernel
theorem dX12_saysOf_67 : decode cX12_saysOf 67 = .ok (.if_icmp .eq 25, 3) := by decide +kernel
theorem dX12_saysOf_70 : decode cX12_saysOf 70 = .ok (.aload_n 0, 1) := by decide +kernel
theorem dX12_saysOf_71 : decode cX12_saysOf 71 = .ok (.iload_n 3, 1) := by decide +kernel
theorem dX12_saysOf_72 : decode cX12_saysOf 72 = .ok (.aload_n 0, 1) := by decide +kernel
theorem dX12_saysOf_73 : decode cX12_saysOf 73 = .ok (.getfield 62, 3) := by decide +kernel
theorem dX12_saysOf_76 : decode cX12_saysOf 76 = .ok (.iload 4, 2) := by decide +kernel
theorem dX12_saysOf_78 : decode cX12_saysOf 78 = .ok (.iaload, 1) := by decide +kernel
theorem dX12_saysOf_79 : decode cX12_saysOf 79 = .ok (.aload_n 0, 1) := by decide +kernel
theorem dX12_saysOf_80 : decode cX12_saysOf 80 = .ok (.getfield 65, 3) := by decide +kernel
theorem dX12_saysOf_83 : decode cX12_saysOf 83 = .ok (.iload 4, 2) := by decide +kernel
theorem dX12_saysOf_85 : decode cX12_saysOf 85 = .ok (.iaload, 1) := by decide +kernel
theorem dX12_saysOf_86 : decode cX12_saysOf 86 = .ok (.invokevirtual 323, 3) := by decide +kernel
theorem dX12_saysOf_89 : decode cX12_saysOf 89 = .ok (.ifCond .eq 23, 3) := by decide +kernel
theorem dX12_saysOf_92 : decode cX12_saysOf 92 = .ok (.aload_n 0, 1) := by decide +kernel
theorem dX12_saysOf_93 : decode cX12_saysOf 93 = .ok (.iload_n 3, 1) := by decide +kernel
theorem dX12_saysOf_94 : decode cX12_saysOf 94 = .ok (.aload_n 0, 1) := by decide +kernel
theorem dX12_saysOf_95 : decode cX12_saysOf 95 = .ok (.getfield 59, 3) := by decide +kernel
theorem dX12_saysOf_98 : decode cX12_saysOf 98 = .ok (.iload 4, 2) := by decide +kernel
theorem dX12_saysOf_100 : decode cX12_saysOf 100 = .ok (.iaload, 1) := by decide +kernel
theorem dX12_saysOf_101 : decode cX12_saysOf 101 = .ok (.aload_n 0, 1) := by decide +kernel
theorem dX12_saysOf_102 : decode cX12_saysOf 102 = .ok (.getfield 62, 3) := by decide +kernel
theorem dX12_saysOf_105 : decode cX12_saysOf 105 = .ok (.iload 4, 2) := by decide +kernel
theorem dX12_saysOf_107 : decode cX12_saysOf 107 = .ok (.iaload, 1) := by decide +kernel
theorem dX12_saysOf_108 : decode cX12_saysOf 108 = .ok (.invokevirtual 323, 3) := by decide +kernel
theorem dX12_saysOf_111 : decode cX12_saysOf 111 = .ok (.ireturn, 1) := by decide +kernel
theorem dX12_saysOf_112 : decode cX12_saysOf 112 = .ok (.iinc 4 1, 3) := by decide +kernel
theorem dX12_saysOf_115 : decode cX12_saysOf 115 = .ok (.goto (-92), 3) := by decide +kernel
theorem dX12_saysOf_118 : decode cX12_saysOf 118 = .ok (.aload_n 0, 1) := by decide +kernel
theorem dX12_saysOf_119 : decode cX12_saysOf 119 = .ok (.iconst 0, 1) := by decide +kernel
theorem dX12_saysOf_120 : decode cX12_saysOf 120 = .ok (.putfield 320, 3) := by decide +kernel
theorem dX12_saysOf_123 : decode cX12_saysOf 123 = .ok (.iconst 0, 1) := by decide +kernel
theorem dX12_saysOf_124 : decode cX12_saysOf 124 = .ok (.ireturn, 1) := by decide +kernel
theorem dX12_worthFor_0 : decode cX12_worthFor 0 = .ok (.aload_n 0, 1) := by decide +kernel
theorem dX12_worthFor_1 : decode cX12_worthFor 1 = .ok (.aload_n 0, 1) := by decide +kernel
theorem dX12_worthFor_2 : decode cX12_worthFor 2 = .ok (.getfield 80, 3) := by decide +kernel
theorem dX12_worthFor_5 : decode cX12_worthFor 5 = .ok (.iload_n 1, 1) := by decide +kernel
theorem dX12_worthFor_6 : decode cX12_worthFor 6 = .ok (.iaload, 1) := by decide +kernel
theorem dX12_worthFor_7 : decode cX12_worthFor 7 = .ok (.aload_n 0, 1) := by decide +kernel
theorem dX12_worthFor_8 : decode cX12_worthFor 8 = .ok (.getfield 83, 3) := by decide +kernel
theorem dX12_worthFor_11 : decode cX12_worthFor 11 = .ok (.iload_n 1, 1) := by decide +kernel
theorem dX12_worthFor_12 : decode cX12_worthFor 12 = .ok (.iaload, 1) := by decide +kernel
theorem dX12_worthFor_13 : decode cX12_worthFor 13 = .ok (.aload_n 0, 1) := by decide +kernel
theorem dX12_worthFor_14 : decode cX12_worthFor 14 = .ok (.getfield 83, 3) := by decide +kernel
theorem dX12_worthFor_17 : decode cX12_worthFor 17 = .ok (.iload_n 2, 1) := by decide +kernel
theorem dX12_worthFor_18 : decode cX12_worthFor 18 = .ok (.iaload, 1) := by decide +kernel
theorem dX12_worthFor_19 : decode cX12_worthFor 19 = .ok (.invokevirtual 194, 3) := by decide +kernel
theorem dX12_worthFor_22 : decode cX12_worthFor 22 = .ok (.ireturn, 1) := by decide +kernel
theorem dX12_draw_0 : decode cX12_draw 0 = .ok (.aload_n 0, 1) := by decide +kernel
theorem dX12_draw_1 : decode cX12_draw 1 = .ok (.ldc_w 326, 3) := by decide +kernel
theorem dX12_draw_4 : decode cX12_draw 4 = .ok (.aload_n 0, 1) := by decide +kernel
theorem dX12_draw_5 : decode cX12_draw 5 = .ok (.getfield 308, 3) := by decide +kernel
theorem dX12_draw_8 : decode cX12_draw 8 = .ok (.imul, 1) := by decide +kernel
theorem dX12_draw_9 : decode cX12_draw 9 = .ok (.ldc_w 327, 3) := by decide +kernel
theorem dX12_draw_12 : decode cX12_draw 12 = .ok (.iadd, 1) := by decide +kernel
theorem dX12_draw_13 : decode cX12_draw 13 = .ok (.putfield 308, 3) := by decide +kernel
theorem dX12_draw_16 : decode cX12_draw 16 = .ok (.aload_n 0, 1) := by decide +kernel
theorem dX12_draw_17 : decode cX12_draw 17 = .ok (.getfield 308, 3) := by decide +kernel
theorem dX12_draw_20 : decode cX12_draw 20 = .ok (.bipush 8, 2) := by decide +kernel
theorem dX12_draw_22 : decode cX12_draw 22 = .ok (.iushr, 1) := by decide +kernel
theorem dX12_draw_23 : decode cX12_draw 23 = .ok (.iload_n 1, 1) := by decide +kernel
theorem dX12_draw_24 : decode cX12_draw 24 = .ok (.irem, 1) := by decide +kernel
theorem dX12_draw_25 : decode cX12_draw 25 = .ok (.ireturn, 1) := by decide +kernel
theorem dX12_becomePair_0 : decode cX12_becomePair 0 = .ok (.aload_n 0, 1) := by decide +kernel
theorem dX12_becomePair_1 : decode cX12_becomePair 1 = .ok (.getfield 89, 3) := by decide +kernel
theorem dX12_becomePair_4 : decode cX12_becomePair 4 = .ok (.iload_n 1, 1) := by decide +kernel
theorem dX12_becomePair_5 : decode cX12_becomePair 5 = .ok (.iload_n 2, 1) := by decide +kernel
theorem dX12_becomePair_6 : decode cX12_becomePair 6 = .ok (.iastore, 1) := by decide +kernel
theorem dX12_becomePair_7 : decode cX12_becomePair 7 = .ok (.aload_n 0, 1) := by decide +kernel
theorem dX12_becomePair_8 : decode cX12_becomePair 8 = .ok (.getfield 89, 3) := by decide +kernel
theorem dX12_becomePair_11 : decode cX12_becomePair 11 = .ok (.iload_n 2, 1) := by decide +kernel
theorem dX12_becomePair_12 : decode cX12_becomePair 12 = .ok (.iload_n 1, 1) := by decide +kernel
theorem dX12_becomePair_13 : decode cX12_becomePair 13 = .ok (.iastore, 1) := by decide +kernel
theorem dX12_becomePair_14 : decode cX12_becomePair 14 = .ok (.aload_n 0, 1) := by decide +kernel
theorem dX12_becomePair_15 : decode cX12_becomePair 15 = .ok (.getfield 98, 3) := by decide +kernel
theorem dX12_becomePair_18 : decode cX12_becomePair 18 = .ok (.iload_n 1, 1) := by decide +kernel
theorem dX12_becomePair_19 : decode cX12_becomePair 19 = .ok (.iload_n 3, 1) := by decide +kernel
theorem dX12_becomePair_20 : decode cX12_becomePair 20 = .ok (.iastore, 1) := by decide +kernel
theorem dX12_becomePair_21 : decode cX12_becomePair 21 = .ok (.aload_n 0, 1) := by decide +kernel
theorem dX12_becomePair_22 : decode cX12_becomePair 22 = .ok (.getfield 98, 3) := by decide +kernel
theorem dX12_becomePair_25 : decode cX12_becomePair 25 = .ok (.iload_n 2, 1) := by decide +kernel
theorem dX12_becomePair_26 : decode cX12_becomePair 26 = .ok (.iload 4, 2) := by decide +kernel
theorem dX12_becomePair_28 : decode cX12_becomePair 28 = .ok (.iastore, 1) := by decide +kernel
theorem dX12_becomePair_29 : decode cX12_becomePair 29 = .ok (.aload_n 0, 1) := by decide +kernel
theorem dX12_becomePair_30 : decode cX12_becomePair 30 = .ok (.getfield 95, 3) := by decide +kernel
theorem dX12_becomePair_33 : decode cX12_becomePair 33 = .ok (.iload_n 1, 1) := by decide +kernel
theorem dX12_becomePair_34 : decode cX12_becomePair 34 = .ok (.iconst 0, 1) := by decide +kernel
theorem dX12_becomePair_35 : decode cX12_becomePair 35 = .ok (.iastore, 1) := by decide +kernel
theorem dX12_becomePair_36 : decode cX12_becomePair 36 = .ok (.aload_n 0, 1) := by decide +kernel
theorem dX12_becomePair_37 : decode cX12_becomePair 37 = .ok (.getfield 95, 3) := by decide +kernel
theorem dX12_becomePair_40 : decode cX12_becomePair 40 = .ok (.iload_n 2, 1) := by decide +kernel
theorem dX12_becomePair_41 : decode cX12_becomePair 41 = .ok (.iconst 0, 1) := by decide +kernel
theorem dX12_becomePair_42 : decode cX12_becomePair 42 = .ok (.iastore, 1) := by decide +kernel
theorem dX12_becomePair_43 : decode cX12_becomePair 43 = .ok (.aload_n 0, 1) := by decide +kernel
theorem dX12_becomePair_44 : decode cX12_becomePair 44 = .ok (.getfield 101, 3) := by decide +kernel
theorem dX12_becomePair_47 : decode cX12_becomePair 47 = .ok (.iload_n 1, 1) := by decide +kernel
theorem dX12_becomePair_48 : decode cX12_becomePair 48 = .ok (.iconst 0, 1) := by decide +kernel
theorem dX12_becomePair_49 : decode cX12_becomePair 49 = .ok (.bastore, 1) := by decide +kernel
theorem dX12_becomePair_50 : decode cX12_becomePair 50 = .ok (.aload_n 0, 1) := by decide +kernel
theorem dX12_becomePair_51 : decode cX12_becomePair 51 = .ok (.getfield 101, 3) := by decide +kernel
theorem dX12_becomePair_54 : decode cX12_becomePair 54 = .ok (.iload_n 2, 1) := by decide +kernel
theorem dX12_becomePair_55 : decode cX12_becomePair 55 = .ok (.iconst 0, 1) := by decide +kernel
theorem dX12_becomePair_56 : decode cX12_becomePair 56 = .ok (.bastore, 1) := by decide +kernel
theorem dX12_becomePair_57 : decode cX12_becomePair 57 = .ok (.aload_n 0, 1) := by decide +kernel
theorem dX12_becomePair_58 : decode cX12_becomePair 58 = .ok (.aload_n 0, 1) := by decide +kernel
theorem dX12_becomePair_59 : decode cX12_becomePair 59 = .ok (.getfield 328, 3) := by decide +kernel
theorem dX12_becomePair_62 : decode cX12_becomePair 62 = .ok (.iconst 1, 1) := by decide +kernel
theorem dX12_becomePair_63 : decode cX12_becomePair 63 = .ok (.iadd, 1) := by decide +kernel
theorem dX12_becomePair_64 : decode cX12_becomePair 64 = .ok (.putfield 328, 3) := by decide +kernel
theorem dX12_becomePair_67 : decode cX12_becomePair 67 = .ok (.return_, 1) := by decide +kernel
theorem dX12_frees_0 : decode cX12_frees 0 = .ok (.aload_n 0, 1) := by decide +kernel
theorem dX12_frees_1 : decode cX12_frees 1 = .ok (.getfield 89, 3) := by decide +kernel
theorem dX12_frees_4 : decode cX12_frees 4 = .ok (.iload_n 1, 1) := by decide +kernel
theorem dX12_frees_5 : decode cX12_frees 5 = .ok (.iconst (-1), 1) := by decide +kernel
theorem dX12_frees_6 : decode cX12_frees 6 = .ok (.iastore, 1) := by decide +kernel
theorem dX12_frees_7 : decode cX12_frees 7 = .ok (.aload_n 0, 1) := by decide +kernel
theorem dX12_frees_8 : decode cX12_frees 8 = .ok (.getfield 95, 3) := by decide +kernel
theorem dX12_frees_11 : decode cX12_frees 11 = .ok (.iload_n 1, 1) := by decide +kernel
theorem dX12_frees_12 : decode cX12_frees 12 = .ok (.iconst 0, 1) := by decide +kernel
theorem dX12_frees_13 : decode cX12_frees 13 = .ok (.iastore, 1) := by decide +kernel
theorem dX12_frees_14 : decode cX12_frees 14 = .ok (.return_, 1) := by decide +kernel
theorem dX12_looksAgain_0 : decode cX12_looksAgain 0 = .ok (.iconst 0, 1) := by decide +kernel
theorem dX12_looksAgain_1 : decode cX12_looksAgain 1 = .ok (.istore_n 1, 1) := by decide +kernel
theorem dX12_looksAgain_2 : decode cX12_looksAgain 2 = .ok (.iload_n 1, 1) := by decide +kernel
theorem dX12_looksAgain_3 : decode cX12_looksAgain 3 = .ok (.aload_n 0, 1) := by decide +kernel
theorem dX12_looksAgain_4 : decode cX12_looksAgain 4 = .ok (.getfield 153, 3) := by decide +kernel
theorem dX12_looksAgain_7 : decode cX12_looksAgain 7 = .ok (.if_icmp .ge 155, 3) := by decide +kernel
theorem dX12_looksAgain_10 : decode cX12_looksAgain 10 = .ok (.aload_n 0, 1) := by decide +kernel
theorem dX12_looksAgain_11 : decode cX12_looksAgain 11 = .ok (.getfield 80, 3) := by decide +kernel
theorem dX12_looksAgain_14 : decode cX12_looksAgain 14 = .ok (.iload_n 1, 1) := by decide +kernel
theorem dX12_looksAgain_15 : decode cX12_looksAgain 15 = .ok (.iaload, 1) := by decide +kernel
theorem dX12_looksAgain_16 : decode cX12_looksAgain 16 = .ok (.ifCond .ne 140, 3) := by decide +kernel
theorem dX12_looksAgain_19 : decode cX12_looksAgain 19 = .ok (.aload_n 0, 1) := by decide +kernel
theorem dX12_looksAgain_20 : decode cX12_looksAgain 20 = .ok (.getfield 89, 3) := by decide +kernel
theorem dX12_looksAgain_23 : decode cX12_looksAgain 23 = .ok (.iload_n 1, 1) := by decide +kernel
theorem dX12_looksAgain_24 : decode cX12_looksAgain 24 = .ok (.iaload, 1) := by decide +kernel
theorem dX12_looksAgain_25 : decode cX12_looksAgain 25 = .ok (.iconst (-1), 1) := by decide +kernel
theorem dX12_looksAgain_26 : decode cX12_looksAgain 26 = .ok (.if_icmp .eq 130, 3) := by decide +kernel
theorem dX12_looksAgain_29 : decode cX12_looksAgain 29 = .ok (.aload_n 0, 1) := by decide +kernel
theorem dX12_looksAgain_30 : decode cX12_looksAgain 30 = .ok (.getfield 101, 3) := by decide +kernel
theorem dX12_looksAgain_33 : decode cX12_looksAgain 33 = .ok (.iload_n 1, 1) := by decide +kernel
theorem dX12_looksAgain_34 : decode cX12_looksAgain 34 = .ok (.baload, 1) := by decide +kernel
theorem dX12_looksAgain_35 : decode cX12_looksAgain 35 = .ok (.ifCond .ne 121, 3) := by decide +kernel
theorem dX12_looksAgain_38 : decode cX12_looksAgain 38 = .ok (.aload_n 0, 1) := by decide +kernel
theorem dX12_looksAgain_39 : decode cX12_looksAgain 39 = .ok (.getfield 95, 3) := by decide +kernel
theorem dX12_looksAgain_42 : decode cX12_looksAgain 42 = .ok (.iload_n 1, 1) := by decide +kernel
theorem dX12_looksAgain_43 : decode cX12_looksAgain 43 = .ok (.iaload, 1) := by decide +kernel
theorem dX12_looksAgain_44 : decode cX12_looksAgain 44 = .ok (.aload_n 0, 1) := by decide +kernel
theorem dX12_looksAgain_45 : decode cX12_looksAgain 45 = .ok (.getfield 32, 3) := by decide +kernel
theorem dX12_looksAgain_48 : decode cX12_looksAgain 48 = .ok (.if_icmp .ge 6, 3) := by decide +kernel
theorem dX12_looksAgain_51 : decode cX12_looksAgain 51 = .ok (.goto 105, 3) := by decide +kernel
theorem dX12_looksAgain_54 : decode cX12_looksAgain 54 = .ok (.aload_n 0, 1) := by decide +kernel
theorem dX12_looksAgain_55 : decode cX12_looksAgain 55 = .ok (.getfield 89, 3) := by decide +kernel
theorem dX12_looksAgain_58 : decode cX12_looksAgain 58 = .ok (.iload_n 1, 1) := by decide +kernel
theorem dX12_looksAgain_59 : decode cX12_looksAgain 59 = .ok (.iaload, 1) := by decide +kernel
theorem dX12_looksAgain_60 : decode cX12_looksAgain 60 = .ok (.istore_n 2, 1) := by decide +kernel
theorem dX12_looksAgain_61 : decode cX12_looksAgain 61 = .ok (.aload_n 0, 1) := by decide +kernel
theorem dX12_looksAgain_62 : decode cX12_looksAgain 62 = .ok (.getfield 101, 3) := by decide +kernel
theorem dX12_looksAgain_65 : decode cX12_looksAgain 65 = .ok (.iload_n 1, 1) := by decide +kernel
theorem dX12_looksAgain_66 : decode cX12_looksAgain 66 = .ok (.iconst 1, 1) := by decide +kernel
theorem dX12_looksAgain_67 : decode cX12_looksAgain 67 = .ok (.bastore, 1) := by decide +kernel
theorem dX12_looksAgain_68 : decode cX12_looksAgain 68 = .ok (.aload_n 0, 1) := by decide +kernel
theorem dX12_looksAgain_69 : decode cX12_looksAgain 69 = .ok (.getfield 101, 3) := by decide +kernel
theorem dX12_looksAgain_72 : decode cX12_looksAgain 72 = .ok (.iload_n 2, 1) := by decide +kernel
theorem dX12_looksAgain_73 : decode cX12_looksAgain 73 = .ok (.iconst 1, 1) := by decide +kernel
theorem dX12_looksAgain_74 : decode cX12_looksAgain 74 = .ok (.bastore, 1) := by decide +kernel
theorem dX12_looksAgain_75 : decode cX12_looksAgain 75 = .ok (.aload_n 0, 1) := by decide +kernel
theorem dX12_looksAgain_76 : decode cX12_looksAgain 76 = .ok (.iload_n 1, 1) := by decide +kernel
theorem dX12_looksAgain_77 : decode cX12_looksAgain 77 = .ok (.iload_n 2, 1) := by decide +kernel
theorem dX12_looksAgain_78 : decode cX12_looksAgain 78 = .ok (.invokevirtual 331, 3) := by decide +kernel
theorem dX12_looksAgain_81 : decode cX12_looksAgain 81 = .ok (.aload_n 0, 1) := by decide +kernel
theorem dX12_looksAgain_82 : decode cX12_looksAgain 82 = .ok (.getfield 98, 3) := by decide +kernel
theorem dX12_looksAgain_85 : decode cX12_looksAgain 85 = .ok (.iload_n 1, 1) := by decide +kernel
theorem dX12_looksAgain_86 : decode cX12_looksAgain 86 = .ok (.iaload, 1) := by decide +kernel
theorem dX12_looksAgain_87 : decode cX12_looksAgain 87 = .ok (.if_icmp .lt 21, 3) := by decide +kernel
theorem dX12_looksAgain_90 : decode cX12_looksAgain 90 = .ok (.aload_n 0, 1) := by decide +kernel
theorem dX12_looksAgain_91 : decode cX12_looksAgain 91 = .ok (.iload_n 2, 1) := by decide +kernel
theorem dX12_looksAgain_92 : decode cX12_looksAgain 92 = .ok (.iload_n 1, 1) := by decide +kernel
theorem dX12_looksAgain_93 : decode cX12_looksAgain 93 = .ok (.invokevirtual 331, 3) := by decide +kernel
theorem dX12_looksAgain_96 : decode cX12_looksAgain 96 = .ok (.aload_n 0, 1) := by decide +kernel
theorem dX12_looksAgain_97 : decode cX12_looksAgain 97 = .ok (.getfield 98, 3) := by decide +kernel
theorem dX12_looksAgain_100 : decode cX12_looksAgain 100 = .ok (.iload_n 2, 1) := by decide +kernel
theorem dX12_looksAgain_101 : decode cX12_looksAgain 101 = .ok (.iaload, 1) := by decide +kernel
theorem dX12_looksAgain_102 : decode cX12_looksAgain 102 = .ok (.if_icmp .lt 6, 3) := by decide +kernel
theorem dX12_looksAgain_105 : decode cX12_looksAgain 105 = .ok (.goto 51, 3) := by decide +kernel
theorem dX12_looksAgain_108 : decode cX12_looksAgain 108 = .ok (.aload_n 0, 1) := by decide +kernel
theorem dX12_looksAgain_109 : decode cX12_looksAgain 109 = .ok (.iload_n 1, 1) := by decide +kernel
theorem dX12_looksAgain_110 : decode cX12_looksAgain 110 = .ok (.invokevirtual 334, 3) := by decide +kernel
theorem dX12_looksAgain_113 : decode cX12_looksAgain 113 = .ok (.aload_n 0, 1) := by decide +kernel
theorem dX12_looksAgain_114 : decode cX12_looksAgain 114 = .ok (.iload_n 2, 1) := by decide +kernel
theorem dX12_looksAgain_115 : decode cX12_looksAgain 115 = .ok (.invokevirtual 334, 3) := by decide +kernel
theorem dX12_looksAgain_118 : decode cX12_looksAgain 118 = .ok (.aload_n 0, 1) := by decide +kernel
theorem dX12_looksAgain_119 : decode cX12_looksAgain 119 = .ok (.getfield 108, 3) := by decide +kernel
theorem dX12_looksAgain_122 : decode cX12_looksAgain 122 = .ok (.iload_n 1, 1) := by decide +kernel
theorem dX12_looksAgain_123 : decode cX12_looksAgain 123 = .ok (.aload_n 0, 1) := by decide +kernel
theorem dX12_looksAgain_124 : decode cX12_looksAgain 124 = .ok (.getfield 108, 3) := by decide +kernel
theorem dX12_looksAgain_127 : decode cX12_looksAgain 127 = .ok (.iload_n 1, 1) := by decide +kernel
theorem dX12_looksAgain_128 : decode cX12_looksAgain 128 = .ok (.iaload, 1) := by decide +kernel
theorem dX12_looksAgain_129 : decode cX12_looksAgain 129 = .ok (.iconst 1, 1) := by decide +kernel
theorem dX12_looksAgain_130 : decode cX12_looksAgain 130 = .ok (.iadd, 1) := by decide +kernel
theorem dX12_looksAgain_131 : decode cX12_looksAgain 131 = .ok (.iastore, 1) := by decide +kernel
theorem dX12_looksAgain_132 : decode cX12_looksAgain 132 = .ok (.aload_n 0, 1) := by decide +kernel
theorem dX12_looksAgain_133 : decode cX12_looksAgain 133 = .ok (.getfield 108, 3) := by decide +kernel
theorem dX12_looksAgain_136 : decode cX12_looksAgain 136 = .ok (.iload_n 2, 1) := by decide +kernel
theorem dX12_looksAgain_137 : decode cX12_looksAgain 137 = .ok (.aload_n 0, 1) := by decide +kernel
theorem dX12_looksAgain_138 : decode cX12_looksAgain 138 = .ok (.getfield 108, 3) := by decide +kernel
theorem dX12_looksAgain_141 : decode cX12_looksAgain 141 = .ok (.iload_n 2, 1) := by decide +kernel
theorem dX12_looksAgain_142 : decode cX12_looksAgain 142 = .ok (.iaload, 1) := by decide +kernel
theorem dX12_looksAgain_143 : decode cX12_looksAgain 143 = .ok (.iconst 1, 1) := by decide +kernel
theorem dX12_looksAgain_144 : decode cX12_looksAgain 144 = .ok (.iadd, 1) := by decide +kernel
theorem dX12_looksAgain_145 : decode cX12_looksAgain 145 = .ok (.iastore, 1) := by decide +kernel
theorem dX12_looksAgain_146 : decode cX12_looksAgain 146 = .ok (.aload_n 0, 1) := by decide +kernel
theorem dX12_looksAgain_147 : decode cX12_looksAgain 147 = .ok (.aload_n 0, 1) := by decide +kernel
theorem dX12_looksAgain_148 : decode cX12_looksAgain 148 = .ok (.getfield 337, 3) := by decide +kernel
theorem dX12_looksAgain_151 : decode cX12_looksAgain 151 = .ok (.iconst 1, 1) := by decide +kernel
theorem dX12_looksAgain_152 : decode cX12_looksAgain 152 = .ok (.iadd, 1) := by decide +kernel
theorem dX12_looksAgain_153 : decode cX12_looksAgain 153 = .ok (.putfield 337, 3) := by decide +kernel
theorem dX12_looksAgain_156 : decode cX12_looksAgain 156 = .ok (.iinc 1 1, 3) := by decide +kernel
theorem dX12_looksAgain_159 : decode cX12_looksAgain 159 = .ok (.goto (-157), 3) := by decide +kernel
theorem dX12_looksAgain_162 : decode cX12_looksAgain 162 = .ok (.return_, 1) := by decide +kernel
theorem dX12_canMeet_0 : decode cX12_canMeet 0 = .ok (.aload_n 0, 1) := by decide +kernel
theorem dX12_canMeet_1 : decode cX12_canMeet 1 = .ok (.getfield 80, 3) := by decide +kernel
theorem dX12_canMeet_4 : decode cX12_canMeet 4 = .ok (.iload_n 1, 1) := by decide +kernel
theorem dX12_canMeet_5 : decode cX12_canMeet 5 = .ok (.iaload, 1) := by decide +kernel
theorem dX12_canMeet_6 : decode cX12_canMeet 6 = .ok (.iconst 1, 1) := by decide +kernel
theorem dX12_canMeet_7 : decode cX12_canMeet 7 = .ok (.if_icmp .ne 25, 3) := by decide +kernel
theorem dX12_canMeet_10 : decode cX12_canMeet 10 = .ok (.aload_n 0, 1) := by decide +kernel
theorem dX12_canMeet_11 : decode cX12_canMeet 11 = .ok (.getfield 167, 3) := by decide +kernel
theorem dX12_canMeet_14 : decode cX12_canMeet 14 = .ok (.iconst 1, 1) := by decide +kernel
theorem dX12_canMeet_15 : decode cX12_canMeet 15 = .ok (.if_icmp .eq 13, 3) := by decide +kernel
theorem dX12_canMeet_18 : decode cX12_canMeet 18 = .ok (.aload_n 0, 1) := by decide +kernel
theorem dX12_canMeet_19 : decode cX12_canMeet 19 = .ok (.getfield 89, 3) := by decide +kernel
theorem dX12_canMeet_22 : decode cX12_canMeet 22 = .ok (.iload_n 1, 1) := by decide +kernel
theorem dX12_canMeet_23 : decode cX12_canMeet 23 = .ok (.iaload, 1) := by decide +kernel
theorem dX12_canMeet_24 : decode cX12_canMeet 24 = .ok (.iconst (-1), 1) := by decide +kernel
theorem dX12_canMeet_25 : decode cX12_canMeet 25 = .ok (.if_icmp .ne 7, 3) := by decide +kernel
theorem dX12_canMeet_28 : decode cX12_canMeet 28 = .ok (.iconst 1, 1) := by decide +kernel
theorem dX12_canMeet_29 : decode cX12_canMeet 29 = .ok (.goto 4, 3) := by decide +kernel
theorem dX12_canMeet_32 : decode cX12_canMeet 32 = .ok (.iconst 0, 1) := by decide +kernel
theorem dX12_canMeet_33 : decode cX12_canMeet 33 = .ok (.ireturn, 1) := by decide +kernel
theorem dX12_meets_0 : decode cX12_meets 0 = .ok (.iconst 0, 1) := by decide +kernel
theorem dX12_meets_1 : decode cX12_meets 1 = .ok (.istore_n 1, 1) := by decide +kernel
theorem dX12_meets_2 : decode cX12_meets 2 = .ok (.iconst 0, 1) := by decide +kernel
theorem dX12_meets_3 : decode cX12_meets 3 = .ok (.istore_n 2, 1) := by decide +kernel
theorem dX12_meets_4 : decode cX12_meets 4 = .ok (.iload_n 2, 1) := by decide +kernel
theorem dX12_meets_5 : decode cX12_meets 5 = .ok (.aload_n 0, 1) := by decide +kernel
theorem dX12_meets_6 : decode cX12_meets 6 = .ok (.getfield 153, 3) := by decide +kernel
theorem dX12_meets_9 : decode cX12_meets 9 = .ok (.if_icmp .ge 21, 3) := by decide +kernel
theorem dX12_meets_12 : decode cX12_meets 12 = .ok (.aload_n 0, 1) := by decide +kernel
theorem dX12_meets_13 : decode cX12_meets 13 = .ok (.iload_n 2, 1) := by decide +kernel
theorem dX12_meets_14 : decode cX12_meets 14 = .ok (.invokevirtual 340, 3) := by decide +kernel
theorem dX12_meets_17 : decode cX12_meets 17 = .ok (.ifCond .eq 7, 3) := by decide +kernel
theorem dX12_meets_20 : decode cX12_meets 20 = .ok (.iload_n 1, 1) := by decide +kernel
theorem dX12_meets_21 : decode cX12_meets 21 = .ok (.iconst 1, 1) := by decide +kernel
theorem dX12_meets_22 : decode cX12_meets 22 = .ok (.iadd, 1) := by decide +kernel
theorem dX12_meets_23 : decode cX12_meets 23 = .ok (.istore_n 1, 1) := by decide +kernel
theorem dX12_meets_24 : decode cX12_meets 24 = .ok (.iinc 2 1, 3) := by decide +kernel
theorem dX12_meets_27 : decode cX12_meets 27 = .ok (.goto (-23), 3) := by decide +kernel
theorem dX12_meets_30 : decode cX12_meets 30 = .ok (.iload_n 1, 1) := by decide +kernel
theorem dX12_meets_31 : decode cX12_meets 31 = .ok (.ifCond .ne 5, 3) := by decide +kernel
theorem dX12_meets_34 : decode cX12_meets 34 = .ok (.iconst (-1), 1) := by decide +kernel
theorem dX12_meets_35 : decode cX12_meets 35 = .ok (.ireturn, 1) := by decide +kernel
theorem dX12_meets_36 : decode cX12_meets 36 = .ok (.aload_n 0, 1) := by decide +kernel
theorem dX12_meets_37 : decode cX12_meets 37 = .ok (.iload_n 1, 1) := by decide +kernel
theorem dX12_meets_38 : decode cX12_meets 38 = .ok (.invokevirtual 343, 3) := by decide +kernel
theorem dX12_meets_41 : decode cX12_meets 41 = .ok (.istore_n 2, 1) := by decide +kernel
theorem dX12_meets_42 : decode cX12_meets 42 = .ok (.iconst 0, 1) := by decide +kernel
theorem dX12_meets_43 : decode cX12_meets 43 = .ok (.istore_n 3, 1) := by decide +kernel
theorem dX12_meets_44 : decode cX12_meets 44 = .ok (.aload_n 0, 1) := by decide +kernel
theorem dX12_meets_45 : decode cX12_meets 45 = .ok (.iload_n 3, 1) := by decide +kernel
theorem dX12_meets_46 : decode cX12_meets 46 = .ok (.invokevirtual 340, 3) := by decide +kernel
theorem dX12_meets_49 : decode cX12_meets 49 = .ok (.ifCond .eq 7, 3) := by decide +kernel
theorem dX12_meets_52 : decode cX12_meets 52 = .ok (.iload_n 2, 1) := by decide +kernel
theorem dX12_meets_53 : decode cX12_meets 53 = .ok (.ifCond .le 22, 3) := by decide +kernel
theorem dX12_meets_56 : decode cX12_meets 56 = .ok (.aload_n 0, 1) := by decide +kernel
theorem dX12_meets_57 : decode cX12_meets 57 = .ok (.iload_n 3, 1) := by decide +kernel
theorem dX12_meets_58 : decode cX12_meets 58 = .ok (.invokevirtual 340, 3) := by decide +kernel
theorem dX12_meets_61 : decode cX12_meets 61 = .ok (.ifCond .eq 7, 3) := by decide +kernel
theorem dX12_meets_64 : decode cX12_meets 64 = .ok (.iload_n 2, 1) := by decide +kernel
theorem dX12_meets_65 : decode cX12_meets 65 = .ok (.iconst 1, 1) := by decide +kernel
theorem dX12_meets_66 : decode cX12_meets 66 = .ok (.isub, 1) := by decide +kernel
theorem dX12_meets_67 : decode cX12_meets 67 = .ok (.istore_n 2, 1) := by decide +kernel
theorem dX12_meets_68 : decode cX12_meets 68 = .ok (.iload_n 3, 1) := by decide +kernel
theorem dX12_meets_69 : decode cX12_meets 69 = .ok (.iconst 1, 1) := by decide +kernel
theorem dX12_meets_70 : decode cX12_meets 70 = .ok (.iadd, 1) := by decide +kernel
theorem dX12_meets_71 : decode cX12_meets 71 = .ok (.istore_n 3, 1) := by decide +kernel
theorem dX12_meets_72 : decode cX12_meets 72 = .ok (.goto (-28), 3) := by decide +kernel
theorem dX12_meets_75 : decode cX12_meets 75 = .ok (.iload_n 3, 1) := by decide +kernel
theorem dX12_meets_76 : decode cX12_meets 76 = .ok (.ireturn, 1) := by decide +kernel
theorem dX12_seenBy_0 : decode cX12_seenBy 0 = .ok (.aload_n 0, 1) := by decide +kernel
theorem dX12_seenBy_1 : decode cX12_seenBy 1 = .ok (.iload_n 1, 1) := by decide +kernel
theorem dX12_seenBy_2 : decode cX12_seenBy 2 = .ok (.iload_n 2, 1) := by decide +kernel
theorem dX12_seenBy_3 : decode cX12_seenBy 3 = .ok (.invokevirtual 331, 3) := by decide +kernel
theorem dX12_seenBy_6 : decode cX12_seenBy 6 = .ok (.aload_n 0, 1) := by decide +kernel
theorem dX12_seenBy_7 : decode cX12_seenBy 7 = .ok (.getfield 164, 3) := by decide +kernel
theorem dX12_seenBy_10 : decode cX12_seenBy 10 = .ok (.ifCond .ne 7, 3) := by decide +kernel
theorem dX12_seenBy_13 : decode cX12_seenBy 13 = .ok (.iconst 0, 1) := by decide +kernel
theorem dX12_seenBy_14 : decode cX12_seenBy 14 = .ok (.goto 20, 3) := by decide +kernel
theorem dX12_seenBy_17 : decode cX12_seenBy 17 = .ok (.aload_n 0, 1) := by decide +kernel
theorem dX12_seenBy_18 : decode cX12_seenBy 18 = .ok (.iconst 2, 1) := by decide +kernel
theorem dX12_seenBy_19 : decode cX12_seenBy 19 = .ok (.aload_n 0, 1) := by decide +kernel
theorem dX12_seenBy_20 : decode cX12_seenBy 20 = .ok (.getfield 164, 3) := by decide +kernel
theorem dX12_seenBy_23 : decode cX12_seenBy 23 = .ok (.imul, 1) := by decide +kernel
theorem dX12_seenBy_24 : decode cX12_seenBy 24 = .ok (.iconst 1, 1) := by decide +kernel
theorem dX12_seenBy_25 : decode cX12_seenBy 25 = .ok (.iadd, 1) := by decide +kernel
theorem dX12_seenBy_26 : decode cX12_seenBy 26 = .ok (.invokevirtual 343, 3) := by decide +kernel
theorem dX12_seenBy_29 : decode cX12_seenBy 29 = .ok (.aload_n 0, 1) := by decide +kernel
theorem dX12_seenBy_30 : decode cX12_seenBy 30 = .ok (.getfield 164, 3) := by decide +kernel
theorem dX12_seenBy_33 : decode cX12_seenBy 33 = .ok (.isub, 1) := by decide +kernel
theorem dX12_seenBy_34 : decode cX12_seenBy 34 = .ok (.iadd, 1) := by decide +kernel
theorem dX12_seenBy_35 : decode cX12_seenBy 35 = .ok (.ireturn, 1) := by decide +kernel
theorem dX12_meeting_0 : decode cX12_meeting 0 = .ok (.aload_n 0, 1) := by decide +kernel
theorem dX12_meeting_1 : decode cX12_meeting 1 = .ok (.invokevirtual 346, 3) := by decide +kernel
theorem dX12_meeting_4 : decode cX12_meeting 4 = .ok (.istore_n 2, 1) := by decide +kernel
theorem dX12_meeting_5 : decode cX12_meeting 5 = .ok (.iload_n 2, 1) := by decide +kernel
theorem dX12_meeting_6 : decode cX12_meeting 6 = .ok (.iconst (-1), 1) := by decide +kernel
theorem dX12_meeting_7 : decode cX12_meeting 7 = .ok (.if_icmp .ne 4, 3) := by decide +kernel
theorem dX12_meeting_10 : decode cX12_meeting 10 = .ok (.return_, 1) := by decide +kernel
theorem dX12_meeting_11 : decode cX12_meeting 11 = .ok (.aload_n 0, 1) := by decide +kernel
theorem dX12_meeting_12 : decode cX12_meeting 12 = .ok (.aload_n 0, 1) := by decide +kernel
theorem dX12_meeting_13 : decode cX12_meeting 13 = .ok (.getfield 349, 3) := by decide +kernel
theorem dX12_meeting_16 : decode cX12_meeting 16 = .ok (.iconst 1, 1) := by decide +kernel
theorem dX12_meeting_17 : decode cX12_meeting 17 = .ok (.iadd, 1) := by decide +kernel
theorem dX12_meeting_18 : decode cX12_meeting 18 = .ok (.putfield 349, 3) := by decide +kernel
theorem dX12_meeting_21 : decode cX12_meeting 21 = .ok (.aload_n 0, 1) := by decide +kernel
theorem dX12_meeting_22 : decode cX12_meeting 22 = .ok (.iload_n 1, 1) := by decide +kernel
theorem dX12_meeting_23 : decode cX12_meeting 23 = .ok (.iload_n 2, 1) := by decide +kernel
theorem dX12_meeting_24 : decode cX12_meeting 24 = .ok (.invokevirtual 352, 3) := by decide +kernel
theorem dX12_meeting_27 : decode cX12_meeting 27 = .ok (.istore_n 3, 1) := by decide +kernel
theorem dX12_meeting_28 : decode cX12_meeting 28 = .ok (.aload_n 0, 1) := by decide +kernel
theorem dX12_meeting_29 : decode cX12_meeting 29 = .ok (.iload_n 2, 1) := by decide +kernel
theorem dX12_meeting_30 : decode cX12_meeting 30 = .ok (.iload_n 1, 1) := by decide +kernel
theorem dX12_meeting_31 : decode cX12_meeting 31 = .ok (.invokevirtual 352, 3) := by decide +kernel
theorem dX12_meeting_34 : decode cX12_meeting 34 = .ok (.istore 4, 2) := by decide +kernel
theorem dX12_meeting_36 : decode cX12_meeting 36 = .ok (.aload_n 0, 1) := by decide +kernel
theorem dX12_meeting_37 : decode cX12_meeting 37 = .ok (.iload_n 1, 1) := by decide +kernel
theorem dX12_meeting_38 : decode cX12_meeting 38 = .ok (.iconst 0, 1) := by decide +kernel
theorem dX12_meeting_39 : decode cX12_meeting 39 = .ok (.invokevirtual 355, 3) := by decide +kernel
theorem dX12_meeting_42 : decode cX12_meeting 42 = .ok (.istore 5, 2) := by decide +kernel
theorem dX12_meeting_44 : decode cX12_meeting 44 = .ok (.aload_n 0, 1) := by decide +kernel
theorem dX12_meeting_45 : decode cX12_meeting 45 = .ok (.iload_n 2, 1) := by decide +kernel
theorem dX12_meeting_46 : decode cX12_meeting 46 = .ok (.iconst 0, 1) := by decide +kernel
theorem dX12_meeting_47 : decode cX12_meeting 47 = .ok (.invokevirtual 355, 3) := by decide +kernel
theorem dX12_meeting_50 : decode cX12_meeting 50 = .ok (.istore 6, 2) := by decide +kernel
theorem dX12_meeting_52 : decode cX12_meeting 52 = .ok (.iload_n 3, 1) := by decide +kernel
theorem dX12_meeting_53 : decode cX12_meeting 53 = .ok (.iload 5, 2) := by decide +kernel
theorem dX12_meeting_55 : decode cX12_meeting 55 = .ok (.if_icmp .ge 4, 3) := by decide +kernel
theorem dX12_meeting_58 : decode cX12_meeting 58 = .ok (.return_, 1) := by decide +kernel
theorem dX12_meeting_59 : decode cX12_meeting 59 = .ok (.aload_n 0, 1) := by decide +kernel
theorem dX12_meeting_60 : decode cX12_meeting 60 = .ok (.getfield 89, 3) := by decide +kernel
theorem dX12_meeting_63 : decode cX12_meeting 63 = .ok (.iload_n 2, 1) := by decide +kernel
theorem dX12_meeting_64 : decode cX12_meeting 64 = .ok (.iaload, 1) := by decide +kernel
theorem dX12_meeting_65 : decode cX12_meeting 65 = .ok (.iconst (-1), 1) := by decide +kernel
theorem dX12_meeting_66 : decode cX12_meeting 66 = .ok (.if_icmp .ne 21, 3) := by decide +kernel
theorem dX12_meeting_69 : decode cX12_meeting 69 = .ok (.iload 4, 2) := by decide +kernel
theorem dX12_meeting_71 : decode cX12_meeting 71 = .ok (.iload 6, 2) := by decide +kernel
theorem dX12_meeting_73 : decode cX12_meeting 73 = .ok (.if_icmp .lt 13, 3) := by decide +kernel
theorem dX12_meeting_76 : decode cX12_meeting 76 = .ok (.aload_n 0, 1) := by decide +kernel
theorem dX12_meeting_77 : decode cX12_meeting 77 = .ok (.iload_n 1, 1) := by decide +kernel
theorem dX12_meeting_78 : decode cX12_meeting 78 = .ok (.iload_n 2, 1) := by decide +kernel
theorem dX12_meeting_79 : decode cX12_meeting 79 = .ok (.iload 5, 2) := by decide +kernel
theorem dX12_meeting_81 : decode cX12_meeting 81 = .ok (.iload 6, 2) := by decide +kernel
theorem dX12_meeting_83 : decode cX12_meeting 83 = .ok (.invokevirtual 358, 3) := by decide +kernel
theorem dX12_meeting_86 : decode cX12_meeting 86 = .ok (.return_, 1) := by decide +kernel
theorem dX12_meeting_87 : decode cX12_meeting 87 = .ok (.aload_n 0, 1) := by decide +kernel
theorem dX12_meeting_88 : decode cX12_meeting 88 = .ok (.getfield 89, 3) := by decide +kernel
theorem dX12_meeting_91 : decode cX12_meeting 91 = .ok (.iload_n 2, 1) := by decide +kernel
theorem dX12_meeting_92 : decode cX12_meeting 92 = .ok (.iaload, 1) := by decide +kernel
theorem dX12_meeting_93 : decode cX12_meeting 93 = .ok (.istore 7, 2) := by decide +kernel
theorem dX12_meeting_95 : decode cX12_meeting 95 = .ok (.aload_n 0, 1) := by decide +kernel
theorem dX12_meeting_96 : decode cX12_meeting 96 = .ok (.iload_n 2, 1) := by decide +kernel
theorem dX12_meeting_97 : decode cX12_meeting 97 = .ok (.iconst 1, 1) := by decide +kernel
theorem dX12_meeting_98 : decode cX12_meeting 98 = .ok (.invokevirtual 355, 3) := by decide +kernel
theorem dX12_meeting_101 : decode cX12_meeting 101 = .ok (.istore 8, 2) := by decide +kernel
theorem dX12_meeting_103 : decode cX12_meeting 103 = .ok (.aload_n 0, 1) := by decide +kernel
theorem dX12_meeting_104 : decode cX12_meeting 104 = .ok (.getfield 320, 3) := by decide +kernel
theorem dX12_meeting_107 : decode cX12_meeting 107 = .ok (.ifCond .eq 18, 3) := by decide +kernel
theorem dX12_meeting_110 : decode cX12_meeting 110 = .ok (.iload 4, 2) := by decide +kernel
theorem dX12_meeting_112 : decode cX12_meeting 112 = .ok (.aload_n 0, 1) := by decide +kernel
theorem dX12_meeting_113 : decode cX12_meeting 113 = .ok (.iload_n 2, 1) := by decide +kernel
theorem dX12_meeting_114 : decode cX12_meeting 114 = .ok (.iload 7, 2) := by decide +kernel
theorem dX12_meeting_116 : decode cX12_meeting 116 = .ok (.invokevirtual 331, 3) := by decide +kernel
theorem dX12_meeting_119 : decode cX12_meeting 119 = .ok (.iload 8, 2) := by decide +kernel
theorem dX12_meeting_121 : decode cX12_meeting 121 = .ok (.iadd, 1) := by decide +kernel
theorem dX12_meeting_122 : decode cX12_meeting 122 = .ok (.if_icmp .ge 4, 3) := by decide +kernel
theorem dX12_meeting_125 : decode cX12_meeting 125 = .ok (.return_, 1) := by decide +kernel
theorem dX12_meeting_126 : decode cX12_meeting 126 = .ok (.aload_n 0, 1) := by decide +kernel
theorem dX12_meeting_127 : decode cX12_meeting 127 = .ok (.iload 7, 2) := by decide +kernel
theorem dX12_meeting_129 : decode cX12_meeting 129 = .ok (.invokevirtual 334, 3) := by decide +kernel
theorem dX12_meeting_132 : decode cX12_meeting 132 = .ok (.aload_n 0, 1) := by decide +kernel
theorem dX12_meeting_133 : decode cX12_meeting 133 = .ok (.getfield 105, 3) := by decide +kernel
theorem dX12_meeting_136 : decode cX12_meeting 136 = .ok (.iload 7, 2) := by decide +kernel
theorem dX12_meeting_138 : decode cX12_meeting 138 = .ok (.aload_n 0, 1) := by decide +kernel
theorem dX12_meeting_139 : decode cX12_meeting 139 = .ok (.getfield 105, 3) := by decide +kernel
theorem dX12_meeting_142 : decode cX12_meeting 142 = .ok (.iload 7, 2) := by decide +kernel
theorem dX12_meeting_144 : decode cX12_meeting 144 = .ok (.iaload, 1) := by decide +kernel
theorem dX12_meeting_145 : decode cX12_meeting 145 = .ok (.iconst 1, 1) := by decide +kernel
theorem dX12_meeting_146 : decode cX12_meeting 146 = .ok (.iadd, 1) := by decide +kernel
theorem dX12_meeting_147 : decode cX12_meeting 147 = .ok (.iastore, 1) := by decide +kernel
theorem dX12_meeting_148 : decode cX12_meeting 148 = .ok (.aload_n 0, 1) := by decide +kernel
theorem dX12_meeting_149 : decode cX12_meeting 149 = .ok (.aload_n 0, 1) := by decide +kernel
theorem dX12_meeting_150 : decode cX12_meeting 150 = .ok (.getfield 362, 3) := by decide +kernel
theorem dX12_meeting_153 : decode cX12_meeting 153 = .ok (.iconst 1, 1) := by decide +kernel
theorem dX12_meeting_154 : decode cX12_meeting 154 = .ok (.iadd, 1) := by decide +kernel
theorem dX12_meeting_155 : decode cX12_meeting 155 = .ok (.putfield 362, 3) := by decide +kernel
theorem dX12_meeting_158 : decode cX12_meeting 158 = .ok (.aload_n 0, 1) := by decide +kernel
theorem dX12_meeting_159 : decode cX12_meeting 159 = .ok (.iload_n 1, 1) := by decide +kernel
theorem dX12_meeting_160 : decode cX12_meeting 160 = .ok (.iload_n 2, 1) := by decide +kernel
theorem dX12_meeting_161 : decode cX12_meeting 161 = .ok (.iload 5, 2) := by decide +kernel
theorem dX12_meeting_163 : decode cX12_meeting 163 = .ok (.iload 6, 2) := by decide +kernel
theorem dX12_meeting_165 : decode cX12_meeting 165 = .ok (.invokevirtual 358, 3) := by decide +kernel
theorem dX12_meeting_168 : decode cX12_meeting 168 = .ok (.return_, 1) := by decide +kernel
theorem dX12_goesBy_0 : decode cX12_goesBy 0 = .ok (.aload_n 0, 1) := by decide +kernel
theorem dX12_goesBy_1 : decode cX12_goesBy 1 = .ok (.invokevirtual 365, 3) := by decide +kernel
theorem dX12_goesBy_4 : decode cX12_goesBy 4 = .ok (.iconst 0, 1) := by decide +kernel
theorem dX12_goesBy_5 : decode cX12_goesBy 5 = .ok (.istore_n 1, 1) := by decide +kernel
theorem dX12_goesBy_6 : decode cX12_goesBy 6 = .ok (.iload_n 1, 1) := by decide +kernel
theorem dX12_goesBy_7 : decode cX12_goesBy 7 = .ok (.aload_n 0, 1) := by decide +kernel
theorem dX12_goesBy_8 : decode cX12_goesBy 8 = .ok (.getfield 153, 3) := by decide +kernel
theorem dX12_goesBy_11 : decode cX12_goesBy 11 = .ok (.if_icmp .ge 33, 3) := by decide +kernel
theorem dX12_goesBy_14 : decode cX12_goesBy 14 = .ok (.aload_n 0, 1) := by decide +kernel
theorem dX12_goesBy_15 : decode cX12_goesBy 15 = .ok (.getfield 80, 3) := by decide +kernel
theorem dX12_goesBy_18 : decode cX12_goesBy 18 = .ok (.iload_n 1, 1) := by decide +kernel
theorem dX12_goesBy_19 : decode cX12_goesBy 19 = .ok (.iaload, 1) := by decide +kernel
theorem dX12_goesBy_20 : decode cX12_goesBy 20 = .ok (.ifCond .ne 18, 3) := by decide +kernel
theorem dX12_goesBy_23 : decode cX12_goesBy 23 = .ok (.aload_n 0, 1) := by decide +kernel
theorem dX12_goesBy_24 : decode cX12_goesBy 24 = .ok (.getfield 89, 3) := by decide +kernel
theorem dX12_goesBy_27 : decode cX12_goesBy 27 = .ok (.iload_n 1, 1) := by decide +kernel
theorem dX12_goesBy_28 : decode cX12_goesBy 28 = .ok (.iaload, 1) := by decide +kernel
theorem dX12_goesBy_29 : decode cX12_goesBy 29 = .ok (.iconst (-1), 1) := by decide +kernel
theorem dX12_goesBy_30 : decode cX12_goesBy 30 = .ok (.if_icmp .ne 8, 3) := by decide +kernel
theorem dX12_goesBy_33 : decode cX12_goesBy 33 = .ok (.aload_n 0, 1) := by decide +kernel
theorem dX12_goesBy_34 : decode cX12_goesBy 34 = .ok (.iload_n 1, 1) := by decide +kernel
theorem dX12_goesBy_35 : decode cX12_goesBy 35 = .ok (.invokevirtual 368, 3) := by decide +kernel
theorem dX12_goesBy_38 : decode cX12_goesBy 38 = .ok (.iinc 1 1, 3) := by decide +kernel
theorem dX12_goesBy_41 : decode cX12_goesBy 41 = .ok (.goto (-35), 3) := by decide +kernel
theorem dX12_goesBy_44 : decode cX12_goesBy 44 = .ok (.iconst 0, 1) := by decide +kernel
theorem dX12_goesBy_45 : decode cX12_goesBy 45 = .ok (.istore_n 1, 1) := by decide +kernel
theorem dX12_goesBy_46 : decode cX12_goesBy 46 = .ok (.iload_n 1, 1) := by decide +kernel
theorem dX12_goesBy_47 : decode cX12_goesBy 47 = .ok (.aload_n 0, 1) := by decide +kernel
theorem dX12_goesBy_48 : decode cX12_goesBy 48 = .ok (.getfield 153, 3) := by decide +kernel
theorem dX12_goesBy_51 : decode cX12_goesBy 51 = .ok (.if_icmp .ge 50, 3) := by decide +kernel
theorem dX12_goesBy_54 : decode cX12_goesBy 54 = .ok (.aload_n 0, 1) := by decide +kernel
theorem dX12_goesBy_55 : decode cX12_goesBy 55 = .ok (.getfield 89, 3) := by decide +kernel
theorem dX12_goesBy_58 : decode cX12_goesBy 58 = .ok (.iload_n 1, 1) := by decide +kernel
theorem dX12_goesBy_59 : decode cX12_goesBy 59 = .ok (.iaload, 1) := by decide +kernel
theorem dX12_goesBy_60 : decode cX12_goesBy 60 = .ok (.iconst (-1), 1) := by decide +kernel
theorem dX12_goesBy_61 : decode cX12_goesBy 61 = .ok (.if_icmp .ne 20, 3) := by decide +kernel
theorem dX12_goesBy_64 : decode cX12_goesBy 64 = .ok (.aload_n 0, 1) := by decide +kernel
theorem dX12_goesBy_65 : decode cX12_goesBy 65 = .ok (.getfield 92, 3) := by decide +kernel
theorem dX12_goesBy_68 : decode cX12_goesBy 68 = .ok (.iload_n 1, 1) := by decide +kernel
theorem dX12_goesBy_69 : decode cX12_goesBy 69 = .ok (.aload_n 0, 1) := by decide +kernel
theorem dX12_goesBy_70 : decode cX12_goesBy 70 = .ok (.getfield 92, 3) := by decide +kernel
theorem dX12_goesBy_73 : decode cX12_goesBy 73 = .ok (.iload_n 1, 1) := by decide +kernel
theorem dX12_goesBy_74 : decode cX12_goesBy 74 = .ok (.iaload, 1) := by decide +kernel
theorem dX12_goesBy_75 : decode cX12_goesBy 75 = .ok (.iconst 1, 1) := by decide +kernel
theorem dX12_goesBy_76 : decode cX12_goesBy 76 = .ok (.iadd, 1) := by decide +kernel
theorem dX12_goesBy_77 : decode cX12_goesBy 77 = .ok (.iastore, 1) := by decide +kernel
theorem dX12_goesBy_78 : decode cX12_goesBy 78 = .ok (.goto 17, 3) := by decide +kernel
theorem dX12_goesBy_81 : decode cX12_goesBy 81 = .ok (.aload_n 0, 1) := by decide +kernel
theorem dX12_goesBy_82 : decode cX12_goesBy 82 = .ok (.getfield 95, 3) := by decide +kernel
theorem dX12_goesBy_85 : decode cX12_goesBy 85 = .ok (.iload_n 1, 1) := by decide +kernel
theorem dX12_goesBy_86 : decode cX12_goesBy 86 = .ok (.aload_n 0, 1) := by decide +kernel
theorem dX12_goesBy_87 : decode cX12_goesBy 87 = .ok (.getfield 95, 3) := by decide +kernel
theorem dX12_goesBy_90 : decode cX12_goesBy 90 = .ok (.iload_n 1, 1) := by decide +kernel
theorem dX12_goesBy_91 : decode cX12_goesBy 91 = .ok (.iaload, 1) := by decide +kernel
theorem dX12_goesBy_92 : decode cX12_goesBy 92 = .ok (.iconst 1, 1) := by decide +kernel
theorem dX12_goesBy_93 : decode cX12_goesBy 93 = .ok (.iadd, 1) := by decide +kernel
theorem dX12_goesBy_94 : decode cX12_goesBy 94 = .ok (.iastore, 1) := by decide +kernel
theorem dX12_goesBy_95 : decode cX12_goesBy 95 = .ok (.iinc 1 1, 3) := by decide +kernel
theorem dX12_goesBy_98 : decode cX12_goesBy 98 = .ok (.goto (-52), 3) := by decide +kernel
theorem dX12_goesBy_101 : decode cX12_goesBy 101 = .ok (.aload_n 0, 1) := by decide +kernel
theorem dX12_goesBy_102 : decode cX12_goesBy 102 = .ok (.aload_n 0, 1) := by decide +kernel
theorem dX12_goesBy_103 : decode cX12_goesBy 103 = .ok (.getfield 314, 3) := by decide +kernel
theorem dX12_goesBy_106 : decode cX12_goesBy 106 = .ok (.iconst 1, 1) := by decide +kernel
theorem dX12_goesBy_107 : decode cX12_goesBy 107 = .ok (.iadd, 1) := by decide +kernel
theorem dX12_goesBy_108 : decode cX12_goesBy 108 = .ok (.putfield 314, 3) := by decide +kernel
theorem dX12_goesBy_111 : decode cX12_goesBy 111 = .ok (.return_, 1) := by decide +kernel
theorem dX12_pairMany_0 : decode cX12_pairMany 0 = .ok (.iconst 0, 1) := by decide +kernel
theorem dX12_pairMany_1 : decode cX12_pairMany 1 = .ok (.istore_n 1, 1) := by decide +kernel
theorem dX12_pairMany_2 : decode cX12_pairMany 2 = .ok (.iconst 0, 1) := by decide +kernel
theorem dX12_pairMany_3 : decode cX12_pairMany 3 = .ok (.istore_n 2, 1) := by decide +kernel
theorem dX12_pairMany_4 : decode cX12_pairMany 4 = .ok (.iload_n 2, 1) := by decide +kernel
theorem dX12_pairMany_5 : decode cX12_pairMany 5 = .ok (.aload_n 0, 1) := by decide +kernel
theorem dX12_pairMany_6 : decode cX12_pairMany 6 = .ok (.getfield 153, 3) := by decide +kernel
theorem dX12_pairMany_9 : decode cX12_pairMany 9 = .ok (.if_icmp .ge 32, 3) := by decide +kernel
theorem dX12_pairMany_12 : decode cX12_pairMany 12 = .ok (.aload_n 0, 1) := by decide +kernel
theorem dX12_pairMany_13 : decode cX12_pairMany 13 = .ok (.getfield 80, 3) := by decide +kernel
theorem dX12_pairMany_16 : decode cX12_pairMany 16 = .ok (.iload_n 2, 1) := by decide +kernel
theorem dX12_pairMany_17 : decode cX12_pairMany 17 = .ok (.iaload, 1) := by decide +kernel
theorem dX12_pairMany_18 : decode cX12_pairMany 18 = .ok (.ifCond .ne 17, 3) := by decide +kernel
theorem dX12_pairMany_21 : decode cX12_pairMany 21 = .ok (.aload_n 0, 1) := by decide +kernel
theorem dX12_pairMany_22 : decode cX12_pairMany 22 = .ok (.getfield 89, 3) := by decide +kernel
theorem dX12_pairMany_25 : decode cX12_pairMany 25 = .ok (.iload_n 2, 1) := by decide +kernel
theorem dX12_pairMany_26 : decode cX12_pairMany 26 = .ok (.iaload, 1) := by decide +kernel
theorem dX12_pairMany_27 : decode cX12_pairMany 27 = .ok (.iconst (-1), 1) := by decide +kernel
theorem dX12_pairMany_28 : decode cX12_pairMany 28 = .ok (.if_icmp .eq 7, 3) := by decide +kernel
theorem dX12_pairMany_31 : decode cX12_pairMany 31 = .ok (.iload_n 1, 1) := by decide +kernel
theorem dX12_pairMany_32 : decode cX12_pairMany 32 = .ok (.iconst 1, 1) := by decide +kernel
theorem dX12_pairMany_33 : decode cX12_pairMany 33 = .ok (.iadd, 1) := by decide +kernel
theorem dX12_pairMany_34 : decode cX12_pairMany 34 = .ok (.istore_n 1, 1) := by decide +kernel
theorem dX12_pairMany_35 : decode cX12_pairMany 35 = .ok (.iinc 2 1, 3) := by decide +kernel
theorem dX12_pairMany_38 : decode cX12_pairMany 38 = .ok (.goto (-34), 3) := by decide +kernel
theorem dX12_pairMany_41 : decode cX12_pairMany 41 = .ok (.iload_n 1, 1) := by decide +kernel
theorem dX12_pairMany_42 : decode cX12_pairMany 42 = .ok (.ireturn, 1) := by decide +kernel
theorem dX12_weeks_0 : decode cX12_weeks 0 = .ok (.aload_n 0, 1) := by decide +kernel
theorem dX12_weeks_1 : decode cX12_weeks 1 = .ok (.iconst 0, 1) := by decide +kernel
theorem dX12_weeks_2 : decode cX12_weeks 2 = .ok (.putfield 142, 3) := by decide +kernel
theorem dX12_weeks_5 : decode cX12_weeks 5 = .ok (.aload_n 0, 1) := by decide +kernel
theorem dX12_weeks_6 : decode cX12_weeks 6 = .ok (.iload_n 1, 1) := by decide +kernel
theorem dX12_weeks_7 : decode cX12_weeks 7 = .ok (.iconst 1, 1) := by decide +kernel
theorem dX12_weeks_8 : decode cX12_weeks 8 = .ok (.bipush 20, 2) := by decide +kernel
theorem dX12_weeks_10 : decode cX12_weeks 10 = .ok (.invokevirtual 149, 3) := by decide +kernel
theorem dX12_weeks_13 : decode cX12_weeks 13 = .ok (.ifCond .eq 14, 3) := by decide +kernel
theorem dX12_weeks_16 : decode cX12_weeks 16 = .ok (.aload_n 0, 1) := by decide +kernel
theorem dX12_weeks_17 : decode cX12_weeks 17 = .ok (.getfield 314, 3) := by decide +kernel
theorem dX12_weeks_20 : decode cX12_weeks 20 = .ok (.iload_n 1, 1) := by decide +kernel
theorem dX12_weeks_21 : decode cX12_weeks 21 = .ok (.iadd, 1) := by decide +kernel
theorem dX12_weeks_22 : decode cX12_weeks 22 = .ok (.bipush 99, 2) := by decide +kernel
theorem dX12_weeks_24 : decode cX12_weeks 24 = .ok (.if_icmp .le 5, 3) := by decide +kernel
theorem dX12_weeks_27 : decode cX12_weeks 27 = .ok (.iconst (-1), 1) := by decide +kernel
theorem dX12_weeks_28 : decode cX12_weeks 28 = .ok (.ireturn, 1) := by decide +kernel
theorem dX12_weeks_29 : decode cX12_weeks 29 = .ok (.iconst 0, 1) := by decide +kernel
theorem dX12_weeks_30 : decode cX12_weeks 30 = .ok (.istore_n 2, 1) := by decide +kernel
theorem dX12_weeks_31 : decode cX12_weeks 31 = .ok (.iload_n 2, 1) := by decide +kernel
theorem dX12_weeks_32 : decode cX12_weeks 32 = .ok (.iload_n 1, 1) := by decide +kernel
theorem dX12_weeks_33 : decode cX12_weeks 33 = .ok (.if_icmp .ge 13, 3) := by decide +kernel
theorem dX12_weeks_36 : decode cX12_weeks 36 = .ok (.aload_n 0, 1) := by decide +kernel
theorem dX12_weeks_37 : decode cX12_weeks 37 = .ok (.invokevirtual 371, 3) := by decide +kernel
theorem dX12_weeks_40 : decode cX12_weeks 40 = .ok (.iinc 2 1, 3) := by decide +kernel
theorem dX12_weeks_43 : decode cX12_weeks 43 = .ok (.goto (-12), 3) := by decide +kernel
theorem dX12_weeks_46 : decode cX12_weeks 46 = .ok (.aload_n 0, 1) := by decide +kernel
theorem dX12_weeks_47 : decode cX12_weeks 47 = .ok (.invokevirtual 374, 3) := by decide +kernel
theorem dX12_weeks_50 : decode cX12_weeks 50 = .ok (.ireturn, 1) := by decide +kernel
theorem dX12_one_0 : decode cX12_one 0 = .ok (.aload_n 0, 1) := by decide +kernel
theorem dX12_one_1 : decode cX12_one 1 = .ok (.iconst 0, 1) := by decide +kernel
theorem dX12_one_2 : decode cX12_one 2 = .ok (.putfield 142, 3) := by decide +kernel
theorem dX12_one_5 : decode cX12_one 5 = .ok (.aload_n 0, 1) := by decide +kernel
theorem dX12_one_6 : decode cX12_one 6 = .ok (.iload_n 1, 1) := by decide +kernel
theorem dX12_one_7 : decode cX12_one 7 = .ok (.invokevirtual 377, 3) := by decide +kernel
theorem dX12_one_10 : decode cX12_one 10 = .ok (.ifCond .eq 14, 3) := by decide +kernel
theorem dX12_one_13 : decode cX12_one 13 = .ok (.aload_n 0, 1) := by decide +kernel
theorem dX12_one_14 : decode cX12_one 14 = .ok (.iload_n 2, 1) := by decide +kernel
theorem dX12_one_15 : decode cX12_one 15 = .ok (.iconst 0, 1) := by decide +kernel
theorem dX12_one_16 : decode cX12_one 16 = .ok (.bipush 7, 2) := by decide +kernel
theorem dX12_one_18 : decode cX12_one 18 = .ok (.invokevirtual 149, 3) := by decide +kernel
theorem dX12_one_21 : decode cX12_one 21 = .ok (.ifCond .ne 6, 3) := by decide +kernel
theorem dX12_one_24 : decode cX12_one 24 = .ok (.ldc 186, 2) := by decide +kernel
theorem dX12_one_26 : decode cX12_one 26 = .ok (.ireturn, 1) := by decide +kernel
theorem dX12_one_27 : decode cX12_one 27 = .ok (.iload_n 2, 1) := by decide +kernel
theorem dX12_one_28 : decode cX12_one 28 = .ok (.ifCond .ne 10, 3) := by decide +kernel
theorem dX12_one_31 : decode cX12_one 31 = .ok (.aload_n 0, 1) := by decide +kernel
theorem dX12_one_32 : decode cX12_one 32 = .ok (.getfield 89, 3) := by decide +kernel
theorem dX12_one_35 : decode cX12_one 35 = .ok (.iload_n 1, 1) := by decide +kernel
theorem dX12_one_36 : decode cX12_one 36 = .ok (.iaload, 1) := by decide +kernel
theorem dX12_one_37 : decode cX12_one 37 = .ok (.ireturn, 1) := by decide +kernel
theorem dX12_one_38 : decode cX12_one 38 = .ok (.iload_n 2, 1) := by decide +kernel
theorem dX12_one_39 : decode cX12_one 39 = .ok (.iconst 1, 1) := by decide +kernel
theorem dX12_one_40 : decode cX12_one 40 = .ok (.if_icmp .ne 10, 3) := by decide +kernel
theorem dX12_one_43 : decode cX12_one 43 = .ok (.aload_n 0, 1) := by decide +kernel
theorem dX12_one_44 : decode cX12_one 44 = .ok (.getfield 92, 3) := by decide +kernel
theorem dX12_one_47 : decode cX12_one 47 = .ok (.iload_n 1, 1) := by decide +kernel
theorem dX12_one_48 : decode cX12_one 48 = .ok (.iaload, 1) := by decide +kernel
theorem dX12_one_49 : decode cX12_one 49 = .ok (.ireturn, 1) := by decide +kernel
theorem dX12_one_50 : decode cX12_one 50 = .ok (.iload_n 2, 1) := by decide +kernel
theorem dX12_one_51 : decode cX12_one 51 = .ok (.iconst 2, 1) := by decide +kernel
theorem dX12_one_52 : decode cX12_one 52 = .ok (.if_icmp .ne 10, 3) := by decide +kernel
theorem dX12_one_55 : decode cX12_one 55 = .ok (.aload_n 0, 1) := by decide +kernel
theorem dX12_one_56 : decode cX12_one 56 = .ok (.getfield 95, 3) := by decide +kernel
theorem dX12_one_59 : decode cX12_one 59 = .ok (.iload_n 1, 1) := by decide +kernel
theorem dX12_one_60 : decode cX12_one 60 = .ok (.iaload, 1) := by decide +kernel
theorem dX12_one_61 : decode cX12_one 61 = .ok (.ireturn, 1) := by decide +kernel
theorem dX12_one_62 : decode cX12_one 62 = .ok (.iload_n 2, 1) := by decide +kernel
theorem dX12_one_63 : decode cX12_one 63 = .ok (.iconst 3, 1) := by decide +kernel
theorem dX12_one_64 : decode cX12_one 64 = .ok (.if_icmp .ne 10, 3) := by decide +kernel
theorem dX12_one_67 : decode cX12_one 67 = .ok (.aload_n 0, 1) := by decide +kernel
theorem dX12_one_68 : decode cX12_one 68 = .ok (.iload_n 1, 1) := by decide +kernel
theorem dX12_one_69 : decode cX12_one 69 = .ok (.iconst 0, 1) := by decide +kernel
theorem dX12_one_70 : decode cX12_one 70 = .ok (.invokevirtual 355, 3) := by decide +kernel
theorem dX12_one_73 : decode cX12_one 73 = .ok (.ireturn, 1) := by decide +kernel
theorem dX12_one_74 : decode cX12_one 74 = .ok (.iload_n 2, 1) := by decide +kernel
theorem dX12_one_75 : decode cX12_one 75 = .ok (.iconst 4, 1) := by decide +kernel
theorem dX12_one_76 : decode cX12_one 76 = .ok (.if_icmp .ne 23, 3) := by decide +kernel
theorem dX12_one_79 : decode cX12_one 79 = .ok (.aload_n 0, 1) := by decide +kernel
theorem dX12_one_80 : decode cX12_one 80 = .ok (.iload_n 1, 1) := by decide +kernel
theorem dX12_one_81 : decode cX12_one 81 = .ok (.iconst 1, 1) := by decide +kernel
theorem dX12_one_82 : decode cX12_one 82 = .ok (.invokevirtual 355, 3) := by decide +kernel
theorem dX12_one_85 : decode cX12_one 85 = .ok (.istore_n 3, 1) := by decide +kernel
theorem dX12_one_86 : decode cX12_one 86 = .ok (.aload_n 0, 1) := by decide +kernel
theorem dX12_one_87 : decode cX12_one 87 = .ok (.getfield 320, 3) := by decide +kernel
theorem dX12_one_90 : decode cX12_one 90 = .ok (.ifCond .eq 7, 3) := by decide +kernel
theorem dX12_one_93 : decode cX12_one 93 = .ok (.iload_n 3, 1) := by decide +kernel
theorem dX12_one_94 : decode cX12_one 94 = .ok (.goto 4, 3) := by decide +kernel
theorem dX12_one_97 : decode cX12_one 97 = .ok (.iconst (-1), 1) := by decide +kernel
theorem dX12_one_98 : decode cX12_one 98 = .ok (.ireturn, 1) := by decide +kernel
theorem dX12_one_99 : decode cX12_one 99 = .ok (.iload_n 2, 1) := by decide +kernel
theorem dX12_one_100 : decode cX12_one 100 = .ok (.iconst 5, 1) := by decide +kernel
theorem dX12_one_101 : decode cX12_one 101 = .ok (.if_icmp .ne 29, 3) := by decide +kernel
theorem dX12_one_104 : decode cX12_one 104 = .ok (.aload_n 0, 1) := by decide +kernel
theorem dX12_one_105 : decode cX12_one 105 = .ok (.getfield 89, 3) := by decide +kernel
theorem dX12_one_108 : decode cX12_one 108 = .ok (.iload_n 1, 1) := by decide +kernel
theorem dX12_one_109 : decode cX12_one 109 = .ok (.iaload, 1) := by decide +kernel
theorem dX12_one_110 : decode cX12_one 110 = .ok (.iconst (-1), 1) := by decide +kernel
theorem dX12_one_111 : decode cX12_one 111 = .ok (.if_icmp .ne 7, 3) := by decide +kernel
theorem dX12_one_114 : decode cX12_one 114 = .ok (.iconst 0, 1) := by decide +kernel
theorem dX12_one_115 : decode cX12_one 115 = .ok (.goto 14, 3) := by decide +kernel
theorem dX12_one_118 : decode cX12_one 118 = .ok (.aload_n 0, 1) := by decide +kernel
theorem dX12_one_119 : decode cX12_one 119 = .ok (.iload_n 1, 1) := by decide +kernel
theorem dX12_one_120 : decode cX12_one 120 = .ok (.aload_n 0, 1) := by decide +kernel
theorem dX12_one_121 : decode cX12_one 121 = .ok (.getfield 89, 3) := by decide +kernel
theorem dX12_one_124 : decode cX12_one 124 = .ok (.iload_n 1, 1) := by decide +kernel
theorem dX12_one_125 : decode cX12_one 125 = .ok (.iaload, 1) := by decide +kernel
theorem dX12_one_126 : decode cX12_one 126 = .ok (.invokevirtual 331, 3) := by decide +kernel
theorem dX12_one_129 : decode cX12_one 129 = .ok (.ireturn, 1) := by decide +kernel
theorem dX12_one_130 : decode cX12_one 130 = .ok (.iload_n 2, 1) := by decide +kernel
theorem dX12_one_131 : decode cX12_one 131 = .ok (.bipush 6, 2) := by decide +kernel
theorem dX12_one_133 : decode cX12_one 133 = .ok (.if_icmp .ne 12, 3) := by decide +kernel
theorem dX12_one_136 : decode cX12_one 136 = .ok (.aload_n 0, 1) := by decide +kernel
theorem dX12_one_137 : decode cX12_one 137 = .ok (.getfield 105, 3) := by decide +kernel
theorem dX12_one_140 : decode cX12_one 140 = .ok (.iload_n 1, 1) := by decide +kernel
theorem dX12_one_141 : decode cX12_one 141 = .ok (.iaload, 1) := by decide +kernel
theorem dX12_one_142 : decode cX12_one 142 = .ok (.goto 9, 3) := by decide +kernel
theorem dX12_one_145 : decode cX12_one 145 = .ok (.aload_n 0, 1) := by decide +kernel
theorem dX12_one_146 : decode cX12_one 146 = .ok (.getfield 108, 3) := by decide +kernel
theorem dX12_one_149 : decode cX12_one 149 = .ok (.iload_n 1, 1) := by decide +kernel
theorem dX12_one_150 : decode cX12_one 150 = .ok (.iaload, 1) := by decide +kernel
theorem dX12_one_151 : decode cX12_one 151 = .ok (.ireturn, 1) := by decide +kernel
theorem dX12_all_0 : decode cX12_all 0 = .ok (.aload_n 0, 1) := by decide +kernel
theorem dX12_all_1 : decode cX12_all 1 = .ok (.iconst 0, 1) := by decide +kernel
theorem dX12_all_2 : decode cX12_all 2 = .ok (.putfield 142, 3) := by decide +kernel
theorem dX12_all_5 : decode cX12_all 5 = .ok (.aload_n 0, 1) := by decide +kernel
theorem dX12_all_6 : decode cX12_all 6 = .ok (.iload_n 1, 1) := by decide +kernel
theorem dX12_all_7 : decode cX12_all 7 = .ok (.invokevirtual 145, 3) := by decide +kernel
theorem dX12_all_10 : decode cX12_all 10 = .ok (.ifCond .eq 27, 3) := by decide +kernel
theorem dX12_all_13 : decode cX12_all 13 = .ok (.iload_n 2, 1) := by decide +kernel
theorem dX12_all_14 : decode cX12_all 14 = .ok (.iconst (-1), 1) := by decide +kernel
theorem dX12_all_15 : decode cX12_all 15 = .ok (.if_icmp .eq 12, 3) := by decide +kernel
theorem dX12_all_18 : decode cX12_all 18 = .ok (.aload_n 0, 1) := by decide +kernel
theorem dX12_all_19 : decode cX12_all 19 = .ok (.iload_n 1, 1) := by decide +kernel
theorem dX12_all_20 : decode cX12_all 20 = .ok (.iload_n 2, 1) := by decide +kernel
theorem dX12_all_21 : decode cX12_all 21 = .ok (.invokevirtual 160, 3) := by decide +kernel
theorem dX12_all_24 : decode cX12_all 24 = .ok (.ifCond .eq 13, 3) := by decide +kernel
theorem dX12_all_27 : decode cX12_all 27 = .ok (.aload_n 0, 1) := by decide +kernel
theorem dX12_all_28 : decode cX12_all 28 = .ok (.iload_n 3, 1) := by decide +kernel
theorem dX12_all_29 : decode cX12_all 29 = .ok (.iconst 0, 1) := by decide +kernel
theorem dX12_all_30 : decode cX12_all 30 = .ok (.iconst 3, 1) := by decide +kernel
theorem dX12_all_31 : decode cX12_all 31 = .ok (.invokevirtual 149, 3) := by decide +kernel
theorem dX12_all_34 : decode cX12_all 34 = .ok (.ifCond .ne 5, 3) := by decide +kernel
theorem dX12_all_37 : decode cX12_all 37 = .ok (.iconst (-1), 1) := by decide +kernel
theorem dX12_all_38 : decode cX12_all 38 = .ok (.ireturn, 1) := by decide +kernel
theorem dX12_all_39 : decode cX12_all 39 = .ok (.iconst 0, 1) := by decide +kernel
theorem dX12_all_40 : decode cX12_all 40 = .ok (.istore 4, 2) := by decide +kernel
theorem dX12_all_42 : decode cX12_all 42 = .ok (.iconst 0, 1) := by decide +kernel
theorem dX12_all_43 : decode cX12_all 43 = .ok (.istore 5, 2) := by decide +kernel
theorem dX12_all_45 : decode cX12_all 45 = .ok (.iload 5, 2) := by decide +kernel
theorem dX12_all_47 : decode cX12_all 47 = .ok (.aload_n 0, 1) := by decide +kernel
theorem dX12_all_48 : decode cX12_all 48 = .ok (.getfield 153, 3) := by decide +kernel
theorem dX12_all_51 : decode cX12_all 51 = .ok (.if_icmp .ge 108, 3) := by decide +kernel
theorem dX12_all_54 : decode cX12_all 54 = .ok (.aload_n 0, 1) := by decide +kernel
theorem dX12_all_55 : decode cX12_all 55 = .ok (.getfield 80, 3) := by decide +kernel
theorem dX12_all_58 : decode cX12_all 58 = .ok (.iload 5, 2) := by decide +kernel
theorem dX12_all_60 : decode cX12_all 60 = .ok (.iaload, 1) := by decide +kernel
theorem dX12_all_61 : decode cX12_all 61 = .ok (.iload_n 1, 1) := by decide +kernel
theorem dX12_all_62 : decode cX12_all 62 = .ok (.if_icmp .ne 91, 3) := by decide +kernel
theorem dX12_all_65 : decode cX12_all 65 = .ok (.iload_n 2, 1) := by decide +kernel
theorem dX12_all_66 : decode cX12_all 66 = .ok (.iconst (-1), 1) := by decide +kernel
theorem dX12_all_67 : decode cX12_all 67 = .ok (.if_icmp .eq 17, 3) := by decide +kernel
theorem dX12_all_70 : decode cX12_all 70 = .ok (.aload_n 0, 1) := by decide +kernel
theorem dX12_all_71 : decode cX12_all 71 = .ok (.getfield 83, 3) := by decide +kernel
theorem dX12_all_74 : decode cX12_all 74 = .ok (.iload 5, 2) := by decide +kernel
theorem dX12_all_76 : decode cX12_all 76 = .ok (.iaload, 1) := by decide +kernel
theorem dX12_all_77 : decode cX12_all 77 = .ok (.iload_n 2, 1) := by decide +kernel
theorem dX12_all_78 : decode cX12_all 78 = .ok (.if_icmp .eq 6, 3) := by decide +kernel
theorem dX12_all_81 : decode cX12_all 81 = .ok (.goto 72, 3) := by decide +kernel
theorem dX12_all_84 : decode cX12_all 84 = .ok (.iload_n 3, 1) := by decide +kernel
theorem dX12_all_85 : decode cX12_all 85 = .ok (.ifCond .eq 19, 3) := by decide +kernel
theorem dX12_all_88 : decode cX12_all 88 = .ok (.iload_n 3, 1) := by decide +kernel
theorem dX12_all_89 : decode cX12_all 89 = .ok (.iconst 1, 1) := by decide +kernel
theorem dX12_all_90 : decode cX12_all 90 = .ok (.if_icmp .ne 20, 3) := by decide +kernel
theorem dX12_all_93 : decode cX12_all 93 = .ok (.aload_n 0, 1) := by decide +kernel
theorem dX12_all_94 : decode cX12_all 94 = .ok (.getfield 89, 3) := by decide +kernel
theorem dX12_all_97 : decode cX12_all 97 = .ok (.iload 5, 2) := by decide +kernel
theorem dX12_all_99 : decode cX12_all 99 = .ok (.iaload, 1) := by decide +kernel
theorem dX12_all_100 : decode cX12_all 100 = .ok (.iconst (-1), 1) := by decide +kernel
theorem dX12_all_101 : decode cX12_all 101 = .ok (.if_icmp .ne 9, 3) := by decide +kernel
theorem dX12_all_104 : decode cX12_all 104 = .ok (.iload 4, 2) := by decide +kernel
theorem dX12_all_106 : decode cX12_all 106 = .ok (.iconst 1, 1) := by decide +kernel
theorem dX12_all_107 : decode cX12_all 107 = .ok (.iadd, 1) := by decide +kernel
theorem dX12_all_108 : decode cX12_all 108 = .ok (.istore 4, 2) := by decide +kernel
theorem dX12_all_110 : decode cX12_all 110 = .ok (.iload_n 3, 1) := by decide +kernel
theorem dX12_all_111 : decode cX12_all 111 = .ok (.iconst 2, 1) := by decide +kernel
theorem dX12_all_112 : decode cX12_all 112 = .ok (.if_icmp .ne 15, 3) := by decide +kernel
theorem dX12_all_115 : decode cX12_all 115 = .ok (.iload 4, 2) := by decide +kernel
theorem dX12_all_117 : decode cX12_all 117 = .ok (.aload_n 0, 1) := by decide +kernel
theorem dX12_all_118 : decode cX12_all 118 = .ok (.getfield 92, 3) := by decide +kernel
theorem dX12_all_121 : decode cX12_all 121 = .ok (.iload 5, 2) := by decide +kernel
theorem dX12_all_123 : decode cX12_all 123 = .ok (.iaload, 1) := by decide +kernel
theorem dX12_all_124 : decode cX12_all 124 = .ok (.iadd, 1) := by decide +kernel
theorem dX12_all_125 : decode cX12_all 125 = .ok (.istore 4, 2) := by decide +kernel
theorem dX12_all_127 : decode cX12_all 127 = .ok (.iload_n 3, 1) := by decide +kernel
theorem dX12_all_128 : decode cX12_all 128 = .ok (.iconst 3, 1) := by decide +kernel
theorem dX12_all_129 : decode cX12_all 129 = .ok (.if_icmp .ne 24, 3) := by decide +kernel
theorem dX12_all_132 : decode cX12_all 132 = .ok (.aload_n 0, 1) := by decide +kernel
theorem dX12_all_133 : decode cX12_all 133 = .ok (.getfield 92, 3) := by decide +kernel
theorem dX12_all_136 : decode cX12_all 136 = .ok (.iload 5, 2) := by decide +kernel
theorem dX12_all_138 : decode cX12_all 138 = .ok (.iaload, 1) := by decide +kernel
theorem dX12_all_139 : decode cX12_all 139 = .ok (.iload 4, 2) := by decide +kernel
theorem dX12_all_141 : decode cX12_all 141 = .ok (.if_icmp .le 12, 3) := by decide +kernel
theorem dX12_all_144 : decode cX12_all 144 = .ok (.aload_n 0, 1) := by decide +kernel
theorem dX12_all_145 : decode cX12_all 145 = .ok (.getfield 92, 3) := by decide +kernel
theorem dX12_all_148 : decode cX12_all 148 = .ok (.iload 5, 2) := by decide +kernel
theorem dX12_all_150 : decode cX12_all 150 = .ok (.iaload, 1) := by decide +kernel
theorem dX12_all_151 : decode cX12_all 151 = .ok (.istore 4, 2) := by decide +kernel
theorem dX12_all_153 : decode cX12_all 153 = .ok (.iinc 5 1, 3) := by decide +kernel
theorem dX12_all_156 : decode cX12_all 156 = .ok (.goto (-111), 3) := by decide +kernel
theorem dX12_all_159 : decode cX12_all 159 = .ok (.iload 4, 2) := by decide +kernel
theorem dX12_all_161 : decode cX12_all 161 = .ok (.ireturn, 1) := by decide +kernel
theorem dX12_town_0 : decode cX12_town 0 = .ok (.aload_n 0, 1) := by decide +kernel
theorem dX12_town_1 : decode cX12_town 1 = .ok (.iconst 0, 1) := by decide +kernel
theorem dX12_town_2 : decode cX12_town 2 = .ok (.putfield 142, 3) := by decide +kernel
theorem dX12_town_5 : decode cX12_town 5 = .ok (.iload_n 1, 1) := by decide +kernel
theorem dX12_town_6 : decode cX12_town 6 = .ok (.ifCond .ne 8, 3) := by decide +kernel
theorem dX12_town_9 : decode cX12_town 9 = .ok (.aload_n 0, 1) := by decide +kernel
theorem dX12_town_10 : decode cX12_town 10 = .ok (.getfield 314, 3) := by decide +kernel
theorem dX12_town_13 : decode cX12_town 13 = .ok (.ireturn, 1) := by decide +kernel
theorem dX12_town_14 : decode cX12_town 14 = .ok (.iload_n 1, 1) := by decide +kernel
theorem dX12_town_15 : decode cX12_town 15 = .ok (.iconst 1, 1) := by decide +kernel
theorem dX12_town_16 : decode cX12_town 16 = .ok (.if_icmp .ne 8, 3) := by decide +kernel
theorem dX12_town_19 : decode cX12_town 19 = .ok (.aload_n 0, 1) := by decide +kernel
theorem dX12_town_20 : decode cX12_town 20 = .ok (.getfield 153, 3) := by decide +kernel
theorem dX12_town_23 : decode cX12_town 23 = .ok (.ireturn, 1) := by decide +kernel
theorem dX12_town_24 : decode cX12_town 24 = .ok (.iload_n 1, 1) := by decide +kernel
theorem dX12_town_25 : decode cX12_town 25 = .ok (.iconst 2, 1) := by decide +kernel
theorem dX12_town_26 : decode cX12_town 26 = .ok (.if_icmp .ne 8, 3) := by decide +kernel
theorem dX12_town_29 : decode cX12_town 29 = .ok (.aload_n 0, 1) := by decide +kernel
theorem dX12_town_30 : decode cX12_town 30 = .ok (.invokevirtual 374, 3) := by decide +kernel
theorem dX12_town_33 : decode cX12_town 33 = .ok (.ireturn, 1) := by decide +kernel
theorem dX12_town_34 : decode cX12_town 34 = .ok (.iload_n 1, 1) := by decide +kernel
theorem dX12_town_35 : decode cX12_town 35 = .ok (.iconst 3, 1) := by decide +kernel
theorem dX12_town_36 : decode cX12_town 36 = .ok (.if_icmp .ne 8, 3) := by decide +kernel
theorem dX12_town_39 : decode cX12_town 39 = .ok (.aload_n 0, 1) := by decide +kernel
theorem dX12_town_40 : decode cX12_town 40 = .ok (.getfield 349, 3) := by decide +kernel
theorem dX12_town_43 : decode cX12_town 43 = .ok (.ireturn, 1) := by decide +kernel
theorem dX12_town_44 : decode cX12_town 44 = .ok (.iload_n 1, 1) := by decide +kernel
theorem dX12_town_45 : decode cX12_town 45 = .ok (.iconst 4, 1) := by decide +kernel
theorem dX12_town_46 : decode cX12_town 46 = .ok (.if_icmp .ne 8, 3) := by decide +kernel
theorem dX12_town_49 : decode cX12_town 49 = .ok (.aload_n 0, 1) := by decide +kernel
theorem dX12_town_50 : decode cX12_town 50 = .ok (.getfield 328, 3) := by decide +kernel
theorem dX12_town_53 : decode cX12_town 53 = .ok (.ireturn, 1) := by decide +kernel
theorem dX12_town_54 : decode cX12_town 54 = .ok (.iload_n 1, 1) := by decide +kernel
theorem dX12_town_55 : decode cX12_town 55 = .ok (.iconst 5, 1) := by decide +kernel
theorem dX12_town_56 : decode cX12_town 56 = .ok (.if_icmp .ne 8, 3) := by decide +kernel
theorem dX12_town_59 : decode cX12_town 59 = .ok (.aload_n 0, 1) := by decide +kernel
theorem dX12_town_60 : decode cX12_town 60 = .ok (.getfield 362, 3) := by decide +kernel
theorem dX12_town_63 : decode cX12_town 63 = .ok (.ireturn, 1) := by decide +kernel
theorem dX12_town_64 : decode cX12_town 64 = .ok (.iload_n 1, 1) := by decide +kernel
theorem dX12_town_65 : decode cX12_town 65 = .ok (.bipush 6, 2) := by decide +kernel
theorem dX12_town_67 : decode cX12_town 67 = .ok (.if_icmp .ne 8, 3) := by decide +kernel
theorem dX12_town_70 : decode cX12_town 70 = .ok (.aload_n 0, 1) := by decide +kernel
theorem dX12_town_71 : decode cX12_town 71 = .ok (.getfield 337, 3) := by decide +kernel
theorem dX12_town_74 : decode cX12_town 74 = .ok (.ireturn, 1) := by decide +kernel
theorem dX12_town_75 : decode cX12_town 75 = .ok (.iload_n 1, 1) := by decide +kernel
theorem dX12_town_76 : decode cX12_town 76 = .ok (.bipush 7, 2) := by decide +kernel
theorem dX12_town_78 : decode cX12_town 78 = .ok (.if_icmp .ne 10, 3) := by decide +kernel
theorem dX12_town_81 : decode cX12_town 81 = .ok (.aload_n 0, 1) := by decide +kernel
theorem dX12_town_82 : decode cX12_town 82 = .ok (.getfield 308, 3) := by decide +kernel
theorem dX12_town_85 : decode cX12_town 85 = .ok (.goto 4, 3) := by decide +kernel
theorem dX12_town_88 : decode cX12_town 88 = .ok (.iconst (-1), 1) := by decide +kernel
theorem dX12_town_89 : decode cX12_town 89 = .ok (.ireturn, 1) := by decide +kernel
theorem dX12_feast_0 : decode cX12_feast 0 = .ok (.aload_n 0, 1) := by decide +kernel
theorem dX12_feast_1 : decode cX12_feast 1 = .ok (.iconst 0, 1) := by decide +kernel
theorem dX12_feast_2 : decode cX12_feast 2 = .ok (.putfield 142, 3) := by decide +kernel
theorem dX12_feast_5 : decode cX12_feast 5 = .ok (.aload_n 0, 1) := by decide +kernel
theorem dX12_feast_6 : decode cX12_feast 6 = .ok (.iload_n 1, 1) := by decide +kernel
theorem dX12_feast_7 : decode cX12_feast 7 = .ok (.iconst 1, 1) := by decide +kernel
theorem dX12_feast_8 : decode cX12_feast 8 = .ok (.bipush 7, 2) := by decide +kernel
theorem dX12_feast_10 : decode cX12_feast 10 = .ok (.invokevirtual 149, 3) := by decide +kernel
theorem dX12_feast_13 : decode cX12_feast 13 = .ok (.ifCond .ne 5, 3) := by decide +kernel
theorem dX12_feast_16 : decode cX12_feast 16 = .ok (.iconst 0, 1) := by decide +kernel
theorem dX12_feast_17 : decode cX12_feast 17 = .ok (.ireturn, 1) := by decide +kernel
theorem dX12_feast_18 : decode cX12_feast 18 = .ok (.aload_n 0, 1) := by decide +kernel
theorem dX12_feast_19 : decode cX12_feast 19 = .ok (.iload_n 1, 1) := by decide +kernel
theorem dX12_feast_20 : decode cX12_feast 20 = .ok (.putfield 117, 3) := by decide +kernel
theorem dX12_feast_23 : decode cX12_feast 23 = .ok (.iconst 0, 1) := by decide +kernel
theorem dX12_feast_24 : decode cX12_feast 24 = .ok (.istore_n 2, 1) := by decide +kernel
theorem dX12_feast_25 : decode cX12_feast 25 = .ok (.iload_n 2, 1) := by decide +kernel
theorem dX12_feast_26 : decode cX12_feast 26 = .ok (.bipush 98, 2) := by decide +kernel
theorem dX12_feast_28 : decode cX12_feast 28 = .ok (.if_icmp .ge 16, 3) := by decide +kernel
theorem dX12_feast_31 : decode cX12_feast 31 = .ok (.aload_n 0, 1) := by decide +kernel
theorem dX12_feast_32 : decode cX12_feast 32 = .ok (.getfield 120, 3) := by decide +kernel
theorem dX12_feast_35 : decode cX12_feast 35 = .ok (.iload_n 2, 1) := by decide +kernel
theorem dX12_feast_36 : decode cX12_feast 36 = .ok (.iconst 0, 1) := by decide +kernel
theorem dX12_feast_37 : decode cX12_feast 37 = .ok (.iastore, 1) := by decide +kernel
theorem dX12_feast_38 : decode cX12_feast 38 = .ok (.iinc 2 1, 3) := by decide +kernel
theorem dX12_feast_41 : decode cX12_feast 41 = .ok (.goto (-16), 3) := by decide +kernel
theorem dX12_feast_44 : decode cX12_feast 44 = .ok (.iconst 0, 1) := by decide +kernel
theorem dX12_feast_45 : decode cX12_feast 45 = .ok (.istore_n 2, 1) := by decide +kernel
theorem dX12_feast_46 : decode cX12_feast 46 = .ok (.iload_n 2, 1) := by decide +kernel
theorem dX12_feast_47 : decode cX12_feast 47 = .ok (.bipush 7, 2) := by decide +kernel
theorem dX12_feast_49 : decode cX12_feast 49 = .ok (.if_icmp .ge 16, 3) := by decide +kernel
theorem dX12_feast_52 : decode cX12_feast 52 = .ok (.aload_n 0, 1) := by decide +kernel
theorem dX12_feast_53 : decode cX12_feast 53 = .ok (.getfield 123, 3) := by decide +kernel
theorem dX12_feast_56 : decode cX12_feast 56 = .ok (.iload_n 2, 1) := by decide +kernel
theorem dX12_feast_57 : decode cX12_feast 57 = .ok (.iconst 0, 1) := by decide +kernel
theorem dX12_feast_58 : decode cX12_feast 58 = .ok (.iastore, 1) := by decide +kernel
theorem dX12_feast_59 : decode cX12_feast 59 = .ok (.iinc 2 1, 3) := by decide +kernel
theorem dX12_feast_62 : decode cX12_feast 62 = .ok (.goto (-16), 3) := by decide +kernel
theorem dX12_feast_65 : decode cX12_feast 65 = .ok (.aload_n 0, 1) := by decide +kernel
theorem dX12_feast_66 : decode cX12_feast 66 = .ok (.iconst 0, 1) := by decide +kernel
theorem dX12_feast_67 : decode cX12_feast 67 = .ok (.putfield 380, 3) := by decide +kernel
theorem dX12_feast_70 : decode cX12_feast 70 = .ok (.iconst 1, 1) := by decide +kernel
theorem dX12_feast_71 : decode cX12_feast 71 = .ok (.ireturn, 1) := by decide +kernel
theorem dX12_isGuest_0 : decode cX12_isGuest 0 = .ok (.iload_n 1, 1) := by decide +kernel
theorem dX12_isGuest_1 : decode cX12_isGuest 1 = .ok (.ifCond .lt 15, 3) := by decide +kernel
theorem dX12_isGuest_4 : decode cX12_isGuest 4 = .ok (.iload_n 1, 1) := by decide +kernel
theorem dX12_isGuest_5 : decode cX12_isGuest 5 = .ok (.aload_n 0, 1) := by decide +kernel
theorem dX12_isGuest_6 : decode cX12_isGuest 6 = .ok (.getfield 117, 3) := by decide +kernel
theorem dX12_isGuest_9 : decode cX12_isGuest 9 = .ok (.if_icmp .ge 7, 3) := by decide +kernel
theorem dX12_isGuest_12 : decode cX12_isGuest 12 = .ok (.iconst 1, 1) := by decide +kernel
theorem dX12_isGuest_13 : decode cX12_isGuest 13 = .ok (.goto 4, 3) := by decide +kernel
theorem dX12_isGuest_16 : decode cX12_isGuest 16 = .ok (.iconst 0, 1) := by decide +kernel
theorem dX12_isGuest_17 : decode cX12_isGuest 17 = .ok (.ireturn, 1) := by decide +kernel
theorem dX12_likes_0 : decode cX12_likes 0 = .ok (.aload_n 0, 1) := by decide +kernel
theorem dX12_likes_1 : decode cX12_likes 1 = .ok (.iconst 0, 1) := by decide +kernel
theorem dX12_likes_2 : decode cX12_likes 2 = .ok (.putfield 142, 3) := by decide +kernel
theorem dX12_likes_5 : decode cX12_likes 5 = .ok (.aload_n 0, 1) := by decide +kernel
theorem dX12_likes_6 : decode cX12_likes 6 = .ok (.iload_n 1, 1) := by decide +kernel
theorem dX12_likes_7 : decode cX12_likes 7 = .ok (.invokevirtual 145, 3) := by decide +kernel
theorem dX12_likes_10 : decode cX12_likes 10 = .ok (.ifCond .eq 31, 3) := by decide +kernel
theorem dX12_likes_13 : decode cX12_likes 13 = .ok (.aload_n 0, 1) := by decide +kernel
theorem dX12_likes_14 : decode cX12_likes 14 = .ok (.iload_n 2, 1) := by decide +kernel
theorem dX12_likes_15 : decode cX12_likes 15 = .ok (.invokevirtual 383, 3) := by decide +kernel
theorem dX12_likes_18 : decode cX12_likes 18 = .ok (.ifCond .eq 23, 3) := by decide +kernel
theorem dX12_likes_21 : decode cX12_likes 21 = .ok (.aload_n 0, 1) := by decide +kernel
theorem dX12_likes_22 : decode cX12_likes 22 = .ok (.iload_n 3, 1) := by decide +kernel
theorem dX12_likes_23 : decode cX12_likes 23 = .ok (.invokevirtual 383, 3) := by decide +kernel
theorem dX12_likes_26 : decode cX12_likes 26 = .ok (.ifCond .eq 15, 3) := by decide +kernel
theorem dX12_likes_29 : decode cX12_likes 29 = .ok (.aload_n 0, 1) := by decide +kernel
theorem dX12_likes_30 : decode cX12_likes 30 = .ok (.iload 4, 2) := by decide +kernel
theorem dX12_likes_32 : decode cX12_likes 32 = .ok (.iconst 0, 1) := by decide +kernel
theorem dX12_likes_33 : decode cX12_likes 33 = .ok (.bipush 99, 2) := by decide +kernel
theorem dX12_likes_35 : decode cX12_likes 35 = .ok (.invokevirtual 149, 3) := by decide +kernel
theorem dX12_likes_38 : decode cX12_likes 38 = .ok (.ifCond .ne 5, 3) := by decide +kernel
theorem dX12_likes_41 : decode cX12_likes 41 = .ok (.iconst 0, 1) := by decide +kernel
theorem dX12_likes_42 : decode cX12_likes 42 = .ok (.ireturn, 1) := by decide +kernel
theorem dX12_likes_43 : decode cX12_likes 43 = .ok (.aload_n 0, 1) := by decide +kernel
theorem dX12_likes_44 : decode cX12_likes 44 = .ok (.getfield 120, 3) := by decide +kernel
theorem dX12_likes_47 : decode cX12_likes 47 = .ok (.bipush 49, 2) := by decide +kernel
theorem dX12_likes_49 : decode cX12_likes 49 = .ok (.iload_n 1, 1) := by decide +kernel
theorem dX12_likes_50 : decode cX12_likes 50 = .ok (.imul, 1) := by decide +kernel
theorem dX12_likes_51 : decode cX12_likes 51 = .ok (.bipush 7, 2) := by decide +kernel
theorem dX12_likes_53 : decode cX12_likes 53 = .ok (.iload_n 2, 1) := by decide +kernel
theorem dX12_likes_54 : decode cX12_likes 54 = .ok (.imul, 1) := by decide +kernel
theorem dX12_likes_55 : decode cX12_likes 55 = .ok (.iadd, 1) := by decide +kernel
theorem dX12_likes_56 : decode cX12_likes 56 = .ok (.iload_n 3, 1) := by decide +kernel
theorem dX12_likes_57 : decode cX12_likes 57 = .ok (.iadd, 1) := by decide +kernel
theorem dX12_likes_58 : decode cX12_likes 58 = .ok (.iload 4, 2) := by decide +kernel
theorem dX12_likes_60 : decode cX12_likes 60 = .ok (.iastore, 1) := by decide +kernel
theorem dX12_likes_61 : decode cX12_likes 61 = .ok (.aload_n 0, 1) := by decide +kernel
theorem dX12_likes_62 : decode cX12_likes 62 = .ok (.iconst 0, 1) := by decide +kernel
theorem dX12_likes_63 : decode cX12_likes 63 = .ok (.putfield 380, 3) := by decide +kernel
theorem dX12_likes_66 : decode cX12_likes 66 = .ok (.iconst 1, 1) := by decide +kernel
theorem dX12_likes_67 : decode cX12_likes 67 = .ok (.ireturn, 1) := by decide +kernel
theorem dX12_isMore_0 : decode cX12_isMore 0 = .ok (.aload_n 0, 1) := by decide +kernel
theorem dX12_isMore_1 : decode cX12_isMore 1 = .ok (.getfield 120, 3) := by decide +kernel
theorem dX12_isMore_4 : decode cX12_isMore 4 = .ok (.bipush 49, 2) := by decide +kernel
theorem dX12_isMore_6 : decode cX12_isMore 6 = .ok (.iload_n 1, 1) := by decide +kernel
theorem dX12_isMore_7 : decode cX12_isMore 7 = .ok (.imul, 1) := by decide +kernel
theorem dX12_isMore_8 : decode cX12_isMore 8 = .ok (.bipush 7, 2) := by decide +kernel
theorem dX12_isMore_10 : decode cX12_isMore 10 = .ok (.iload_n 2, 1) := by decide +kernel
theorem dX12_isMore_11 : decode cX12_isMore 11 = .ok (.imul, 1) := by decide +kernel
theorem dX12_isMore_12 : decode cX12_isMore 12 = .ok (.iadd, 1) := by decide +kernel
theorem dX12_isMore_13 : decode cX12_isMore 13 = .ok (.iload_n 3, 1) := by decide +kernel
theorem dX12_isMore_14 : decode cX12_isMore 14 = .ok (.iadd, 1) := by decide +kernel
theorem dX12_isMore_15 : decode cX12_isMore 15 = .ok (.iaload, 1) := by decide +kernel
theorem dX12_isMore_16 : decode cX12_isMore 16 = .ok (.istore 5, 2) := by decide +kernel
theorem dX12_isMore_18 : decode cX12_isMore 18 = .ok (.aload_n 0, 1) := by decide +kernel
theorem dX12_isMore_19 : decode cX12_isMore 19 = .ok (.getfield 120, 3) := by decide +kernel
theorem dX12_isMore_22 : decode cX12_isMore 22 = .ok (.bipush 49, 2) := by decide +kernel
theorem dX12_isMore_24 : decode cX12_isMore 24 = .ok (.iload_n 1, 1) := by decide +kernel
theorem dX12_isMore_25 : decode cX12_isMore 25 = .ok (.imul, 1) := by decide +kernel
theorem dX12_isMore_26 : decode cX12_isMore 26 = .ok (.bipush 7, 2) := by decide +kernel
theorem dX12_isMore_28 : decode cX12_isMore 28 = .ok (.iload_n 2, 1) := by decide +kernel
theorem dX12_isMore_29 : decode cX12_isMore 29 = .ok (.imul, 1) := by decide +kernel
theorem dX12_isMore_30 : decode cX12_isMore 30 = .ok (.iadd, 1) := by decide +kernel
theorem dX12_isMore_31 : decode cX12_isMore 31 = .ok (.iload 4, 2) := by decide +kernel
theorem dX12_isMore_33 : decode cX12_isMore 33 = .ok (.iadd, 1) := by decide +kernel
theorem dX12_isMore_34 : decode cX12_isMore 34 = .ok (.iaload, 1) := by decide +kernel
theorem dX12_isMore_35 : decode cX12_isMore 35 = .ok (.istore 6, 2) := by decide +kernel
theorem dX12_isMore_37 : decode cX12_isMore 37 = .ok (.iload 5, 2) := by decide +kernel
theorem dX12_isMore_39 : decode cX12_isMore 39 = .ok (.iload 6, 2) := by decide +kernel
theorem dX12_isMore_41 : decode cX12_isMore 41 = .ok (.if_icmp .gt 16, 3) := by decide +kernel
theorem dX12_isMore_44 : decode cX12_isMore 44 = .ok (.iload 5, 2) := by decide +kernel
theorem dX12_isMore_46 : decode cX12_isMore 46 = .ok (.iload 6, 2) := by decide +kernel
theorem dX12_isMore_48 : decode cX12_isMore 48 = .ok (.if_icmp .ne 13, 3) := by decide +kernel
theorem dX12_isMore_51 : decode cX12_isMore 51 = .ok (.iload_n 3, 1) := by decide +kernel
theorem dX12_isMore_52 : decode cX12_isMore 52 = .ok (.iload 4, 2) := by decide +kernel
theorem dX12_isMore_54 : decode cX12_isMore 54 = .ok (.if_icmp .ge 7, 3) := by decide +kernel
theorem dX12_isMore_57 : decode cX12_isMore 57 = .ok (.iconst 1, 1) := by decide +kernel
theorem dX12_isMore_58 : decode cX12_isMore 58 = .ok (.goto 4, 3) := by decide +kernel
theorem dX12_isMore_61 : decode cX12_isMore 61 = .ok (.iconst 0, 1) := by decide +kernel
theorem dX12_isMore_62 : decode cX12_isMore 62 = .ok (.ireturn, 1) := by decide +kernel
theorem dX12_isHeld_0 : decode cX12_isHeld 0 = .ok (.iconst 0, 1) := by decide +kernel
theorem dX12_isHeld_1 : decode cX12_isHeld 1 = .ok (.istore_n 1, 1) := by decide +kernel
theorem dX12_isHeld_2 : decode cX12_isHeld 2 = .ok (.iload_n 1, 1) := by decide +kernel
theorem dX12_isHeld_3 : decode cX12_isHeld 3 = .ok (.aload_n 0, 1) := by decide +kernel
theorem dX12_isHeld_4 : decode cX12_isHeld 4 = .ok (.getfield 117, 3) := by decide +kernel
theorem dX12_isHeld_7 : decode cX12_isHeld 7 = .ok (.if_icmp .ge 21, 3) := by decide +kernel
theorem dX12_isHeld_10 : decode cX12_isHeld 10 = .ok (.aload_n 0, 1) := by decide +kernel
theorem dX12_isHeld_11 : decode cX12_isHeld 11 = .ok (.getfield 136, 3) := by decide +kernel
theorem dX12_isHeld_14 : decode cX12_isHeld 14 = .ok (.aload_n 0, 1) := by decide +kernel
theorem dX12_isHeld_15 : decode cX12_isHeld 15 = .ok (.getfield 133, 3) := by decide +kernel
theorem dX12_isHeld_18 : decode cX12_isHeld 18 = .ok (.iload_n 1, 1) := by decide +kernel
theorem dX12_isHeld_19 : decode cX12_isHeld 19 = .ok (.iaload, 1) := by decide +kernel
theorem dX12_isHeld_20 : decode cX12_isHeld 20 = .ok (.iload_n 1, 1) := by decide +kernel
theorem dX12_isHeld_21 : decode cX12_isHeld 21 = .ok (.iastore, 1) := by decide +kernel
theorem dX12_isHeld_22 : decode cX12_isHeld 22 = .ok (.iinc 1 1, 3) := by decide +kernel
theorem dX12_isHeld_25 : decode cX12_isHeld 25 = .ok (.goto (-23), 3) := by decide +kernel
theorem dX12_isHeld_28 : decode cX12_isHeld 28 = .ok (.iconst 0, 1) := by decide +kernel
theorem dX12_isHeld_29 : decode cX12_isHeld 29 = .ok (.istore_n 1, 1) := by decide +kernel
theorem dX12_isHeld_30 : decode cX12_isHeld 30 = .ok (.iload_n 1, 1) := by decide +kernel
theorem dX12_isHeld_31 : decode cX12_isHeld 31 = .ok (.aload_n 0, 1) := by decide +kernel
theorem dX12_isHeld_32 : decode cX12_isHeld 32 = .ok (.getfield 117, 3) := by decide +kernel
theorem dX12_isHeld_35 : decode cX12_isHeld 35 = .ok (.if_icmp .ge 59, 3) := by decide +kernel
theorem dX12_isHeld_38 : decode cX12_isHeld 38 = .ok (.iconst 0, 1) := by decide +kernel
theorem dX12_isHeld_39 : decode cX12_isHeld 39 = .ok (.istore_n 2, 1) := by decide +kernel
theorem dX12_isHeld_40 : decode cX12_isHeld 40 = .ok (.iload_n 2, 1) := by decide +kernel
theorem dX12_isHeld_41 : decode cX12_isHeld 41 = .ok (.aload_n 0, 1) := by decide +kernel
theorem dX12_isHeld_42 : decode cX12_isHeld 42 = .ok (.getfield 117, 3) := by decide +kernel
theorem dX12_isHeld_45 : decode cX12_isHeld 45 = .ok (.if_icmp .ge 43, 3) := by decide +kernel
theorem dX12_isHeld_48 : decode cX12_isHeld 48 = .ok (.aload_n 0, 1) := by decide +kernel
theorem dX12_isHeld_49 : decode cX12_isHeld 49 = .ok (.iconst 0, 1) := by decide +kernel
theorem dX12_isHeld_50 : decode cX12_isHeld 50 = .ok (.iload_n 1, 1) := by decide +kernel
theorem dX12_isHeld_51 : decode cX12_isHeld 51 = .ok (.iload_n 2, 1) := by decide +kernel
theorem dX12_isHeld_52 : decode cX12_isHeld 52 = .ok (.aload_n 0, 1) := by decide +kernel
theorem dX12_isHeld_53 : decode cX12_isHeld 53 = .ok (.getfield 133, 3) := by decide +kernel
theorem dX12_isHeld_56 : decode cX12_isHeld 56 = .ok (.iload_n 1, 1) := by decide +kernel
theorem dX12_isHeld_57 : decode cX12_isHeld 57 = .ok (.iaload, 1) := by decide +kernel
theorem dX12_isHeld_58 : decode cX12_isHeld 58 = .ok (.invokevirtual 386, 3) := by decide +kernel
theorem dX12_isHeld_61 : decode cX12_isHeld 61 = .ok (.ifCond .eq 21, 3) := by decide +kernel
theorem dX12_isHeld_64 : decode cX12_isHeld 64 = .ok (.aload_n 0, 1) := by decide +kernel
theorem dX12_isHeld_65 : decode cX12_isHeld 65 = .ok (.iconst 1, 1) := by decide +kernel
theorem dX12_isHeld_66 : decode cX12_isHeld 66 = .ok (.iload_n 2, 1) := by decide +kernel
theorem dX12_isHeld_67 : decode cX12_isHeld 67 = .ok (.iload_n 1, 1) := by decide +kernel
theorem dX12_isHeld_68 : decode cX12_isHeld 68 = .ok (.aload_n 0, 1) := by decide +kernel
theorem dX12_isHeld_69 : decode cX12_isHeld 69 = .ok (.getfield 136, 3) := by decide +kernel
theorem dX12_isHeld_72 : decode cX12_isHeld 72 = .ok (.iload_n 2, 1) := by decide +kernel
theorem dX12_isHeld_73 : decode cX12_isHeld 73 = .ok (.iaload, 1) := by decide +kernel
theorem dX12_isHeld_74 : decode cX12_isHeld 74 = .ok (.invokevirtual 386, 3) := by decide +kernel
theorem dX12_isHeld_77 : decode cX12_isHeld 77 = .ok (.ifCond .eq 5, 3) := by decide +kernel
theorem dX12_isHeld_80 : decode cX12_isHeld 80 = .ok (.iconst 0, 1) := by decide +kernel
theorem dX12_isHeld_81 : decode cX12_isHeld 81 = .ok (.ireturn, 1) := by decide +kernel
theorem dX12_isHeld_82 : decode cX12_isHeld 82 = .ok (.iinc 2 1, 3) := by decide +kernel
theorem dX12_isHeld_85 : decode cX12_isHeld 85 = .ok (.goto (-45), 3) := by decide +kernel
theorem dX12_isHeld_88 : decode cX12_isHeld 88 = .ok (.iinc 1 1, 3) := by decide +kernel
theorem dX12_isHeld_91 : decode cX12_isHeld 91 = .ok (.goto (-61), 3) := by decide +kernel
theorem dX12_isHeld_94 : decode cX12_isHeld 94 = .ok (.iconst 1, 1) := by decide +kernel
theorem dX12_isHeld_95 : decode cX12_isHeld 95 = .ok (.ireturn, 1) := by decide +kernel
theorem dX12_bothOf_0 : decode cX12_bothOf 0 = .ok (.aload_n 0, 1) := by decide +kernel
theorem dX12_bothOf_1 : decode cX12_bothOf 1 = .ok (.getfield 120, 3) := by decide +kernel
theorem dX12_bothOf_4 : decode cX12_bothOf 4 = .ok (.bipush 7, 2) := by decide +kernel
theorem dX12_bothOf_6 : decode cX12_bothOf 6 = .ok (.iload_n 1, 1) := by decide +kernel
theorem dX12_bothOf_7 : decode cX12_bothOf 7 = .ok (.imul, 1) := by decide +kernel
theorem dX12_bothOf_8 : decode cX12_bothOf 8 = .ok (.iload_n 2, 1) := by decide +kernel
theorem dX12_bothOf_9 : decode cX12_bothOf 9 = .ok (.iadd, 1) := by decide +kernel
theorem dX12_bothOf_10 : decode cX12_bothOf 10 = .ok (.iaload, 1) := by decide +kernel
theorem dX12_bothOf_11 : decode cX12_bothOf 11 = .ok (.aload_n 0, 1) := by decide +kernel
theorem dX12_bothOf_12 : decode cX12_bothOf 12 = .ok (.getfield 120, 3) := by decide +kernel
theorem dX12_bothOf_15 : decode cX12_bothOf 15 = .ok (.bipush 49, 2) := by decide +kernel
theorem dX12_bothOf_17 : decode cX12_bothOf 17 = .ok (.bipush 7, 2) := by decide +kernel
theorem dX12_bothOf_19 : decode cX12_bothOf 19 = .ok (.iload_n 2, 1) := by decide +kernel
theorem dX12_bothOf_20 : decode cX12_bothOf 20 = .ok (.imul, 1) := by decide +kernel
theorem dX12_bothOf_21 : decode cX12_bothOf 21 = .ok (.iadd, 1) := by decide +kernel
theorem dX12_bothOf_22 : decode cX12_bothOf 22 = .ok (.iload_n 1, 1) := by decide +kernel
theorem dX12_bothOf_23 : decode cX12_bothOf 23 = .ok (.iadd, 1) := by decide +kernel
theorem dX12_bothOf_24 : decode cX12_bothOf 24 = .ok (.iaload, 1) := by decide +kernel
theorem dX12_bothOf_25 : decode cX12_bothOf 25 = .ok (.iadd, 1) := by decide +kernel
theorem dX12_bothOf_26 : decode cX12_bothOf 26 = .ok (.ireturn, 1) := by decide +kernel
theorem dX12_sumOfRow_0 : decode cX12_sumOfRow 0 = .ok (.iconst 0, 1) := by decide +kernel
theorem dX12_sumOfRow_1 : decode cX12_sumOfRow 1 = .ok (.istore_n 1, 1) := by decide +kernel
theorem dX12_sumOfRow_2 : decode cX12_sumOfRow 2 = .ok (.iconst 0, 1) := by decide +kernel
theorem dX12_sumOfRow_3 : decode cX12_sumOfRow 3 = .ok (.istore_n 2, 1) := by decide +kernel
theorem dX12_sumOfRow_4 : decode cX12_sumOfRow 4 = .ok (.iload_n 2, 1) := by decide +kernel
theorem dX12_sumOfRow_5 : decode cX12_sumOfRow 5 = .ok (.aload_n 0, 1) := by decide +kernel
theorem dX12_sumOfRow_6 : decode cX12_sumOfRow 6 = .ok (.getfield 117, 3) := by decide +kernel
theorem dX12_sumOfRow_9 : decode cX12_sumOfRow 9 = .ok (.if_icmp .ge 23, 3) := by decide +kernel
theorem dX12_sumOfRow_12 : decode cX12_sumOfRow 12 = .ok (.iload_n 1, 1) := by decide +kernel
theorem dX12_sumOfRow_13 : decode cX12_sumOfRow 13 = .ok (.aload_n 0, 1) := by decide +kernel
theorem dX12_sumOfRow_14 : decode cX12_sumOfRow 14 = .ok (.iload_n 2, 1) := by decide +kernel
theorem dX12_sumOfRow_15 : decode cX12_sumOfRow 15 = .ok (.aload_n 0, 1) := by decide +kernel
theorem dX12_sumOfRow_16 : decode cX12_sumOfRow 16 = .ok (.getfield 133, 3) := by decide +kernel
theorem dX12_sumOfRow_19 : decode cX12_sumOfRow 19 = .ok (.iload_n 2, 1) := by decide +kernel
theorem dX12_sumOfRow_20 : decode cX12_sumOfRow 20 = .ok (.iaload, 1) := by decide +kernel
theorem dX12_sumOfRow_21 : decode cX12_sumOfRow 21 = .ok (.invokevirtual 389, 3) := by decide +kernel
theorem dX12_sumOfRow_24 : decode cX12_sumOfRow 24 = .ok (.iadd, 1) := by decide +kernel
theorem dX12_sumOfRow_25 : decode cX12_sumOfRow 25 = .ok (.istore_n 1, 1) := by decide +kernel
theorem dX12_sumOfRow_26 : decode cX12_sumOfRow 26 = .ok (.iinc 2 1, 3) := by decide +kernel
theorem dX12_sumOfRow_29 : decode cX12_sumOfRow 29 = .ok (.goto (-25), 3) := by decide +kernel
theorem dX12_sumOfRow_32 : decode cX12_sumOfRow 32 = .ok (.iload_n 1, 1) := by decide +kernel
theorem dX12_sumOfRow_33 : decode cX12_sumOfRow 33 = .ok (.ireturn, 1) := by decide +kernel
theorem dX12_nextRow_0 : decode cX12_nextRow 0 = .ok (.aload_n 0, 1) := by decide +kernel
theorem dX12_nextRow_1 : decode cX12_nextRow 1 = .ok (.getfield 117, 3) := by decide +kernel
theorem dX12_nextRow_4 : decode cX12_nextRow 4 = .ok (.iconst 2, 1) := by decide +kernel
theorem dX12_nextRow_5 : decode cX12_nextRow 5 = .ok (.isub, 1) := by decide +kernel
theorem dX12_nextRow_6 : decode cX12_nextRow 6 = .ok (.istore_n 1, 1) := by decide +kernel
theorem dX12_nextRow_7 : decode cX12_nextRow 7 = .ok (.iload_n 1, 1) := by decide +kernel
theorem dX12_nextRow_8 : decode cX12_nextRow 8 = .ok (.ifCond .lt 27, 3) := by decide +kernel
theorem dX12_nextRow_11 : decode cX12_nextRow 11 = .ok (.aload_n 0, 1) := by decide +kernel
theorem dX12_nextRow_12 : decode cX12_nextRow 12 = .ok (.getfield 133, 3) := by decide +kernel
theorem dX12_nextRow_15 : decode cX12_nextRow 15 = .ok (.iload_n 1, 1) := by decide +kernel
theorem dX12_nextRow_16 : decode cX12_nextRow 16 = .ok (.iaload, 1) := by decide +kernel
theorem dX12_nextRow_17 : decode cX12_nextRow 17 = .ok (.aload_n 0, 1) := by decide +kernel
theorem dX12_nextRow_18 : decode cX12_nextRow 18 = .ok (.getfield 133, 3) := by decide +kernel
theorem dX12_nextRow_21 : decode cX12_nextRow 21 = .ok (.iload_n 1, 1) := by decide +kernel
theorem dX12_nextRow_22 : decode cX12_nextRow 22 = .ok (.iconst 1, 1) := by decide +kernel
theorem dX12_nextRow_23 : decode cX12_nextRow 23 = .ok (.iadd, 1) := by decide +kernel
theorem dX12_nextRow_24 : decode cX12_nextRow 24 = .ok (.iaload, 1) := by decide +kernel
theorem dX12_nextRow_25 : decode cX12_nextRow 25 = .ok (.if_icmp .le 10, 3) := by decide +kernel
theorem dX12_nextRow_28 : decode cX12_nextRow 28 = .ok (.iload_n 1, 1) := by decide +kernel
theorem dX12_nextRow_29 : decode cX12_nextRow 29 = .ok (.iconst 1, 1) := by decide +kernel
theorem dX12_nextRow_30 : decode cX12_nextRow 30 = .ok (.isub, 1) := by decide +kernel
theorem dX12_nextRow_31 : decode cX12_nextRow 31 = .ok (.istore_n 1, 1) := by decide +kernel
theorem dX12_nextRow_32 : decode cX12_nextRow 32 = .ok (.goto (-25), 3) := by decide +kernel
theorem dX12_nextRow_35 : decode cX12_nextRow 35 = .ok (.iload_n 1, 1) := by decide +kernel
theorem dX12_nextRow_36 : decode cX12_nextRow 36 = .ok (.ifCond .ge 5, 3) := by decide +kernel
theorem dX12_nextRow_39 : decode cX12_nextRow 39 = .ok (.iconst 0, 1) := by decide +kernel
theorem dX12_nextRow_40 : decode cX12_nextRow 40 = .ok (.ireturn, 1) := by decide +kernel
theorem dX12_nextRow_41 : decode cX12_nextRow 41 = .ok (.aload_n 0, 1) := by decide +kernel
theorem dX12_nextRow_42 : decode cX12_nextRow 42 = .ok (.getfield 117, 3) := by decide +kernel
theorem dX12_nextRow_45 : decode cX12_nextRow 45 = .ok (.iconst 1, 1) := by decide +kernel
theorem dX12_nextRow_46 : decode cX12_nextRow 46 = .ok (.isub, 1) := by decide +kernel
theorem dX12_nextRow_47 : decode cX12_nextRow 47 = .ok (.istore_n 2, 1) := by decide +kernel
theorem dX12_nextRow_48 : decode cX12_nextRow 48 = .ok (.aload_n 0, 1) := by decide +kernel
theorem dX12_nextRow_49 : decode cX12_nextRow 49 = .ok (.getfield 133, 3) := by decide +kernel
theorem dX12_nextRow_52 : decode cX12_nextRow 52 = .ok (.iload_n 2, 1) := by decide +kernel
theorem dX12_nextRow_53 : decode cX12_nextRow 53 = .ok (.iaload, 1) := by decide +kernel
theorem dX12_nextRow_54 : decode cX12_nextRow 54 = .ok (.aload_n 0, 1) := by decide +kernel
theorem dX12_nextRow_55 : decode cX12_nextRow 55 = .ok (.getfield 133, 3) := by decide +kernel
theorem dX12_nextRow_58 : decode cX12_nextRow 58 = .ok (.iload_n 1, 1) := by decide +kernel
theorem dX12_nextRow_59 : decode cX12_nextRow 59 = .ok (.iaload, 1) := by decide +kernel
theorem dX12_nextRow_60 : decode cX12_nextRow 60 = .ok (.if_icmp .ge 10, 3) := by decide +kernel
theorem dX12_nextRow_63 : decode cX12_nextRow 63 = .ok (.iload_n 2, 1) := by decide +kernel
theorem dX12_nextRow_64 : decode cX12_nextRow 64 = .ok (.iconst 1, 1) := by decide +kernel
theorem dX12_nextRow_65 : decode cX12_nextRow 65 = .ok (.isub, 1) := by decide +kernel
theorem dX12_nextRow_66 : decode cX12_nextRow 66 = .ok (.istore_n 2, 1) := by decide +kernel
theorem dX12_nextRow_67 : decode cX12_nextRow 67 = .ok (.goto (-19), 3) := by decide +kernel
theorem dX12_nextRow_70 : decode cX12_nextRow 70 = .ok (.aload_n 0, 1) := by decide +kernel
theorem dX12_nextRow_71 : decode cX12_nextRow 71 = .ok (.getfield 133, 3) := by decide +kernel
theorem dX12_nextRow_74 : decode cX12_nextRow 74 = .ok (.iload_n 1, 1) := by decide +kernel
theorem dX12_nextRow_75 : decode cX12_nextRow 75 = .ok (.iaload, 1) := by decide +kernel
theorem dX12_nextRow_76 : decode cX12_nextRow 76 = .ok (.istore_n 3, 1) := by decide +kernel
theorem dX12_nextRow_77 : decode cX12_nextRow 77 = .ok (.aload_n 0, 1) := by decide +kernel
theorem dX12_nextRow_78 : decode cX12_nextRow 78 = .ok (.getfield 133, 3) := by decide +kernel
theorem dX12_nextRow_81 : decode cX12_nextRow 81 = .ok (.iload_n 1, 1) := by decide +kernel
theorem dX12_nextRow_82 : decode cX12_nextRow 82 = .ok (.aload_n 0, 1) := by decide +kernel
theorem dX12_nextRow_83 : decode cX12_nextRow 83 = .ok (.getfield 133, 3) := by decide +kernel
theorem dX12_nextRow_86 : decode cX12_nextRow 86 = .ok (.iload_n 2, 1) := by decide +kernel
theorem dX12_nextRow_87 : decode cX12_nextRow 87 = .ok (.iaload, 1) := by decide +kernel
theorem dX12_nextRow_88 : decode cX12_nextRow 88 = .ok (.iastore, 1) := by decide +kernel
theorem dX12_nextRow_89 : decode cX12_nextRow 89 = .ok (.aload_n 0, 1) := by decide +kernel
theorem dX12_nextRow_90 : decode cX12_nextRow 90 = .ok (.getfield 133, 3) := by decide +kernel
theorem dX12_nextRow_93 : decode cX12_nextRow 93 = .ok (.iload_n 2, 1) := by decide +kernel
theorem dX12_nextRow_94 : decode cX12_nextRow 94 = .ok (.iload_n 3, 1) := by decide +kernel
theorem dX12_nextRow_95 : decode cX12_nextRow 95 = .ok (.iastore, 1) := by decide +kernel
theorem dX12_nextRow_96 : decode cX12_nextRow 96 = .ok (.iload_n 1, 1) := by decide +kernel
theorem dX12_nextRow_97 : decode cX12_nextRow 97 = .ok (.iconst 1, 1) := by decide +kernel
theorem dX12_nextRow_98 : decode cX12_nextRow 98 = .ok (.iadd, 1) := by decide +kernel
theorem dX12_nextRow_99 : decode cX12_nextRow 99 = .ok (.istore 4, 2) := by decide +kernel
theorem dX12_nextRow_101 : decode cX12_nextRow 101 = .ok (.aload_n 0, 1) := by decide +kernel
theorem dX12_nextRow_102 : decode cX12_nextRow 102 = .ok (.getfield 117, 3) := by decide +kernel
theorem dX12_nextRow_105 : decode cX12_nextRow 105 = .ok (.iconst 1, 1) := by decide +kernel
theorem dX12_nextRow_106 : decode cX12_nextRow 106 = .ok (.isub, 1) := by decide +kernel
theorem dX12_nextRow_107 : decode cX12_nextRow 107 = .ok (.istore 5, 2) := by decide +kernel
theorem dX12_nextRow_109 : decode cX12_nextRow 109 = .ok (.iload 4, 2) := by decide +kernel
theorem dX12_nextRow_111 : decode cX12_nextRow 111 = .ok (.iload 5, 2) := by decide +kernel
theorem dX12_nextRow_113 : decode cX12_nextRow 113 = .ok (.if_icmp .ge 48, 3) := by decide +kernel
theorem dX12_nextRow_116 : decode cX12_nextRow 116 = .ok (.aload_n 0, 1) := by decide +kernel
theorem dX12_nextRow_117 : decode cX12_nextRow 117 = .ok (.getfield 133, 3) := by decide +kernel
theorem dX12_nextRow_120 : decode cX12_nextRow 120 = .ok (.iload 4, 2) := by decide +kernel
theorem dX12_nextRow_122 : decode cX12_nextRow 122 = .ok (.iaload, 1) := by decide +kernel
theorem dX12_nextRow_123 : decode cX12_nextRow 123 = .ok (.istore_n 3, 1) := by decide +kernel
theorem dX12_nextRow_124 : decode cX12_nextRow 124 = .ok (.aload_n 0, 1) := by decide +kernel
theorem dX12_nextRow_125 : decode cX12_nextRow 125 = .ok (.getfield 133, 3) := by decide +kernel
theorem dX12_nextRow_128 : decode cX12_nextRow 128 = .ok (.iload 4, 2) := by decide +kernel
theorem dX12_nextRow_130 : decode cX12_nextRow 130 = .ok (.aload_n 0, 1) := by decide +kernel
theorem dX12_nextRow_131 : decode cX12_nextRow 131 = .ok (.getfield 133, 3) := by decide +kernel
theorem dX12_nextRow_134 : decode cX12_nextRow 134 = .ok (.iload 5, 2) := by decide +kernel
theorem dX12_nextRow_136 : decode cX12_nextRow 136 = .ok (.iaload, 1) := by decide +kernel
theorem dX12_nextRow_137 : decode cX12_nextRow 137 = .ok (.iastore, 1) := by decide +kernel
theorem dX12_nextRow_138 : decode cX12_nextRow 138 = .ok (.aload_n 0, 1) := by decide +kernel
theorem dX12_nextRow_139 : decode cX12_nextRow 139 = .ok (.getfield 133, 3) := by decide +kernel
theorem dX12_nextRow_142 : decode cX12_nextRow 142 = .ok (.iload 5, 2) := by decide +kernel
theorem dX12_nextRow_144 : decode cX12_nextRow 144 = .ok (.iload_n 3, 1) := by decide +kernel
theorem dX12_nextRow_145 : decode cX12_nextRow 145 = .ok (.iastore, 1) := by decide +kernel
theorem dX12_nextRow_146 : decode cX12_nextRow 146 = .ok (.iload 4, 2) := by decide +kernel
theorem dX12_nextRow_148 : decode cX12_nextRow 148 = .ok (.iconst 1, 1) := by decide +kernel
theorem dX12_nextRow_149 : decode cX12_nextRow 149 = .ok (.iadd, 1) := by decide +kernel
theorem dX12_nextRow_150 : decode cX12_nextRow 150 = .ok (.istore 4, 2) := by decide +kernel
theorem dX12_nextRow_152 : decode cX12_nextRow 152 = .ok (.iload 5, 2) := by decide +kernel
theorem dX12_nextRow_154 : decode cX12_nextRow 154 = .ok (.iconst 1, 1) := by decide +kernel
theorem dX12_nextRow_155 : decode cX12_nextRow 155 = .ok (.isub, 1) := by decide +kernel
theorem dX12_nextRow_156 : decode cX12_nextRow 156 = .ok (.istore 5, 2) := by decide +kernel
theorem dX12_nextRow_158 : decode cX12_nextRow 158 = .ok (.goto (-49), 3) := by decide +kernel
theorem dX12_nextRow_161 : decode cX12_nextRow 161 = .ok (.iconst 1, 1) := by decide +kernel
theorem dX12_nextRow_162 : decode cX12_nextRow 162 = .ok (.ireturn, 1) := by decide +kernel
theorem dX12_takesRow_0 : decode cX12_takesRow 0 = .ok (.aload_n 0, 1) := by decide +kernel
theorem dX12_takesRow_1 : decode cX12_takesRow 1 = .ok (.invokevirtual 392, 3) := by decide +kernel
theorem dX12_takesRow_4 : decode cX12_takesRow 4 = .ok (.istore_n 1, 1) := by decide +kernel
theorem dX12_takesRow_5 : decode cX12_takesRow 5 = .ok (.iload_n 1, 1) := by decide +kernel
theorem dX12_takesRow_6 : decode cX12_takesRow 6 = .ok (.aload_n 0, 1) := by decide +kernel
theorem dX12_takesRow_7 : decode cX12_takesRow 7 = .ok (.getfield 395, 3) := by decide +kernel
theorem dX12_takesRow_10 : decode cX12_takesRow 10 = .ok (.if_icmp .le 36, 3) := by decide +kernel
theorem dX12_takesRow_13 : decode cX12_takesRow 13 = .ok (.aload_n 0, 1) := by decide +kernel
theorem dX12_takesRow_14 : decode cX12_takesRow 14 = .ok (.iload_n 1, 1) := by decide +kernel
theorem dX12_takesRow_15 : decode cX12_takesRow 15 = .ok (.putfield 395, 3) := by decide +kernel
theorem dX12_takesRow_18 : decode cX12_takesRow 18 = .ok (.iconst 0, 1) := by decide +kernel
theorem dX12_takesRow_19 : decode cX12_takesRow 19 = .ok (.istore_n 2, 1) := by decide +kernel
theorem dX12_takesRow_20 : decode cX12_takesRow 20 = .ok (.iload_n 2, 1) := by decide +kernel
theorem dX12_takesRow_21 : decode cX12_takesRow 21 = .ok (.aload_n 0, 1) := by decide +kernel
theorem dX12_takesRow_22 : decode cX12_takesRow 22 = .ok (.getfield 117, 3) := by decide +kernel
theorem dX12_takesRow_25 : decode cX12_takesRow 25 = .ok (.if_icmp .ge 21, 3) := by decide +kernel
theorem dX12_takesRow_28 : decode cX12_takesRow 28 = .ok (.aload_n 0, 1) := by decide +kernel
theorem dX12_takesRow_29 : decode cX12_takesRow 29 = .ok (.getfield 130, 3) := by decide +kernel
theorem dX12_takesRow_32 : decode cX12_takesRow 32 = .ok (.iload_n 2, 1) := by decide +kernel
theorem dX12_takesRow_33 : decode cX12_takesRow 33 = .ok (.aload_n 0, 1) := by decide +kernel
theorem dX12_takesRow_34 : decode cX12_takesRow 34 = .ok (.getfield 133, 3) := by decide +kernel
theorem dX12_takesRow_37 : decode cX12_takesRow 37 = .ok (.iload_n 2, 1) := by decide +kernel
theorem dX12_takesRow_38 : decode cX12_takesRow 38 = .ok (.iaload, 1) := by decide +kernel
theorem dX12_takesRow_39 : decode cX12_takesRow 39 = .ok (.iastore, 1) := by decide +kernel
theorem dX12_takesRow_40 : decode cX12_takesRow 40 = .ok (.iinc 2 1, 3) := by decide +kernel
theorem dX12_takesRow_43 : decode cX12_takesRow 43 = .ok (.goto (-23), 3) := by decide +kernel
theorem dX12_takesRow_46 : decode cX12_takesRow 46 = .ok (.aload_n 0, 1) := by decide +kernel
theorem dX12_takesRow_47 : decode cX12_takesRow 47 = .ok (.invokevirtual 398, 3) := by decide +kernel
theorem dX12_takesRow_50 : decode cX12_takesRow 50 = .ok (.ifCond .ne 4, 3) := by decide +kernel
theorem dX12_takesRow_53 : decode cX12_takesRow 53 = .ok (.return_, 1) := by decide +kernel
theorem dX12_takesRow_54 : decode cX12_takesRow 54 = .ok (.iconst 0, 1) := by decide +kernel
theorem dX12_takesRow_55 : decode cX12_takesRow 55 = .ok (.istore_n 2, 1) := by decide +kernel
theorem dX12_takesRow_56 : decode cX12_takesRow 56 = .ok (.iload_n 2, 1) := by decide +kernel
theorem dX12_takesRow_57 : decode cX12_takesRow 57 = .ok (.aload_n 0, 1) := by decide +kernel
theorem dX12_takesRow_58 : decode cX12_takesRow 58 = .ok (.getfield 117, 3) := by decide +kernel
theorem dX12_takesRow_61 : decode cX12_takesRow 61 = .ok (.if_icmp .ge 29, 3) := by decide +kernel
theorem dX12_takesRow_64 : decode cX12_takesRow 64 = .ok (.aload_n 0, 1) := by decide +kernel
theorem dX12_takesRow_65 : decode cX12_takesRow 65 = .ok (.getfield 127, 3) := by decide +kernel
theorem dX12_takesRow_68 : decode cX12_takesRow 68 = .ok (.bipush 7, 2) := by decide +kernel
theorem dX12_takesRow_70 : decode cX12_takesRow 70 = .ok (.aload_n 0, 1) := by decide +kernel
theorem dX12_takesRow_71 : decode cX12_takesRow 71 = .ok (.getfield 401, 3) := by decide +kernel
theorem dX12_takesRow_74 : decode cX12_takesRow 74 = .ok (.imul, 1) := by decide +kernel
theorem dX12_takesRow_75 : decode cX12_takesRow 75 = .ok (.iload_n 2, 1) := by decide +kernel
theorem dX12_takesRow_76 : decode cX12_takesRow 76 = .ok (.iadd, 1) := by decide +kernel
theorem dX12_takesRow_77 : decode cX12_takesRow 77 = .ok (.aload_n 0, 1) := by decide +kernel
theorem dX12_takesRow_78 : decode cX12_takesRow 78 = .ok (.getfield 133, 3) := by decide +kernel
theorem dX12_takesRow_81 : decode cX12_takesRow 81 = .ok (.iload_n 2, 1) := by decide +kernel
theorem dX12_takesRow_82 : decode cX12_takesRow 82 = .ok (.iaload, 1) := by decide +kernel
theorem dX12_takesRow_83 : decode cX12_takesRow 83 = .ok (.iastore, 1) := by decide +kernel
theorem dX12_takesRow_84 : decode cX12_takesRow 84 = .ok (.iinc 2 1, 3) := by decide +kernel
theorem dX12_takesRow_87 : decode cX12_takesRow 87 = .ok (.goto (-31), 3) := by decide +kernel
theorem dX12_takesRow_90 : decode cX12_takesRow 90 = .ok (.aload_n 0, 1) := by decide +kernel
theorem dX12_takesRow_91 : decode cX12_takesRow 91 = .ok (.aload_n 0, 1) := by decide +kernel
theorem dX12_takesRow_92 : decode cX12_takesRow 92 = .ok (.getfield 401, 3) := by decide +kernel
theorem dX12_takesRow_95 : decode cX12_takesRow 95 = .ok (.iconst 1, 1) := by decide +kernel
theorem dX12_takesRow_96 : decode cX12_takesRow 96 = .ok (.iadd, 1) := by decide +kernel
theorem dX12_takesRow_97 : decode cX12_takesRow 97 = .ok (.putfield 401, 3) := by decide +kernel
theorem dX12_takesRow_100 : decode cX12_takesRow 100 = .ok (.iload_n 1, 1) := by decide +kernel
theorem dX12_takesRow_101 : decode cX12_takesRow 101 = .ok (.aload_n 0, 1) := by decide +kernel
theorem dX12_takesRow_102 : decode cX12_takesRow 102 = .ok (.getfield 404, 3) := by decide +kernel
theorem dX12_takesRow_105 : decode cX12_takesRow 105 = .ok (.if_icmp .le 8, 3) := by decide +kernel
theorem dX12_takesRow_108 : decode cX12_takesRow 108 = .ok (.aload_n 0, 1) := by decide +kernel
theorem dX12_takesRow_109 : decode cX12_takesRow 109 = .ok (.iload_n 1, 1) := by decide +kernel
theorem dX12_takesRow_110 : decode cX12_takesRow 110 = .ok (.putfield 404, 3) := by decide +kernel
theorem dX12_takesRow_113 : decode cX12_takesRow 113 = .ok (.return_, 1) := by decide +kernel
theorem dX12_findsPrices_0 : decode cX12_findsPrices 0 = .ok (.iconst 0, 1) := by decide +kernel
theorem dX12_findsPrices_1 : decode cX12_findsPrices 1 = .ok (.istore_n 1, 1) := by decide +kernel
theorem dX12_findsPrices_2 : decode cX12_findsPrices 2 = .ok (.iload_n 1, 1) := by decide +kernel
theorem dX12_findsPrices_3 : decode cX12_findsPrices 3 = .ok (.bipush 7, 2) := by decide +kernel
theorem dX12_findsPrices_5 : decode cX12_findsPrices 5 = .ok (.if_icmp .ge 16, 3) := by decide +kernel
theorem dX12_findsPrices_8 : decode cX12_findsPrices 8 = .ok (.aload_n 0, 1) := by decide +kernel
theorem dX12_findsPrices_9 : decode cX12_findsPrices 9 = .ok (.getfield 139, 3) := by decide +kernel
theorem dX12_findsPrices_12 : decode cX12_findsPrices 12 = .ok (.iload_n 1, 1) := by decide +kernel
theorem dX12_findsPrices_13 : decode cX12_findsPrices 13 = .ok (.iconst 0, 1) := by decide +kernel
theorem dX12_findsPrices_14 : decode cX12_findsPrices 14 = .ok (.iastore, 1) := by decide +kernel
theorem dX12_findsPrices_15 : decode cX12_findsPrices 15 = .ok (.iinc 1 1, 3) := by decide +kernel
theorem dX12_findsPrices_18 : decode cX12_findsPrices 18 = .ok (.goto (-16), 3) := by decide +kernel
theorem dX12_findsPrices_21 : decode cX12_findsPrices 21 = .ok (.iconst 1, 1) := by decide +kernel
theorem dX12_findsPrices_22 : decode cX12_findsPrices 22 = .ok (.istore_n 1, 1) := by decide +kernel
theorem dX12_findsPrices_23 : decode cX12_findsPrices 23 = .ok (.iload_n 1, 1) := by decide +kernel
theorem dX12_findsPrices_24 : decode cX12_findsPrices 24 = .ok (.ifCond .eq 98, 3) := by decide +kernel
theorem dX12_findsPrices_27 : decode cX12_findsPrices 27 = .ok (.iconst 0, 1) := by decide +kernel
theorem dX12_findsPrices_28 : decode cX12_findsPrices 28 = .ok (.istore_n 1, 1) := by decide +kernel
theorem dX12_findsPrices_29 : decode cX12_findsPrices 29 = .ok (.iconst 0, 1) := by decide +kernel
theorem dX12_findsPrices_30 : decode cX12_findsPrices 30 = .ok (.istore_n 2, 1) := by decide +kernel
theorem dX12_findsPrices_31 : decode cX12_findsPrices 31 = .ok (.iload_n 2, 1) := by decide +kernel
theorem dX12_findsPrices_32 : decode cX12_findsPrices 32 = .ok (.aload_n 0, 1) := by decide +kernel
theorem dX12_findsPrices_33 : decode cX12_findsPrices 33 = .ok (.getfield 117, 3) := by decide +kernel
theorem dX12_findsPrices_36 : decode cX12_findsPrices 36 = .ok (.if_icmp .ge 83, 3) := by decide +kernel
theorem dX12_findsPrices_39 : decode cX12_findsPrices 39 = .ok (.aload_n 0, 1) := by decide +kernel
theorem dX12_findsPrices_40 : decode cX12_findsPrices 40 = .ok (.getfield 130, 3) := by decide +kernel
theorem dX12_findsPrices_43 : decode cX12_findsPrices 43 = .ok (.iload_n 2, 1) := by decide +kernel
theorem dX12_findsPrices_44 : decode cX12_findsPrices 44 = .ok (.iaload, 1) := by decide +kernel
theorem dX12_findsPrices_45 : decode cX12_findsPrices 45 = .ok (.istore_n 3, 1) := by decide +kernel
theorem dX12_findsPrices_46 : decode cX12_findsPrices 46 = .ok (.iconst 0, 1) := by decide +kernel
theorem dX12_findsPrices_47 : decode cX12_findsPrices 47 = .ok (.istore 4, 2) := by decide +kernel
theorem dX12_findsPrices_49 : decode cX12_findsPrices 49 = .ok (.iload 4, 2) := by decide +kernel
theorem dX12_findsPrices_51 : decode cX12_findsPrices 51 = .ok (.aload_n 0, 1) := by decide +kernel
theorem dX12_findsPrices_52 : decode cX12_findsPrices 52 = .ok (.getfield 117, 3) := by decide +kernel
theorem dX12_findsPrices_55 : decode cX12_findsPrices 55 = .ok (.if_icmp .ge 58, 3) := by decide +kernel
theorem dX12_findsPrices_58 : decode cX12_findsPrices 58 = .ok (.aload_n 0, 1) := by decide +kernel
theorem dX12_findsPrices_59 : decode cX12_findsPrices 59 = .ok (.getfield 139, 3) := by decide +kernel
theorem dX12_findsPrices_62 : decode cX12_findsPrices 62 = .ok (.iload_n 3, 1) := by decide +kernel
theorem dX12_findsPrices_63 : decode cX12_findsPrices 63 = .ok (.iaload, 1) := by decide +kernel
