theorem dX9_ahead_35 : decode cX9_ahead 35 = .ok (.bipush 6, 2) := by decide +kernel
theorem dX9_ahead_37 : decode cX9_ahead 37 = .ok (.imul, 1) := by decide +kernel
theorem dX9_ahead_38 : decode cX9_ahead 38 = .ok (.iload_n 2, 1) := by decide +kernel
theorem dX9_ahead_39 : decode cX9_ahead 39 = .ok (.iadd, 1) := by decide +kernel
theorem dX9_ahead_40 : decode cX9_ahead 40 = .ok (.bipush 61, 2) := by decide +kernel
theorem dX9_ahead_42 : decode cX9_ahead 42 = .ok (.imul, 1) := by decide +kernel
theorem dX9_ahead_43 : decode cX9_ahead 43 = .ok (.iload_n 3, 1) := by decide +kernel
theorem dX9_ahead_44 : decode cX9_ahead 44 = .ok (.iadd, 1) := by decide +kernel
theorem dX9_ahead_45 : decode cX9_ahead 45 = .ok (.iaload, 1) := by decide +kernel
theorem dX9_ahead_46 : decode cX9_ahead 46 = .ok (.istore 5, 2) := by decide +kernel
theorem dX9_ahead_48 : decode cX9_ahead 48 = .ok (.sipush 1000, 3) := by decide +kernel
theorem dX9_ahead_51 : decode cX9_ahead 51 = .ok (.iload 5, 2) := by decide +kernel
theorem dX9_ahead_53 : decode cX9_ahead 53 = .ok (.imul, 1) := by decide +kernel
theorem dX9_ahead_54 : decode cX9_ahead 54 = .ok (.istore 6, 2) := by decide +kernel
theorem dX9_ahead_56 : decode cX9_ahead 56 = .ok (.iconst 0, 1) := by decide +kernel
theorem dX9_ahead_57 : decode cX9_ahead 57 = .ok (.istore 7, 2) := by decide +kernel
theorem dX9_ahead_59 : decode cX9_ahead 59 = .ok (.iload 7, 2) := by decide +kernel
theorem dX9_ahead_61 : decode cX9_ahead 61 = .ok (.aload_n 0, 1) := by decide +kernel
theorem dX9_ahead_62 : decode cX9_ahead 62 = .ok (.getfield 24, 3) := by decide +kernel
theorem dX9_ahead_65 : decode cX9_ahead 65 = .ok (.iload 4, 2) := by decide +kernel
theorem dX9_ahead_67 : decode cX9_ahead 67 = .ok (.invokevirtual 55, 3) := by decide +kernel
theorem dX9_ahead_70 : decode cX9_ahead 70 = .ok (.if_icmp .ge 107, 3) := by decide +kernel
theorem dX9_ahead_73 : decode cX9_ahead 73 = .ok (.iload 7, 2) := by decide +kernel
theorem dX9_ahead_75 : decode cX9_ahead 75 = .ok (.bipush 6, 2) := by decide +kernel
theorem dX9_ahead_77 : decode cX9_ahead 77 = .ok (.if_icmp .ge 100, 3) := by decide +kernel
theorem dX9_ahead_80 : decode cX9_ahead 80 = .ok (.aload_n 0, 1) := by decide +kernel
theorem dX9_ahead_81 : decode cX9_ahead 81 = .ok (.getfield 17, 3) := by decide +kernel
theorem dX9_ahead_84 : decode cX9_ahead 84 = .ok (.iload_n 1, 1) := by decide +kernel
theorem dX9_ahead_85 : decode cX9_ahead 85 = .ok (.bipush 6, 2) := by decide +kernel
theorem dX9_ahead_87 : decode cX9_ahead 87 = .ok (.imul, 1) := by decide +kernel
theorem dX9_ahead_88 : decode cX9_ahead 88 = .ok (.iload_n 2, 1) := by decide +kernel
theorem dX9_ahead_89 : decode cX9_ahead 89 = .ok (.iadd, 1) := by decide +kernel
theorem dX9_ahead_90 : decode cX9_ahead 90 = .ok (.bipush 6, 2) := by decide +kernel
theorem dX9_ahead_92 : decode cX9_ahead 92 = .ok (.imul, 1) := by decide +kernel
theorem dX9_ahead_93 : decode cX9_ahead 93 = .ok (.iload 7, 2) := by decide +kernel
theorem dX9_ahead_95 : decode cX9_ahead 95 = .ok (.iadd, 1) := by decide +kernel
theorem dX9_ahead_96 : decode cX9_ahead 96 = .ok (.iaload, 1) := by decide +kernel
theorem dX9_ahead_97 : decode cX9_ahead 97 = .ok (.istore 8, 2) := by decide +kernel
theorem dX9_ahead_99 : decode cX9_ahead 99 = .ok (.aload_n 0, 1) := by decide +kernel
theorem dX9_ahead_100 : decode cX9_ahead 100 = .ok (.getfield 17, 3) := by decide +kernel
theorem dX9_ahead_103 : decode cX9_ahead 103 = .ok (.iload 4, 2) := by decide +kernel
theorem dX9_ahead_105 : decode cX9_ahead 105 = .ok (.bipush 6, 2) := by decide +kernel
theorem dX9_ahead_107 : decode cX9_ahead 107 = .ok (.imul, 1) := by decide +kernel
theorem dX9_ahead_108 : decode cX9_ahead 108 = .ok (.iload 7, 2) := by decide +kernel
theorem dX9_ahead_110 : decode cX9_ahead 110 = .ok (.iadd, 1) := by decide +kernel
theorem dX9_ahead_111 : decode cX9_ahead 111 = .ok (.bipush 6, 2) := by decide +kernel
theorem dX9_ahead_113 : decode cX9_ahead 113 = .ok (.imul, 1) := by decide +kernel
theorem dX9_ahead_114 : decode cX9_ahead 114 = .ok (.iload_n 2, 1) := by decide +kernel
theorem dX9_ahead_115 : decode cX9_ahead 115 = .ok (.iadd, 1) := by decide +kernel
theorem dX9_ahead_116 : decode cX9_ahead 116 = .ok (.iaload, 1) := by decide +kernel
theorem dX9_ahead_117 : decode cX9_ahead 117 = .ok (.istore 9, 2) := by decide +kernel
theorem dX9_ahead_119 : decode cX9_ahead 119 = .ok (.iload 8, 2) := by decide +kernel
theorem dX9_ahead_121 : decode cX9_ahead 121 = .ok (.iload 5, 2) := by decide +kernel
theorem dX9_ahead_123 : decode cX9_ahead 123 = .ok (.if_icmp .lt 48, 3) := by decide +kernel
theorem dX9_ahead_126 : decode cX9_ahead 126 = .ok (.iload 9, 2) := by decide +kernel
theorem dX9_ahead_128 : decode cX9_ahead 128 = .ok (.aload_n 0, 1) := by decide +kernel
theorem dX9_ahead_129 : decode cX9_ahead 129 = .ok (.getfield 13, 3) := by decide +kernel
theorem dX9_ahead_132 : decode cX9_ahead 132 = .ok (.iload 4, 2) := by decide +kernel
theorem dX9_ahead_134 : decode cX9_ahead 134 = .ok (.bipush 6, 2) := by decide +kernel
theorem dX9_ahead_136 : decode cX9_ahead 136 = .ok (.imul, 1) := by decide +kernel
theorem dX9_ahead_137 : decode cX9_ahead 137 = .ok (.iload 7, 2) := by decide +kernel
theorem dX9_ahead_139 : decode cX9_ahead 139 = .ok (.iadd, 1) := by decide +kernel
theorem dX9_ahead_140 : decode cX9_ahead 140 = .ok (.bipush 61, 2) := by decide +kernel
theorem dX9_ahead_142 : decode cX9_ahead 142 = .ok (.imul, 1) := by decide +kernel
theorem dX9_ahead_143 : decode cX9_ahead 143 = .ok (.iload_n 3, 1) := by decide +kernel
theorem dX9_ahead_144 : decode cX9_ahead 144 = .ok (.iadd, 1) := by decide +kernel
theorem dX9_ahead_145 : decode cX9_ahead 145 = .ok (.iaload, 1) := by decide +kernel
theorem dX9_ahead_146 : decode cX9_ahead 146 = .ok (.if_icmp .lt 25, 3) := by decide +kernel
theorem dX9_ahead_149 : decode cX9_ahead 149 = .ok (.iload 6, 2) := by decide +kernel
theorem dX9_ahead_151 : decode cX9_ahead 151 = .ok (.aload_n 0, 1) := by decide +kernel
theorem dX9_ahead_152 : decode cX9_ahead 152 = .ok (.getfield 24, 3) := by decide +kernel
theorem dX9_ahead_155 : decode cX9_ahead 155 = .ok (.iload 4, 2) := by decide +kernel
theorem dX9_ahead_157 : decode cX9_ahead 157 = .ok (.iload 7, 2) := by decide +kernel
theorem dX9_ahead_159 : decode cX9_ahead 159 = .ok (.invokevirtual 58, 3) := by decide +kernel
theorem dX9_ahead_162 : decode cX9_ahead 162 = .ok (.iload 8, 2) := by decide +kernel
theorem dX9_ahead_164 : decode cX9_ahead 164 = .ok (.iload 5, 2) := by decide +kernel
theorem dX9_ahead_166 : decode cX9_ahead 166 = .ok (.isub, 1) := by decide +kernel
theorem dX9_ahead_167 : decode cX9_ahead 167 = .ok (.imul, 1) := by decide +kernel
theorem dX9_ahead_168 : decode cX9_ahead 168 = .ok (.iadd, 1) := by decide +kernel
theorem dX9_ahead_169 : decode cX9_ahead 169 = .ok (.istore 6, 2) := by decide +kernel
theorem dX9_ahead_171 : decode cX9_ahead 171 = .ok (.iinc 7 1, 3) := by decide +kernel
theorem dX9_ahead_174 : decode cX9_ahead 174 = .ok (.goto (-115), 3) := by decide +kernel
theorem dX9_ahead_177 : decode cX9_ahead 177 = .ok (.iconst 0, 1) := by decide +kernel
theorem dX9_ahead_178 : decode cX9_ahead 178 = .ok (.iload 6, 2) := by decide +kernel
theorem dX9_ahead_180 : decode cX9_ahead 180 = .ok (.sipush 1000, 3) := by decide +kernel
theorem dX9_ahead_183 : decode cX9_ahead 183 = .ok (.idiv, 1) := by decide +kernel
theorem dX9_ahead_184 : decode cX9_ahead 184 = .ok (.aload_n 0, 1) := by decide +kernel
theorem dX9_ahead_185 : decode cX9_ahead 185 = .ok (.getfield 24, 3) := by decide +kernel
theorem dX9_ahead_188 : decode cX9_ahead 188 = .ok (.iconst 0, 1) := by decide +kernel
theorem dX9_ahead_189 : decode cX9_ahead 189 = .ok (.invokevirtual 32, 3) := by decide +kernel
theorem dX9_ahead_192 : decode cX9_ahead 192 = .ok (.isub, 1) := by decide +kernel
theorem dX9_ahead_193 : decode cX9_ahead 193 = .ok (.invokestatic 61, 3) := by decide +kernel
theorem dX9_ahead_196 : decode cX9_ahead 196 = .ok (.ireturn, 1) := by decide +kernel
theorem dX10_init_0 : decode cX10_init 0 = .ok (.aload_n 0, 1) := by decide +kernel
theorem dX10_init_1 : decode cX10_init 1 = .ok (.invokespecial 1, 3) := by decide +kernel
theorem dX10_init_4 : decode cX10_init 4 = .ok (.aload_n 0, 1) := by decide +kernel
theorem dX10_init_5 : decode cX10_init 5 = .ok (.sipush 400, 3) := by decide +kernel
theorem dX10_init_8 : decode cX10_init 8 = .ok (.newarray .int, 2) := by decide +kernel
theorem dX10_init_10 : decode cX10_init 10 = .ok (.putfield 9, 3) := by decide +kernel
theorem dX10_init_13 : decode cX10_init 13 = .ok (.aload_n 0, 1) := by decide +kernel
theorem dX10_init_14 : decode cX10_init 14 = .ok (.bipush 12, 2) := by decide +kernel
theorem dX10_init_16 : decode cX10_init 16 = .ok (.newarray .int, 2) := by decide +kernel
theorem dX10_init_18 : decode cX10_init 18 = .ok (.putfield 15, 3) := by decide +kernel
theorem dX10_init_21 : decode cX10_init 21 = .ok (.aload_n 0, 1) := by decide +kernel
theorem dX10_init_22 : decode cX10_init 22 = .ok (.bipush 12, 2) := by decide +kernel
theorem dX10_init_24 : decode cX10_init 24 = .ok (.newarray .int, 2) := by decide +kernel
theorem dX10_init_26 : decode cX10_init 26 = .ok (.putfield 18, 3) := by decide +kernel
theorem dX10_init_29 : decode cX10_init 29 = .ok (.aload_n 0, 1) := by decide +kernel
theorem dX10_init_30 : decode cX10_init 30 = .ok (.bipush 12, 2) := by decide +kernel
theorem dX10_init_32 : decode cX10_init 32 = .ok (.newarray .int, 2) := by decide +kernel
theorem dX10_init_34 : decode cX10_init 34 = .ok (.putfield 21, 3) := by decide +kernel
theorem dX10_init_37 : decode cX10_init 37 = .ok (.aload_n 0, 1) := by decide +kernel
theorem dX10_init_38 : decode cX10_init 38 = .ok (.bipush 12, 2) := by decide +kernel
theorem dX10_init_40 : decode cX10_init 40 = .ok (.newarray .int, 2) := by decide +kernel
theorem dX10_init_42 : decode cX10_init 42 = .ok (.putfield 24, 3) := by decide +kernel
theorem dX10_init_45 : decode cX10_init 45 = .ok (.return_, 1) := by decide +kernel
theorem dX10_lines_0 : decode cX10_lines 0 = .ok (.aload_n 0, 1) := by decide +kernel
theorem dX10_lines_1 : decode cX10_lines 1 = .ok (.getfield 27, 3) := by decide +kernel
theorem dX10_lines_4 : decode cX10_lines 4 = .ok (.ireturn, 1) := by decide +kernel
theorem dX10_clear_0 : decode cX10_clear 0 = .ok (.aload_n 0, 1) := by decide +kernel
theorem dX10_clear_1 : decode cX10_clear 1 = .ok (.iconst 0, 1) := by decide +kernel
theorem dX10_clear_2 : decode cX10_clear 2 = .ok (.putfield 31, 3) := by decide +kernel
theorem dX10_clear_5 : decode cX10_clear 5 = .ok (.aload_n 0, 1) := by decide +kernel
theorem dX10_clear_6 : decode cX10_clear 6 = .ok (.iconst 0, 1) := by decide +kernel
theorem dX10_clear_7 : decode cX10_clear 7 = .ok (.putfield 27, 3) := by decide +kernel
theorem dX10_clear_10 : decode cX10_clear 10 = .ok (.return_, 1) := by decide +kernel
theorem dX10_copy_0 : decode cX10_copy 0 = .ok (.aload_n 0, 1) := by decide +kernel
theorem dX10_copy_1 : decode cX10_copy 1 = .ok (.aload_n 1, 1) := by decide +kernel
theorem dX10_copy_2 : decode cX10_copy 2 = .ok (.getfield 31, 3) := by decide +kernel
theorem dX10_copy_5 : decode cX10_copy 5 = .ok (.putfield 31, 3) := by decide +kernel
theorem dX10_copy_8 : decode cX10_copy 8 = .ok (.aload_n 0, 1) := by decide +kernel
theorem dX10_copy_9 : decode cX10_copy 9 = .ok (.aload_n 1, 1) := by decide +kernel
theorem dX10_copy_10 : decode cX10_copy 10 = .ok (.getfield 27, 3) := by decide +kernel
theorem dX10_copy_13 : decode cX10_copy 13 = .ok (.putfield 27, 3) := by decide +kernel
theorem dX10_copy_16 : decode cX10_copy 16 = .ok (.aload_n 1, 1) := by decide +kernel
theorem dX10_copy_17 : decode cX10_copy 17 = .ok (.getfield 9, 3) := by decide +kernel
theorem dX10_copy_20 : decode cX10_copy 20 = .ok (.iconst 0, 1) := by decide +kernel
theorem dX10_copy_21 : decode cX10_copy 21 = .ok (.aload_n 0, 1) := by decide +kernel
theorem dX10_copy_22 : decode cX10_copy 22 = .ok (.getfield 9, 3) := by decide +kernel
theorem dX10_copy_25 : decode cX10_copy 25 = .ok (.iconst 0, 1) := by decide +kernel
theorem dX10_copy_26 : decode cX10_copy 26 = .ok (.aload_n 0, 1) := by decide +kernel
theorem dX10_copy_27 : decode cX10_copy 27 = .ok (.getfield 9, 3) := by decide +kernel
theorem dX10_copy_30 : decode cX10_copy 30 = .ok (.arraylength, 1) := by decide +kernel
theorem dX10_copy_31 : decode cX10_copy 31 = .ok (.invokestatic 34, 3) := by decide +kernel
theorem dX10_copy_34 : decode cX10_copy 34 = .ok (.aload_n 1, 1) := by decide +kernel
theorem dX10_copy_35 : decode cX10_copy 35 = .ok (.getfield 15, 3) := by decide +kernel
theorem dX10_copy_38 : decode cX10_copy 38 = .ok (.iconst 0, 1) := by decide +kernel
theorem dX10_copy_39 : decode cX10_copy 39 = .ok (.aload_n 0, 1) := by decide +kernel
theorem dX10_copy_40 : decode cX10_copy 40 = .ok (.getfield 15, 3) := by decide +kernel
theorem dX10_copy_43 : decode cX10_copy 43 = .ok (.iconst 0, 1) := by decide +kernel
theorem dX10_copy_44 : decode cX10_copy 44 = .ok (.bipush 12, 2) := by decide +kernel
theorem dX10_copy_46 : decode cX10_copy 46 = .ok (.invokestatic 34, 3) := by decide +kernel
theorem dX10_copy_49 : decode cX10_copy 49 = .ok (.aload_n 1, 1) := by decide +kernel
theorem dX10_copy_50 : decode cX10_copy 50 = .ok (.getfield 18, 3) := by decide +kernel
theorem dX10_copy_53 : decode cX10_copy 53 = .ok (.iconst 0, 1) := by decide +kernel
theorem dX10_copy_54 : decode cX10_copy 54 = .ok (.aload_n 0, 1) := by decide +kernel
theorem dX10_copy_55 : decode cX10_copy 55 = .ok (.getfield 18, 3) := by decide +kernel
theorem dX10_copy_58 : decode cX10_copy 58 = .ok (.iconst 0, 1) := by decide +kernel
theorem dX10_copy_59 : decode cX10_copy 59 = .ok (.bipush 12, 2) := by decide +kernel
theorem dX10_copy_61 : decode cX10_copy 61 = .ok (.invokestatic 34, 3) := by decide +kernel
theorem dX10_copy_64 : decode cX10_copy 64 = .ok (.aload_n 1, 1) := by decide +kernel
theorem dX10_copy_65 : decode cX10_copy 65 = .ok (.getfield 21, 3) := by decide +kernel
theorem dX10_copy_68 : decode cX10_copy 68 = .ok (.iconst 0, 1) := by decide +kernel
theorem dX10_copy_69 : decode cX10_copy 69 = .ok (.aload_n 0, 1) := by decide +kernel
theorem dX10_copy_70 : decode cX10_copy 70 = .ok (.getfield 21, 3) := by decide +kernel
theorem dX10_copy_73 : decode cX10_copy 73 = .ok (.iconst 0, 1) := by decide +kernel
theorem dX10_copy_74 : decode cX10_copy 74 = .ok (.bipush 12, 2) := by decide +kernel
theorem dX10_copy_76 : decode cX10_copy 76 = .ok (.invokestatic 34, 3) := by decide +kernel
theorem dX10_copy_79 : decode cX10_copy 79 = .ok (.aload_n 1, 1) := by decide +kernel
theorem dX10_copy_80 : decode cX10_copy 80 = .ok (.getfield 24, 3) := by decide +kernel
theorem dX10_copy_83 : decode cX10_copy 83 = .ok (.iconst 0, 1) := by decide +kernel
theorem dX10_copy_84 : decode cX10_copy 84 = .ok (.aload_n 0, 1) := by decide +kernel
theorem dX10_copy_85 : decode cX10_copy 85 = .ok (.getfield 24, 3) := by decide +kernel
theorem dX10_copy_88 : decode cX10_copy 88 = .ok (.iconst 0, 1) := by decide +kernel
theorem dX10_copy_89 : decode cX10_copy 89 = .ok (.bipush 12, 2) := by decide +kernel
theorem dX10_copy_91 : decode cX10_copy 91 = .ok (.invokestatic 34, 3) := by decide +kernel
theorem dX10_copy_94 : decode cX10_copy 94 = .ok (.return_, 1) := by decide +kernel
theorem dX10_put_0 : decode cX10_put 0 = .ok (.aload_n 0, 1) := by decide +kernel
theorem dX10_put_1 : decode cX10_put 1 = .ok (.getfield 31, 3) := by decide +kernel
theorem dX10_put_4 : decode cX10_put 4 = .ok (.aload_n 0, 1) := by decide +kernel
theorem dX10_put_5 : decode cX10_put 5 = .ok (.getfield 9, 3) := by decide +kernel
theorem dX10_put_8 : decode cX10_put 8 = .ok (.arraylength, 1) := by decide +kernel
theorem dX10_put_9 : decode cX10_put 9 = .ok (.if_icmp .ge 23, 3) := by decide +kernel
theorem dX10_put_12 : decode cX10_put 12 = .ok (.aload_n 0, 1) := by decide +kernel
theorem dX10_put_13 : decode cX10_put 13 = .ok (.getfield 9, 3) := by decide +kernel
theorem dX10_put_16 : decode cX10_put 16 = .ok (.aload_n 0, 1) := by decide +kernel
theorem dX10_put_17 : decode cX10_put 17 = .ok (.getfield 31, 3) := by decide +kernel
theorem dX10_put_20 : decode cX10_put 20 = .ok (.iload_n 1, 1) := by decide +kernel
theorem dX10_put_21 : decode cX10_put 21 = .ok (.iastore, 1) := by decide +kernel
theorem dX10_put_22 : decode cX10_put 22 = .ok (.aload_n 0, 1) := by decide +kernel
theorem dX10_put_23 : decode cX10_put 23 = .ok (.dup, 1) := by decide +kernel
theorem dX10_put_24 : decode cX10_put 24 = .ok (.getfield 31, 3) := by decide +kernel
theorem dX10_put_27 : decode cX10_put 27 = .ok (.iconst 1, 1) := by decide +kernel
theorem dX10_put_28 : decode cX10_put 28 = .ok (.iadd, 1) := by decide +kernel
theorem dX10_put_29 : decode cX10_put 29 = .ok (.putfield 31, 3) := by decide +kernel
theorem dX10_put_32 : decode cX10_put 32 = .ok (.return_, 1) := by decide +kernel
theorem dX10_open_0 : decode cX10_open 0 = .ok (.aload_n 0, 1) := by decide +kernel
theorem dX10_open_1 : decode cX10_open 1 = .ok (.getfield 27, 3) := by decide +kernel
theorem dX10_open_4 : decode cX10_open 4 = .ok (.bipush 12, 2) := by decide +kernel
theorem dX10_open_6 : decode cX10_open 6 = .ok (.if_icmp .ge 26, 3) := by decide +kernel
theorem dX10_open_9 : decode cX10_open 9 = .ok (.aload_n 0, 1) := by decide +kernel
theorem dX10_open_10 : decode cX10_open 10 = .ok (.getfield 15, 3) := by decide +kernel
theorem dX10_open_13 : decode cX10_open 13 = .ok (.aload_n 0, 1) := by decide +kernel
theorem dX10_open_14 : decode cX10_open 14 = .ok (.getfield 27, 3) := by decide +kernel
theorem dX10_open_17 : decode cX10_open 17 = .ok (.iload_n 1, 1) := by decide +kernel
theorem dX10_open_18 : decode cX10_open 18 = .ok (.iastore, 1) := by decide +kernel
theorem dX10_open_19 : decode cX10_open 19 = .ok (.aload_n 0, 1) := by decide +kernel
theorem dX10_open_20 : decode cX10_open 20 = .ok (.getfield 18, 3) := by decide +kernel
theorem dX10_open_23 : decode cX10_open 23 = .ok (.aload_n 0, 1) := by decide +kernel
theorem dX10_open_24 : decode cX10_open 24 = .ok (.getfield 27, 3) := by decide +kernel
theorem dX10_open_27 : decode cX10_open 27 = .ok (.aload_n 0, 1) := by decide +kernel
theorem dX10_open_28 : decode cX10_open 28 = .ok (.getfield 31, 3) := by decide +kernel
theorem dX10_open_31 : decode cX10_open 31 = .ok (.iastore, 1) := by decide +kernel
theorem dX10_open_32 : decode cX10_open 32 = .ok (.return_, 1) := by decide +kernel
theorem dX10_markMiddle_0 : decode cX10_markMiddle 0 = .ok (.aload_n 0, 1) := by decide +kernel
theorem dX10_markMiddle_1 : decode cX10_markMiddle 1 = .ok (.getfield 27, 3) := by decide +kernel
theorem dX10_markMiddle_4 : decode cX10_markMiddle 4 = .ok (.bipush 12, 2) := by decide +kernel
theorem dX10_markMiddle_6 : decode cX10_markMiddle 6 = .ok (.if_icmp .ge 16, 3) := by decide +kernel
theorem dX10_markMiddle_9 : decode cX10_markMiddle 9 = .ok (.aload_n 0, 1) := by decide +kernel
theorem dX10_markMiddle_10 : decode cX10_markMiddle 10 = .ok (.getfield 21, 3) := by decide +kernel
theorem dX10_markMiddle_13 : decode cX10_markMiddle 13 = .ok (.aload_n 0, 1) := by decide +kernel
theorem dX10_markMiddle_14 : decode cX10_markMiddle 14 = .ok (.getfield 27, 3) := by decide +kernel
theorem dX10_markMiddle_17 : decode cX10_markMiddle 17 = .ok (.aload_n 0, 1) := by decide +kernel
theorem dX10_markMiddle_18 : decode cX10_markMiddle 18 = .ok (.getfield 31, 3) := by decide +kernel
theorem dX10_markMiddle_21 : decode cX10_markMiddle 21 = .ok (.iastore, 1) := by decide +kernel
theorem dX10_markMiddle_22 : decode cX10_markMiddle 22 = .ok (.return_, 1) := by decide +kernel
theorem dX10_close_0 : decode cX10_close 0 = .ok (.aload_n 0, 1) := by decide +kernel
theorem dX10_close_1 : decode cX10_close 1 = .ok (.getfield 27, 3) := by decide +kernel
theorem dX10_close_4 : decode cX10_close 4 = .ok (.bipush 12, 2) := by decide +kernel
theorem dX10_close_6 : decode cX10_close 6 = .ok (.if_icmp .ge 26, 3) := by decide +kernel
theorem dX10_close_9 : decode cX10_close 9 = .ok (.aload_n 0, 1) := by decide +kernel
theorem dX10_close_10 : decode cX10_close 10 = .ok (.getfield 24, 3) := by decide +kernel
theorem dX10_close_13 : decode cX10_close 13 = .ok (.aload_n 0, 1) := by decide +kernel
theorem dX10_close_14 : decode cX10_close 14 = .ok (.getfield 27, 3) := by decide +kernel
theorem dX10_close_17 : decode cX10_close 17 = .ok (.aload_n 0, 1) := by decide +kernel
theorem dX10_close_18 : decode cX10_close 18 = .ok (.getfield 31, 3) := by decide +kernel
theorem dX10_close_21 : decode cX10_close 21 = .ok (.iastore, 1) := by decide +kernel
theorem dX10_close_22 : decode cX10_close 22 = .ok (.aload_n 0, 1) := by decide +kernel
theorem dX10_close_23 : decode cX10_close 23 = .ok (.dup, 1) := by decide +kernel
theorem dX10_close_24 : decode cX10_close 24 = .ok (.getfield 27, 3) := by decide +kernel
theorem dX10_close_27 : decode cX10_close 27 = .ok (.iconst 1, 1) := by decide +kernel
theorem dX10_close_28 : decode cX10_close 28 = .ok (.iadd, 1) := by decide +kernel
theorem dX10_close_29 : decode cX10_close 29 = .ok (.putfield 27, 3) := by decide +kernel
theorem dX10_close_32 : decode cX10_close 32 = .ok (.return_, 1) := by decide +kernel
theorem dX10_begins_0 : decode cX10_begins 0 = .ok (.iload_n 1, 1) := by decide +kernel
theorem dX10_begins_1 : decode cX10_begins 1 = .ok (.ifCond .lt 25, 3) := by decide +kernel
theorem dX10_begins_4 : decode cX10_begins 4 = .ok (.iload_n 1, 1) := by decide +kernel
theorem dX10_begins_5 : decode cX10_begins 5 = .ok (.aload_n 0, 1) := by decide +kernel
theorem dX10_begins_6 : decode cX10_begins 6 = .ok (.getfield 27, 3) := by decide +kernel
theorem dX10_begins_9 : decode cX10_begins 9 = .ok (.if_icmp .ge 17, 3) := by decide +kernel
theorem dX10_begins_12 : decode cX10_begins 12 = .ok (.aload_n 0, 1) := by decide +kernel
theorem dX10_begins_13 : decode cX10_begins 13 = .ok (.getfield 15, 3) := by decide +kernel
theorem dX10_begins_16 : decode cX10_begins 16 = .ok (.iload_n 1, 1) := by decide +kernel
theorem dX10_begins_17 : decode cX10_begins 17 = .ok (.iaload, 1) := by decide +kernel
theorem dX10_begins_18 : decode cX10_begins 18 = .ok (.iload_n 2, 1) := by decide +kernel
theorem dX10_begins_19 : decode cX10_begins 19 = .ok (.if_icmp .ne 7, 3) := by decide +kernel
theorem dX10_begins_22 : decode cX10_begins 22 = .ok (.iconst 1, 1) := by decide +kernel
theorem dX10_begins_23 : decode cX10_begins 23 = .ok (.goto 4, 3) := by decide +kernel
theorem dX10_begins_26 : decode cX10_begins 26 = .ok (.iconst 0, 1) := by decide +kernel
theorem dX10_begins_27 : decode cX10_begins 27 = .ok (.ireturn, 1) := by decide +kernel
theorem dX10_start_0 : decode cX10_start 0 = .ok (.iload_n 1, 1) := by decide +kernel
theorem dX10_start_1 : decode cX10_start 1 = .ok (.ifCond .lt 20, 3) := by decide +kernel
theorem dX10_start_4 : decode cX10_start 4 = .ok (.iload_n 1, 1) := by decide +kernel
theorem dX10_start_5 : decode cX10_start 5 = .ok (.aload_n 0, 1) := by decide +kernel
theorem dX10_start_6 : decode cX10_start 6 = .ok (.getfield 27, 3) := by decide +kernel
theorem dX10_start_9 : decode cX10_start 9 = .ok (.if_icmp .ge 12, 3) := by decide +kernel
theorem dX10_start_12 : decode cX10_start 12 = .ok (.aload_n 0, 1) := by decide +kernel
theorem dX10_start_13 : decode cX10_start 13 = .ok (.getfield 18, 3) := by decide +kernel
theorem dX10_start_16 : decode cX10_start 16 = .ok (.iload_n 1, 1) := by decide +kernel
theorem dX10_start_17 : decode cX10_start 17 = .ok (.iaload, 1) := by decide +kernel
theorem dX10_start_18 : decode cX10_start 18 = .ok (.goto 4, 3) := by decide +kernel
theorem dX10_start_21 : decode cX10_start 21 = .ok (.iconst 0, 1) := by decide +kernel
theorem dX10_start_22 : decode cX10_start 22 = .ok (.ireturn, 1) := by decide +kernel
theorem dX10_middle_0 : decode cX10_middle 0 = .ok (.iload_n 1, 1) := by decide +kernel
theorem dX10_middle_1 : decode cX10_middle 1 = .ok (.ifCond .lt 20, 3) := by decide +kernel
theorem dX10_middle_4 : decode cX10_middle 4 = .ok (.iload_n 1, 1) := by decide +kernel
theorem dX10_middle_5 : decode cX10_middle 5 = .ok (.aload_n 0, 1) := by decide +kernel
theorem dX10_middle_6 : decode cX10_middle 6 = .ok (.getfield 27, 3) := by decide +kernel
theorem dX10_middle_9 : decode cX10_middle 9 = .ok (.if_icmp .ge 12, 3) := by decide +kernel
theorem dX10_middle_12 : decode cX10_middle 12 = .ok (.aload_n 0, 1) := by decide +kernel
theorem dX10_middle_13 : decode cX10_middle 13 = .ok (.getfield 21, 3) := by decide +kernel
theorem dX10_middle_16 : decode cX10_middle 16 = .ok (.iload_n 1, 1) := by decide +kernel
theorem dX10_middle_17 : decode cX10_middle 17 = .ok (.iaload, 1) := by decide +kernel
theorem dX10_middle_18 : decode cX10_middle 18 = .ok (.goto 4, 3) := by decide +kernel
theorem dX10_middle_21 : decode cX10_middle 21 = .ok (.iconst 0, 1) := by decide +kernel
theorem dX10_middle_22 : decode cX10_middle 22 = .ok (.ireturn, 1) := by decide +kernel
theorem dX10_finish_0 : decode cX10_finish 0 = .ok (.iload_n 1, 1) := by decide +kernel
theorem dX10_finish_1 : decode cX10_finish 1 = .ok (.ifCond .lt 20, 3) := by decide +kernel
theorem dX10_finish_4 : decode cX10_finish 4 = .ok (.iload_n 1, 1) := by decide +kernel
theorem dX10_finish_5 : decode cX10_finish 5 = .ok (.aload_n 0, 1) := by decide +kernel
theorem dX10_finish_6 : decode cX10_finish 6 = .ok (.getfield 27, 3) := by decide +kernel
theorem dX10_finish_9 : decode cX10_finish 9 = .ok (.if_icmp .ge 12, 3) := by decide +kernel
theorem dX10_finish_12 : decode cX10_finish 12 = .ok (.aload_n 0, 1) := by decide +kernel
theorem dX10_finish_13 : decode cX10_finish 13 = .ok (.getfield 24, 3) := by decide +kernel
theorem dX10_finish_16 : decode cX10_finish 16 = .ok (.iload_n 1, 1) := by decide +kernel
theorem dX10_finish_17 : decode cX10_finish 17 = .ok (.iaload, 1) := by decide +kernel
theorem dX10_finish_18 : decode cX10_finish 18 = .ok (.goto 4, 3) := by decide +kernel
theorem dX10_finish_21 : decode cX10_finish 21 = .ok (.iconst 0, 1) := by decide +kernel
theorem dX10_finish_22 : decode cX10_finish 22 = .ok (.ireturn, 1) := by decide +kernel
theorem dX10_step_0 : decode cX10_step 0 = .ok (.iload_n 1, 1) := by decide +kernel
theorem dX10_step_1 : decode cX10_step 1 = .ok (.ifCond .lt 20, 3) := by decide +kernel
theorem dX10_step_4 : decode cX10_step 4 = .ok (.iload_n 1, 1) := by decide +kernel
theorem dX10_step_5 : decode cX10_step 5 = .ok (.aload_n 0, 1) := by decide +kernel
theorem dX10_step_6 : decode cX10_step 6 = .ok (.getfield 31, 3) := by decide +kernel
theorem dX10_step_9 : decode cX10_step 9 = .ok (.if_icmp .ge 12, 3) := by decide +kernel
theorem dX10_step_12 : decode cX10_step 12 = .ok (.aload_n 0, 1) := by decide +kernel
theorem dX10_step_13 : decode cX10_step 13 = .ok (.getfield 9, 3) := by decide +kernel
theorem dX10_step_16 : decode cX10_step 16 = .ok (.iload_n 1, 1) := by decide +kernel
theorem dX10_step_17 : decode cX10_step 17 = .ok (.iaload, 1) := by decide +kernel
theorem dX10_step_18 : decode cX10_step 18 = .ok (.goto 4, 3) := by decide +kernel
theorem dX10_step_21 : decode cX10_step 21 = .ok (.iconst 0, 1) := by decide +kernel
theorem dX10_step_22 : decode cX10_step 22 = .ok (.ireturn, 1) := by decide +kernel
theorem dX11_init_0 : decode cX11_init 0 = .ok (.aload_n 0, 1) := by decide +kernel
theorem dX11_init_1 : decode cX11_init 1 = .ok (.invokespecial 3, 3) := by decide +kernel
theorem dX11_init_4 : decode cX11_init 4 = .ok (.aload_n 0, 1) := by decide +kernel
theorem dX11_init_5 : decode cX11_init 5 = .ok (.new 9, 3) := by decide +kernel
theorem dX11_init_8 : decode cX11_init 8 = .ok (.dup, 1) := by decide +kernel
theorem dX11_init_9 : decode cX11_init 9 = .ok (.invokespecial 11, 3) := by decide +kernel
theorem dX11_init_12 : decode cX11_init 12 = .ok (.putfield 12, 3) := by decide +kernel
theorem dX11_init_15 : decode cX11_init 15 = .ok (.aload_n 0, 1) := by decide +kernel
theorem dX11_init_16 : decode cX11_init 16 = .ok (.new 16, 3) := by decide +kernel
theorem dX11_init_19 : decode cX11_init 19 = .ok (.dup, 1) := by decide +kernel
theorem dX11_init_20 : decode cX11_init 20 = .ok (.aload_n 0, 1) := by decide +kernel
theorem dX11_init_21 : decode cX11_init 21 = .ok (.getfield 12, 3) := by decide +kernel
theorem dX11_init_24 : decode cX11_init 24 = .ok (.invokespecial 18, 3) := by decide +kernel
theorem dX11_init_27 : decode cX11_init 27 = .ok (.putfield 21, 3) := by decide +kernel
theorem dX11_init_30 : decode cX11_init 30 = .ok (.aload_n 0, 1) := by decide +kernel
theorem dX11_init_31 : decode cX11_init 31 = .ok (.new 25, 3) := by decide +kernel
theorem dX11_init_34 : decode cX11_init 34 = .ok (.dup, 1) := by decide +kernel
theorem dX11_init_35 : decode cX11_init 35 = .ok (.aload_n 0, 1) := by decide +kernel
theorem dX11_init_36 : decode cX11_init 36 = .ok (.getfield 12, 3) := by decide +kernel
theorem dX11_init_39 : decode cX11_init 39 = .ok (.invokespecial 27, 3) := by decide +kernel
theorem dX11_init_42 : decode cX11_init 42 = .ok (.putfield 28, 3) := by decide +kernel
theorem dX11_init_45 : decode cX11_init 45 = .ok (.aload_n 0, 1) := by decide +kernel
theorem dX11_init_46 : decode cX11_init 46 = .ok (.new 32, 3) := by decide +kernel
theorem dX11_init_49 : decode cX11_init 49 = .ok (.dup, 1) := by decide +kernel
theorem dX11_init_50 : decode cX11_init 50 = .ok (.invokespecial 34, 3) := by decide +kernel
theorem dX11_init_53 : decode cX11_init 53 = .ok (.putfield 35, 3) := by decide +kernel
theorem dX11_init_56 : decode cX11_init 56 = .ok (.aload_n 0, 1) := by decide +kernel
theorem dX11_init_57 : decode cX11_init 57 = .ok (.new 39, 3) := by decide +kernel
theorem dX11_init_60 : decode cX11_init 60 = .ok (.dup, 1) := by decide +kernel
theorem dX11_init_61 : decode cX11_init 61 = .ok (.aload_n 0, 1) := by decide +kernel
theorem dX11_init_62 : decode cX11_init 62 = .ok (.getfield 35, 3) := by decide +kernel
theorem dX11_init_65 : decode cX11_init 65 = .ok (.invokespecial 41, 3) := by decide +kernel
theorem dX11_init_68 : decode cX11_init 68 = .ok (.putfield 44, 3) := by decide +kernel
theorem dX11_init_71 : decode cX11_init 71 = .ok (.aload_n 0, 1) := by decide +kernel
theorem dX11_init_72 : decode cX11_init 72 = .ok (.new 48, 3) := by decide +kernel
theorem dX11_init_75 : decode cX11_init 75 = .ok (.dup, 1) := by decide +kernel
theorem dX11_init_76 : decode cX11_init 76 = .ok (.aload_n 0, 1) := by decide +kernel
theorem dX11_init_77 : decode cX11_init 77 = .ok (.getfield 12, 3) := by decide +kernel
theorem dX11_init_80 : decode cX11_init 80 = .ok (.aload_n 0, 1) := by decide +kernel
theorem dX11_init_81 : decode cX11_init 81 = .ok (.getfield 28, 3) := by decide +kernel
theorem dX11_init_84 : decode cX11_init 84 = .ok (.invokespecial 50, 3) := by decide +kernel
theorem dX11_init_87 : decode cX11_init 87 = .ok (.putfield 53, 3) := by decide +kernel
theorem dX11_init_90 : decode cX11_init 90 = .ok (.aload_n 0, 1) := by decide +kernel
theorem dX11_init_91 : decode cX11_init 91 = .ok (.new 57, 3) := by decide +kernel
theorem dX11_init_94 : decode cX11_init 94 = .ok (.dup, 1) := by decide +kernel
theorem dX11_init_95 : decode cX11_init 95 = .ok (.invokespecial 59, 3) := by decide +kernel
theorem dX11_init_98 : decode cX11_init 98 = .ok (.putfield 60, 3) := by decide +kernel
theorem dX11_init_101 : decode cX11_init 101 = .ok (.aload_n 0, 1) := by decide +kernel
theorem dX11_init_102 : decode cX11_init 102 = .ok (.new 64, 3) := by decide +kernel
theorem dX11_init_105 : decode cX11_init 105 = .ok (.dup, 1) := by decide +kernel
theorem dX11_init_106 : decode cX11_init 106 = .ok (.aload_n 0, 1) := by decide +kernel
theorem dX11_init_107 : decode cX11_init 107 = .ok (.getfield 60, 3) := by decide +kernel
theorem dX11_init_110 : decode cX11_init 110 = .ok (.invokespecial 66, 3) := by decide +kernel
theorem dX11_init_113 : decode cX11_init 113 = .ok (.putfield 69, 3) := by decide +kernel
theorem dX11_init_116 : decode cX11_init 116 = .ok (.return_, 1) := by decide +kernel
theorem dX11_sorts_0 : decode cX11_sorts 0 = .ok (.aload_n 0, 1) := by decide +kernel
theorem dX11_sorts_1 : decode cX11_sorts 1 = .ok (.getfield 12, 3) := by decide +kernel
theorem dX11_sorts_4 : decode cX11_sorts 4 = .ok (.iload_n 1, 1) := by decide +kernel
theorem dX11_sorts_5 : decode cX11_sorts 5 = .ok (.invokevirtual 73, 3) := by decide +kernel
theorem dX11_sorts_8 : decode cX11_sorts 8 = .ok (.ifCond .eq 24, 3) := by decide +kernel
theorem dX11_sorts_11 : decode cX11_sorts 11 = .ok (.iload_n 2, 1) := by decide +kernel
theorem dX11_sorts_12 : decode cX11_sorts 12 = .ok (.iconst 1, 1) := by decide +kernel
theorem dX11_sorts_13 : decode cX11_sorts 13 = .ok (.if_icmp .lt 19, 3) := by decide +kernel
theorem dX11_sorts_16 : decode cX11_sorts 16 = .ok (.iload_n 2, 1) := by decide +kernel
theorem dX11_sorts_17 : decode cX11_sorts 17 = .ok (.bipush 6, 2) := by decide +kernel
theorem dX11_sorts_19 : decode cX11_sorts 19 = .ok (.if_icmp .gt 13, 3) := by decide +kernel
theorem dX11_sorts_22 : decode cX11_sorts 22 = .ok (.aload_n 0, 1) := by decide +kernel
theorem dX11_sorts_23 : decode cX11_sorts 23 = .ok (.getfield 53, 3) := by decide +kernel
theorem dX11_sorts_26 : decode cX11_sorts 26 = .ok (.invokevirtual 77, 3) := by decide +kernel
theorem dX11_sorts_29 : decode cX11_sorts 29 = .ok (.ifCond .le 5, 3) := by decide +kernel
theorem dX11_sorts_32 : decode cX11_sorts 32 = .ok (.iconst 0, 1) := by decide +kernel
theorem dX11_sorts_33 : decode cX11_sorts 33 = .ok (.ireturn, 1) := by decide +kernel
theorem dX11_sorts_34 : decode cX11_sorts 34 = .ok (.aload_n 0, 1) := by decide +kernel
theorem dX11_sorts_35 : decode cX11_sorts 35 = .ok (.getfield 12, 3) := by decide +kernel
theorem dX11_sorts_38 : decode cX11_sorts 38 = .ok (.iload_n 1, 1) := by decide +kernel
theorem dX11_sorts_39 : decode cX11_sorts 39 = .ok (.iload_n 2, 1) := by decide +kernel
theorem dX11_sorts_40 : decode cX11_sorts 40 = .ok (.invokevirtual 81, 3) := by decide +kernel
theorem dX11_sorts_43 : decode cX11_sorts 43 = .ok (.iconst 1, 1) := by decide +kernel
theorem dX11_sorts_44 : decode cX11_sorts 44 = .ok (.ireturn, 1) := by decide +kernel
theorem dX11_look_0 : decode cX11_look 0 = .ok (.aload_n 0, 1) := by decide +kernel
theorem dX11_look_1 : decode cX11_look 1 = .ok (.getfield 12, 3) := by decide +kernel
theorem dX11_look_4 : decode cX11_look 4 = .ok (.iload_n 1, 1) := by decide +kernel
theorem dX11_look_5 : decode cX11_look 5 = .ok (.iload_n 2, 1) := by decide +kernel
theorem dX11_look_6 : decode cX11_look 6 = .ok (.invokevirtual 85, 3) := by decide +kernel
theorem dX11_look_9 : decode cX11_look 9 = .ok (.ifCond .eq 27, 3) := by decide +kernel
theorem dX11_look_12 : decode cX11_look 12 = .ok (.iload_n 3, 1) := by decide +kernel
theorem dX11_look_13 : decode cX11_look 13 = .ok (.ifCond .lt 23, 3) := by decide +kernel
theorem dX11_look_16 : decode cX11_look 16 = .ok (.iload_n 3, 1) := by decide +kernel
theorem dX11_look_17 : decode cX11_look 17 = .ok (.sipush 999, 3) := by decide +kernel
theorem dX11_look_20 : decode cX11_look 20 = .ok (.if_icmp .gt 16, 3) := by decide +kernel
theorem dX11_look_23 : decode cX11_look 23 = .ok (.iload 4, 2) := by decide +kernel
theorem dX11_look_25 : decode cX11_look 25 = .ok (.ifCond .lt 11, 3) := by decide +kernel
theorem dX11_look_28 : decode cX11_look 28 = .ok (.iload 4, 2) := by decide +kernel
theorem dX11_look_30 : decode cX11_look 30 = .ok (.sipush 999, 3) := by decide +kernel
theorem dX11_look_33 : decode cX11_look 33 = .ok (.if_icmp .le 5, 3) := by decide +kernel
theorem dX11_look_36 : decode cX11_look 36 = .ok (.iconst 0, 1) := by decide +kernel
theorem dX11_look_37 : decode cX11_look 37 = .ok (.ireturn, 1) := by decide +kernel
theorem dX11_look_38 : decode cX11_look 38 = .ok (.aload_n 0, 1) := by decide +kernel
theorem dX11_look_39 : decode cX11_look 39 = .ok (.getfield 12, 3) := by decide +kernel
theorem dX11_look_42 : decode cX11_look 42 = .ok (.iload_n 1, 1) := by decide +kernel
theorem dX11_look_43 : decode cX11_look 43 = .ok (.iload_n 2, 1) := by decide +kernel
theorem dX11_look_44 : decode cX11_look 44 = .ok (.iload_n 3, 1) := by decide +kernel
theorem dX11_look_45 : decode cX11_look 45 = .ok (.iload 4, 2) := by decide +kernel
theorem dX11_look_47 : decode cX11_look 47 = .ok (.invokevirtual 89, 3) := by decide +kernel
theorem dX11_look_50 : decode cX11_look 50 = .ok (.ireturn, 1) := by decide +kernel
theorem dX11_worth_0 : decode cX11_worth 0 = .ok (.aload_n 0, 1) := by decide +kernel
theorem dX11_worth_1 : decode cX11_worth 1 = .ok (.getfield 12, 3) := by decide +kernel
theorem dX11_worth_4 : decode cX11_worth 4 = .ok (.iload_n 1, 1) := by decide +kernel
theorem dX11_worth_5 : decode cX11_worth 5 = .ok (.iload_n 2, 1) := by decide +kernel
theorem dX11_worth_6 : decode cX11_worth 6 = .ok (.invokevirtual 85, 3) := by decide +kernel
theorem dX11_worth_9 : decode cX11_worth 9 = .ok (.ifCond .eq 31, 3) := by decide +kernel
theorem dX11_worth_12 : decode cX11_worth 12 = .ok (.aload_n 0, 1) := by decide +kernel
theorem dX11_worth_13 : decode cX11_worth 13 = .ok (.getfield 12, 3) := by decide +kernel
theorem dX11_worth_16 : decode cX11_worth 16 = .ok (.iconst 1, 1) := by decide +kernel
theorem dX11_worth_17 : decode cX11_worth 17 = .ok (.iload_n 1, 1) := by decide +kernel
theorem dX11_worth_18 : decode cX11_worth 18 = .ok (.isub, 1) := by decide +kernel
theorem dX11_worth_19 : decode cX11_worth 19 = .ok (.iload_n 3, 1) := by decide +kernel
theorem dX11_worth_20 : decode cX11_worth 20 = .ok (.invokevirtual 85, 3) := by decide +kernel
theorem dX11_worth_23 : decode cX11_worth 23 = .ok (.ifCond .eq 17, 3) := by decide +kernel
theorem dX11_worth_26 : decode cX11_worth 26 = .ok (.iload 4, 2) := by decide +kernel
theorem dX11_worth_28 : decode cX11_worth 28 = .ok (.iconst (-1), 1) := by decide +kernel
theorem dX11_worth_29 : decode cX11_worth 29 = .ok (.if_icmp .lt 11, 3) := by decide +kernel
theorem dX11_worth_32 : decode cX11_worth 32 = .ok (.iload 4, 2) := by decide +kernel
theorem dX11_worth_34 : decode cX11_worth 34 = .ok (.sipush 999, 3) := by decide +kernel
theorem dX11_worth_37 : decode cX11_worth 37 = .ok (.if_icmp .le 5, 3) := by decide +kernel
theorem dX11_worth_40 : decode cX11_worth 40 = .ok (.iconst 0, 1) := by decide +kernel
theorem dX11_worth_41 : decode cX11_worth 41 = .ok (.ireturn, 1) := by decide +kernel
theorem dX11_worth_42 : decode cX11_worth 42 = .ok (.aload_n 0, 1) := by decide +kernel
theorem dX11_worth_43 : decode cX11_worth 43 = .ok (.getfield 12, 3) := by decide +kernel
theorem dX11_worth_46 : decode cX11_worth 46 = .ok (.iload_n 1, 1) := by decide +kernel
theorem dX11_worth_47 : decode cX11_worth 47 = .ok (.iload_n 2, 1) := by decide +kernel
theorem dX11_worth_48 : decode cX11_worth 48 = .ok (.iload_n 3, 1) := by decide +kernel
theorem dX11_worth_49 : decode cX11_worth 49 = .ok (.iload 4, 2) := by decide +kernel
theorem dX11_worth_51 : decode cX11_worth 51 = .ok (.invokevirtual 93, 3) := by decide +kernel
theorem dX11_worth_54 : decode cX11_worth 54 = .ok (.iconst 1, 1) := by decide +kernel
theorem dX11_worth_55 : decode cX11_worth 55 = .ok (.ireturn, 1) := by decide +kernel
theorem dX11_set_0 : decode cX11_set 0 = .ok (.aload_n 0, 1) := by decide +kernel
theorem dX11_set_1 : decode cX11_set 1 = .ok (.getfield 12, 3) := by decide +kernel
theorem dX11_set_4 : decode cX11_set 4 = .ok (.iload_n 1, 1) := by decide +kernel
theorem dX11_set_5 : decode cX11_set 5 = .ok (.iload_n 2, 1) := by decide +kernel
theorem dX11_set_6 : decode cX11_set 6 = .ok (.invokevirtual 97, 3) := by decide +kernel
theorem dX11_set_9 : decode cX11_set 9 = .ok (.ireturn, 1) := by decide +kernel
theorem dX11_classes_0 : decode cX11_classes 0 = .ok (.iload_n 2, 1) := by decide +kernel
theorem dX11_classes_1 : decode cX11_classes 1 = .ok (.ifCond .lt 9, 3) := by decide +kernel
theorem dX11_classes_4 : decode cX11_classes 4 = .ok (.iload_n 2, 1) := by decide +kernel
theorem dX11_classes_5 : decode cX11_classes 5 = .ok (.bipush 8, 2) := by decide +kernel
theorem dX11_classes_7 : decode cX11_classes 7 = .ok (.if_icmp .le 6, 3) := by decide +kernel
theorem dX11_classes_10 : decode cX11_classes 10 = .ok (.ldc 100, 2) := by decide +kernel
theorem dX11_classes_12 : decode cX11_classes 12 = .ok (.ireturn, 1) := by decide +kernel
theorem dX11_classes_13 : decode cX11_classes 13 = .ok (.aload_n 0, 1) := by decide +kernel
theorem dX11_classes_14 : decode cX11_classes 14 = .ok (.getfield 21, 3) := by decide +kernel
theorem dX11_classes_17 : decode cX11_classes 17 = .ok (.invokevirtual 101, 3) := by decide +kernel
theorem dX11_classes_20 : decode cX11_classes 20 = .ok (.iload_n 2, 1) := by decide +kernel
theorem dX11_classes_21 : decode cX11_classes 21 = .ok (.ifCond .ne 25, 3) := by decide +kernel
theorem dX11_classes_24 : decode cX11_classes 24 = .ok (.aload_n 0, 1) := by decide +kernel
theorem dX11_classes_25 : decode cX11_classes 25 = .ok (.getfield 21, 3) := by decide +kernel
theorem dX11_classes_28 : decode cX11_classes 28 = .ok (.invokevirtual 104, 3) := by decide +kernel
theorem dX11_classes_31 : decode cX11_classes 31 = .ok (.ifCond .eq 13, 3) := by decide +kernel
theorem dX11_classes_34 : decode cX11_classes 34 = .ok (.aload_n 0, 1) := by decide +kernel
theorem dX11_classes_35 : decode cX11_classes 35 = .ok (.getfield 21, 3) := by decide +kernel
theorem dX11_classes_38 : decode cX11_classes 38 = .ok (.invokevirtual 108, 3) := by decide +kernel
theorem dX11_classes_41 : decode cX11_classes 41 = .ok (.goto 4, 3) := by decide +kernel
theorem dX11_classes_44 : decode cX11_classes 44 = .ok (.iconst (-1), 1) := by decide +kernel
theorem dX11_classes_45 : decode cX11_classes 45 = .ok (.ireturn, 1) := by decide +kernel
theorem dX11_classes_46 : decode cX11_classes 46 = .ok (.aload_n 0, 1) := by decide +kernel
theorem dX11_classes_47 : decode cX11_classes 47 = .ok (.getfield 21, 3) := by decide +kernel
theorem dX11_classes_50 : decode cX11_classes 50 = .ok (.invokevirtual 104, 3) := by decide +kernel
theorem dX11_classes_53 : decode cX11_classes 53 = .ok (.ifCond .ne 6, 3) := by decide +kernel
theorem dX11_classes_56 : decode cX11_classes 56 = .ok (.ldc 100, 2) := by decide +kernel
theorem dX11_classes_58 : decode cX11_classes 58 = .ok (.ireturn, 1) := by decide +kernel
theorem dX11_classes_59 : decode cX11_classes 59 = .ok (.iload_n 2, 1) := by decide +kernel
theorem dX11_classes_60 : decode cX11_classes 60 = .ok (.bipush 7, 2) := by decide +kernel
theorem dX11_classes_62 : decode cX11_classes 62 = .ok (.if_icmp .lt 15, 3) := by decide +kernel
theorem dX11_classes_65 : decode cX11_classes 65 = .ok (.aload_n 0, 1) := by decide +kernel
theorem dX11_classes_66 : decode cX11_classes 66 = .ok (.getfield 21, 3) := by decide +kernel
theorem dX11_classes_69 : decode cX11_classes 69 = .ok (.iload_n 2, 1) := by decide +kernel
theorem dX11_classes_70 : decode cX11_classes 70 = .ok (.bipush 7, 2) := by decide +kernel
theorem dX11_classes_72 : decode cX11_classes 72 = .ok (.isub, 1) := by decide +kernel
theorem dX11_classes_73 : decode cX11_classes 73 = .ok (.invokevirtual 111, 3) := by decide +kernel
theorem dX11_classes_76 : decode cX11_classes 76 = .ok (.ireturn, 1) := by decide +kernel
theorem dX11_classes_77 : decode cX11_classes 77 = .ok (.iload_n 1, 1) := by decide +kernel
theorem dX11_classes_78 : decode cX11_classes 78 = .ok (.ifCond .lt 28, 3) := by decide +kernel
theorem dX11_classes_81 : decode cX11_classes 81 = .ok (.iload_n 1, 1) := by decide +kernel
theorem dX11_classes_82 : decode cX11_classes 82 = .ok (.aload_n 0, 1) := by decide +kernel
theorem dX11_classes_83 : decode cX11_classes 83 = .ok (.getfield 21, 3) := by decide +kernel
theorem dX11_classes_86 : decode cX11_classes 86 = .ok (.invokevirtual 108, 3) := by decide +kernel
theorem dX11_classes_89 : decode cX11_classes 89 = .ok (.if_icmp .ge 17, 3) := by decide +kernel
theorem dX11_classes_92 : decode cX11_classes 92 = .ok (.aload_n 0, 1) := by decide +kernel
theorem dX11_classes_93 : decode cX11_classes 93 = .ok (.getfield 21, 3) := by decide +kernel
theorem dX11_classes_96 : decode cX11_classes 96 = .ok (.iload_n 1, 1) := by decide +kernel
theorem dX11_classes_97 : decode cX11_classes 97 = .ok (.iload_n 2, 1) := by decide +kernel
theorem dX11_classes_98 : decode cX11_classes 98 = .ok (.iconst 1, 1) := by decide +kernel
theorem dX11_classes_99 : decode cX11_classes 99 = .ok (.isub, 1) := by decide +kernel
theorem dX11_classes_100 : decode cX11_classes 100 = .ok (.invokevirtual 115, 3) := by decide +kernel
theorem dX11_classes_103 : decode cX11_classes 103 = .ok (.goto 5, 3) := by decide +kernel
theorem dX11_classes_106 : decode cX11_classes 106 = .ok (.ldc 100, 2) := by decide +kernel
theorem dX11_classes_108 : decode cX11_classes 108 = .ok (.ireturn, 1) := by decide +kernel
theorem dX11_patience_0 : decode cX11_patience 0 = .ok (.aload_n 0, 1) := by decide +kernel
theorem dX11_patience_1 : decode cX11_patience 1 = .ok (.getfield 12, 3) := by decide +kernel
theorem dX11_patience_4 : decode cX11_patience 4 = .ok (.iload_n 1, 1) := by decide +kernel
theorem dX11_patience_5 : decode cX11_patience 5 = .ok (.iload_n 2, 1) := by decide +kernel
theorem dX11_patience_6 : decode cX11_patience 6 = .ok (.invokevirtual 85, 3) := by decide +kernel
theorem dX11_patience_9 : decode cX11_patience 9 = .ok (.ifCond .eq 19, 3) := by decide +kernel
theorem dX11_patience_12 : decode cX11_patience 12 = .ok (.iload_n 3, 1) := by decide +kernel
theorem dX11_patience_13 : decode cX11_patience 13 = .ok (.ifCond .lt 15, 3) := by decide +kernel
theorem dX11_patience_16 : decode cX11_patience 16 = .ok (.iload_n 3, 1) := by decide +kernel
theorem dX11_patience_17 : decode cX11_patience 17 = .ok (.aload_n 0, 1) := by decide +kernel
theorem dX11_patience_18 : decode cX11_patience 18 = .ok (.getfield 12, 3) := by decide +kernel
theorem dX11_patience_21 : decode cX11_patience 21 = .ok (.iconst 2, 1) := by decide +kernel
theorem dX11_patience_22 : decode cX11_patience 22 = .ok (.invokevirtual 119, 3) := by decide +kernel
theorem dX11_patience_25 : decode cX11_patience 25 = .ok (.if_icmp .le 5, 3) := by decide +kernel
theorem dX11_patience_28 : decode cX11_patience 28 = .ok (.iconst (-1), 1) := by decide +kernel
theorem dX11_patience_29 : decode cX11_patience 29 = .ok (.ireturn, 1) := by decide +kernel
theorem dX11_patience_30 : decode cX11_patience 30 = .ok (.aload_n 0, 1) := by decide +kernel
theorem dX11_patience_31 : decode cX11_patience 31 = .ok (.getfield 28, 3) := by decide +kernel
theorem dX11_patience_34 : decode cX11_patience 34 = .ok (.invokevirtual 122, 3) := by decide +kernel
theorem dX11_patience_37 : decode cX11_patience 37 = .ok (.aload_n 0, 1) := by decide +kernel
theorem dX11_patience_38 : decode cX11_patience 38 = .ok (.getfield 28, 3) := by decide +kernel
theorem dX11_patience_41 : decode cX11_patience 41 = .ok (.iload_n 1, 1) := by decide +kernel
theorem dX11_patience_42 : decode cX11_patience 42 = .ok (.iload_n 2, 1) := by decide +kernel
theorem dX11_patience_43 : decode cX11_patience 43 = .ok (.iload_n 3, 1) := by decide +kernel
theorem dX11_patience_44 : decode cX11_patience 44 = .ok (.invokevirtual 123, 3) := by decide +kernel
theorem dX11_patience_47 : decode cX11_patience 47 = .ok (.ireturn, 1) := by decide +kernel
theorem dX11_pairs_0 : decode cX11_pairs 0 = .ok (.aload_n 0, 1) := by decide +kernel
theorem dX11_pairs_1 : decode cX11_pairs 1 = .ok (.getfield 12, 3) := by decide +kernel
theorem dX11_pairs_4 : decode cX11_pairs 4 = .ok (.iconst 0, 1) := by decide +kernel
theorem dX11_pairs_5 : decode cX11_pairs 5 = .ok (.iload_n 1, 1) := by decide +kernel
theorem dX11_pairs_6 : decode cX11_pairs 6 = .ok (.invokevirtual 85, 3) := by decide +kernel
theorem dX11_pairs_9 : decode cX11_pairs 9 = .ok (.ifCond .eq 15, 3) := by decide +kernel
theorem dX11_pairs_12 : decode cX11_pairs 12 = .ok (.aload_n 0, 1) := by decide +kernel
theorem dX11_pairs_13 : decode cX11_pairs 13 = .ok (.getfield 12, 3) := by decide +kernel
theorem dX11_pairs_16 : decode cX11_pairs 16 = .ok (.iconst 1, 1) := by decide +kernel
theorem dX11_pairs_17 : decode cX11_pairs 17 = .ok (.iload_n 2, 1) := by decide +kernel
theorem dX11_pairs_18 : decode cX11_pairs 18 = .ok (.invokevirtual 85, 3) := by decide +kernel
theorem dX11_pairs_21 : decode cX11_pairs 21 = .ok (.ifCond .ne 5, 3) := by decide +kernel
theorem dX11_pairs_24 : decode cX11_pairs 24 = .ok (.iconst (-1), 1) := by decide +kernel
theorem dX11_pairs_25 : decode cX11_pairs 25 = .ok (.ireturn, 1) := by decide +kernel
theorem dX11_pairs_26 : decode cX11_pairs 26 = .ok (.iload_n 3, 1) := by decide +kernel
theorem dX11_pairs_27 : decode cX11_pairs 27 = .ok (.iconst 1, 1) := by decide +kernel
theorem dX11_pairs_28 : decode cX11_pairs 28 = .ok (.if_icmp .lt 26, 3) := by decide +kernel
theorem dX11_pairs_31 : decode cX11_pairs 31 = .ok (.iload_n 3, 1) := by decide +kernel
theorem dX11_pairs_32 : decode cX11_pairs 32 = .ok (.aload_n 0, 1) := by decide +kernel
theorem dX11_pairs_33 : decode cX11_pairs 33 = .ok (.getfield 12, 3) := by decide +kernel
theorem dX11_pairs_36 : decode cX11_pairs 36 = .ok (.iconst 2, 1) := by decide +kernel
theorem dX11_pairs_37 : decode cX11_pairs 37 = .ok (.invokevirtual 119, 3) := by decide +kernel
theorem dX11_pairs_40 : decode cX11_pairs 40 = .ok (.if_icmp .gt 14, 3) := by decide +kernel
theorem dX11_pairs_43 : decode cX11_pairs 43 = .ok (.iload 4, 2) := by decide +kernel
theorem dX11_pairs_45 : decode cX11_pairs 45 = .ok (.ifCond .lt 9, 3) := by decide +kernel
theorem dX11_pairs_48 : decode cX11_pairs 48 = .ok (.iload 4, 2) := by decide +kernel
theorem dX11_pairs_50 : decode cX11_pairs 50 = .ok (.iconst 2, 1) := by decide +kernel
theorem dX11_pairs_51 : decode cX11_pairs 51 = .ok (.if_icmp .le 5, 3) := by decide +kernel
theorem dX11_pairs_54 : decode cX11_pairs 54 = .ok (.iconst (-1), 1) := by decide +kernel
theorem dX11_pairs_55 : decode cX11_pairs 55 = .ok (.ireturn, 1) := by decide +kernel
theorem dX11_pairs_56 : decode cX11_pairs 56 = .ok (.aload_n 0, 1) := by decide +kernel
theorem dX11_pairs_57 : decode cX11_pairs 57 = .ok (.getfield 28, 3) := by decide +kernel
theorem dX11_pairs_60 : decode cX11_pairs 60 = .ok (.invokevirtual 122, 3) := by decide +kernel
theorem dX11_pairs_63 : decode cX11_pairs 63 = .ok (.aload_n 0, 1) := by decide +kernel
theorem dX11_pairs_64 : decode cX11_pairs 64 = .ok (.getfield 12, 3) := by decide +kernel
theorem dX11_pairs_67 : decode cX11_pairs 67 = .ok (.iconst 0, 1) := by decide +kernel
theorem dX11_pairs_68 : decode cX11_pairs 68 = .ok (.iload_n 1, 1) := by decide +kernel
theorem dX11_pairs_69 : decode cX11_pairs 69 = .ok (.iload_n 2, 1) := by decide +kernel
theorem dX11_pairs_70 : decode cX11_pairs 70 = .ok (.invokevirtual 127, 3) := by decide +kernel
theorem dX11_pairs_73 : decode cX11_pairs 73 = .ok (.aload_n 0, 1) := by decide +kernel
theorem dX11_pairs_74 : decode cX11_pairs 74 = .ok (.getfield 28, 3) := by decide +kernel
theorem dX11_pairs_77 : decode cX11_pairs 77 = .ok (.iconst 0, 1) := by decide +kernel
theorem dX11_pairs_78 : decode cX11_pairs 78 = .ok (.iload_n 1, 1) := by decide +kernel
theorem dX11_pairs_79 : decode cX11_pairs 79 = .ok (.iload_n 3, 1) := by decide +kernel
theorem dX11_pairs_80 : decode cX11_pairs 80 = .ok (.invokevirtual 123, 3) := by decide +kernel
theorem dX11_pairs_83 : decode cX11_pairs 83 = .ok (.if_icmp .lt 7, 3) := by decide +kernel
theorem dX11_pairs_86 : decode cX11_pairs 86 = .ok (.iconst 1, 1) := by decide +kernel
theorem dX11_pairs_87 : decode cX11_pairs 87 = .ok (.goto 4, 3) := by decide +kernel
theorem dX11_pairs_90 : decode cX11_pairs 90 = .ok (.iconst 0, 1) := by decide +kernel
theorem dX11_pairs_91 : decode cX11_pairs 91 = .ok (.istore 5, 2) := by decide +kernel
theorem dX11_pairs_93 : decode cX11_pairs 93 = .ok (.aload_n 0, 1) := by decide +kernel
theorem dX11_pairs_94 : decode cX11_pairs 94 = .ok (.getfield 12, 3) := by decide +kernel
theorem dX11_pairs_97 : decode cX11_pairs 97 = .ok (.iconst 1, 1) := by decide +kernel
theorem dX11_pairs_98 : decode cX11_pairs 98 = .ok (.iload_n 2, 1) := by decide +kernel
theorem dX11_pairs_99 : decode cX11_pairs 99 = .ok (.iload_n 1, 1) := by decide +kernel
theorem dX11_pairs_100 : decode cX11_pairs 100 = .ok (.invokevirtual 127, 3) := by decide +kernel
theorem dX11_pairs_103 : decode cX11_pairs 103 = .ok (.aload_n 0, 1) := by decide +kernel
theorem dX11_pairs_104 : decode cX11_pairs 104 = .ok (.getfield 28, 3) := by decide +kernel
theorem dX11_pairs_107 : decode cX11_pairs 107 = .ok (.iconst 1, 1) := by decide +kernel
theorem dX11_pairs_108 : decode cX11_pairs 108 = .ok (.iload_n 2, 1) := by decide +kernel
theorem dX11_pairs_109 : decode cX11_pairs 109 = .ok (.iload_n 3, 1) := by decide +kernel
theorem dX11_pairs_110 : decode cX11_pairs 110 = .ok (.invokevirtual 123, 3) := by decide +kernel
theorem dX11_pairs_113 : decode cX11_pairs 113 = .ok (.if_icmp .lt 7, 3) := by decide +kernel
theorem dX11_pairs_116 : decode cX11_pairs 116 = .ok (.iconst 1, 1) := by decide +kernel
theorem dX11_pairs_117 : decode cX11_pairs 117 = .ok (.goto 4, 3) := by decide +kernel
theorem dX11_pairs_120 : decode cX11_pairs 120 = .ok (.iconst 0, 1) := by decide +kernel
theorem dX11_pairs_121 : decode cX11_pairs 121 = .ok (.istore 6, 2) := by decide +kernel
theorem dX11_pairs_123 : decode cX11_pairs 123 = .ok (.iload 4, 2) := by decide +kernel
theorem dX11_pairs_125 : decode cX11_pairs 125 = .ok (.ifCond .ne 19, 3) := by decide +kernel
theorem dX11_pairs_128 : decode cX11_pairs 128 = .ok (.iload 5, 2) := by decide +kernel
theorem dX11_pairs_130 : decode cX11_pairs 130 = .ok (.ifCond .eq 12, 3) := by decide +kernel
theorem dX11_pairs_133 : decode cX11_pairs 133 = .ok (.iload 6, 2) := by decide +kernel
theorem dX11_pairs_135 : decode cX11_pairs 135 = .ok (.ifCond .eq 7, 3) := by decide +kernel
theorem dX11_pairs_138 : decode cX11_pairs 138 = .ok (.iconst 1, 1) := by decide +kernel
theorem dX11_pairs_139 : decode cX11_pairs 139 = .ok (.goto 4, 3) := by decide +kernel
theorem dX11_pairs_142 : decode cX11_pairs 142 = .ok (.iconst 0, 1) := by decide +kernel
theorem dX11_pairs_143 : decode cX11_pairs 143 = .ok (.ireturn, 1) := by decide +kernel
theorem dX11_pairs_144 : decode cX11_pairs 144 = .ok (.iload 4, 2) := by decide +kernel
theorem dX11_pairs_146 : decode cX11_pairs 146 = .ok (.iconst 1, 1) := by decide +kernel
theorem dX11_pairs_147 : decode cX11_pairs 147 = .ok (.if_icmp .ne 11, 3) := by decide +kernel
theorem dX11_pairs_150 : decode cX11_pairs 150 = .ok (.iload 5, 2) := by decide +kernel
theorem dX11_pairs_152 : decode cX11_pairs 152 = .ok (.ifCond .eq 15, 3) := by decide +kernel
theorem dX11_pairs_155 : decode cX11_pairs 155 = .ok (.goto 8, 3) := by decide +kernel
theorem dX11_pairs_158 : decode cX11_pairs 158 = .ok (.iload 6, 2) := by decide +kernel
theorem dX11_pairs_160 : decode cX11_pairs 160 = .ok (.ifCond .eq 7, 3) := by decide +kernel
theorem dX11_pairs_163 : decode cX11_pairs 163 = .ok (.iconst 1, 1) := by decide +kernel
theorem dX11_pairs_164 : decode cX11_pairs 164 = .ok (.goto 4, 3) := by decide +kernel
theorem dX11_pairs_167 : decode cX11_pairs 167 = .ok (.iconst 0, 1) := by decide +kernel
theorem dX11_pairs_168 : decode cX11_pairs 168 = .ok (.ireturn, 1) := by decide +kernel
theorem dX11_feed_0 : decode cX11_feed 0 = .ok (.aload_n 0, 1) := by decide +kernel
theorem dX11_feed_1 : decode cX11_feed 1 = .ok (.getfield 35, 3) := by decide +kernel
theorem dX11_feed_4 : decode cX11_feed 4 = .ok (.invokevirtual 130, 3) := by decide +kernel
theorem dX11_feed_7 : decode cX11_feed 7 = .ok (.ifCond .ne 5, 3) := by decide +kernel
theorem dX11_feed_10 : decode cX11_feed 10 = .ok (.iconst (-1), 1) := by decide +kernel
theorem dX11_feed_11 : decode cX11_feed 11 = .ok (.ireturn, 1) := by decide +kernel
theorem dX11_feed_12 : decode cX11_feed 12 = .ok (.aload_n 0, 1) := by decide +kernel
theorem dX11_feed_13 : decode cX11_feed 13 = .ok (.getfield 35, 3) := by decide +kernel
theorem dX11_feed_16 : decode cX11_feed 16 = .ok (.iload_n 1, 1) := by decide +kernel
theorem dX11_feed_17 : decode cX11_feed 17 = .ok (.invokevirtual 133, 3) := by decide +kernel
theorem dX11_feed_20 : decode cX11_feed 20 = .ok (.aload_n 0, 1) := by decide +kernel
theorem dX11_feed_21 : decode cX11_feed 21 = .ok (.getfield 35, 3) := by decide +kernel
theorem dX11_feed_24 : decode cX11_feed 24 = .ok (.iload_n 2, 1) := by decide +kernel
theorem dX11_feed_25 : decode cX11_feed 25 = .ok (.invokevirtual 133, 3) := by decide +kernel
theorem dX11_feed_28 : decode cX11_feed 28 = .ok (.aload_n 0, 1) := by decide +kernel
theorem dX11_feed_29 : decode cX11_feed 29 = .ok (.getfield 35, 3) := by decide +kernel
theorem dX11_feed_32 : decode cX11_feed 32 = .ok (.iload_n 3, 1) := by decide +kernel
theorem dX11_feed_33 : decode cX11_feed 33 = .ok (.invokevirtual 133, 3) := by decide +kernel
theorem dX11_feed_36 : decode cX11_feed 36 = .ok (.aload_n 0, 1) := by decide +kernel
theorem dX11_feed_37 : decode cX11_feed 37 = .ok (.getfield 35, 3) := by decide +kernel
theorem dX11_feed_40 : decode cX11_feed 40 = .ok (.iload 4, 2) := by decide +kernel
theorem dX11_feed_42 : decode cX11_feed 42 = .ok (.invokevirtual 133, 3) := by decide +kernel
theorem dX11_feed_45 : decode cX11_feed 45 = .ok (.aload_n 0, 1) := by decide +kernel
theorem dX11_feed_46 : decode cX11_feed 46 = .ok (.getfield 35, 3) := by decide +kernel
theorem dX11_feed_49 : decode cX11_feed 49 = .ok (.iload 5, 2) := by decide +kernel
theorem dX11_feed_51 : decode cX11_feed 51 = .ok (.invokevirtual 133, 3) := by decide +kernel
theorem dX11_feed_54 : decode cX11_feed 54 = .ok (.aload_n 0, 1) := by decide +kernel
theorem dX11_feed_55 : decode cX11_feed 55 = .ok (.getfield 35, 3) := by decide +kernel
theorem dX11_feed_58 : decode cX11_feed 58 = .ok (.invokevirtual 137, 3) := by decide +kernel
theorem dX11_feed_61 : decode cX11_feed 61 = .ok (.ireturn, 1) := by decide +kernel
theorem dX11_end_0 : decode cX11_end 0 = .ok (.aload_n 0, 1) := by decide +kernel
theorem dX11_end_1 : decode cX11_end 1 = .ok (.getfield 35, 3) := by decide +kernel
theorem dX11_end_4 : decode cX11_end 4 = .ok (.iload_n 1, 1) := by decide +kernel
theorem dX11_end_5 : decode cX11_end 5 = .ok (.invokevirtual 138, 3) := by decide +kernel
theorem dX11_end_8 : decode cX11_end 8 = .ok (.ireturn, 1) := by decide +kernel
theorem dX11_way_0 : decode cX11_way 0 = .ok (.aload_n 0, 1) := by decide +kernel
theorem dX11_way_1 : decode cX11_way 1 = .ok (.getfield 44, 3) := by decide +kernel
theorem dX11_way_4 : decode cX11_way 4 = .ok (.invokevirtual 141, 3) := by decide +kernel
theorem dX11_way_7 : decode cX11_way 7 = .ok (.aload_n 0, 1) := by decide +kernel
theorem dX11_way_8 : decode cX11_way 8 = .ok (.getfield 53, 3) := by decide +kernel
theorem dX11_way_11 : decode cX11_way 11 = .ok (.iload_n 1, 1) := by decide +kernel
theorem dX11_way_12 : decode cX11_way 12 = .ok (.invokevirtual 144, 3) := by decide +kernel
theorem dX11_way_15 : decode cX11_way 15 = .ok (.ifCond .ne 14, 3) := by decide +kernel
theorem dX11_way_18 : decode cX11_way 18 = .ok (.aload_n 0, 1) := by decide +kernel
theorem dX11_way_19 : decode cX11_way 19 = .ok (.getfield 35, 3) := by decide +kernel
theorem dX11_way_22 : decode cX11_way 22 = .ok (.iconst 0, 1) := by decide +kernel
theorem dX11_way_23 : decode cX11_way 23 = .ok (.invokevirtual 138, 3) := by decide +kernel
theorem dX11_way_26 : decode cX11_way 26 = .ok (.pop, 1) := by decide +kernel
theorem dX11_way_27 : decode cX11_way 27 = .ok (.iconst (-1), 1) := by decide +kernel
theorem dX11_way_28 : decode cX11_way 28 = .ok (.ireturn, 1) := by decide +kernel
theorem dX11_way_29 : decode cX11_way 29 = .ok (.aload_n 0, 1) := by decide +kernel
theorem dX11_way_30 : decode cX11_way 30 = .ok (.getfield 44, 3) := by decide +kernel
theorem dX11_way_33 : decode cX11_way 33 = .ok (.invokevirtual 147, 3) := by decide +kernel
theorem dX11_way_36 : decode cX11_way 36 = .ok (.istore_n 2, 1) := by decide +kernel
theorem dX11_way_37 : decode cX11_way 37 = .ok (.aload_n 0, 1) := by decide +kernel
theorem dX11_way_38 : decode cX11_way 38 = .ok (.getfield 35, 3) := by decide +kernel
theorem dX11_way_41 : decode cX11_way 41 = .ok (.iconst 0, 1) := by decide +kernel
theorem dX11_way_42 : decode cX11_way 42 = .ok (.invokevirtual 138, 3) := by decide +kernel
theorem dX11_way_45 : decode cX11_way 45 = .ok (.pop, 1) := by decide +kernel
theorem dX11_way_46 : decode cX11_way 46 = .ok (.iload_n 2, 1) := by decide +kernel
theorem dX11_way_47 : decode cX11_way 47 = .ok (.ifCond .eq 21, 3) := by decide +kernel
theorem dX11_way_50 : decode cX11_way 50 = .ok (.aload_n 0, 1) := by decide +kernel
theorem dX11_way_51 : decode cX11_way 51 = .ok (.getfield 53, 3) := by decide +kernel
theorem dX11_way_54 : decode cX11_way 54 = .ok (.iload_n 1, 1) := by decide +kernel
theorem dX11_way_55 : decode cX11_way 55 = .ok (.aload_n 0, 1) := by decide +kernel
theorem dX11_way_56 : decode cX11_way 56 = .ok (.getfield 44, 3) := by decide +kernel
theorem dX11_way_59 : decode cX11_way 59 = .ok (.invokevirtual 150, 3) := by decide +kernel
theorem dX11_way_62 : decode cX11_way 62 = .ok (.invokevirtual 154, 3) := by decide +kernel
theorem dX11_way_65 : decode cX11_way 65 = .ok (.goto 4, 3) := by decide +kernel
theorem dX11_way_68 : decode cX11_way 68 = .ok (.iconst (-1), 1) := by decide +kernel
theorem dX11_way_69 : decode cX11_way 69 = .ok (.ireturn, 1) := by decide +kernel
theorem dX11_fault_0 : decode cX11_fault 0 = .ok (.iload_n 1, 1) := by decide +kernel
theorem dX11_fault_1 : decode cX11_fault 1 = .ok (.ifCond .ne 11, 3) := by decide +kernel
theorem dX11_fault_4 : decode cX11_fault 4 = .ok (.aload_n 0, 1) := by decide +kernel
theorem dX11_fault_5 : decode cX11_fault 5 = .ok (.getfield 44, 3) := by decide +kernel
theorem dX11_fault_8 : decode cX11_fault 8 = .ok (.invokevirtual 158, 3) := by decide +kernel
theorem dX11_fault_11 : decode cX11_fault 11 = .ok (.ireturn, 1) := by decide +kernel
theorem dX11_fault_12 : decode cX11_fault 12 = .ok (.iload_n 1, 1) := by decide +kernel
theorem dX11_fault_13 : decode cX11_fault 13 = .ok (.iconst 1, 1) := by decide +kernel
theorem dX11_fault_14 : decode cX11_fault 14 = .ok (.if_icmp .ne 13, 3) := by decide +kernel
theorem dX11_fault_17 : decode cX11_fault 17 = .ok (.aload_n 0, 1) := by decide +kernel
theorem dX11_fault_18 : decode cX11_fault 18 = .ok (.getfield 44, 3) := by decide +kernel
theorem dX11_fault_21 : decode cX11_fault 21 = .ok (.invokevirtual 161, 3) := by decide +kernel
theorem dX11_fault_24 : decode cX11_fault 24 = .ok (.goto 4, 3) := by decide +kernel
theorem dX11_fault_27 : decode cX11_fault 27 = .ok (.iconst (-1), 1) := by decide +kernel
theorem dX11_fault_28 : decode cX11_fault 28 = .ok (.ireturn, 1) := by decide +kernel
theorem dX11_come_0 : decode cX11_come 0 = .ok (.aload_n 0, 1) := by decide +kernel
theorem dX11_come_1 : decode cX11_come 1 = .ok (.getfield 12, 3) := by decide +kernel
theorem dX11_come_4 : decode cX11_come 4 = .ok (.iload_n 1, 1) := by decide +kernel
theorem dX11_come_5 : decode cX11_come 5 = .ok (.iload_n 2, 1) := by decide +kernel
theorem dX11_come_6 : decode cX11_come 6 = .ok (.invokevirtual 85, 3) := by decide +kernel
theorem dX11_come_9 : decode cX11_come 9 = .ok (.ifCond .eq 14, 3) := by decide +kernel
theorem dX11_come_12 : decode cX11_come 12 = .ok (.aload_n 0, 1) := by decide +kernel
theorem dX11_come_13 : decode cX11_come 13 = .ok (.getfield 53, 3) := by decide +kernel
theorem dX11_come_16 : decode cX11_come 16 = .ok (.iload_n 3, 1) := by decide +kernel
theorem dX11_come_17 : decode cX11_come 17 = .ok (.invokevirtual 144, 3) := by decide +kernel
theorem dX11_come_20 : decode cX11_come 20 = .ok (.ifCond .ne 5, 3) := by decide +kernel
theorem dX11_come_23 : decode cX11_come 23 = .ok (.iconst (-1), 1) := by decide +kernel
theorem dX11_come_24 : decode cX11_come 24 = .ok (.ireturn, 1) := by decide +kernel
theorem dX11_come_25 : decode cX11_come 25 = .ok (.aload_n 0, 1) := by decide +kernel
theorem dX11_come_26 : decode cX11_come 26 = .ok (.getfield 53, 3) := by decide +kernel
theorem dX11_come_29 : decode cX11_come 29 = .ok (.iload_n 1, 1) := by decide +kernel
theorem dX11_come_30 : decode cX11_come 30 = .ok (.iload_n 2, 1) := by decide +kernel
theorem dX11_come_31 : decode cX11_come 31 = .ok (.iload_n 3, 1) := by decide +kernel
theorem dX11_come_32 : decode cX11_come 32 = .ok (.invokevirtual 164, 3) := by decide +kernel
theorem dX11_come_35 : decode cX11_come 35 = .ok (.ireturn, 1) := by decide +kernel
theorem dX11_state_0 : decode cX11_state 0 = .ok (.aload_n 0, 1) := by decide +kernel
theorem dX11_state_1 : decode cX11_state 1 = .ok (.getfield 53, 3) := by decide +kernel
theorem dX11_state_4 : decode cX11_state 4 = .ok (.iload_n 1, 1) := by decide +kernel
theorem dX11_state_5 : decode cX11_state 5 = .ok (.invokevirtual 167, 3) := by decide +kernel
theorem dX11_state_8 : decode cX11_state 8 = .ok (.ireturn, 1) := by decide +kernel
theorem dX11_weeks_0 : decode cX11_weeks 0 = .ok (.iload_n 1, 1) := by decide +kernel
theorem dX11_weeks_1 : decode cX11_weeks 1 = .ok (.iconst 1, 1) := by decide +kernel
theorem dX11_weeks_2 : decode cX11_weeks 2 = .ok (.if_icmp .lt 24, 3) := by decide +kernel
theorem dX11_weeks_5 : decode cX11_weeks 5 = .ok (.iload_n 1, 1) := by decide +kernel
theorem dX11_weeks_6 : decode cX11_weeks 6 = .ok (.bipush 20, 2) := by decide +kernel
theorem dX11_weeks_8 : decode cX11_weeks 8 = .ok (.if_icmp .gt 18, 3) := by decide +kernel
theorem dX11_weeks_11 : decode cX11_weeks 11 = .ok (.aload_n 0, 1) := by decide +kernel
theorem dX11_weeks_12 : decode cX11_weeks 12 = .ok (.getfield 53, 3) := by decide +kernel
theorem dX11_weeks_15 : decode cX11_weeks 15 = .ok (.iconst 0, 1) := by decide +kernel
theorem dX11_weeks_16 : decode cX11_weeks 16 = .ok (.invokevirtual 170, 3) := by decide +kernel
theorem dX11_weeks_19 : decode cX11_weeks 19 = .ok (.iload_n 1, 1) := by decide +kernel
theorem dX11_weeks_20 : decode cX11_weeks 20 = .ok (.iadd, 1) := by decide +kernel
theorem dX11_weeks_21 : decode cX11_weeks 21 = .ok (.bipush 99, 2) := by decide +kernel
theorem dX11_weeks_23 : decode cX11_weeks 23 = .ok (.if_icmp .le 5, 3) := by decide +kernel
theorem dX11_weeks_26 : decode cX11_weeks 26 = .ok (.iconst (-1), 1) := by decide +kernel
theorem dX11_weeks_27 : decode cX11_weeks 27 = .ok (.ireturn, 1) := by decide +kernel
theorem dX11_weeks_28 : decode cX11_weeks 28 = .ok (.aload_n 0, 1) := by decide +kernel
theorem dX11_weeks_29 : decode cX11_weeks 29 = .ok (.getfield 28, 3) := by decide +kernel
theorem dX11_weeks_32 : decode cX11_weeks 32 = .ok (.invokevirtual 122, 3) := by decide +kernel
theorem dX11_weeks_35 : decode cX11_weeks 35 = .ok (.iconst 0, 1) := by decide +kernel
theorem dX11_weeks_36 : decode cX11_weeks 36 = .ok (.istore_n 2, 1) := by decide +kernel
theorem dX11_weeks_37 : decode cX11_weeks 37 = .ok (.iload_n 2, 1) := by decide +kernel
theorem dX11_weeks_38 : decode cX11_weeks 38 = .ok (.iload_n 1, 1) := by decide +kernel
theorem dX11_weeks_39 : decode cX11_weeks 39 = .ok (.if_icmp .ge 16, 3) := by decide +kernel
theorem dX11_weeks_42 : decode cX11_weeks 42 = .ok (.aload_n 0, 1) := by decide +kernel
theorem dX11_weeks_43 : decode cX11_weeks 43 = .ok (.getfield 53, 3) := by decide +kernel
theorem dX11_weeks_46 : decode cX11_weeks 46 = .ok (.invokevirtual 173, 3) := by decide +kernel
theorem dX11_weeks_49 : decode cX11_weeks 49 = .ok (.iinc 2 1, 3) := by decide +kernel
theorem dX11_weeks_52 : decode cX11_weeks 52 = .ok (.goto (-15), 3) := by decide +kernel
theorem dX11_weeks_55 : decode cX11_weeks 55 = .ok (.aload_n 0, 1) := by decide +kernel
theorem dX11_weeks_56 : decode cX11_weeks 56 = .ok (.getfield 53, 3) := by decide +kernel
theorem dX11_weeks_59 : decode cX11_weeks 59 = .ok (.invokevirtual 176, 3) := by decide +kernel
theorem dX11_weeks_62 : decode cX11_weeks 62 = .ok (.ireturn, 1) := by decide +kernel
theorem dX11_one_0 : decode cX11_one 0 = .ok (.iload_n 1, 1) := by decide +kernel
theorem dX11_one_1 : decode cX11_one 1 = .ok (.ifCond .lt 24, 3) := by decide +kernel
theorem dX11_one_4 : decode cX11_one 4 = .ok (.iload_n 1, 1) := by decide +kernel
theorem dX11_one_5 : decode cX11_one 5 = .ok (.aload_n 0, 1) := by decide +kernel
theorem dX11_one_6 : decode cX11_one 6 = .ok (.getfield 53, 3) := by decide +kernel
theorem dX11_one_9 : decode cX11_one 9 = .ok (.invokevirtual 77, 3) := by decide +kernel
theorem dX11_one_12 : decode cX11_one 12 = .ok (.if_icmp .ge 13, 3) := by decide +kernel
theorem dX11_one_15 : decode cX11_one 15 = .ok (.iload_n 2, 1) := by decide +kernel
theorem dX11_one_16 : decode cX11_one 16 = .ok (.ifCond .lt 9, 3) := by decide +kernel
theorem dX11_one_19 : decode cX11_one 19 = .ok (.iload_n 2, 1) := by decide +kernel
theorem dX11_one_20 : decode cX11_one 20 = .ok (.bipush 7, 2) := by decide +kernel
theorem dX11_one_22 : decode cX11_one 22 = .ok (.if_icmp .le 6, 3) := by decide +kernel
theorem dX11_one_25 : decode cX11_one 25 = .ok (.ldc 100, 2) := by decide +kernel
theorem dX11_one_27 : decode cX11_one 27 = .ok (.ireturn, 1) := by decide +kernel
theorem dX11_one_28 : decode cX11_one 28 = .ok (.aload_n 0, 1) := by decide +kernel
theorem dX11_one_29 : decode cX11_one 29 = .ok (.getfield 28, 3) := by decide +kernel
theorem dX11_one_32 : decode cX11_one 32 = .ok (.invokevirtual 122, 3) := by decide +kernel
theorem dX11_one_35 : decode cX11_one 35 = .ok (.aload_n 0, 1) := by decide +kernel
theorem dX11_one_36 : decode cX11_one 36 = .ok (.getfield 53, 3) := by decide +kernel
theorem dX11_one_39 : decode cX11_one 39 = .ok (.iload_n 1, 1) := by decide +kernel
theorem dX11_one_40 : decode cX11_one 40 = .ok (.iload_n 2, 1) := by decide +kernel
theorem dX11_one_41 : decode cX11_one 41 = .ok (.invokevirtual 179, 3) := by decide +kernel
theorem dX11_one_44 : decode cX11_one 44 = .ok (.ireturn, 1) := by decide +kernel
theorem dX11_all_0 : decode cX11_all 0 = .ok (.aload_n 0, 1) := by decide +kernel
theorem dX11_all_1 : decode cX11_all 1 = .ok (.getfield 12, 3) := by decide +kernel
theorem dX11_all_4 : decode cX11_all 4 = .ok (.iload_n 1, 1) := by decide +kernel
theorem dX11_all_5 : decode cX11_all 5 = .ok (.invokevirtual 73, 3) := by decide +kernel
theorem dX11_all_8 : decode cX11_all 8 = .ok (.ifCond .eq 20, 3) := by decide +kernel
theorem dX11_all_11 : decode cX11_all 11 = .ok (.iload_n 2, 1) := by decide +kernel
theorem dX11_all_12 : decode cX11_all 12 = .ok (.iconst (-1), 1) := by decide +kernel
theorem dX11_all_13 : decode cX11_all 13 = .ok (.if_icmp .eq 17, 3) := by decide +kernel
theorem dX11_all_16 : decode cX11_all 16 = .ok (.aload_n 0, 1) := by decide +kernel
theorem dX11_all_17 : decode cX11_all 17 = .ok (.getfield 12, 3) := by decide +kernel
theorem dX11_all_20 : decode cX11_all 20 = .ok (.iload_n 1, 1) := by decide +kernel
theorem dX11_all_21 : decode cX11_all 21 = .ok (.iload_n 2, 1) := by decide +kernel
theorem dX11_all_22 : decode cX11_all 22 = .ok (.invokevirtual 85, 3) := by decide +kernel
theorem dX11_all_25 : decode cX11_all 25 = .ok (.ifCond .ne 5, 3) := by decide +kernel
theorem dX11_all_28 : decode cX11_all 28 = .ok (.iconst (-1), 1) := by decide +kernel
theorem dX11_all_29 : decode cX11_all 29 = .ok (.ireturn, 1) := by decide +kernel
theorem dX11_all_30 : decode cX11_all 30 = .ok (.iload_n 3, 1) := by decide +kernel
theorem dX11_all_31 : decode cX11_all 31 = .ok (.ifCond .lt 8, 3) := by decide +kernel
theorem dX11_all_34 : decode cX11_all 34 = .ok (.iload_n 3, 1) := by decide +kernel
theorem dX11_all_35 : decode cX11_all 35 = .ok (.iconst 3, 1) := by decide +kernel
theorem dX11_all_36 : decode cX11_all 36 = .ok (.if_icmp .le 7, 3) := by decide +kernel
theorem dX11_all_39 : decode cX11_all 39 = .ok (.iconst (-1), 1) := by decide +kernel
theorem dX11_all_40 : decode cX11_all 40 = .ok (.goto 13, 3) := by decide +kernel
theorem dX11_all_43 : decode cX11_all 43 = .ok (.aload_n 0, 1) := by decide +kernel
theorem dX11_all_44 : decode cX11_all 44 = .ok (.getfield 53, 3) := by decide +kernel
theorem dX11_all_47 : decode cX11_all 47 = .ok (.iload_n 1, 1) := by decide +kernel
theorem dX11_all_48 : decode cX11_all 48 = .ok (.iload_n 2, 1) := by decide +kernel
theorem dX11_all_49 : decode cX11_all 49 = .ok (.iload_n 3, 1) := by decide +kernel
theorem dX11_all_50 : decode cX11_all 50 = .ok (.invokevirtual 182, 3) := by decide +kernel
theorem dX11_all_53 : decode cX11_all 53 = .ok (.ireturn, 1) := by decide +kernel
theorem dX11_town_0 : decode cX11_town 0 = .ok (.iload_n 1, 1) := by decide +kernel
theorem dX11_town_1 : decode cX11_town 1 = .ok (.tableswitch 116 0 7 #[47, 56, 64, 72, 81, 90, 99, 108], 47) := by decide +kernel
theorem dX11_town_48 : decode cX11_town 48 = .ok (.aload_n 0, 1) := by decide +kernel
theorem dX11_town_49 : decode cX11_town 49 = .ok (.getfield 53, 3) := by decide +kernel
theorem dX11_town_52 : decode cX11_town 52 = .ok (.iconst 0, 1) := by decide +kernel
theorem dX11_town_53 : decode cX11_town 53 = .ok (.invokevirtual 170, 3) := by decide +kernel
theorem dX11_town_56 : decode cX11_town 56 = .ok (.ireturn, 1) := by decide +kernel
theorem dX11_town_57 : decode cX11_town 57 = .ok (.aload_n 0, 1) := by decide +kernel
theorem dX11_town_58 : decode cX11_town 58 = .ok (.getfield 53, 3) := by decide +kernel
theorem dX11_town_61 : decode cX11_town 61 = .ok (.invokevirtual 77, 3) := by decide +kernel
theorem dX11_town_64 : decode cX11_town 64 = .ok (.ireturn, 1) := by decide +kernel
theorem dX11_town_65 : decode cX11_town 65 = .ok (.aload_n 0, 1) := by decide +kernel
theorem dX11_town_66 : decode cX11_town 66 = .ok (.getfield 53, 3) := by decide +kernel
theorem dX11_town_69 : decode cX11_town 69 = .ok (.invokevirtual 176, 3) := by decide +kernel
theorem dX11_town_72 : decode cX11_town 72 = .ok (.ireturn, 1) := by decide +kernel
theorem dX11_town_73 : decode cX11_town 73 = .ok (.aload_n 0, 1) := by decide +kernel
theorem dX11_town_74 : decode cX11_town 74 = .ok (.getfield 53, 3) := by decide +kernel
theorem dX11_town_77 : decode cX11_town 77 = .ok (.iconst 1, 1) := by decide +kernel
theorem dX11_town_78 : decode cX11_town 78 = .ok (.invokevirtual 170, 3) := by decide +kernel
theorem dX11_town_81 : decode cX11_town 81 = .ok (.ireturn, 1) := by decide +kernel
theorem dX11_town_82 : decode cX11_town 82 = .ok (.aload_n 0, 1) := by decide +kernel
theorem dX11_town_83 : decode cX11_town 83 = .ok (.getfield 53, 3) := by decide +kernel
theorem dX11_town_86 : decode cX11_town 86 = .ok (.iconst 2, 1) := by decide +kernel
theorem dX11_town_87 : decode cX11_town 87 = .ok (.invokevirtual 170, 3) := by decide +kernel
theorem dX11_town_90 : decode cX11_town 90 = .ok (.ireturn, 1) := by decide +kernel
theorem dX11_town_91 : decode cX11_town 91 = .ok (.aload_n 0, 1) := by decide +kernel
theorem dX11_town_92 : decode cX11_town 92 = .ok (.getfield 53, 3) := by decide +kernel
theorem dX11_town_95 : decode cX11_town 95 = .ok (.iconst 3, 1) := by decide +kernel
theorem dX11_town_96 : decode cX11_town 96 = .ok (.invokevirtual 170, 3) := by decide +kernel
theorem dX11_town_99 : decode cX11_town 99 = .ok (.ireturn, 1) := by decide +kernel
theorem dX11_town_100 : decode cX11_town 100 = .ok (.aload_n 0, 1) := by decide +kernel
theorem dX11_town_101 : decode cX11_town 101 = .ok (.getfield 53, 3) := by decide +kernel
theorem dX11_town_104 : decode cX11_town 104 = .ok (.iconst 4, 1) := by decide +kernel
theorem dX11_town_105 : decode cX11_town 105 = .ok (.invokevirtual 170, 3) := by decide +kernel
theorem dX11_town_108 : decode cX11_town 108 = .ok (.ireturn, 1) := by decide +kernel
theorem dX11_town_109 : decode cX11_town 109 = .ok (.aload_n 0, 1) := by decide +kernel
theorem dX11_town_110 : decode cX11_town 110 = .ok (.getfield 53, 3) := by decide +kernel
theorem dX11_town_113 : decode cX11_town 113 = .ok (.invokevirtual 185, 3) := by decide +kernel
theorem dX11_town_116 : decode cX11_town 116 = .ok (.ireturn, 1) := by decide +kernel
theorem dX11_town_117 : decode cX11_town 117 = .ok (.iconst (-1), 1) := by decide +kernel
theorem dX11_town_118 : decode cX11_town 118 = .ok (.ireturn, 1) := by decide +kernel
theorem dX11_feast_0 : decode cX11_feast 0 = .ok (.iload_n 1, 1) := by decide +kernel
theorem dX11_feast_1 : decode cX11_feast 1 = .ok (.iconst 1, 1) := by decide +kernel
theorem dX11_feast_2 : decode cX11_feast 2 = .ok (.if_icmp .lt 9, 3) := by decide +kernel
theorem dX11_feast_5 : decode cX11_feast 5 = .ok (.iload_n 1, 1) := by decide +kernel
theorem dX11_feast_6 : decode cX11_feast 6 = .ok (.bipush 7, 2) := by decide +kernel
theorem dX11_feast_8 : decode cX11_feast 8 = .ok (.if_icmp .le 5, 3) := by decide +kernel
theorem dX11_feast_11 : decode cX11_feast 11 = .ok (.iconst 0, 1) := by decide +kernel
theorem dX11_feast_12 : decode cX11_feast 12 = .ok (.ireturn, 1) := by decide +kernel
theorem dX11_feast_13 : decode cX11_feast 13 = .ok (.aload_n 0, 1) := by decide +kernel
theorem dX11_feast_14 : decode cX11_feast 14 = .ok (.getfield 60, 3) := by decide +kernel
theorem dX11_feast_17 : decode cX11_feast 17 = .ok (.iload_n 1, 1) := by decide +kernel
theorem dX11_feast_18 : decode cX11_feast 18 = .ok (.invokevirtual 188, 3) := by decide +kernel
theorem dX11_feast_21 : decode cX11_feast 21 = .ok (.aload_n 0, 1) := by decide +kernel
theorem dX11_feast_22 : decode cX11_feast 22 = .ok (.getfield 69, 3) := by decide +kernel
theorem dX11_feast_25 : decode cX11_feast 25 = .ok (.invokevirtual 191, 3) := by decide +kernel
theorem dX11_feast_28 : decode cX11_feast 28 = .ok (.iconst 1, 1) := by decide +kernel
theorem dX11_feast_29 : decode cX11_feast 29 = .ok (.ireturn, 1) := by decide +kernel
theorem dX11_likes_0 : decode cX11_likes 0 = .ok (.aload_n 0, 1) := by decide +kernel
theorem dX11_likes_1 : decode cX11_likes 1 = .ok (.getfield 12, 3) := by decide +kernel
theorem dX11_likes_4 : decode cX11_likes 4 = .ok (.iload_n 1, 1) := by decide +kernel
theorem dX11_likes_5 : decode cX11_likes 5 = .ok (.invokevirtual 73, 3) := by decide +kernel
theorem dX11_likes_8 : decode cX11_likes 8 = .ok (.ifCond .eq 37, 3) := by decide +kernel
theorem dX11_likes_11 : decode cX11_likes 11 = .ok (.aload_n 0, 1) := by decide +kernel
theorem dX11_likes_12 : decode cX11_likes 12 = .ok (.getfield 60, 3) := by decide +kernel
theorem dX11_likes_15 : decode cX11_likes 15 = .ok (.iload_n 2, 1) := by decide +kernel
theorem dX11_likes_16 : decode cX11_likes 16 = .ok (.invokevirtual 194, 3) := by decide +kernel
theorem dX11_likes_19 : decode cX11_likes 19 = .ok (.ifCond .eq 26, 3) := by decide +kernel
theorem dX11_likes_22 : decode cX11_likes 22 = .ok (.aload_n 0, 1) := by decide +kernel
theorem dX11_likes_23 : decode cX11_likes 23 = .ok (.getfield 60, 3) := by decide +kernel
theorem dX11_likes_26 : decode cX11_likes 26 = .ok (.iload_n 3, 1) := by decide +kernel
theorem dX11_likes_27 : decode cX11_likes 27 = .ok (.invokevirtual 194, 3) := by decide +kernel
theorem dX11_likes_30 : decode cX11_likes 30 = .ok (.ifCond .eq 15, 3) := by decide +kernel
theorem dX11_likes_33 : decode cX11_likes 33 = .ok (.iload 4, 2) := by decide +kernel
theorem dX11_likes_35 : decode cX11_likes 35 = .ok (.ifCond .lt 10, 3) := by decide +kernel
theorem dX11_likes_38 : decode cX11_likes 38 = .ok (.iload 4, 2) := by decide +kernel
theorem dX11_likes_40 : decode cX11_likes 40 = .ok (.bipush 99, 2) := by decide +kernel
theorem dX11_likes_42 : decode cX11_likes 42 = .ok (.if_icmp .le 5, 3) := by decide +kernel
theorem dX11_likes_45 : decode cX11_likes 45 = .ok (.iconst 0, 1) := by decide +kernel
theorem dX11_likes_46 : decode cX11_likes 46 = .ok (.ireturn, 1) := by decide +kernel
theorem dX11_likes_47 : decode cX11_likes 47 = .ok (.aload_n 0, 1) := by decide +kernel
theorem dX11_likes_48 : decode cX11_likes 48 = .ok (.getfield 60, 3) := by decide +kernel
theorem dX11_likes_51 : decode cX11_likes 51 = .ok (.iload_n 1, 1) := by decide +kernel
theorem dX11_likes_52 : decode cX11_likes 52 = .ok (.iload_n 2, 1) := by decide +kernel
theorem dX11_likes_53 : decode cX11_likes 53 = .ok (.iload_n 3, 1) := by decide +kernel
theorem dX11_likes_54 : decode cX11_likes 54 = .ok (.iload 4, 2) := by decide +kernel
theorem dX11_likes_56 : decode cX11_likes 56 = .ok (.invokevirtual 197, 3) := by decide +kernel
theorem dX11_likes_59 : decode cX11_likes 59 = .ok (.iconst 1, 1) := by decide +kernel
theorem dX11_likes_60 : decode cX11_likes 60 = .ok (.ireturn, 1) := by decide +kernel
theorem dX11_holds_0 : decode cX11_holds 0 = .ok (.aload_n 0, 1) := by decide +kernel
theorem dX11_holds_1 : decode cX11_holds 1 = .ok (.getfield 60, 3) := by decide +kernel
theorem dX11_holds_4 : decode cX11_holds 4 = .ok (.invokevirtual 198, 3) := by decide +kernel
theorem dX11_holds_7 : decode cX11_holds 7 = .ok (.aload_n 0, 1) := by decide +kernel
theorem dX11_holds_8 : decode cX11_holds 8 = .ok (.getfield 60, 3) := by decide +kernel
theorem dX11_holds_11 : decode cX11_holds 11 = .ok (.invokevirtual 199, 3) := by decide +kernel
theorem dX11_holds_14 : decode cX11_holds 14 = .ok (.ireturn, 1) := by decide +kernel
theorem dX11_pairing_0 : decode cX11_pairing 0 = .ok (.iload_n 1, 1) := by decide +kernel
theorem dX11_pairing_1 : decode cX11_pairing 1 = .ok (.ifCond .lt 19, 3) := by decide +kernel
theorem dX11_pairing_4 : decode cX11_pairing 4 = .ok (.iload_n 2, 1) := by decide +kernel
theorem dX11_pairing_5 : decode cX11_pairing 5 = .ok (.iconst (-1), 1) := by decide +kernel
theorem dX11_pairing_6 : decode cX11_pairing 6 = .ok (.if_icmp .eq 16, 3) := by decide +kernel
theorem dX11_pairing_9 : decode cX11_pairing 9 = .ok (.aload_n 0, 1) := by decide +kernel
theorem dX11_pairing_10 : decode cX11_pairing 10 = .ok (.getfield 60, 3) := by decide +kernel
theorem dX11_pairing_13 : decode cX11_pairing 13 = .ok (.iload_n 2, 1) := by decide +kernel
theorem dX11_pairing_14 : decode cX11_pairing 14 = .ok (.invokevirtual 194, 3) := by decide +kernel
theorem dX11_pairing_17 : decode cX11_pairing 17 = .ok (.ifCond .ne 5, 3) := by decide +kernel
theorem dX11_pairing_20 : decode cX11_pairing 20 = .ok (.iconst (-1), 1) := by decide +kernel
theorem dX11_pairing_21 : decode cX11_pairing 21 = .ok (.ireturn, 1) := by decide +kernel
theorem dX11_pairing_22 : decode cX11_pairing 22 = .ok (.aload_n 0, 1) := by decide +kernel
theorem dX11_pairing_23 : decode cX11_pairing 23 = .ok (.getfield 60, 3) := by decide +kernel
theorem dX11_pairing_26 : decode cX11_pairing 26 = .ok (.invokevirtual 198, 3) := by decide +kernel
theorem dX11_pairing_29 : decode cX11_pairing 29 = .ok (.iload_n 1, 1) := by decide +kernel
theorem dX11_pairing_30 : decode cX11_pairing 30 = .ok (.iconst 2, 1) := by decide +kernel
theorem dX11_pairing_31 : decode cX11_pairing 31 = .ok (.if_icmp .ne 27, 3) := by decide +kernel
theorem dX11_pairing_34 : decode cX11_pairing 34 = .ok (.iload_n 2, 1) := by decide +kernel
theorem dX11_pairing_35 : decode cX11_pairing 35 = .ok (.iconst (-1), 1) := by decide +kernel
theorem dX11_pairing_36 : decode cX11_pairing 36 = .ok (.if_icmp .ne 13, 3) := by decide +kernel
theorem dX11_pairing_39 : decode cX11_pairing 39 = .ok (.aload_n 0, 1) := by decide +kernel
theorem dX11_pairing_40 : decode cX11_pairing 40 = .ok (.getfield 60, 3) := by decide +kernel
theorem dX11_pairing_43 : decode cX11_pairing 43 = .ok (.invokevirtual 200, 3) := by decide +kernel
theorem dX11_pairing_46 : decode cX11_pairing 46 = .ok (.goto 11, 3) := by decide +kernel
theorem dX11_pairing_49 : decode cX11_pairing 49 = .ok (.aload_n 0, 1) := by decide +kernel
theorem dX11_pairing_50 : decode cX11_pairing 50 = .ok (.getfield 60, 3) := by decide +kernel
theorem dX11_pairing_53 : decode cX11_pairing 53 = .ok (.iload_n 2, 1) := by decide +kernel
theorem dX11_pairing_54 : decode cX11_pairing 54 = .ok (.invokevirtual 203, 3) := by decide +kernel
theorem dX11_pairing_57 : decode cX11_pairing 57 = .ok (.ireturn, 1) := by decide +kernel
theorem dX11_pairing_58 : decode cX11_pairing 58 = .ok (.iload_n 1, 1) := by decide +kernel
theorem dX11_pairing_59 : decode cX11_pairing 59 = .ok (.iconst 2, 1) := by decide +kernel
theorem dX11_pairing_60 : decode cX11_pairing 60 = .ok (.if_icmp .ge 14, 3) := by decide +kernel
theorem dX11_pairing_63 : decode cX11_pairing 63 = .ok (.aload_n 0, 1) := by decide +kernel
theorem dX11_pairing_64 : decode cX11_pairing 64 = .ok (.getfield 60, 3) := by decide +kernel
theorem dX11_pairing_67 : decode cX11_pairing 67 = .ok (.iload_n 1, 1) := by decide +kernel
theorem dX11_pairing_68 : decode cX11_pairing 68 = .ok (.invokevirtual 206, 3) := by decide +kernel
theorem dX11_pairing_71 : decode cX11_pairing 71 = .ok (.goto 7, 3) := by decide +kernel
theorem dX11_pairing_74 : decode cX11_pairing 74 = .ok (.iload_n 1, 1) := by decide +kernel
theorem dX11_pairing_75 : decode cX11_pairing 75 = .ok (.bipush 10, 2) := by decide +kernel
theorem dX11_pairing_77 : decode cX11_pairing 77 = .ok (.isub, 1) := by decide +kernel
theorem dX11_pairing_78 : decode cX11_pairing 78 = .ok (.istore_n 3, 1) := by decide +kernel
theorem dX11_pairing_79 : decode cX11_pairing 79 = .ok (.iload_n 3, 1) := by decide +kernel
theorem dX11_pairing_80 : decode cX11_pairing 80 = .ok (.ifCond .lt 14, 3) := by decide +kernel
theorem dX11_pairing_83 : decode cX11_pairing 83 = .ok (.iload_n 3, 1) := by decide +kernel
theorem dX11_pairing_84 : decode cX11_pairing 84 = .ok (.aload_n 0, 1) := by decide +kernel
theorem dX11_pairing_85 : decode cX11_pairing 85 = .ok (.getfield 60, 3) := by decide +kernel
theorem dX11_pairing_88 : decode cX11_pairing 88 = .ok (.invokevirtual 199, 3) := by decide +kernel
theorem dX11_pairing_91 : decode cX11_pairing 91 = .ok (.if_icmp .lt 5, 3) := by decide +kernel
theorem dX11_pairing_94 : decode cX11_pairing 94 = .ok (.iconst (-1), 1) := by decide +kernel
theorem dX11_pairing_95 : decode cX11_pairing 95 = .ok (.ireturn, 1) := by decide +kernel
theorem dX11_pairing_96 : decode cX11_pairing 96 = .ok (.iload_n 2, 1) := by decide +kernel
theorem dX11_pairing_97 : decode cX11_pairing 97 = .ok (.iconst (-1), 1) := by decide +kernel
theorem dX11_pairing_98 : decode cX11_pairing 98 = .ok (.if_icmp .ne 14, 3) := by decide +kernel
theorem dX11_pairing_101 : decode cX11_pairing 101 = .ok (.aload_n 0, 1) := by decide +kernel
theorem dX11_pairing_102 : decode cX11_pairing 102 = .ok (.getfield 60, 3) := by decide +kernel
theorem dX11_pairing_105 : decode cX11_pairing 105 = .ok (.iload_n 3, 1) := by decide +kernel
theorem dX11_pairing_106 : decode cX11_pairing 106 = .ok (.invokevirtual 209, 3) := by decide +kernel
theorem dX11_pairing_109 : decode cX11_pairing 109 = .ok (.goto 12, 3) := by decide +kernel
theorem dX11_pairing_112 : decode cX11_pairing 112 = .ok (.aload_n 0, 1) := by decide +kernel
theorem dX11_pairing_113 : decode cX11_pairing 113 = .ok (.getfield 60, 3) := by decide +kernel
theorem dX11_pairing_116 : decode cX11_pairing 116 = .ok (.iload_n 3, 1) := by decide +kernel
theorem dX11_pairing_117 : decode cX11_pairing 117 = .ok (.iload_n 2, 1) := by decide +kernel
theorem dX11_pairing_118 : decode cX11_pairing 118 = .ok (.invokevirtual 212, 3) := by decide +kernel
theorem dX11_pairing_121 : decode cX11_pairing 121 = .ok (.ireturn, 1) := by decide +kernel
theorem dX11_mended_0 : decode cX11_mended 0 = .ok (.aload_n 0, 1) := by decide +kernel
theorem dX11_mended_1 : decode cX11_mended 1 = .ok (.getfield 60, 3) := by decide +kernel
theorem dX11_mended_4 : decode cX11_mended 4 = .ok (.invokevirtual 198, 3) := by decide +kernel
theorem dX11_mended_7 : decode cX11_mended 7 = .ok (.aload_n 0, 1) := by decide +kernel
theorem dX11_mended_8 : decode cX11_mended 8 = .ok (.getfield 60, 3) := by decide +kernel
theorem dX11_mended_11 : decode cX11_mended 11 = .ok (.invokevirtual 200, 3) := by decide +kernel
theorem dX11_mended_14 : decode cX11_mended 14 = .ok (.aload_n 0, 1) := by decide +kernel
theorem dX11_mended_15 : decode cX11_mended 15 = .ok (.getfield 60, 3) := by decide +kernel
theorem dX11_mended_18 : decode cX11_mended 18 = .ok (.invokevirtual 215, 3) := by decide +kernel
theorem dX11_mended_21 : decode cX11_mended 21 = .ok (.isub, 1) := by decide +kernel
theorem dX11_mended_22 : decode cX11_mended 22 = .ok (.ireturn, 1) := by decide +kernel
theorem dX11_price_0 : decode cX11_price 0 = .ok (.aload_n 0, 1) := by decide +kernel
theorem dX11_price_1 : decode cX11_price 1 = .ok (.getfield 60, 3) := by decide +kernel
theorem dX11_price_4 : decode cX11_price 4 = .ok (.iload_n 1, 1) := by decide +kernel
theorem dX11_price_5 : decode cX11_price 5 = .ok (.invokevirtual 194, 3) := by decide +kernel
theorem dX11_price_8 : decode cX11_price 8 = .ok (.ifCond .eq 14, 3) := by decide +kernel
theorem dX11_price_11 : decode cX11_price 11 = .ok (.iload_n 2, 1) := by decide +kernel
theorem dX11_price_12 : decode cX11_price 12 = .ok (.ifCond .lt 10, 3) := by decide +kernel
theorem dX11_price_15 : decode cX11_price 15 = .ok (.iload_n 2, 1) := by decide +kernel
theorem dX11_price_16 : decode cX11_price 16 = .ok (.sipush 999, 3) := by decide +kernel
theorem dX11_price_19 : decode cX11_price 19 = .ok (.if_icmp .le 5, 3) := by decide +kernel
theorem dX11_price_22 : decode cX11_price 22 = .ok (.iconst 0, 1) := by decide +kernel
theorem dX11_price_23 : decode cX11_price 23 = .ok (.ireturn, 1) := by decide +kernel
theorem dX11_price_24 : decode cX11_price 24 = .ok (.aload_n 0, 1) := by decide +kernel
theorem dX11_price_25 : decode cX11_price 25 = .ok (.getfield 69, 3) := by decide +kernel
theorem dX11_price_28 : decode cX11_price 28 = .ok (.iload_n 1, 1) := by decide +kernel
theorem dX11_price_29 : decode cX11_price 29 = .ok (.iload_n 2, 1) := by decide +kernel
theorem dX11_price_30 : decode cX11_price 30 = .ok (.invokevirtual 218, 3) := by decide +kernel
theorem dX11_price_33 : decode cX11_price 33 = .ok (.iconst 1, 1) := by decide +kernel
theorem dX11_price_34 : decode cX11_price 34 = .ok (.ireturn, 1) := by decide +kernel
theorem dX11_sums_0 : decode cX11_sums 0 = .ok (.iload_n 2, 1) := by decide +kernel
theorem dX11_sums_1 : decode cX11_sums 1 = .ok (.ifCond .lt 23, 3) := by decide +kernel
theorem dX11_sums_4 : decode cX11_sums 4 = .ok (.iload_n 2, 1) := by decide +kernel
theorem dX11_sums_5 : decode cX11_sums 5 = .ok (.iconst 2, 1) := by decide +kernel
theorem dX11_sums_6 : decode cX11_sums 6 = .ok (.if_icmp .gt 18, 3) := by decide +kernel
theorem dX11_sums_9 : decode cX11_sums 9 = .ok (.iload_n 2, 1) := by decide +kernel
theorem dX11_sums_10 : decode cX11_sums 10 = .ok (.ifCond .le 16, 3) := by decide +kernel
theorem dX11_sums_13 : decode cX11_sums 13 = .ok (.aload_n 0, 1) := by decide +kernel
theorem dX11_sums_14 : decode cX11_sums 14 = .ok (.getfield 60, 3) := by decide +kernel
theorem dX11_sums_17 : decode cX11_sums 17 = .ok (.iload_n 1, 1) := by decide +kernel
theorem dX11_sums_18 : decode cX11_sums 18 = .ok (.invokevirtual 194, 3) := by decide +kernel
theorem dX11_sums_21 : decode cX11_sums 21 = .ok (.ifCond .ne 5, 3) := by decide +kernel
theorem dX11_sums_24 : decode cX11_sums 24 = .ok (.iconst (-1), 1) := by decide +kernel
theorem dX11_sums_25 : decode cX11_sums 25 = .ok (.ireturn, 1) := by decide +kernel
theorem dX11_sums_26 : decode cX11_sums 26 = .ok (.aload_n 0, 1) := by decide +kernel
theorem dX11_sums_27 : decode cX11_sums 27 = .ok (.getfield 60, 3) := by decide +kernel
theorem dX11_sums_30 : decode cX11_sums 30 = .ok (.invokevirtual 198, 3) := by decide +kernel
theorem dX11_sums_33 : decode cX11_sums 33 = .ok (.iload_n 2, 1) := by decide +kernel
theorem dX11_sums_34 : decode cX11_sums 34 = .ok (.ifCond .ne 19, 3) := by decide +kernel
theorem dX11_sums_37 : decode cX11_sums 37 = .ok (.aload_n 0, 1) := by decide +kernel
theorem dX11_sums_38 : decode cX11_sums 38 = .ok (.getfield 69, 3) := by decide +kernel
theorem dX11_sums_41 : decode cX11_sums 41 = .ok (.invokevirtual 221, 3) := by decide +kernel
theorem dX11_sums_44 : decode cX11_sums 44 = .ok (.ifCond .eq 7, 3) := by decide +kernel
theorem dX11_sums_47 : decode cX11_sums 47 = .ok (.iconst 1, 1) := by decide +kernel
theorem dX11_sums_48 : decode cX11_sums 48 = .ok (.goto 4, 3) := by decide +kernel
theorem dX11_sums_51 : decode cX11_sums 51 = .ok (.iconst 0, 1) := by decide +kernel
theorem dX11_sums_52 : decode cX11_sums 52 = .ok (.ireturn, 1) := by decide +kernel
theorem dX11_sums_53 : decode cX11_sums 53 = .ok (.iload_n 2, 1) := by decide +kernel
theorem dX11_sums_54 : decode cX11_sums 54 = .ok (.iconst 1, 1) := by decide +kernel
theorem dX11_sums_55 : decode cX11_sums 55 = .ok (.if_icmp .ne 14, 3) := by decide +kernel
theorem dX11_sums_58 : decode cX11_sums 58 = .ok (.aload_n 0, 1) := by decide +kernel
theorem dX11_sums_59 : decode cX11_sums 59 = .ok (.getfield 69, 3) := by decide +kernel
theorem dX11_sums_62 : decode cX11_sums 62 = .ok (.iload_n 1, 1) := by decide +kernel
theorem dX11_sums_63 : decode cX11_sums 63 = .ok (.invokevirtual 224, 3) := by decide +kernel
theorem dX11_sums_66 : decode cX11_sums 66 = .ok (.goto 11, 3) := by decide +kernel
theorem dX11_sums_69 : decode cX11_sums 69 = .ok (.aload_n 0, 1) := by decide +kernel
theorem dX11_sums_70 : decode cX11_sums 70 = .ok (.getfield 69, 3) := by decide +kernel
theorem dX11_sums_73 : decode cX11_sums 73 = .ok (.iload_n 1, 1) := by decide +kernel
theorem dX11_sums_74 : decode cX11_sums 74 = .ok (.invokevirtual 227, 3) := by decide +kernel
theorem dX11_sums_77 : decode cX11_sums 77 = .ok (.ireturn, 1) := by decide +kernel
theorem dX12_init_0 : decode cX12_init 0 = .ok (.aload_n 0, 1) := by decide +kernel
theorem dX12_init_1 : decode cX12_init 1 = .ok (.invokespecial 1, 3) := by decide +kernel
theorem dX12_init_4 : decode cX12_init 4 = .ok (.aload_n 0, 1) := by decide +kernel
theorem dX12_init_5 : decode cX12_init 5 = .ok (.iconst 2, 1) := by decide +kernel
theorem dX12_init_6 : decode cX12_init 6 = .ok (.newarray .int, 2) := by decide +kernel
theorem dX12_init_8 : decode cX12_init 8 = .ok (.dup, 1) := by decide +kernel
theorem dX12_init_9 : decode cX12_init 9 = .ok (.iconst 0, 1) := by decide +kernel
theorem dX12_init_10 : decode cX12_init 10 = .ok (.iconst 3, 1) := by decide +kernel
theorem dX12_init_11 : decode cX12_init 11 = .ok (.iastore, 1) := by decide +kernel
theorem dX12_init_12 : decode cX12_init 12 = .ok (.dup, 1) := by decide +kernel
theorem dX12_init_13 : decode cX12_init 13 = .ok (.iconst 1, 1) := by decide +kernel
theorem dX12_init_14 : decode cX12_init 14 = .ok (.iconst 3, 1) := by decide +kernel
theorem dX12_init_15 : decode cX12_init 15 = .ok (.iastore, 1) := by decide +kernel
theorem dX12_init_16 : decode cX12_init 16 = .ok (.putfield 7, 3) := by decide +kernel
theorem dX12_init_19 : decode cX12_init 19 = .ok (.aload_n 0, 1) := by decide +kernel
theorem dX12_init_20 : decode cX12_init 20 = .ok (.bipush 12, 2) := by decide +kernel
theorem dX12_init_22 : decode cX12_init 22 = .ok (.newarray .int, 2) := by decide +kernel
theorem dX12_init_24 : decode cX12_init 24 = .ok (.putfield 13, 3) := by decide +kernel
theorem dX12_init_27 : decode cX12_init 27 = .ok (.aload_n 0, 1) := by decide +kernel
theorem dX12_init_28 : decode cX12_init 28 = .ok (.bipush 12, 2) := by decide +kernel
theorem dX12_init_30 : decode cX12_init 30 = .ok (.newarray .int, 2) := by decide +kernel
theorem dX12_init_32 : decode cX12_init 32 = .ok (.putfield 16, 3) := by decide +kernel
theorem dX12_init_35 : decode cX12_init 35 = .ok (.aload_n 0, 1) := by decide +kernel
theorem dX12_init_36 : decode cX12_init 36 = .ok (.bipush 72, 2) := by decide +kernel
theorem dX12_init_38 : decode cX12_init 38 = .ok (.newarray .int, 2) := by decide +kernel
theorem dX12_init_40 : decode cX12_init 40 = .ok (.dup, 1) := by decide +kernel
theorem dX12_init_41 : decode cX12_init 41 = .ok (.iconst 0, 1) := by decide +kernel
theorem dX12_init_42 : decode cX12_init 42 = .ok (.iconst (-1), 1) := by decide +kernel
theorem dX12_init_43 : decode cX12_init 43 = .ok (.iastore, 1) := by decide +kernel
theorem dX12_init_44 : decode cX12_init 44 = .ok (.dup, 1) := by decide +kernel
theorem dX12_init_45 : decode cX12_init 45 = .ok (.iconst 1, 1) := by decide +kernel
theorem dX12_init_46 : decode cX12_init 46 = .ok (.iconst (-1), 1) := by decide +kernel
theorem dX12_init_47 : decode cX12_init 47 = .ok (.iastore, 1) := by decide +kernel
theorem dX12_init_48 : decode cX12_init 48 = .ok (.dup, 1) := by decide +kernel
theorem dX12_init_49 : decode cX12_init 49 = .ok (.iconst 2, 1) := by decide +kernel
theorem dX12_init_50 : decode cX12_init 50 = .ok (.iconst (-1), 1) := by decide +kernel
theorem dX12_init_51 : decode cX12_init 51 = .ok (.iastore, 1) := by decide +kernel
theorem dX12_init_52 : decode cX12_init 52 = .ok (.dup, 1) := by decide +kernel
theorem dX12_init_53 : decode cX12_init 53 = .ok (.iconst 3, 1) := by decide +kernel
theorem dX12_init_54 : decode cX12_init 54 = .ok (.iconst (-1), 1) := by decide +kernel
theorem dX12_init_55 : decode cX12_init 55 = .ok (.iastore, 1) := by decide +kernel
theorem dX12_init_56 : decode cX12_init 56 = .ok (.dup, 1) := by decide +kernel
theorem dX12_init_57 : decode cX12_init 57 = .ok (.iconst 4, 1) := by decide +kernel
theorem dX12_init_58 : decode cX12_init 58 = .ok (.iconst (-1), 1) := by decide +kernel
theorem dX12_init_59 : decode cX12_init 59 = .ok (.iastore, 1) := by decide +kernel
theorem dX12_init_60 : decode cX12_init 60 = .ok (.dup, 1) := by decide +kernel
theorem dX12_init_61 : decode cX12_init 61 = .ok (.iconst 5, 1) := by decide +kernel
theorem dX12_init_62 : decode cX12_init 62 = .ok (.iconst (-1), 1) := by decide +kernel
theorem dX12_init_63 : decode cX12_init 63 = .ok (.iastore, 1) := by decide +kernel
theorem dX12_init_64 : decode cX12_init 64 = .ok (.dup, 1) := by decide +kernel
theorem dX12_init_65 : decode cX12_init 65 = .ok (.bipush 6, 2) := by decide +kernel
theorem dX12_init_67 : decode cX12_init 67 = .ok (.iconst (-1), 1) := by decide +kernel
theorem dX12_init_68 : decode cX12_init 68 = .ok (.iastore, 1) := by decide +kernel
theorem dX12_init_69 : decode cX12_init 69 = .ok (.dup, 1) := by decide +kernel
theorem dX12_init_70 : decode cX12_init 70 = .ok (.bipush 7, 2) := by decide +kernel
theorem dX12_init_72 : decode cX12_init 72 = .ok (.iconst (-1), 1) := by decide +kernel
theorem dX12_init_73 : decode cX12_init 73 = .ok (.iastore, 1) := by decide +kernel
theorem dX12_init_74 : decode cX12_init 74 = .ok (.dup, 1) := by decide +kernel
theorem dX12_init_75 : decode cX12_init 75 = .ok (.bipush 8, 2) := by decide +kernel
theorem dX12_init_77 : decode cX12_init 77 = .ok (.iconst (-1), 1) := by decide +kernel
theorem dX12_init_78 : decode cX12_init 78 = .ok (.iastore, 1) := by decide +kernel
theorem dX12_init_79 : decode cX12_init 79 = .ok (.dup, 1) := by decide +kernel
theorem dX12_init_80 : decode cX12_init 80 = .ok (.bipush 9, 2) := by decide +kernel
theorem dX12_init_82 : decode cX12_init 82 = .ok (.iconst (-1), 1) := by decide +kernel
theorem dX12_init_83 : decode cX12_init 83 = .ok (.iastore, 1) := by decide +kernel
theorem dX12_init_84 : decode cX12_init 84 = .ok (.dup, 1) := by decide +kernel
theorem dX12_init_85 : decode cX12_init 85 = .ok (.bipush 10, 2) := by decide +kernel
theorem dX12_init_87 : decode cX12_init 87 = .ok (.iconst (-1), 1) := by decide +kernel
theorem dX12_init_88 : decode cX12_init 88 = .ok (.iastore, 1) := by decide +kernel
theorem dX12_init_89 : decode cX12_init 89 = .ok (.dup, 1) := by decide +kernel
theorem dX12_init_90 : decode cX12_init 90 = .ok (.bipush 11, 2) := by decide +kernel
theorem dX12_init_92 : decode cX12_init 92 = .ok (.iconst (-1), 1) := by decide +kernel
theorem dX12_init_93 : decode cX12_init 93 = .ok (.iastore, 1) := by decide +kernel
theorem dX12_init_94 : decode cX12_init 94 = .ok (.dup, 1) := by decide +kernel
theorem dX12_init_95 : decode cX12_init 95 = .ok (.bipush 12, 2) := by decide +kernel
theorem dX12_init_97 : decode cX12_init 97 = .ok (.iconst (-1), 1) := by decide +kernel
theorem dX12_init_98 : decode cX12_init 98 = .ok (.iastore, 1) := by decide +kernel
theorem dX12_init_99 : decode cX12_init 99 = .ok (.dup, 1) := by decide +kernel
theorem dX12_init_100 : decode cX12_init 100 = .ok (.bipush 13, 2) := by decide +kernel
theorem dX12_init_102 : decode cX12_init 102 = .ok (.iconst (-1), 1) := by decide +kernel
theorem dX12_init_103 : decode cX12_init 103 = .ok (.iastore, 1) := by decide +kernel
theorem dX12_init_104 : decode cX12_init 104 = .ok (.dup, 1) := by decide +kernel
theorem dX12_init_105 : decode cX12_init 105 = .ok (.bipush 14, 2) := by decide +kernel
theorem dX12_init_107 : decode cX12_init 107 = .ok (.iconst (-1), 1) := by decide +kernel
theorem dX12_init_108 : decode cX12_init 108 = .ok (.iastore, 1) := by decide +kernel
theorem dX12_init_109 : decode cX12_init 109 = .ok (.dup, 1) := by decide +kernel
theorem dX12_init_110 : decode cX12_init 110 = .ok (.bipush 15, 2) := by decide +kernel
theorem dX12_init_112 : decode cX12_init 112 = .ok (.iconst (-1), 1) := by decide +kernel
theorem dX12_init_113 : decode cX12_init 113 = .ok (.iastore, 1) := by decide +kernel
theorem dX12_init_114 : decode cX12_init 114 = .ok (.dup, 1) := by decide +kernel
theorem dX12_init_115 : decode cX12_init 115 = .ok (.bipush 16, 2) := by decide +kernel
theorem dX12_init_117 : decode cX12_init 117 = .ok (.iconst (-1), 1) := by decide +kernel
theorem dX12_init_118 : decode cX12_init 118 = .ok (.iastore, 1) := by decide +kernel
theorem dX12_init_119 : decode cX12_init 119 = .ok (.dup, 1) := by decide +kernel
theorem dX12_init_120 : decode cX12_init 120 = .ok (.bipush 17, 2) := by decide +kernel
theorem dX12_init_122 : decode cX12_init 122 = .ok (.iconst (-1), 1) := by decide +kernel
theorem dX12_init_123 : decode cX12_init 123 = .ok (.iastore, 1) := by decide +kernel
theorem dX12_init_124 : decode cX12_init 124 = .ok (.dup, 1) := by decide +kernel
theorem dX12_init_125 : decode cX12_init 125 = .ok (.bipush 18, 2) := by decide +kernel
theorem dX12_init_127 : decode cX12_init 127 = .ok (.iconst (-1), 1) := by decide +kernel
theorem dX12_init_128 : decode cX12_init 128 = .ok (.iastore, 1) := by decide +kernel
theorem dX12_init_129 : decode cX12_init 129 = .ok (.dup, 1) := by decide +kernel
theorem dX12_init_130 : decode cX12_init 130 = .ok (.bipush 19, 2) := by decide +kernel
theorem dX12_init_132 : decode cX12_init 132 = .ok (.iconst (-1), 1) := by decide +kernel
theorem dX12_init_133 : decode cX12_init 133 = .ok (.iastore, 1) := by decide +kernel
theorem dX12_init_134 : decode cX12_init 134 = .ok (.dup, 1) := by decide +kernel
theorem dX12_init_135 : decode cX12_init 135 = .ok (.bipush 20, 2) := by decide +kernel
theorem dX12_init_137 : decode cX12_init 137 = .ok (.iconst (-1), 1) := by decide +kernel
theorem dX12_init_138 : decode cX12_init 138 = .ok (.iastore, 1) := by decide +kernel
theorem dX12_init_139 : decode cX12_init 139 = .ok (.dup, 1) := by decide +kernel
theorem dX12_init_140 : decode cX12_init 140 = .ok (.bipush 21, 2) := by decide +kernel
theorem dX12_init_142 : decode cX12_init 142 = .ok (.iconst (-1), 1) := by decide +kernel
theorem dX12_init_143 : decode cX12_init 143 = .ok (.iastore, 1) := by decide +kernel
theorem dX12_init_144 : decode cX12_init 144 = .ok (.dup, 1) := by decide +kernel
theorem dX12_init_145 : decode cX12_init 145 = .ok (.bipush 22, 2) := by decide +kernel
theorem dX12_init_147 : decode cX12_init 147 = .ok (.iconst (-1), 1) := by decide +kernel
theorem dX12_init_148 : decode cX12_init 148 = .ok (.iastore, 1) := by decide +kernel
theorem dX12_init_149 : decode cX12_init 149 = .ok (.dup, 1) := by decide +kernel
theorem dX12_init_150 : decode cX12_init 150 = .ok (.bipush 23, 2) := by decide +kernel
theorem dX12_init_152 : decode cX12_init 152 = .ok (.iconst (-1), 1) := by decide +kernel
theorem dX12_init_153 : decode cX12_init 153 = .ok (.iastore, 1) := by decide +kernel
theorem dX12_init_154 : decode cX12_init 154 = .ok (.dup, 1) := by decide +kernel
theorem dX12_init_155 : decode cX12_init 155 = .ok (.bipush 24, 2) := by decide +kernel
theorem dX12_init_157 : decode cX12_init 157 = .ok (.iconst (-1), 1) := by decide +kernel
theorem dX12_init_158 : decode cX12_init 158 = .ok (.iastore, 1) := by decide +kernel
theorem dX12_init_159 : decode cX12_init 159 = .ok (.dup, 1) := by decide +kernel
theorem dX12_init_160 : decode cX12_init 160 = .ok (.bipush 25, 2) := by decide +kernel
theorem dX12_init_162 : decode cX12_init 162 = .ok (.iconst (-1), 1) := by decide +kernel
theorem dX12_init_163 : decode cX12_init 163 = .ok (.iastore, 1) := by decide +kernel
theorem dX12_init_164 : decode cX12_init 164 = .ok (.dup, 1) := by decide +kernel
theorem dX12_init_165 : decode cX12_init 165 = .ok (.bipush 26, 2) := by decide +kernel
theorem dX12_init_167 : decode cX12_init 167 = .ok (.iconst (-1), 1) := by decide +kernel
theorem dX12_init_168 : decode cX12_init 168 = .ok (.iastore, 1) := by decide +kernel
theorem dX12_init_169 : decode cX12_init 169 = .ok (.dup, 1) := by decide +kernel
theorem dX12_init_170 : decode cX12_init 170 = .ok (.bipush 27, 2) := by decide +kernel
theorem dX12_init_172 : decode cX12_init 172 = .ok (.iconst (-1), 1) := by decide +kernel
theorem dX12_init_173 : decode cX12_init 173 = .ok (.iastore, 1) := by decide +kernel
theorem dX12_init_174 : decode cX12_init 174 = .ok (.dup, 1) := by decide +kernel
theorem dX12_init_175 : decode cX12_init 175 = .ok (.bipush 28, 2) := by decide +kernel
theorem dX12_init_177 : decode cX12_init 177 = .ok (.iconst (-1), 1) := by decide +kernel
theorem dX12_init_178 : decode cX12_init 178 = .ok (.iastore, 1) := by decide +kernel
theorem dX12_init_179 : decode cX12_init 179 = .ok (.dup, 1) := by decide +kernel
theorem dX12_init_180 : decode cX12_init 180 = .ok (.bipush 29, 2) := by decide +kernel
theorem dX12_init_182 : decode cX12_init 182 = .ok (.iconst (-1), 1) := by decide +kernel
theorem dX12_init_183 : decode cX12_init 183 = .ok (.iastore, 1) := by decide +kernel
theorem dX12_init_184 : decode cX12_init 184 = .ok (.dup, 1) := by decide +kernel
theorem dX12_init_185 : decode cX12_init 185 = .ok (.bipush 30, 2) := by decide +kernel
theorem dX12_init_187 : decode cX12_init 187 = .ok (.iconst (-1), 1) := by decide +kernel
theorem dX12_init_188 : decode cX12_init 188 = .ok (.iastore, 1) := by decide +kernel
theorem dX12_init_189 : decode cX12_init 189 = .ok (.dup, 1) := by decide +kernel
theorem dX12_init_190 : decode cX12_init 190 = .ok (.bipush 31, 2) := by decide +kernel
theorem dX12_init_192 : decode cX12_init 192 = .ok (.iconst (-1), 1) := by decide +kernel
theorem dX12_init_193 : decode cX12_init 193 = .ok (.iastore, 1) := by decide +kernel
theorem dX12_init_194 : decode cX12_init 194 = .ok (.dup, 1) := by decide +kernel
theorem dX12_init_195 : decode cX12_init 195 = .ok (.bipush 32, 2) := by decide +kernel
theorem dX12_init_197 : decode cX12_init 197 = .ok (.iconst (-1), 1) := by decide +kernel
theorem dX12_init_198 : decode cX12_init 198 = .ok (.iastore, 1) := by decide +kernel
theorem dX12_init_199 : decode cX12_init 199 = .ok (.dup, 1) := by decide +kernel
theorem dX12_init_200 : decode cX12_init 200 = .ok (.bipush 33, 2) := by decide +kernel
theorem dX12_init_202 : decode cX12_init 202 = .ok (.iconst (-1), 1) := by decide +kernel
theorem dX12_init_203 : decode cX12_init 203 = .ok (.iastore, 1) := by decide +kernel
theorem dX12_init_204 : decode cX12_init 204 = .ok (.dup, 1) := by decide +kernel
theorem dX12_init_205 : decode cX12_init 205 = .ok (.bipush 34, 2) := by decide +kernel
theorem dX12_init_207 : decode cX12_init 207 = .ok (.iconst (-1), 1) := by decide +kernel
theorem dX12_init_208 : decode cX12_init 208 = .ok (.iastore, 1) := by decide +kernel
theorem dX12_init_209 : decode cX12_init 209 = .ok (.dup, 1) := by decide +kernel
theorem dX12_init_210 : decode cX12_init 210 = .ok (.bipush 35, 2) := by decide +kernel
theorem dX12_init_212 : decode cX12_init 212 = .ok (.iconst (-1), 1) := by decide +kernel
theorem dX12_init_213 : decode cX12_init 213 = .ok (.iastore, 1) := by decide +kernel
theorem dX12_init_214 : decode cX12_init 214 = .ok (.dup, 1) := by decide +kernel
theorem dX12_init_215 : decode cX12_init 215 = .ok (.bipush 36, 2) := by decide +kernel
theorem dX12_init_217 : decode cX12_init 217 = .ok (.iconst (-1), 1) := by decide +kernel
theorem dX12_init_218 : decode cX12_init 218 = .ok (.iastore, 1) := by decide +kernel
theorem dX12_init_219 : decode cX12_init 219 = .ok (.dup, 1) := by decide +kernel
theorem dX12_init_220 : decode cX12_init 220 = .ok (.bipush 37, 2) := by decide +kernel
theorem dX12_init_222 : decode cX12_init 222 = .ok (.iconst (-1), 1) := by decide +kernel
theorem dX12_init_223 : decode cX12_init 223 = .ok (.iastore, 1) := by decide +kernel
theorem dX12_init_224 : decode cX12_init 224 = .ok (.dup, 1) := by decide +kernel
theorem dX12_init_225 : decode cX12_init 225 = .ok (.bipush 38, 2) := by decide +kernel
theorem dX12_init_227 : decode cX12_init 227 = .ok (.iconst (-1), 1) := by decide +kernel
theorem dX12_init_228 : decode cX12_init 228 = .ok (.iastore, 1) := by decide +kernel
theorem dX12_init_229 : decode cX12_init 229 = .ok (.dup, 1) := by decide +kernel
theorem dX12_init_230 : decode cX12_init 230 = .ok (.bipush 39, 2) := by decide +kernel
theorem dX12_init_232 : decode cX12_init 232 = .ok (.iconst (-1), 1) := by decide +kernel
theorem dX12_init_233 : decode cX12_init 233 = .ok (.iastore, 1) := by decide +kernel
theorem dX12_init_234 : decode cX12_init 234 = .ok (.dup, 1) := by decide +kernel
theorem dX12_init_235 : decode cX12_init 235 = .ok (.bipush 40, 2) := by decide +kernel
theorem dX12_init_237 : decode cX12_init 237 = .ok (.iconst (-1), 1) := by decide +kernel
theorem dX12_init_238 : decode cX12_init 238 = .ok (.iastore, 1) := by decide +kernel
theorem dX12_init_239 : decode cX12_init 239 = .ok (.dup, 1) := by decide +kernel
theorem dX12_init_240 : decode cX12_init 240 = .ok (.bipush 41, 2) := by decide +kernel
theorem dX12_init_242 : decode cX12_init 242 = .ok (.iconst (-1), 1) := by decide +kernel
theorem dX12_init_243 : decode cX12_init 243 = .ok (.iastore, 1) := by decide +kernel
theorem dX12_init_244 : decode cX12_init 244 = .ok (.dup, 1) := by decide +kernel
theorem dX12_init_245 : decode cX12_init 245 = .ok (.bipush 42, 2) := by decide +kernel
theorem dX12_init_247 : decode cX12_init 247 = .ok (.iconst (-1), 1) := by decide +kernel
theorem dX12_init_248 : decode cX12_init 248 = .ok (.iastore, 1) := by decide +kernel
theorem dX12_init_249 : decode cX12_init 249 = .ok (.dup, 1) := by decide +kernel
theorem dX12_init_250 : decode cX12_init 250 = .ok (.bipush 43, 2) := by decide +kernel
theorem dX12_init_252 : decode cX12_init 252 = .ok (.iconst (-1), 1) := by decide +kernel
theorem dX12_init_253 : decode cX12_init 253 = .ok (.iastore, 1) := by decide +kernel
theorem dX12_init_254 : decode cX12_init 254 = .ok (.dup, 1) := by decide +kernel
theorem dX12_init_255 : decode cX12_init 255 = .ok (.bipush 44, 2) := by decide +kernel
theorem dX12_init_257 : decode cX12_init 257 = .ok (.iconst (-1), 1) := by decide +kernel
theorem dX12_init_258 : decode cX12_init 258 = .ok (.iastore, 1) := by decide +kernel
theorem dX12_init_259 : decode cX12_init 259 = .ok (.dup, 1) := by decide +kernel
theorem dX12_init_260 : decode cX12_init 260 = .ok (.bipush 45, 2) := by decide +kernel
theorem dX12_init_262 : decode cX12_init 262 = .ok (.iconst (-1), 1) := by decide +kernel
theorem dX12_init_263 : decode cX12_init 263 = .ok (.iastore, 1) := by decide +kernel
theorem dX12_init_264 : decode cX12_init 264 = .ok (.dup, 1) := by decide +kernel
theorem dX12_init_265 : decode cX12_init 265 = .ok (.bipush 46, 2) := by decide +kernel
theorem dX12_init_267 : decode cX12_init 267 = .ok (.iconst (-1), 1) := by decide +kernel
theorem dX12_init_268 : decode cX12_init 268 = .ok (.iastore, 1) := by decide +kernel
theorem dX12_init_269 : decode cX12_init 269 = .ok (.dup, 1) := by decide +kernel
theorem dX12_init_270 : decode cX12_init 270 = .ok (.bipush 47, 2) := by decide +kernel
theorem dX12_init_272 : decode cX12_init 272 = .ok (.iconst (-1), 1) := by decide +kernel
theorem dX12_init_273 : decode cX12_init 273 = .ok (.iastore, 1) := by decide +kernel
theorem dX12_init_274 : decode cX12_init 274 = .ok (.dup, 1) := by decide +kernel
theorem dX12_init_275 : decode cX12_init 275 = .ok (.bipush 48, 2) := by decide +kernel
theorem dX12_init_277 : decode cX12_init 277 = .ok (.iconst (-1), 1) := by decide +kernel
theorem dX12_init_278 : decode cX12_init 278 = .ok (.iastore, 1) := by decide +kernel
theorem dX12_init_279 : decode cX12_init 279 = .ok (.dup, 1) := by decide +kernel
theorem dX12_init_280 : decode cX12_init 280 = .ok (.bipush 49, 2) := by decide +kernel
theorem dX12_init_282 : decode cX12_init 282 = .ok (.iconst (-1), 1) := by decide +kernel
theorem dX12_init_283 : decode cX12_init 283 = .ok (.iastore, 1) := by decide +kernel
theorem dX12_init_284 : decode cX12_init 284 = .ok (.dup, 1) := by decide +kernel
theorem dX12_init_285 : decode cX12_init 285 = .ok (.bipush 50, 2) := by decide +kernel
theorem dX12_init_287 : decode cX12_init 287 = .ok (.iconst (-1), 1) := by decide +kernel
theorem dX12_init_288 : decode cX12_init 288 = .ok (.iastore, 1) := by decide +kernel
theorem dX12_init_289 : decode cX12_init 289 = .ok (.dup, 1) := by decide +kernel
theorem dX12_init_290 : decode cX12_init 290 = .ok (.bipush 51, 2) := by decide +kernel
theorem dX12_init_292 : decode cX12_init 292 = .ok (.iconst (-1), 1) := by decide +kernel
theorem dX12_init_293 : decode cX12_init 293 = .ok (.iastore, 1) := by decide +kernel
theorem dX12_init_294 : decode cX12_init 294 = .ok (.dup, 1) := by decide +kernel
theorem dX12_init_295 : decode cX12_init 295 = .ok (.bipush 52, 2) := by decide +kernel
theorem dX12_init_297 : decode cX12_init 297 = .ok (.iconst (-1), 1) := by decide +kernel
theorem dX12_init_298 : decode cX12_init 298 = .ok (.iastore, 1) := by decide +kernel
theorem dX12_init_299 : decode cX12_init 299 = .ok (.dup, 1) := by decide +kernel
theorem dX12_init_300 : decode cX12_init 300 = .ok (.bipush 53, 2) := by decide +kernel
theorem dX12_init_302 : decode cX12_init 302 = .ok (.iconst (-1), 1) := by decide +kernel
theorem dX12_init_303 : decode cX12_init 303 = .ok (.iastore, 1) := by decide +kernel
theorem dX12_init_304 : decode cX12_init 304 = .ok (.dup, 1) := by decide +kernel
theorem dX12_init_305 : decode cX12_init 305 = .ok (.bipush 54, 2) := by decide +kernel
theorem dX12_init_307 : decode cX12_init 307 = .ok (.iconst (-1), 1) := by decide +kernel
theorem dX12_init_308 : decode cX12_init 308 = .ok (.iastore, 1) := by decide +kernel
theorem dX12_init_309 : decode cX12_init 309 = .ok (.dup, 1) := by decide +kernel
theorem dX12_init_310 : decode cX12_init 310 = .ok (.bipush 55, 2) := by decide +kernel
theorem dX12_init_312 : decode cX12_init 312 = .ok (.iconst (-1), 1) := by decide +kernel
theorem dX12_init_313 : decode cX12_init 313 = .ok (.iastore, 1) := by decide +kernel
theorem dX12_init_314 : decode cX12_init 314 = .ok (.dup, 1) := by decide +kernel
theorem dX12_init_315 : decode cX12_init 315 = .ok (.bipush 56, 2) := by decide +kernel
theorem dX12_init_317 : decode cX12_init 317 = .ok (.iconst (-1), 1) := by decide +kernel
theorem dX12_init_318 : decode cX12_init 318 = .ok (.iastore, 1) := by decide +kernel
theorem dX12_init_319 : decode cX12_init 319 = .ok (.dup, 1) := by decide +kernel
theorem dX12_init_320 : decode cX12_init 320 = .ok (.bipush 57, 2) := by decide +kernel
theorem dX12_init_322 : decode cX12_init 322 = .ok (.iconst (-1), 1) := by decide +kernel
theorem dX12_init_323 : decode cX12_init 323 = .ok (.iastore, 1) := by decide +kernel
theorem dX12_init_324 : decode cX12_init 324 = .ok (.dup, 1) := by decide +kernel
theorem dX12_init_325 : decode cX12_init 325 = .ok (.bipush 58, 2) := by decide +kernel
theorem dX12_init_327 : decode cX12_init 327 = .ok (.iconst (-1), 1) := by decide +kernel
theorem dX12_init_328 : decode cX12_init 328 = .ok (.iastore, 1) := by decide +kernel
theorem dX12_init_329 : decode cX12_init 329 = .ok (.dup, 1) := by decide +kernel
theorem dX12_init_330 : decode cX12_init 330 = .ok (.bipush 59, 2) := by decide +kernel
theorem dX12_init_332 : decode cX12_init 332 = .ok (.iconst (-1), 1) := by decide +kernel
theorem dX12_init_333 : decode cX12_init 333 = .ok (.iastore, 1) := by decide +kernel
theorem dX12_init_334 : decode cX12_init 334 = .ok (.dup, 1) := by decide +kernel
theorem dX12_init_335 : decode cX12_init 335 = .ok (.bipush 60, 2) := by decide +kernel
theorem dX12_init_337 : decode cX12_init 337 = .ok (.iconst (-1), 1) := by decide +kernel
theorem dX12_init_338 : decode cX12_init 338 = .ok (.iastore, 1) := by decide +kernel
theorem dX12_init_339 : decode cX12_init 339 = .ok (.dup, 1) := by decide +kernel
theorem dX12_init_340 : decode cX12_init 340 = .ok (.bipush 61, 2) := by decide +kernel
theorem dX12_init_342 : decode cX12_init 342 = .ok (.iconst (-1), 1) := by decide +kernel
theorem dX12_init_343 : decode cX12_init 343 = .ok (.iastore, 1) := by decide +kernel
theorem dX12_init_344 : decode cX12_init 344 = .ok (.dup, 1) := by decide +kernel
theorem dX12_init_345 : decode cX12_init 345 = .ok (.bipush 62, 2) := by decide +kernel
theorem dX12_init_347 : decode cX12_init 347 = .ok (.iconst (-1), 1) := by decide +kernel
theorem dX12_init_348 : decode cX12_init 348 = .ok (.iastore, 1) := by decide +kernel
theorem dX12_init_349 : decode cX12_init 349 = .ok (.dup, 1) := by decide +kernel
theorem dX12_init_350 : decode cX12_init 350 = .ok (.bipush 63, 2) := by decide +kernel
theorem dX12_init_352 : decode cX12_init 352 = .ok (.iconst (-1), 1) := by decide +kernel
theorem dX12_init_353 : decode cX12_init 353 = .ok (.iastore, 1) := by decide +kernel
theorem dX12_init_354 : decode cX12_init 354 = .ok (.dup, 1) := by decide +kernel
theorem dX12_init_355 : decode cX12_init 355 = .ok (.bipush 64, 2) := by decide +kernel
theorem dX12_init_357 : decode cX12_init 357 = .ok (.iconst (-1), 1) := by decide +kernel
theorem dX12_init_358 : decode cX12_init 358 = .ok (.iastore, 1) := by decide +kernel
theorem dX12_init_359 : decode cX12_init 359 = .ok (.dup, 1) := by decide +kernel
theorem dX12_init_360 : decode cX12_init 360 = .ok (.bipush 65, 2) := by decide +kernel
theorem dX12_init_362 : decode cX12_init 362 = .ok (.iconst (-1), 1) := by decide +kernel
theorem dX12_init_363 : decode cX12_init 363 = .ok (.iastore, 1) := by decide +kernel
theorem dX12_init_364 : decode cX12_init 364 = .ok (.dup, 1) := by decide +kernel
theorem dX12_init_365 : decode cX12_init 365 = .ok (.bipush 66, 2) := by decide +kernel
theorem dX12_init_367 : decode cX12_init 367 = .ok (.iconst (-1), 1) := by decide +kernel
theorem dX12_init_368 : decode cX12_init 368 = .ok (.iastore, 1) := by decide +kernel
theorem dX12_init_369 : decode cX12_init 369 = .ok (.dup, 1) := by decide +kernel
theorem dX12_init_370 : decode cX12_init 370 = .ok (.bipush 67, 2) := by decide +kernel
theorem dX12_init_372 : decode cX12_init 372 = .ok (.iconst (-1), 1) := by decide +kernel
theorem dX12_init_373 : decode cX12_init 373 = .ok (.iastore, 1) := by decide +kernel
theorem dX12_init_374 : decode cX12_init 374 = .ok (.dup, 1) := by decide +kernel
theorem dX12_init_375 : decode cX12_init 375 = .ok (.bipush 68, 2) := by decide +kernel
theorem dX12_init_377 : decode cX12_init 377 = .ok (.iconst (-1), 1) := by decide +kernel
theorem dX12_init_378 : decode cX12_init 378 = .ok (.iastore, 1) := by decide +kernel
theorem dX12_init_379 : decode cX12_init 379 = .ok (.dup, 1) := by decide +kernel
theorem dX12_init_380 : decode cX12_init 380 = .ok (.bipush 69, 2) := by decide +kernel
theorem dX12_init_382 : decode cX12_init 382 = .ok (.iconst (-1), 1) := by decide +kernel
theorem dX12_init_383 : decode cX12_init 383 = .ok (.iastore, 1) := by decide +kernel
theorem dX12_init_384 : decode cX12_init 384 = .ok (.dup, 1) := by decide +kernel
theorem dX12_init_385 : decode cX12_init 385 = .ok (.bipush 70, 2) := by decide +kernel
theorem dX12_init_387 : decode cX12_init 387 = .ok (.iconst (-1), 1) := by decide +kernel
theorem dX12_init_388 : decode cX12_init 388 = .ok (.iastore, 1) := by decide +kernel
theorem dX12_init_389 : decode cX12_init 389 = .ok (.dup, 1) := by decide +kernel
theorem dX12_init_390 : decode cX12_init 390 = .ok (.bipush 71, 2) := by decide +kernel
theorem dX12_init_392 : decode cX12_init 392 = .ok (.iconst (-1), 1) := by decide +kernel
theorem dX12_init_393 : decode cX12_init 393 = .ok (.iastore, 1) := by decide +kernel
theorem dX12_init_394 : decode cX12_init 394 = .ok (.putfield 19, 3) := by decide +kernel
theorem dX12_init_397 : decode cX12_init 397 = .ok (.aload_n 0, 1) := by decide +kernel
theorem dX12_init_398 : decode cX12_init 398 = .ok (.iconst 1, 1) := by decide +kernel
theorem dX12_init_399 : decode cX12_init 399 = .ok (.putfield 22, 3) := by decide +kernel
theorem dX12_init_402 : decode cX12_init 402 = .ok (.aload_n 0, 1) := by decide +kernel
theorem dX12_init_403 : decode cX12_init 403 = .ok (.bipush 100, 2) := by decide +kernel
theorem dX12_init_405 : decode cX12_init 405 = .ok (.putfield 26, 3) := by decide +kernel
theorem dX12_init_408 : decode cX12_init 408 = .ok (.aload_n 0, 1) := by decide +kernel
theorem dX12_init_409 : decode cX12_init 409 = .ok (.bipush 10, 2) := by decide +kernel
theorem dX12_init_411 : decode cX12_init 411 = .ok (.putfield 29, 3) := by decide +kernel
theorem dX12_init_414 : decode cX12_init 414 = .ok (.aload_n 0, 1) := by decide +kernel
theorem dX12_init_415 : decode cX12_init 415 = .ok (.iconst 3, 1) := by decide +kernel
theorem dX12_init_416 : decode cX12_init 416 = .ok (.putfield 32, 3) := by decide +kernel
theorem dX12_init_419 : decode cX12_init 419 = .ok (.aload_n 0, 1) := by decide +kernel
theorem dX12_init_420 : decode cX12_init 420 = .ok (.bipush 12, 2) := by decide +kernel
theorem dX12_init_422 : decode cX12_init 422 = .ok (.newarray .int, 2) := by decide +kernel
theorem dX12_init_424 : decode cX12_init 424 = .ok (.putfield 35, 3) := by decide +kernel
theorem dX12_init_427 : decode cX12_init 427 = .ok (.aload_n 0, 1) := by decide +kernel
theorem dX12_init_428 : decode cX12_init 428 = .ok (.bipush 12, 2) := by decide +kernel
theorem dX12_init_430 : decode cX12_init 430 = .ok (.newarray .int, 2) := by decide +kernel
theorem dX12_init_432 : decode cX12_init 432 = .ok (.putfield 38, 3) := by decide +kernel
theorem dX12_init_435 : decode cX12_init 435 = .ok (.aload_n 0, 1) := by decide +kernel
theorem dX12_init_436 : decode cX12_init 436 = .ok (.bipush 12, 2) := by decide +kernel
theorem dX12_init_438 : decode cX12_init 438 = .ok (.newarray .int, 2) := by decide +kernel
theorem dX12_init_440 : decode cX12_init 440 = .ok (.putfield 41, 3) := by decide +kernel
theorem dX12_init_443 : decode cX12_init 443 = .ok (.aload_n 0, 1) := by decide +kernel
theorem dX12_init_444 : decode cX12_init 444 = .ok (.sipush 732, 3) := by decide +kernel
theorem dX12_init_447 : decode cX12_init 447 = .ok (.newarray .int, 2) := by decide +kernel
theorem dX12_init_449 : decode cX12_init 449 = .ok (.putfield 44, 3) := by decide +kernel
theorem dX12_init_452 : decode cX12_init 452 = .ok (.aload_n 0, 1) := by decide +kernel
theorem dX12_init_453 : decode cX12_init 453 = .ok (.sipush 400, 3) := by decide +kernel
theorem dX12_init_456 : decode cX12_init 456 = .ok (.newarray .int, 2) := by decide +kernel
theorem dX12_init_458 : decode cX12_init 458 = .ok (.putfield 47, 3) := by decide +kernel
theorem dX12_init_461 : decode cX12_init 461 = .ok (.aload_n 0, 1) := by decide +kernel
theorem dX12_init_462 : decode cX12_init 462 = .ok (.bipush 65, 2) := by decide +kernel
theorem dX12_init_464 : decode cX12_init 464 = .ok (.newarray .int, 2) := by decide +kernel
theorem dX12_init_466 : decode cX12_init 466 = .ok (.dup, 1) := by decide +kernel
theorem dX12_init_467 : decode cX12_init 467 = .ok (.iconst 0, 1) := by decide +kernel
theorem dX12_init_468 : decode cX12_init 468 = .ok (.bipush 32, 2) := by decide +kernel
theorem dX12_init_470 : decode cX12_init 470 = .ok (.iastore, 1) := by decide +kernel
theorem dX12_init_471 : decode cX12_init 471 = .ok (.dup, 1) := by decide +kernel
theorem dX12_init_472 : decode cX12_init 472 = .ok (.iconst 1, 1) := by decide +kernel
theorem dX12_init_473 : decode cX12_init 473 = .ok (.bipush 116, 2) := by decide +kernel
theorem dX12_init_475 : decode cX12_init 475 = .ok (.iastore, 1) := by decide +kernel
theorem dX12_init_476 : decode cX12_init 476 = .ok (.dup, 1) := by decide +kernel
theorem dX12_init_477 : decode cX12_init 477 = .ok (.iconst 2, 1) := by decide +kernel
theorem dX12_init_478 : decode cX12_init 478 = .ok (.bipush 97, 2) := by decide +kernel
theorem dX12_init_480 : decode cX12_init 480 = .ok (.iastore, 1) := by decide +kernel
theorem dX12_init_481 : decode cX12_init 481 = .ok (.dup, 1) := by decide +kernel
theorem dX12_init_482 : decode cX12_init 482 = .ok (.iconst 3, 1) := by decide +kernel
theorem dX12_init_483 : decode cX12_init 483 = .ok (.bipush 107, 2) := by decide +kernel
theorem dX12_init_485 : decode cX12_init 485 = .ok (.iastore, 1) := by decide +kernel
theorem dX12_init_486 : decode cX12_init 486 = .ok (.dup, 1) := by decide +kernel
theorem dX12_init_487 : decode cX12_init 487 = .ok (.iconst 4, 1) := by decide +kernel
theorem dX12_init_488 : decode cX12_init 488 = .ok (.bipush 101, 2) := by decide +kernel
theorem dX12_init_490 : decode cX12_init 490 = .ok (.iastore, 1) := by decide +kernel
theorem dX12_init_491 : decode cX12_init 491 = .ok (.dup, 1) := by decide +kernel
theorem dX12_init_492 : decode cX12_init 492 = .ok (.iconst 5, 1) := by decide +kernel
theorem dX12_init_493 : decode cX12_init 493 = .ok (.bipush 32, 2) := by decide +kernel
theorem dX12_init_495 : decode cX12_init 495 = .ok (.iastore, 1) := by decide +kernel
theorem dX12_init_496 : decode cX12_init 496 = .ok (.dup, 1) := by decide +kernel
theorem dX12_init_497 : decode cX12_init 497 = .ok (.bipush 6, 2) := by decide +kernel
theorem dX12_init_499 : decode cX12_init 499 = .ok (.bipush 108, 2) := by decide +kernel
theorem dX12_init_501 : decode cX12_init 501 = .ok (.iastore, 1) := by decide +kernel
theorem dX12_init_502 : decode cX12_init 502 = .ok (.dup, 1) := by decide +kernel
theorem dX12_init_503 : decode cX12_init 503 = .ok (.bipush 7, 2) := by decide +kernel
theorem dX12_init_505 : decode cX12_init 505 = .ok (.bipush 101, 2) := by decide +kernel
theorem dX12_init_507 : decode cX12_init 507 = .ok (.iastore, 1) := by decide +kernel
theorem dX12_init_508 : decode cX12_init 508 = .ok (.dup, 1) := by decide +kernel
theorem dX12_init_509 : decode cX12_init 509 = .ok (.bipush 8, 2) := by decide +kernel
theorem dX12_init_511 : decode cX12_init 511 = .ok (.bipush 97, 2) := by decide +kernel
theorem dX12_init_513 : decode cX12_init 513 = .ok (.iastore, 1) := by decide +kernel
theorem dX12_init_514 : decode cX12_init 514 = .ok (.dup, 1) := by decide +kernel
theorem dX12_init_515 : decode cX12_init 515 = .ok (.bipush 9, 2) := by decide +kernel
theorem dX12_init_517 : decode cX12_init 517 = .ok (.bipush 118, 2) := by decide +kernel
theorem dX12_init_519 : decode cX12_init 519 = .ok (.iastore, 1) := by decide +kernel
theorem dX12_init_520 : decode cX12_init 520 = .ok (.dup, 1) := by decide +kernel
theorem dX12_init_521 : decode cX12_init 521 = .ok (.bipush 10, 2) := by decide +kernel
theorem dX12_init_523 : decode cX12_init 523 = .ok (.bipush 101, 2) := by decide +kernel
theorem dX12_init_525 : decode cX12_init 525 = .ok (.iastore, 1) := by decide +kernel
theorem dX12_init_526 : decode cX12_init 526 = .ok (.dup, 1) := by decide +kernel
theorem dX12_init_527 : decode cX12_init 527 = .ok (.bipush 11, 2) := by decide +kernel
theorem dX12_init_529 : decode cX12_init 529 = .ok (.bipush 32, 2) := by decide +kernel
theorem dX12_init_531 : decode cX12_init 531 = .ok (.iastore, 1) := by decide +kernel
theorem dX12_init_532 : decode cX12_init 532 = .ok (.dup, 1) := by decide +kernel
theorem dX12_init_533 : decode cX12_init 533 = .ok (.bipush 12, 2) := by decide +kernel
theorem dX12_init_535 : decode cX12_init 535 = .ok (.bipush 119, 2) := by decide +kernel
theorem dX12_init_537 : decode cX12_init 537 = .ok (.iastore, 1) := by decide +kernel
theorem dX12_init_538 : decode cX12_init 538 = .ok (.dup, 1) := by decide +kernel
theorem dX12_init_539 : decode cX12_init 539 = .ok (.bipush 13, 2) := by decide +kernel
theorem dX12_init_541 : decode cX12_init 541 = .ok (.bipush 104, 2) := by decide +kernel
theorem dX12_init_543 : decode cX12_init 543 = .ok (.iastore, 1) := by decide +kernel
theorem dX12_init_544 : decode cX12_init 544 = .ok (.dup, 1) := by decide +kernel
theorem dX12_init_545 : decode cX12_init 545 = .ok (.bipush 14, 2) := by decide +kernel
theorem dX12_init_547 : decode cX12_init 547 = .ok (.bipush 101, 2) := by decide +kernel
theorem dX12_init_549 : decode cX12_init 549 = .ok (.iastore, 1) := by decide +kernel
theorem dX12_init_550 : decode cX12_init 550 = .ok (.dup, 1) := by decide +kernel
theorem dX12_init_551 : decode cX12_init 551 = .ok (.bipush 15, 2) := by decide +kernel
theorem dX12_init_553 : decode cX12_init 553 = .ok (.bipush 110, 2) := by decide +kernel
theorem dX12_init_555 : decode cX12_init 555 = .ok (.iastore, 1) := by decide +kernel
theorem dX12_init_556 : decode cX12_init 556 = .ok (.dup, 1) := by decide +kernel
theorem dX12_init_557 : decode cX12_init 557 = .ok (.bipush 16, 2) := by decide +kernel
theorem dX12_init_559 : decode cX12_init 559 = .ok (.bipush 32, 2) := by decide +kernel
theorem dX12_init_561 : decode cX12_init 561 = .ok (.iastore, 1) := by decide +kernel
theorem dX12_init_562 : decode cX12_init 562 = .ok (.dup, 1) := by decide +kernel
theorem dX12_init_563 : decode cX12_init 563 = .ok (.bipush 17, 2) := by decide +kernel
theorem dX12_init_565 : decode cX12_init 565 = .ok (.bipush 111, 2) := by decide +kernel
theorem dX12_init_567 : decode cX12_init 567 = .ok (.iastore, 1) := by decide +kernel
theorem dX12_init_568 : decode cX12_init 568 = .ok (.dup, 1) := by decide +kernel
theorem dX12_init_569 : decode cX12_init 569 = .ok (.bipush 18, 2) := by decide +kernel
theorem dX12_init_571 : decode cX12_init 571 = .ok (.bipush 114, 2) := by decide +kernel
theorem dX12_init_573 : decode cX12_init 573 = .ok (.iastore, 1) := by decide +kernel
theorem dX12_init_574 : decode cX12_init 574 = .ok (.dup, 1) := by decide +kernel
theorem dX12_init_575 : decode cX12_init 575 = .ok (.bipush 19, 2) := by decide +kernel
theorem dX12_init_577 : decode cX12_init 577 = .ok (.bipush 32, 2) := by decide +kernel
theorem dX12_init_579 : decode cX12_init 579 = .ok (.iastore, 1) := by decide +kernel
theorem dX12_init_580 : decode cX12_init 580 = .ok (.dup, 1) := by decide +kernel
theorem dX12_init_581 : decode cX12_init 581 = .ok (.bipush 20, 2) := by decide +kernel
theorem dX12_init_583 : decode cX12_init 583 = .ok (.bipush 97, 2) := by decide +kernel
theorem dX12_init_585 : decode cX12_init 585 = .ok (.iastore, 1) := by decide +kernel
theorem dX12_init_586 : decode cX12_init 586 = .ok (.dup, 1) := by decide +kernel
theorem dX12_init_587 : decode cX12_init 587 = .ok (.bipush 21, 2) := by decide +kernel
theorem dX12_init_589 : decode cX12_init 589 = .ok (.bipush 110, 2) := by decide +kernel
theorem dX12_init_591 : decode cX12_init 591 = .ok (.iastore, 1) := by decide +kernel
theorem dX12_init_592 : decode cX12_init 592 = .ok (.dup, 1) := by decide +kernel
theorem dX12_init_593 : decode cX12_init 593 = .ok (.bipush 22, 2) := by decide +kernel
theorem dX12_init_595 : decode cX12_init 595 = .ok (.bipush 100, 2) := by decide +kernel
theorem dX12_init_597 : decode cX12_init 597 = .ok (.iastore, 1) := by decide +kernel
theorem dX12_init_598 : decode cX12_init 598 = .ok (.dup, 1) := by decide +kernel
theorem dX12_init_599 : decode cX12_init 599 = .ok (.bipush 23, 2) := by decide +kernel
theorem dX12_init_601 : decode cX12_init 601 = .ok (.bipush 32, 2) := by decide +kernel
theorem dX12_init_603 : decode cX12_init 603 = .ok (.iastore, 1) := by decide +kernel
theorem dX12_init_604 : decode cX12_init 604 = .ok (.dup, 1) := by decide +kernel
theorem dX12_init_605 : decode cX12_init 605 = .ok (.bipush 24, 2) := by decide +kernel
theorem dX12_init_607 : decode cX12_init 607 = .ok (.bipush 110, 2) := by decide +kernel
theorem dX12_init_609 : decode cX12_init 609 = .ok (.iastore, 1) := by decide +kernel
theorem dX12_init_610 : decode cX12_init 610 = .ok (.dup, 1) := by decide +kernel
theorem dX12_init_611 : decode cX12_init 611 = .ok (.bipush 25, 2) := by decide +kernel
theorem dX12_init_613 : decode cX12_init 613 = .ok (.bipush 111, 2) := by decide +kernel
theorem dX12_init_615 : decode cX12_init 615 = .ok (.iastore, 1) := by decide +kernel
theorem dX12_init_616 : decode cX12_init 616 = .ok (.dup, 1) := by decide +kernel
theorem dX12_init_617 : decode cX12_init 617 = .ok (.bipush 26, 2) := by decide +kernel
theorem dX12_init_619 : decode cX12_init 619 = .ok (.bipush 116, 2) := by decide +kernel
theorem dX12_init_621 : decode cX12_init 621 = .ok (.iastore, 1) := by decide +kernel
theorem dX12_init_622 : decode cX12_init 622 = .ok (.dup, 1) := by decide +kernel
theorem dX12_init_623 : decode cX12_init 623 = .ok (.bipush 27, 2) := by decide +kernel
theorem dX12_init_625 : decode cX12_init 625 = .ok (.bipush 32, 2) := by decide +kernel
theorem dX12_init_627 : decode cX12_init 627 = .ok (.iastore, 1) := by decide +kernel
theorem dX12_init_628 : decode cX12_init 628 = .ok (.dup, 1) := by decide +kernel
theorem dX12_init_629 : decode cX12_init 629 = .ok (.bipush 28, 2) := by decide +kernel
theorem dX12_init_631 : decode cX12_init 631 = .ok (.bipush 119, 2) := by decide +kernel
theorem dX12_init_633 : decode cX12_init 633 = .ok (.iastore, 1) := by decide +kernel
theorem dX12_init_634 : decode cX12_init 634 = .ok (.dup, 1) := by decide +kernel
theorem dX12_init_635 : decode cX12_init 635 = .ok (.bipush 29, 2) := by decide +kernel
theorem dX12_init_637 : decode cX12_init 637 = .ok (.bipush 101, 2) := by decide +kernel
theorem dX12_init_639 : decode cX12_init 639 = .ok (.iastore, 1) := by decide +kernel
theorem dX12_init_640 : decode cX12_init 640 = .ok (.dup, 1) := by decide +kernel
theorem dX12_init_641 : decode cX12_init 641 = .ok (.bipush 30, 2) := by decide +kernel
theorem dX12_init_643 : decode cX12_init 643 = .ok (.bipush 101, 2) := by decide +kernel
theorem dX12_init_645 : decode cX12_init 645 = .ok (.iastore, 1) := by decide +kernel
theorem dX12_init_646 : decode cX12_init 646 = .ok (.dup, 1) := by decide +kernel
theorem dX12_init_647 : decode cX12_init 647 = .ok (.bipush 31, 2) := by decide +kernel
theorem dX12_init_649 : decode cX12_init 649 = .ok (.bipush 107, 2) := by decide +kernel
theorem dX12_init_651 : decode cX12_init 651 = .ok (.iastore, 1) := by decide +kernel
theorem dX12_init_652 : decode cX12_init 652 = .ok (.dup, 1) := by decide +kernel
theorem dX12_init_653 : decode cX12_init 653 = .ok (.bipush 32, 2) := by decide +kernel
theorem dX12_init_655 : decode cX12_init 655 = .ok (.bipush 32, 2) := by decide +kernel
theorem dX12_init_657 : decode cX12_init 657 = .ok (.iastore, 1) := by decide +kernel
theorem dX12_init_658 : decode cX12_init 658 = .ok (.dup, 1) := by decide +kernel
theorem dX12_init_659 : decode cX12_init 659 = .ok (.bipush 33, 2) := by decide +kernel
theorem dX12_init_661 : decode cX12_init 661 = .ok (.bipush 119, 2) := by decide +kernel
theorem dX12_init_663 : decode cX12_init 663 = .ok (.iastore, 1) := by decide +kernel
theorem dX12_init_664 : decode cX12_init 664 = .ok (.dup, 1) := by decide +kernel
theorem dX12_init_665 : decode cX12_init 665 = .ok (.bipush 34, 2) := by decide +kernel
theorem dX12_init_667 : decode cX12_init 667 = .ok (.bipush 97, 2) := by decide +kernel
theorem dX12_init_669 : decode cX12_init 669 = .ok (.iastore, 1) := by decide +kernel
theorem dX12_init_670 : decode cX12_init 670 = .ok (.dup, 1) := by decide +kernel
theorem dX12_init_671 : decode cX12_init 671 = .ok (.bipush 35, 2) := by decide +kernel
theorem dX12_init_673 : decode cX12_init 673 = .ok (.bipush 105, 2) := by decide +kernel
theorem dX12_init_675 : decode cX12_init 675 = .ok (.iastore, 1) := by decide +kernel
theorem dX12_init_676 : decode cX12_init 676 = .ok (.dup, 1) := by decide +kernel
theorem dX12_init_677 : decode cX12_init 677 = .ok (.bipush 36, 2) := by decide +kernel
theorem dX12_init_679 : decode cX12_init 679 = .ok (.bipush 116, 2) := by decide +kernel
theorem dX12_init_681 : decode cX12_init 681 = .ok (.iastore, 1) := by decide +kernel
theorem dX12_init_682 : decode cX12_init 682 = .ok (.dup, 1) := by decide +kernel
theorem dX12_init_683 : decode cX12_init 683 = .ok (.bipush 37, 2) := by decide +kernel
theorem dX12_init_685 : decode cX12_init 685 = .ok (.bipush 101, 2) := by decide +kernel
theorem dX12_init_687 : decode cX12_init 687 = .ok (.iastore, 1) := by decide +kernel
theorem dX12_init_688 : decode cX12_init 688 = .ok (.dup, 1) := by decide +kernel
theorem dX12_init_689 : decode cX12_init 689 = .ok (.bipush 38, 2) := by decide +kernel
theorem dX12_init_691 : decode cX12_init 691 = .ok (.bipush 100, 2) := by decide +kernel
theorem dX12_init_693 : decode cX12_init 693 = .ok (.iastore, 1) := by decide +kernel
theorem dX12_init_694 : decode cX12_init 694 = .ok (.dup, 1) := by decide +kernel
theorem dX12_init_695 : decode cX12_init 695 = .ok (.bipush 39, 2) := by decide +kernel
theorem dX12_init_697 : decode cX12_init 697 = .ok (.bipush 32, 2) := by decide +kernel
theorem dX12_init_699 : decode cX12_init 699 = .ok (.iastore, 1) := by decide +kernel
theorem dX12_init_700 : decode cX12_init 700 = .ok (.dup, 1) := by decide +kernel
theorem dX12_init_701 : decode cX12_init 701 = .ok (.bipush 40, 2) := by decide +kernel
theorem dX12_init_703 : decode cX12_init 703 = .ok (.bipush 115, 2) := by decide +kernel
theorem dX12_init_705 : decode cX12_init 705 = .ok (.iastore, 1) := by decide +kernel
theorem dX12_init_706 : decode cX12_init 706 = .ok (.dup, 1) := by decide +kernel
theorem dX12_init_707 : decode cX12_init 707 = .ok (.bipush 41, 2) := by decide +kernel
theorem dX12_init_709 : decode cX12_init 709 = .ok (.bipush 111, 2) := by decide +kernel
theorem dX12_init_711 : decode cX12_init 711 = .ok (.iastore, 1) := by decide +kernel
theorem dX12_init_712 : decode cX12_init 712 = .ok (.dup, 1) := by decide +kernel
theorem dX12_init_713 : decode cX12_init 713 = .ok (.bipush 42, 2) := by decide +kernel
theorem dX12_init_715 : decode cX12_init 715 = .ok (.bipush 114, 2) := by decide +kernel
theorem dX12_init_717 : decode cX12_init 717 = .ok (.iastore, 1) := by decide +kernel
theorem dX12_init_718 : decode cX12_init 718 = .ok (.dup, 1) := by decide +kernel
theorem dX12_init_719 : decode cX12_init 719 = .ok (.bipush 43, 2) := by decide +kernel
theorem dX12_init_721 : decode cX12_init 721 = .ok (.bipush 116, 2) := by decide +kernel
theorem dX12_init_723 : decode cX12_init 723 = .ok (.iastore, 1) := by decide +kernel
theorem dX12_init_724 : decode cX12_init 724 = .ok (.dup, 1) := by decide +kernel
theorem dX12_init_725 : decode cX12_init 725 = .ok (.bipush 44, 2) := by decide +kernel
theorem dX12_init_727 : decode cX12_init 727 = .ok (.bipush 32, 2) := by decide +kernel
theorem dX12_init_729 : decode cX12_init 729 = .ok (.iastore, 1) := by decide +kernel
theorem dX12_init_730 : decode cX12_init 730 = .ok (.dup, 1) := by decide +kernel
theorem dX12_init_731 : decode cX12_init 731 = .ok (.bipush 45, 2) := by decide +kernel
theorem dX12_init_733 : decode cX12_init 733 = .ok (.bipush 109, 2) := by decide +kernel
theorem dX12_init_735 : decode cX12_init 735 = .ok (.iastore, 1) := by decide +kernel
theorem dX12_init_736 : decode cX12_init 736 = .ok (.dup, 1) := by decide +kernel
theorem dX12_init_737 : decode cX12_init 737 = .ok (.bipush 46, 2) := by decide +kernel
theorem dX12_init_739 : decode cX12_init 739 = .ok (.bipush 105, 2) := by decide +kernel
theorem dX12_init_741 : decode cX12_init 741 = .ok (.iastore, 1) := by decide +kernel
theorem dX12_init_742 : decode cX12_init 742 = .ok (.dup, 1) := by decide +kernel
theorem dX12_init_743 : decode cX12_init 743 = .ok (.bipush 47, 2) := by decide +kernel
theorem dX12_init_745 : decode cX12_init 745 = .ok (.bipush 110, 2) := by decide +kernel
theorem dX12_init_747 : decode cX12_init 747 = .ok (.iastore, 1) := by decide +kernel
theorem dX12_init_748 : decode cX12_init 748 = .ok (.dup, 1) := by decide +kernel
theorem dX12_init_749 : decode cX12_init 749 = .ok (.bipush 48, 2) := by decide +kernel
theorem dX12_init_751 : decode cX12_init 751 = .ok (.bipush 101, 2) := by decide +kernel
theorem dX12_init_753 : decode cX12_init 753 = .ok (.iastore, 1) := by decide +kernel
theorem dX12_init_754 : decode cX12_init 754 = .ok (.dup, 1) := by decide +kernel
theorem dX12_init_755 : decode cX12_init 755 = .ok (.bipush 49, 2) := by decide +kernel
theorem dX12_init_757 : decode cX12_init 757 = .ok (.bipush 32, 2) := by decide +kernel
theorem dX12_init_759 : decode cX12_init 759 = .ok (.iastore, 1) := by decide +kernel
theorem dX12_init_760 : decode cX12_init 760 = .ok (.dup, 1) := by decide +kernel
theorem dX12_init_761 : decode cX12_init 761 = .ok (.bipush 50, 2) := by decide +kernel
theorem dX12_init_763 : decode cX12_init 763 = .ok (.bipush 98, 2) := by decide +kernel
theorem dX12_init_765 : decode cX12_init 765 = .ok (.iastore, 1) := by decide +kernel
theorem dX12_init_766 : decode cX12_init 766 = .ok (.dup, 1) := by decide +kernel
theorem dX12_init_767 : decode cX12_init 767 = .ok (.bipush 51, 2) := by decide +kernel
theorem dX12_init_769 : decode cX12_init 769 = .ok (.bipush 101, 2) := by decide +kernel
theorem dX12_init_771 : decode cX12_init 771 = .ok (.iastore, 1) := by decide +kernel
theorem dX12_init_772 : decode cX12_init 772 = .ok (.dup, 1) := by decide +kernel
theorem dX12_init_773 : decode cX12_init 773 = .ok (.bipush 52, 2) := by decide +kernel
theorem dX12_init_775 : decode cX12_init 775 = .ok (.bipush 115, 2) := by decide +kernel
theorem dX12_init_777 : decode cX12_init 777 = .ok (.iastore, 1) := by decide +kernel
theorem dX12_init_778 : decode cX12_init 778 = .ok (.dup, 1) := by decide +kernel
theorem dX12_init_779 : decode cX12_init 779 = .ok (.bipush 53, 2) := by decide +kernel
theorem dX12_init_781 : decode cX12_init 781 = .ok (.bipush 116, 2) := by decide +kernel
theorem dX12_init_783 : decode cX12_init 783 = .ok (.iastore, 1) := by decide +kernel
theorem dX12_init_784 : decode cX12_init 784 = .ok (.dup, 1) := by decide +kernel
theorem dX12_init_785 : decode cX12_init 785 = .ok (.bipush 54, 2) := by decide +kernel
theorem dX12_init_787 : decode cX12_init 787 = .ok (.bipush 32, 2) := by decide +kernel
theorem dX12_init_789 : decode cX12_init 789 = .ok (.iastore, 1) := by decide +kernel
theorem dX12_init_790 : decode cX12_init 790 = .ok (.dup, 1) := by decide +kernel
theorem dX12_init_791 : decode cX12_init 791 = .ok (.bipush 55, 2) := by decide +kernel
theorem dX12_init_793 : decode cX12_init 793 = .ok (.bipush 116, 2) := by decide +kernel
theorem dX12_init_795 : decode cX12_init 795 = .ok (.iastore, 1) := by decide +kernel
theorem dX12_init_796 : decode cX12_init 796 = .ok (.dup, 1) := by decide +kernel
theorem dX12_init_797 : decode cX12_init 797 = .ok (.bipush 56, 2) := by decide +kernel
theorem dX12_init_799 : decode cX12_init 799 = .ok (.bipush 111, 2) := by decide +kernel
theorem dX12_init_801 : decode cX12_init 801 = .ok (.iastore, 1) := by decide +kernel
theorem dX12_init_802 : decode cX12_init 802 = .ok (.dup, 1) := by decide +kernel
theorem dX12_init_803 : decode cX12_init 803 = .ok (.bipush 57, 2) := by decide +kernel
theorem dX12_init_805 : decode cX12_init 805 = .ok (.bipush 108, 2) := by decide +kernel
theorem dX12_init_807 : decode cX12_init 807 = .ok (.iastore, 1) := by decide +kernel
theorem dX12_init_808 : decode cX12_init 808 = .ok (.dup, 1) := by decide +kernel
theorem dX12_init_809 : decode cX12_init 809 = .ok (.bipush 58, 2) := by decide +kernel
theorem dX12_init_811 : decode cX12_init 811 = .ok (.bipush 100, 2) := by decide +kernel
theorem dX12_init_813 : decode cX12_init 813 = .ok (.iastore, 1) := by decide +kernel
theorem dX12_init_814 : decode cX12_init 814 = .ok (.dup, 1) := by decide +kernel
theorem dX12_init_815 : decode cX12_init 815 = .ok (.bipush 59, 2) := by decide +kernel
theorem dX12_init_817 : decode cX12_init 817 = .ok (.bipush 32, 2) := by decide +kernel
theorem dX12_init_819 : decode cX12_init 819 = .ok (.iastore, 1) := by decide +kernel
theorem dX12_init_820 : decode cX12_init 820 = .ok (.dup, 1) := by decide +kernel
theorem dX12_init_821 : decode cX12_init 821 = .ok (.bipush 60, 2) := by decide +kernel
theorem dX12_init_823 : decode cX12_init 823 = .ok (.bipush 119, 2) := by decide +kernel
theorem dX12_init_825 : decode cX12_init 825 = .ok (.iastore, 1) := by decide +kernel
theorem dX12_init_826 : decode cX12_init 826 = .ok (.dup, 1) := by decide +kernel
theorem dX12_init_827 : decode cX12_init 827 = .ok (.bipush 61, 2) := by decide +kernel
theorem dX12_init_829 : decode cX12_init 829 = .ok (.bipush 97, 2) := by decide +kernel
theorem dX12_init_831 : decode cX12_init 831 = .ok (.iastore, 1) := by decide +kernel
theorem dX12_init_832 : decode cX12_init 832 = .ok (.dup, 1) := by decide +kernel
theorem dX12_init_833 : decode cX12_init 833 = .ok (.bipush 62, 2) := by decide +kernel
theorem dX12_init_835 : decode cX12_init 835 = .ok (.bipush 105, 2) := by decide +kernel
theorem dX12_init_837 : decode cX12_init 837 = .ok (.iastore, 1) := by decide +kernel
theorem dX12_init_838 : decode cX12_init 838 = .ok (.dup, 1) := by decide +kernel
theorem dX12_init_839 : decode cX12_init 839 = .ok (.bipush 63, 2) := by decide +kernel
theorem dX12_init_841 : decode cX12_init 841 = .ok (.bipush 116, 2) := by decide +kernel
theorem dX12_init_843 : decode cX12_init 843 = .ok (.iastore, 1) := by decide +kernel
theorem dX12_init_844 : decode cX12_init 844 = .ok (.dup, 1) := by decide +kernel
theorem dX12_init_845 : decode cX12_init 845 = .ok (.bipush 64, 2) := by decide +kernel
theorem dX12_init_847 : decode cX12_init 847 = .ok (.bipush 32, 2) := by decide +kernel
theorem dX12_init_849 : decode cX12_init 849 = .ok (.iastore, 1) := by decide +kernel
theorem dX12_init_850 : decode cX12_init 850 = .ok (.putfield 50, 3) := by decide +kernel
theorem dX12_init_853 : decode cX12_init 853 = .ok (.aload_n 0, 1) := by decide +kernel
theorem dX12_init_854 : decode cX12_init 854 = .ok (.bipush 7, 2) := by decide +kernel
theorem dX12_init_856 : decode cX12_init 856 = .ok (.newarray .int, 2) := by decide +kernel
theorem dX12_init_858 : decode cX12_init 858 = .ok (.putfield 53, 3) := by decide +kernel
theorem dX12_init_861 : decode cX12_init 861 = .ok (.aload_n 0, 1) := by decide +kernel
theorem dX12_init_862 : decode cX12_init 862 = .ok (.bipush 84, 2) := by decide +kernel
theorem dX12_init_864 : decode cX12_init 864 = .ok (.newarray .int, 2) := by decide +kernel
theorem dX12_init_866 : decode cX12_init 866 = .ok (.putfield 56, 3) := by decide +kernel
theorem dX12_init_869 : decode cX12_init 869 = .ok (.aload_n 0, 1) := by decide +kernel
theorem dX12_init_870 : decode cX12_init 870 = .ok (.bipush 84, 2) := by decide +kernel
theorem dX12_init_872 : decode cX12_init 872 = .ok (.newarray .int, 2) := by decide +kernel
theorem dX12_init_874 : decode cX12_init 874 = .ok (.putfield 59, 3) := by decide +kernel
theorem dX12_init_877 : decode cX12_init 877 = .ok (.aload_n 0, 1) := by decide +kernel
theorem dX12_init_878 : decode cX12_init 878 = .ok (.bipush 84, 2) := by decide +kernel
theorem dX12_init_880 : decode cX12_init 880 = .ok (.newarray .int, 2) := by decide +kernel
theorem dX12_init_882 : decode cX12_init 882 = .ok (.putfield 62, 3) := by decide +kernel
theorem dX12_init_885 : decode cX12_init 885 = .ok (.aload_n 0, 1) := by decide +kernel
theorem dX12_init_886 : decode cX12_init 886 = .ok (.bipush 84, 2) := by decide +kernel
theorem dX12_init_888 : decode cX12_init 888 = .ok (.newarray .int, 2) := by decide +kernel
theorem dX12_init_890 : decode cX12_init 890 = .ok (.putfield 65, 3) := by decide +kernel
theorem dX12_init_893 : decode cX12_init 893 = .ok (.aload_n 0, 1) := by decide +kernel
theorem dX12_init_894 : decode cX12_init 894 = .ok (.sipush 2800, 3) := by decide +kernel
theorem dX12_init_897 : decode cX12_init 897 = .ok (.newarray .int, 2) := by decide +kernel
theorem dX12_init_899 : decode cX12_init 899 = .ok (.putfield 68, 3) := by decide +kernel
theorem dX12_init_902 : decode cX12_init 902 = .ok (.aload_n 0, 1) := by decide +kernel
theorem dX12_init_903 : decode cX12_init 903 = .ok (.sipush 2800, 3) := by decide +kernel
theorem dX12_init_906 : decode cX12_init 906 = .ok (.newarray .int, 2) := by decide +kernel
theorem dX12_init_908 : decode cX12_init 908 = .ok (.putfield 71, 3) := by decide +kernel
theorem dX12_init_911 : decode cX12_init 911 = .ok (.aload_n 0, 1) := by decide +kernel
theorem dX12_init_912 : decode cX12_init 912 = .ok (.bipush 40, 2) := by decide +kernel
theorem dX12_init_914 : decode cX12_init 914 = .ok (.newarray .int, 2) := by decide +kernel
theorem dX12_init_916 : decode cX12_init 916 = .ok (.putfield 74, 3) := by decide +kernel
theorem dX12_init_919 : decode cX12_init 919 = .ok (.aload_n 0, 1) := by decide +kernel
theorem dX12_init_920 : decode cX12_init 920 = .ok (.iconst (-1), 1) := by decide +kernel
theorem dX12_init_921 : decode cX12_init 921 = .ok (.putfield 77, 3) := by decide +kernel
theorem dX12_init_924 : decode cX12_init 924 = .ok (.aload_n 0, 1) := by decide +kernel
theorem dX12_init_925 : decode cX12_init 925 = .ok (.bipush 40, 2) := by decide +kernel
theorem dX12_init_927 : decode cX12_init 927 = .ok (.newarray .int, 2) := by decide +kernel
theorem dX12_init_929 : decode cX12_init 929 = .ok (.putfield 80, 3) := by decide +kernel
theorem dX12_init_932 : decode cX12_init 932 = .ok (.aload_n 0, 1) := by decide +kernel
theorem dX12_init_933 : decode cX12_init 933 = .ok (.bipush 40, 2) := by decide +kernel
theorem dX12_init_935 : decode cX12_init 935 = .ok (.newarray .int, 2) := by decide +kernel
theorem dX12_init_937 : decode cX12_init 937 = .ok (.putfield 83, 3) := by decide +kernel
theorem dX12_init_940 : decode cX12_init 940 = .ok (.aload_n 0, 1) := by decide +kernel
theorem dX12_init_941 : decode cX12_init 941 = .ok (.bipush 40, 2) := by decide +kernel
theorem dX12_init_943 : decode cX12_init 943 = .ok (.newarray .int, 2) := by decide +kernel
theorem dX12_init_945 : decode cX12_init 945 = .ok (.putfield 86, 3) := by decide +kernel
theorem dX12_init_948 : decode cX12_init 948 = .ok (.aload_n 0, 1) := by decide +kernel
theorem dX12_init_949 : decode cX12_init 949 = .ok (.bipush 40, 2) := by decide +kernel
theorem dX12_init_951 : decode cX12_init 951 = .ok (.newarray .int, 2) := by decide +kernel
theorem dX12_init_953 : decode cX12_init 953 = .ok (.putfield 89, 3) := by decide +kernel
theorem dX12_init_956 : decode cX12_init 956 = .ok (.aload_n 0, 1) := by decide +kernel
theorem dX12_init_957 : decode cX12_init 957 = .ok (.bipush 40, 2) := by decide +kernel
theorem dX12_init_959 : decode cX12_init 959 = .ok (.newarray .int, 2) := by decide +kernel
theorem dX12_init_961 : decode cX12_init 961 = .ok (.putfield 92, 3) := by decide +kernel
theorem dX12_init_964 : decode cX12_init 964 = .ok (.aload_n 0, 1) := by decide +kernel
theorem dX12_init_965 : decode cX12_init 965 = .ok (.bipush 40, 2) := by decide +kernel
theorem dX12_init_967 : decode cX12_init 967 = .ok (.newarray .int, 2) := by decide +kernel
theorem dX12_init_969 : decode cX12_init 969 = .ok (.putfield 95, 3) := by decide +kernel
theorem dX12_init_972 : decode cX12_init 972 = .ok (.aload_n 0, 1) := by decide +kernel
theorem dX12_init_973 : decode cX12_init 973 = .ok (.bipush 40, 2) := by decide +kernel
theorem dX12_init_975 : decode cX12_init 975 = .ok (.newarray .int, 2) := by decide +kernel
theorem dX12_init_977 : decode cX12_init 977 = .ok (.putfield 98, 3) := by decide +kernel
theorem dX12_init_980 : decode cX12_init 980 = .ok (.aload_n 0, 1) := by decide +kernel
theorem dX12_init_981 : decode cX12_init 981 = .ok (.bipush 40, 2) := by decide +kernel
theorem dX12_init_983 : decode cX12_init 983 = .ok (.newarray .boolean, 2) := by decide +kernel
theorem dX12_init_985 : decode cX12_init 985 = .ok (.putfield 101, 3) := by decide +kernel
theorem dX12_init_988 : decode cX12_init 988 = .ok (.aload_n 0, 1) := by decide +kernel
theorem dX12_init_989 : decode cX12_init 989 = .ok (.bipush 40, 2) := by decide +kernel
theorem dX12_init_991 : decode cX12_init 991 = .ok (.newarray .int, 2) := by decide +kernel
theorem dX12_init_993 : decode cX12_init 993 = .ok (.putfield 105, 3) := by decide +kernel
theorem dX12_init_996 : decode cX12_init 996 = .ok (.aload_n 0, 1) := by decide +kernel
theorem dX12_init_997 : decode cX12_init 997 = .ok (.bipush 40, 2) := by decide +kernel
theorem dX12_init_999 : decode cX12_init 999 = .ok (.newarray .int, 2) := by decide +kernel
theorem dX12_init_1001 : decode cX12_init 1001 = .ok (.putfield 108, 3) := by decide +kernel
theorem dX12_init_1004 : decode cX12_init 1004 = .ok (.aload_n 0, 1) := by decide +kernel
theorem dX12_init_1005 : decode cX12_init 1005 = .ok (.bipush 7, 2) := by decide +kernel
theorem dX12_init_1007 : decode cX12_init 1007 = .ok (.newarray .int, 2) := by decide +kernel
theorem dX12_init_1009 : decode cX12_init 1009 = .ok (.putfield 111, 3) := by decide +kernel
theorem dX12_init_1012 : decode cX12_init 1012 = .ok (.aload_n 0, 1) := by decide +kernel
theorem dX12_init_1013 : decode cX12_init 1013 = .ok (.sipush 420, 3) := by decide +kernel
theorem dX12_init_1016 : decode cX12_init 1016 = .ok (.newarray .int, 2) := by decide +kernel
theorem dX12_init_1018 : decode cX12_init 1018 = .ok (.putfield 114, 3) := by decide +kernel
theorem dX12_init_1021 : decode cX12_init 1021 = .ok (.aload_n 0, 1) := by decide +kernel
theorem dX12_init_1022 : decode cX12_init 1022 = .ok (.iconst 3, 1) := by decide +kernel
theorem dX12_init_1023 : decode cX12_init 1023 = .ok (.putfield 117, 3) := by decide +kernel
theorem dX12_init_1026 : decode cX12_init 1026 = .ok (.aload_n 0, 1) := by decide +kernel
theorem dX12_init_1027 : decode cX12_init 1027 = .ok (.bipush 98, 2) := by decide +kernel
theorem dX12_init_1029 : decode cX12_init 1029 = .ok (.newarray .int, 2) := by decide +kernel
theorem dX12_init_1031 : decode cX12_init 1031 = .ok (.putfield 120, 3) := by decide +kernel
theorem dX12_init_1034 : decode cX12_init 1034 = .ok (.aload_n 0, 1) := by decide +kernel
theorem dX12_init_1035 : decode cX12_init 1035 = .ok (.bipush 7, 2) := by decide +kernel
theorem dX12_init_1037 : decode cX12_init 1037 = .ok (.newarray .int, 2) := by decide +kernel
theorem dX12_init_1039 : decode cX12_init 1039 = .ok (.putfield 123, 3) := by decide +kernel
theorem dX12_init_1042 : decode cX12_init 1042 = .ok (.aload_n 0, 1) := by decide +kernel
theorem dX12_init_1043 : decode cX12_init 1043 = .ok (.ldc 126, 2) := by decide +kernel
theorem dX12_init_1045 : decode cX12_init 1045 = .ok (.newarray .int, 2) := by decide +kernel
theorem dX12_init_1047 : decode cX12_init 1047 = .ok (.putfield 127, 3) := by decide +kernel
theorem dX12_init_1050 : decode cX12_init 1050 = .ok (.aload_n 0, 1) := by decide +kernel
theorem dX12_init_1051 : decode cX12_init 1051 = .ok (.bipush 7, 2) := by decide +kernel
theorem dX12_init_1053 : decode cX12_init 1053 = .ok (.newarray .int, 2) := by decide +kernel
theorem dX12_init_1055 : decode cX12_init 1055 = .ok (.putfield 130, 3) := by decide +kernel
theorem dX12_init_1058 : decode cX12_init 1058 = .ok (.aload_n 0, 1) := by decide +kernel
theorem dX12_init_1059 : decode cX12_init 1059 = .ok (.bipush 7, 2) := by decide +kernel
theorem dX12_init_1061 : decode cX12_init 1061 = .ok (.newarray .int, 2) := by decide +kernel
theorem dX12_init_1063 : decode cX12_init 1063 = .ok (.putfield 133, 3) := by decide +kernel
theorem dX12_init_1066 : decode cX12_init 1066 = .ok (.aload_n 0, 1) := by decide +kernel
theorem dX12_init_1067 : decode cX12_init 1067 = .ok (.bipush 7, 2) := by decide +kernel
theorem dX12_init_1069 : decode cX12_init 1069 = .ok (.newarray .int, 2) := by decide +kernel
theorem dX12_init_1071 : decode cX12_init 1071 = .ok (.putfield 136, 3) := by decide +kernel
theorem dX12_init_1074 : decode cX12_init 1074 = .ok (.aload_n 0, 1) := by decide +kernel
theorem dX12_init_1075 : decode cX12_init 1075 = .ok (.bipush 7, 2) := by decide +kernel
theorem dX12_init_1077 : decode cX12_init 1077 = .ok (.newarray .int, 2) := by decide +kernel
theorem dX12_init_1079 : decode cX12_init 1079 = .ok (.putfield 139, 3) := by decide +kernel
theorem dX12_init_1082 : decode cX12_init 1082 = .ok (.return_, 1) := by decide +kernel
theorem dX12_isIn_0 : decode cX12_isIn 0 = .ok (.iload_n 1, 1) := by decide +kernel
theorem dX12_isIn_1 : decode cX12_isIn 1 = .ok (.iload_n 2, 1) := by decide +kernel
theorem dX12_isIn_2 : decode cX12_isIn 2 = .ok (.if_icmp .lt 12, 3) := by decide +kernel
theorem dX12_isIn_5 : decode cX12_isIn 5 = .ok (.iload_n 1, 1) := by decide +kernel
theorem dX12_isIn_6 : decode cX12_isIn 6 = .ok (.iload_n 3, 1) := by decide +kernel
theorem dX12_isIn_7 : decode cX12_isIn 7 = .ok (.if_icmp .gt 7, 3) := by decide +kernel
theorem dX12_isIn_10 : decode cX12_isIn 10 = .ok (.iconst 1, 1) := by decide +kernel
theorem dX12_isIn_11 : decode cX12_isIn 11 = .ok (.goto 4, 3) := by decide +kernel
theorem dX12_isIn_14 : decode cX12_isIn 14 = .ok (.iconst 0, 1) := by decide +kernel
theorem dX12_isIn_15 : decode cX12_isIn 15 = .ok (.ireturn, 1) := by decide +kernel
theorem dX12_isSide_0 : decode cX12_isSide 0 = .ok (.iload_n 1, 1) := by decide +kernel
theorem dX12_isSide_1 : decode cX12_isSide 1 = .ok (.ifCond .eq 8, 3) := by decide +kernel
theorem dX12_isSide_4 : decode cX12_isSide 4 = .ok (.iload_n 1, 1) := by decide +kernel
theorem dX12_isSide_5 : decode cX12_isSide 5 = .ok (.iconst 1, 1) := by decide +kernel
theorem dX12_isSide_6 : decode cX12_isSide 6 = .ok (.if_icmp .ne 7, 3) := by decide +kernel
theorem dX12_isSide_9 : decode cX12_isSide 9 = .ok (.iconst 1, 1) := by decide +kernel
theorem dX12_isSide_10 : decode cX12_isSide 10 = .ok (.goto 4, 3) := by decide +kernel
theorem dX12_isSide_13 : decode cX12_isSide 13 = .ok (.iconst 0, 1) := by decide +kernel
theorem dX12_isSide_14 : decode cX12_isSide 14 = .ok (.ireturn, 1) := by decide +kernel
theorem dX12_isSort_0 : decode cX12_isSort 0 = .ok (.aload_n 0, 1) := by decide +kernel
theorem dX12_isSort_1 : decode cX12_isSort 1 = .ok (.iload_n 1, 1) := by decide +kernel
theorem dX12_isSort_2 : decode cX12_isSort 2 = .ok (.invokevirtual 145, 3) := by decide +kernel
theorem dX12_isSort_5 : decode cX12_isSort 5 = .ok (.ifCond .eq 24, 3) := by decide +kernel
