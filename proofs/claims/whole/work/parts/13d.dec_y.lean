theorem dX5_plan_122 : decode cX5_plan 122 = .ok (.iload 4, 2) := by decide +kernel
theorem dX5_plan_124 : decode cX5_plan 124 = .ok (.iaload, 1) := by decide +kernel
theorem dX5_plan_125 : decode cX5_plan 125 = .ok (.if_icmp .ne 44, 3) := by decide +kernel
theorem dX5_plan_128 : decode cX5_plan 128 = .ok (.iload 5, 2) := by decide +kernel
theorem dX5_plan_130 : decode cX5_plan 130 = .ok (.aload_n 0, 1) := by decide +kernel
theorem dX5_plan_131 : decode cX5_plan 131 = .ok (.getfield 15, 3) := by decide +kernel
theorem dX5_plan_134 : decode cX5_plan 134 = .ok (.iload 4, 2) := by decide +kernel
theorem dX5_plan_136 : decode cX5_plan 136 = .ok (.iaload, 1) := by decide +kernel
theorem dX5_plan_137 : decode cX5_plan 137 = .ok (.if_icmp .le 32, 3) := by decide +kernel
theorem dX5_plan_140 : decode cX5_plan 140 = .ok (.aload_n 0, 1) := by decide +kernel
theorem dX5_plan_141 : decode cX5_plan 141 = .ok (.getfield 9, 3) := by decide +kernel
theorem dX5_plan_144 : decode cX5_plan 144 = .ok (.iload 4, 2) := by decide +kernel
theorem dX5_plan_146 : decode cX5_plan 146 = .ok (.iload 8, 2) := by decide +kernel
theorem dX5_plan_148 : decode cX5_plan 148 = .ok (.iastore, 1) := by decide +kernel
theorem dX5_plan_149 : decode cX5_plan 149 = .ok (.aload_n 0, 1) := by decide +kernel
theorem dX5_plan_150 : decode cX5_plan 150 = .ok (.getfield 15, 3) := by decide +kernel
theorem dX5_plan_153 : decode cX5_plan 153 = .ok (.iload 4, 2) := by decide +kernel
theorem dX5_plan_155 : decode cX5_plan 155 = .ok (.iload 5, 2) := by decide +kernel
theorem dX5_plan_157 : decode cX5_plan 157 = .ok (.iastore, 1) := by decide +kernel
theorem dX5_plan_158 : decode cX5_plan 158 = .ok (.aload_n 0, 1) := by decide +kernel
theorem dX5_plan_159 : decode cX5_plan 159 = .ok (.getfield 18, 3) := by decide +kernel
theorem dX5_plan_162 : decode cX5_plan 162 = .ok (.iload 4, 2) := by decide +kernel
theorem dX5_plan_164 : decode cX5_plan 164 = .ok (.iload 7, 2) := by decide +kernel
theorem dX5_plan_166 : decode cX5_plan 166 = .ok (.iconst 1, 1) := by decide +kernel
theorem dX5_plan_167 : decode cX5_plan 167 = .ok (.iadd, 1) := by decide +kernel
theorem dX5_plan_168 : decode cX5_plan 168 = .ok (.iastore, 1) := by decide +kernel
theorem dX5_plan_169 : decode cX5_plan 169 = .ok (.iinc 7 1, 3) := by decide +kernel
theorem dX5_plan_172 : decode cX5_plan 172 = .ok (.goto (-145), 3) := by decide +kernel
theorem dX5_plan_175 : decode cX5_plan 175 = .ok (.iinc 4 (-1), 3) := by decide +kernel
theorem dX5_plan_178 : decode cX5_plan 178 = .ok (.goto (-166), 3) := by decide +kernel
theorem dX5_plan_181 : decode cX5_plan 181 = .ok (.iconst 0, 1) := by decide +kernel
theorem dX5_plan_182 : decode cX5_plan 182 = .ok (.istore 4, 2) := by decide +kernel
theorem dX5_plan_184 : decode cX5_plan 184 = .ok (.iload 4, 2) := by decide +kernel
theorem dX5_plan_186 : decode cX5_plan 186 = .ok (.bipush 8, 2) := by decide +kernel
theorem dX5_plan_188 : decode cX5_plan 188 = .ok (.if_icmp .ge 56, 3) := by decide +kernel
theorem dX5_plan_191 : decode cX5_plan 191 = .ok (.iload 4, 2) := by decide +kernel
theorem dX5_plan_193 : decode cX5_plan 193 = .ok (.iconst 1, 1) := by decide +kernel
theorem dX5_plan_194 : decode cX5_plan 194 = .ok (.iadd, 1) := by decide +kernel
theorem dX5_plan_195 : decode cX5_plan 195 = .ok (.istore 5, 2) := by decide +kernel
theorem dX5_plan_197 : decode cX5_plan 197 = .ok (.iload 5, 2) := by decide +kernel
theorem dX5_plan_199 : decode cX5_plan 199 = .ok (.aload_n 0, 1) := by decide +kernel
theorem dX5_plan_200 : decode cX5_plan 200 = .ok (.getfield 18, 3) := by decide +kernel
theorem dX5_plan_203 : decode cX5_plan 203 = .ok (.iload 4, 2) := by decide +kernel
theorem dX5_plan_205 : decode cX5_plan 205 = .ok (.iaload, 1) := by decide +kernel
theorem dX5_plan_206 : decode cX5_plan 206 = .ok (.if_icmp .ge 32, 3) := by decide +kernel
theorem dX5_plan_209 : decode cX5_plan 209 = .ok (.iload 5, 2) := by decide +kernel
theorem dX5_plan_211 : decode cX5_plan 211 = .ok (.bipush 8, 2) := by decide +kernel
theorem dX5_plan_213 : decode cX5_plan 213 = .ok (.if_icmp .ge 25, 3) := by decide +kernel
theorem dX5_plan_216 : decode cX5_plan 216 = .ok (.aload_n 0, 1) := by decide +kernel
theorem dX5_plan_217 : decode cX5_plan 217 = .ok (.getfield 15, 3) := by decide +kernel
theorem dX5_plan_220 : decode cX5_plan 220 = .ok (.iload 5, 2) := by decide +kernel
theorem dX5_plan_222 : decode cX5_plan 222 = .ok (.iconst 0, 1) := by decide +kernel
theorem dX5_plan_223 : decode cX5_plan 223 = .ok (.iastore, 1) := by decide +kernel
theorem dX5_plan_224 : decode cX5_plan 224 = .ok (.aload_n 0, 1) := by decide +kernel
theorem dX5_plan_225 : decode cX5_plan 225 = .ok (.getfield 18, 3) := by decide +kernel
theorem dX5_plan_228 : decode cX5_plan 228 = .ok (.iload 5, 2) := by decide +kernel
theorem dX5_plan_230 : decode cX5_plan 230 = .ok (.iconst 0, 1) := by decide +kernel
theorem dX5_plan_231 : decode cX5_plan 231 = .ok (.iastore, 1) := by decide +kernel
theorem dX5_plan_232 : decode cX5_plan 232 = .ok (.iinc 5 1, 3) := by decide +kernel
theorem dX5_plan_235 : decode cX5_plan 235 = .ok (.goto (-38), 3) := by decide +kernel
theorem dX5_plan_238 : decode cX5_plan 238 = .ok (.iinc 4 1, 3) := by decide +kernel
theorem dX5_plan_241 : decode cX5_plan 241 = .ok (.goto (-57), 3) := by decide +kernel
theorem dX5_plan_244 : decode cX5_plan 244 = .ok (.return_, 1) := by decide +kernel
theorem dX6_init_0 : decode cX6_init 0 = .ok (.aload_n 0, 1) := by decide +kernel
theorem dX6_init_1 : decode cX6_init 1 = .ok (.invokespecial 3, 3) := by decide +kernel
theorem dX6_init_4 : decode cX6_init 4 = .ok (.aload_n 0, 1) := by decide +kernel
theorem dX6_init_5 : decode cX6_init 5 = .ok (.new 9, 3) := by decide +kernel
theorem dX6_init_8 : decode cX6_init 8 = .ok (.dup, 1) := by decide +kernel
theorem dX6_init_9 : decode cX6_init 9 = .ok (.bipush 12, 2) := by decide +kernel
theorem dX6_init_11 : decode cX6_init 11 = .ok (.invokespecial 11, 3) := by decide +kernel
theorem dX6_init_14 : decode cX6_init 14 = .ok (.putfield 14, 3) := by decide +kernel
theorem dX6_init_17 : decode cX6_init 17 = .ok (.aload_n 0, 1) := by decide +kernel
theorem dX6_init_18 : decode cX6_init 18 = .ok (.bipush 13, 2) := by decide +kernel
theorem dX6_init_20 : decode cX6_init 20 = .ok (.newarray .int, 2) := by decide +kernel
theorem dX6_init_22 : decode cX6_init 22 = .ok (.putfield 20, 3) := by decide +kernel
theorem dX6_init_25 : decode cX6_init 25 = .ok (.aload_n 0, 1) := by decide +kernel
theorem dX6_init_26 : decode cX6_init 26 = .ok (.bipush 13, 2) := by decide +kernel
theorem dX6_init_28 : decode cX6_init 28 = .ok (.newarray .int, 2) := by decide +kernel
theorem dX6_init_30 : decode cX6_init 30 = .ok (.putfield 24, 3) := by decide +kernel
theorem dX6_init_33 : decode cX6_init 33 = .ok (.aload_n 0, 1) := by decide +kernel
theorem dX6_init_34 : decode cX6_init 34 = .ok (.bipush 13, 2) := by decide +kernel
theorem dX6_init_36 : decode cX6_init 36 = .ok (.newarray .int, 2) := by decide +kernel
theorem dX6_init_38 : decode cX6_init 38 = .ok (.putfield 27, 3) := by decide +kernel
theorem dX6_init_41 : decode cX6_init 41 = .ok (.aload_n 0, 1) := by decide +kernel
theorem dX6_init_42 : decode cX6_init 42 = .ok (.bipush 13, 2) := by decide +kernel
theorem dX6_init_44 : decode cX6_init 44 = .ok (.bipush 13, 2) := by decide +kernel
theorem dX6_init_46 : decode cX6_init 46 = .ok (.multianewarray 30 2, 4) := by decide +kernel
theorem dX6_init_50 : decode cX6_init 50 = .ok (.putfield 32, 3) := by decide +kernel
theorem dX6_init_53 : decode cX6_init 53 = .ok (.aload_n 0, 1) := by decide +kernel
theorem dX6_init_54 : decode cX6_init 54 = .ok (.bipush 10, 2) := by decide +kernel
theorem dX6_init_56 : decode cX6_init 56 = .ok (.newarray .int, 2) := by decide +kernel
theorem dX6_init_58 : decode cX6_init 58 = .ok (.putfield 35, 3) := by decide +kernel
theorem dX6_init_61 : decode cX6_init 61 = .ok (.aload_n 0, 1) := by decide +kernel
theorem dX6_init_62 : decode cX6_init 62 = .ok (.bipush 10, 2) := by decide +kernel
theorem dX6_init_64 : decode cX6_init 64 = .ok (.newarray .int, 2) := by decide +kernel
theorem dX6_init_66 : decode cX6_init 66 = .ok (.putfield 38, 3) := by decide +kernel
theorem dX6_init_69 : decode cX6_init 69 = .ok (.return_, 1) := by decide +kernel
theorem dX6_weigh_0 : decode cX6_weigh 0 = .ok (.aload_n 0, 1) := by decide +kernel
theorem dX6_weigh_1 : decode cX6_weigh 1 = .ok (.getfield 20, 3) := by decide +kernel
theorem dX6_weigh_4 : decode cX6_weigh 4 = .ok (.iconst 0, 1) := by decide +kernel
theorem dX6_weigh_5 : decode cX6_weigh 5 = .ok (.invokestatic 41, 3) := by decide +kernel
theorem dX6_weigh_8 : decode cX6_weigh 8 = .ok (.aload_n 0, 1) := by decide +kernel
theorem dX6_weigh_9 : decode cX6_weigh 9 = .ok (.getfield 20, 3) := by decide +kernel
theorem dX6_weigh_12 : decode cX6_weigh 12 = .ok (.iconst 0, 1) := by decide +kernel
theorem dX6_weigh_13 : decode cX6_weigh 13 = .ok (.iconst 1, 1) := by decide +kernel
theorem dX6_weigh_14 : decode cX6_weigh 14 = .ok (.iastore, 1) := by decide +kernel
theorem dX6_weigh_15 : decode cX6_weigh 15 = .ok (.iload_n 1, 1) := by decide +kernel
theorem dX6_weigh_16 : decode cX6_weigh 16 = .ok (.invokestatic 47, 3) := by decide +kernel
theorem dX6_weigh_19 : decode cX6_weigh 19 = .ok (.istore 6, 2) := by decide +kernel
theorem dX6_weigh_21 : decode cX6_weigh 21 = .ok (.iconst 0, 1) := by decide +kernel
theorem dX6_weigh_22 : decode cX6_weigh 22 = .ok (.istore 7, 2) := by decide +kernel
theorem dX6_weigh_24 : decode cX6_weigh 24 = .ok (.iload 7, 2) := by decide +kernel
theorem dX6_weigh_26 : decode cX6_weigh 26 = .ok (.iload 6, 2) := by decide +kernel
theorem dX6_weigh_28 : decode cX6_weigh 28 = .ok (.if_icmp .ge 110, 3) := by decide +kernel
theorem dX6_weigh_31 : decode cX6_weigh 31 = .ok (.iload_n 1, 1) := by decide +kernel
theorem dX6_weigh_32 : decode cX6_weigh 32 = .ok (.iload 7, 2) := by decide +kernel
theorem dX6_weigh_34 : decode cX6_weigh 34 = .ok (.invokestatic 51, 3) := by decide +kernel
theorem dX6_weigh_37 : decode cX6_weigh 37 = .ok (.iconst 0, 1) := by decide +kernel
theorem dX6_weigh_38 : decode cX6_weigh 38 = .ok (.invokestatic 55, 3) := by decide +kernel
theorem dX6_weigh_41 : decode cX6_weigh 41 = .ok (.istore 8, 2) := by decide +kernel
theorem dX6_weigh_43 : decode cX6_weigh 43 = .ok (.aload_n 0, 1) := by decide +kernel
theorem dX6_weigh_44 : decode cX6_weigh 44 = .ok (.getfield 24, 3) := by decide +kernel
theorem dX6_weigh_47 : decode cX6_weigh 47 = .ok (.iconst 0, 1) := by decide +kernel
theorem dX6_weigh_48 : decode cX6_weigh 48 = .ok (.invokestatic 41, 3) := by decide +kernel
theorem dX6_weigh_51 : decode cX6_weigh 51 = .ok (.iconst 0, 1) := by decide +kernel
theorem dX6_weigh_52 : decode cX6_weigh 52 = .ok (.istore 9, 2) := by decide +kernel
theorem dX6_weigh_54 : decode cX6_weigh 54 = .ok (.iload 9, 2) := by decide +kernel
theorem dX6_weigh_56 : decode cX6_weigh 56 = .ok (.aload_n 2, 1) := by decide +kernel
theorem dX6_weigh_57 : decode cX6_weigh 57 = .ok (.getfield 59, 3) := by decide +kernel
theorem dX6_weigh_60 : decode cX6_weigh 60 = .ok (.if_icmp .gt 54, 3) := by decide +kernel
theorem dX6_weigh_63 : decode cX6_weigh 63 = .ok (.iload 9, 2) := by decide +kernel
theorem dX6_weigh_65 : decode cX6_weigh 65 = .ok (.bipush 12, 2) := by decide +kernel
theorem dX6_weigh_67 : decode cX6_weigh 67 = .ok (.if_icmp .gt 47, 3) := by decide +kernel
theorem dX6_weigh_70 : decode cX6_weigh 70 = .ok (.aload_n 0, 1) := by decide +kernel
theorem dX6_weigh_71 : decode cX6_weigh 71 = .ok (.iload 9, 2) := by decide +kernel
theorem dX6_weigh_73 : decode cX6_weigh 73 = .ok (.aload_n 2, 1) := by decide +kernel
theorem dX6_weigh_74 : decode cX6_weigh 74 = .ok (.iload 9, 2) := by decide +kernel
theorem dX6_weigh_76 : decode cX6_weigh 76 = .ok (.aload_n 3, 1) := by decide +kernel
theorem dX6_weigh_77 : decode cX6_weigh 77 = .ok (.iload 8, 2) := by decide +kernel
theorem dX6_weigh_79 : decode cX6_weigh 79 = .ok (.iaload, 1) := by decide +kernel
theorem dX6_weigh_80 : decode cX6_weigh 80 = .ok (.invokestatic 63, 3) := by decide +kernel
theorem dX6_weigh_83 : decode cX6_weigh 83 = .ok (.iload 4, 2) := by decide +kernel
theorem dX6_weigh_85 : decode cX6_weigh 85 = .ok (.invokevirtual 67, 3) := by decide +kernel
theorem dX6_weigh_88 : decode cX6_weigh 88 = .ok (.aload_n 0, 1) := by decide +kernel
theorem dX6_weigh_89 : decode cX6_weigh 89 = .ok (.iload 9, 2) := by decide +kernel
theorem dX6_weigh_91 : decode cX6_weigh 91 = .ok (.aload_n 2, 1) := by decide +kernel
theorem dX6_weigh_92 : decode cX6_weigh 92 = .ok (.iload 9, 2) := by decide +kernel
theorem dX6_weigh_94 : decode cX6_weigh 94 = .ok (.aload_n 3, 1) := by decide +kernel
theorem dX6_weigh_95 : decode cX6_weigh 95 = .ok (.iload 8, 2) := by decide +kernel
theorem dX6_weigh_97 : decode cX6_weigh 97 = .ok (.iconst 1, 1) := by decide +kernel
theorem dX6_weigh_98 : decode cX6_weigh 98 = .ok (.iadd, 1) := by decide +kernel
theorem dX6_weigh_99 : decode cX6_weigh 99 = .ok (.iaload, 1) := by decide +kernel
theorem dX6_weigh_100 : decode cX6_weigh 100 = .ok (.invokestatic 63, 3) := by decide +kernel
theorem dX6_weigh_103 : decode cX6_weigh 103 = .ok (.iload 5, 2) := by decide +kernel
theorem dX6_weigh_105 : decode cX6_weigh 105 = .ok (.invokevirtual 67, 3) := by decide +kernel
theorem dX6_weigh_108 : decode cX6_weigh 108 = .ok (.iinc 9 1, 3) := by decide +kernel
theorem dX6_weigh_111 : decode cX6_weigh 111 = .ok (.goto (-57), 3) := by decide +kernel
theorem dX6_weigh_114 : decode cX6_weigh 114 = .ok (.aload_n 0, 1) := by decide +kernel
theorem dX6_weigh_115 : decode cX6_weigh 115 = .ok (.getfield 24, 3) := by decide +kernel
theorem dX6_weigh_118 : decode cX6_weigh 118 = .ok (.iconst 0, 1) := by decide +kernel
theorem dX6_weigh_119 : decode cX6_weigh 119 = .ok (.aload_n 0, 1) := by decide +kernel
theorem dX6_weigh_120 : decode cX6_weigh 120 = .ok (.getfield 20, 3) := by decide +kernel
theorem dX6_weigh_123 : decode cX6_weigh 123 = .ok (.iconst 0, 1) := by decide +kernel
theorem dX6_weigh_124 : decode cX6_weigh 124 = .ok (.aload_n 0, 1) := by decide +kernel
theorem dX6_weigh_125 : decode cX6_weigh 125 = .ok (.getfield 20, 3) := by decide +kernel
theorem dX6_weigh_128 : decode cX6_weigh 128 = .ok (.arraylength, 1) := by decide +kernel
theorem dX6_weigh_129 : decode cX6_weigh 129 = .ok (.invokestatic 71, 3) := by decide +kernel
theorem dX6_weigh_132 : decode cX6_weigh 132 = .ok (.iinc 7 1, 3) := by decide +kernel
theorem dX6_weigh_135 : decode cX6_weigh 135 = .ok (.goto (-111), 3) := by decide +kernel
theorem dX6_weigh_138 : decode cX6_weigh 138 = .ok (.aload_n 2, 1) := by decide +kernel
theorem dX6_weigh_139 : decode cX6_weigh 139 = .ok (.getfield 59, 3) := by decide +kernel
theorem dX6_weigh_142 : decode cX6_weigh 142 = .ok (.iconst 0, 1) := by decide +kernel
theorem dX6_weigh_143 : decode cX6_weigh 143 = .ok (.bipush 12, 2) := by decide +kernel
theorem dX6_weigh_145 : decode cX6_weigh 145 = .ok (.invokestatic 77, 3) := by decide +kernel
theorem dX6_weigh_148 : decode cX6_weigh 148 = .ok (.ifCond .eq 15, 3) := by decide +kernel
theorem dX6_weigh_151 : decode cX6_weigh 151 = .ok (.aload_n 0, 1) := by decide +kernel
theorem dX6_weigh_152 : decode cX6_weigh 152 = .ok (.getfield 20, 3) := by decide +kernel
theorem dX6_weigh_155 : decode cX6_weigh 155 = .ok (.aload_n 2, 1) := by decide +kernel
theorem dX6_weigh_156 : decode cX6_weigh 156 = .ok (.getfield 59, 3) := by decide +kernel
theorem dX6_weigh_159 : decode cX6_weigh 159 = .ok (.iaload, 1) := by decide +kernel
theorem dX6_weigh_160 : decode cX6_weigh 160 = .ok (.goto 4, 3) := by decide +kernel
theorem dX6_weigh_163 : decode cX6_weigh 163 = .ok (.iconst 0, 1) := by decide +kernel
theorem dX6_weigh_164 : decode cX6_weigh 164 = .ok (.ireturn, 1) := by decide +kernel
theorem dX6_spread_0 : decode cX6_spread 0 = .ok (.iload_n 2, 1) := by decide +kernel
theorem dX6_spread_1 : decode cX6_spread 1 = .ok (.iconst 0, 1) := by decide +kernel
theorem dX6_spread_2 : decode cX6_spread 2 = .ok (.bipush 12, 2) := by decide +kernel
theorem dX6_spread_4 : decode cX6_spread 4 = .ok (.invokestatic 77, 3) := by decide +kernel
theorem dX6_spread_7 : decode cX6_spread 7 = .ok (.ifCond .eq 20, 3) := by decide +kernel
theorem dX6_spread_10 : decode cX6_spread 10 = .ok (.aload_n 0, 1) := by decide +kernel
theorem dX6_spread_11 : decode cX6_spread 11 = .ok (.getfield 24, 3) := by decide +kernel
theorem dX6_spread_14 : decode cX6_spread 14 = .ok (.iload_n 2, 1) := by decide +kernel
theorem dX6_spread_15 : decode cX6_spread 15 = .ok (.dup2, 1) := by decide +kernel
theorem dX6_spread_16 : decode cX6_spread 16 = .ok (.iaload, 1) := by decide +kernel
theorem dX6_spread_17 : decode cX6_spread 17 = .ok (.aload_n 0, 1) := by decide +kernel
theorem dX6_spread_18 : decode cX6_spread 18 = .ok (.getfield 20, 3) := by decide +kernel
theorem dX6_spread_21 : decode cX6_spread 21 = .ok (.iload_n 1, 1) := by decide +kernel
theorem dX6_spread_22 : decode cX6_spread 22 = .ok (.iaload, 1) := by decide +kernel
theorem dX6_spread_23 : decode cX6_spread 23 = .ok (.iload_n 3, 1) := by decide +kernel
theorem dX6_spread_24 : decode cX6_spread 24 = .ok (.imul, 1) := by decide +kernel
theorem dX6_spread_25 : decode cX6_spread 25 = .ok (.iadd, 1) := by decide +kernel
theorem dX6_spread_26 : decode cX6_spread 26 = .ok (.iastore, 1) := by decide +kernel
theorem dX6_spread_27 : decode cX6_spread 27 = .ok (.return_, 1) := by decide +kernel
theorem dX6_chance_0 : decode cX6_chance 0 = .ok (.aload_n 0, 1) := by decide +kernel
theorem dX6_chance_1 : decode cX6_chance 1 = .ok (.iload_n 1, 1) := by decide +kernel
theorem dX6_chance_2 : decode cX6_chance 2 = .ok (.aload_n 2, 1) := by decide +kernel
theorem dX6_chance_3 : decode cX6_chance 3 = .ok (.aload_n 3, 1) := by decide +kernel
theorem dX6_chance_4 : decode cX6_chance 4 = .ok (.bipush 10, 2) := by decide +kernel
theorem dX6_chance_6 : decode cX6_chance 6 = .ok (.iload 4, 2) := by decide +kernel
theorem dX6_chance_8 : decode cX6_chance 8 = .ok (.isub, 1) := by decide +kernel
theorem dX6_chance_9 : decode cX6_chance 9 = .ok (.iload 4, 2) := by decide +kernel
theorem dX6_chance_11 : decode cX6_chance 11 = .ok (.invokevirtual 81, 3) := by decide +kernel
theorem dX6_chance_14 : decode cX6_chance 14 = .ok (.istore 5, 2) := by decide +kernel
theorem dX6_chance_16 : decode cX6_chance 16 = .ok (.iload_n 1, 1) := by decide +kernel
theorem dX6_chance_17 : decode cX6_chance 17 = .ok (.invokestatic 47, 3) := by decide +kernel
theorem dX6_chance_20 : decode cX6_chance 20 = .ok (.istore 6, 2) := by decide +kernel
theorem dX6_chance_22 : decode cX6_chance 22 = .ok (.iload 6, 2) := by decide +kernel
theorem dX6_chance_24 : decode cX6_chance 24 = .ok (.iconst 4, 1) := by decide +kernel
theorem dX6_chance_25 : decode cX6_chance 25 = .ok (.if_icmp .ge 16, 3) := by decide +kernel
theorem dX6_chance_28 : decode cX6_chance 28 = .ok (.iload 5, 2) := by decide +kernel
theorem dX6_chance_30 : decode cX6_chance 30 = .ok (.bipush 10, 2) := by decide +kernel
theorem dX6_chance_32 : decode cX6_chance 32 = .ok (.imul, 1) := by decide +kernel
theorem dX6_chance_33 : decode cX6_chance 33 = .ok (.istore 5, 2) := by decide +kernel
theorem dX6_chance_35 : decode cX6_chance 35 = .ok (.iinc 6 1, 3) := by decide +kernel
theorem dX6_chance_38 : decode cX6_chance 38 = .ok (.goto (-16), 3) := by decide +kernel
theorem dX6_chance_41 : decode cX6_chance 41 = .ok (.iload 5, 2) := by decide +kernel
theorem dX6_chance_43 : decode cX6_chance 43 = .ok (.ireturn, 1) := by decide +kernel
theorem dX6_behind_0 : decode cX6_behind 0 = .ok (.iload_n 2, 1) := by decide +kernel
theorem dX6_behind_1 : decode cX6_behind 1 = .ok (.ifCond .gt 5, 3) := by decide +kernel
theorem dX6_behind_4 : decode cX6_behind 4 = .ok (.iload_n 1, 1) := by decide +kernel
theorem dX6_behind_5 : decode cX6_behind 5 = .ok (.ireturn, 1) := by decide +kernel
theorem dX6_behind_6 : decode cX6_behind 6 = .ok (.iload_n 2, 1) := by decide +kernel
theorem dX6_behind_7 : decode cX6_behind 7 = .ok (.bipush 11, 2) := by decide +kernel
theorem dX6_behind_9 : decode cX6_behind 9 = .ok (.if_icmp .ge 30, 3) := by decide +kernel
theorem dX6_behind_12 : decode cX6_behind 12 = .ok (.aload_n 0, 1) := by decide +kernel
theorem dX6_behind_13 : decode cX6_behind 13 = .ok (.iload_n 1, 1) := by decide +kernel
theorem dX6_behind_14 : decode cX6_behind 14 = .ok (.invokevirtual 85, 3) := by decide +kernel
theorem dX6_behind_17 : decode cX6_behind 17 = .ok (.ifCond .eq 20, 3) := by decide +kernel
theorem dX6_behind_20 : decode cX6_behind 20 = .ok (.aload_n 0, 1) := by decide +kernel
theorem dX6_behind_21 : decode cX6_behind 21 = .ok (.iload_n 1, 1) := by decide +kernel
theorem dX6_behind_22 : decode cX6_behind 22 = .ok (.invokevirtual 89, 3) := by decide +kernel
theorem dX6_behind_25 : decode cX6_behind 25 = .ok (.iload_n 2, 1) := by decide +kernel
theorem dX6_behind_26 : decode cX6_behind 26 = .ok (.iconst 1, 1) := by decide +kernel
theorem dX6_behind_27 : decode cX6_behind 27 = .ok (.isub, 1) := by decide +kernel
theorem dX6_behind_28 : decode cX6_behind 28 = .ok (.if_icmp .ne 9, 3) := by decide +kernel
theorem dX6_behind_31 : decode cX6_behind 31 = .ok (.iload_n 1, 1) := by decide +kernel
theorem dX6_behind_32 : decode cX6_behind 32 = .ok (.iconst 1, 1) := by decide +kernel
theorem dX6_behind_33 : decode cX6_behind 33 = .ok (.iadd, 1) := by decide +kernel
theorem dX6_behind_34 : decode cX6_behind 34 = .ok (.goto 4, 3) := by decide +kernel
theorem dX6_behind_37 : decode cX6_behind 37 = .ok (.iconst (-1), 1) := by decide +kernel
theorem dX6_behind_38 : decode cX6_behind 38 = .ok (.ireturn, 1) := by decide +kernel
theorem dX6_behind_39 : decode cX6_behind 39 = .ok (.aload_n 0, 1) := by decide +kernel
theorem dX6_behind_40 : decode cX6_behind 40 = .ok (.iload_n 1, 1) := by decide +kernel
theorem dX6_behind_41 : decode cX6_behind 41 = .ok (.iconst 1, 1) := by decide +kernel
theorem dX6_behind_42 : decode cX6_behind 42 = .ok (.iadd, 1) := by decide +kernel
theorem dX6_behind_43 : decode cX6_behind 43 = .ok (.invokevirtual 85, 3) := by decide +kernel
theorem dX6_behind_46 : decode cX6_behind 46 = .ok (.ifCond .eq 30, 3) := by decide +kernel
theorem dX6_behind_49 : decode cX6_behind 49 = .ok (.aload_n 0, 1) := by decide +kernel
theorem dX6_behind_50 : decode cX6_behind 50 = .ok (.iload_n 1, 1) := by decide +kernel
theorem dX6_behind_51 : decode cX6_behind 51 = .ok (.invokevirtual 89, 3) := by decide +kernel
theorem dX6_behind_54 : decode cX6_behind 54 = .ok (.bipush 10, 2) := by decide +kernel
theorem dX6_behind_56 : decode cX6_behind 56 = .ok (.imul, 1) := by decide +kernel
theorem dX6_behind_57 : decode cX6_behind 57 = .ok (.aload_n 0, 1) := by decide +kernel
theorem dX6_behind_58 : decode cX6_behind 58 = .ok (.iload_n 1, 1) := by decide +kernel
theorem dX6_behind_59 : decode cX6_behind 59 = .ok (.iconst 1, 1) := by decide +kernel
theorem dX6_behind_60 : decode cX6_behind 60 = .ok (.iadd, 1) := by decide +kernel
theorem dX6_behind_61 : decode cX6_behind 61 = .ok (.invokevirtual 89, 3) := by decide +kernel
theorem dX6_behind_64 : decode cX6_behind 64 = .ok (.iadd, 1) := by decide +kernel
theorem dX6_behind_65 : decode cX6_behind 65 = .ok (.iload_n 2, 1) := by decide +kernel
theorem dX6_behind_66 : decode cX6_behind 66 = .ok (.bipush 11, 2) := by decide +kernel
theorem dX6_behind_68 : decode cX6_behind 68 = .ok (.isub, 1) := by decide +kernel
theorem dX6_behind_69 : decode cX6_behind 69 = .ok (.if_icmp .ne 7, 3) := by decide +kernel
theorem dX6_behind_72 : decode cX6_behind 72 = .ok (.iconst 1, 1) := by decide +kernel
theorem dX6_behind_73 : decode cX6_behind 73 = .ok (.goto 4, 3) := by decide +kernel
theorem dX6_behind_76 : decode cX6_behind 76 = .ok (.iconst 0, 1) := by decide +kernel
theorem dX6_behind_77 : decode cX6_behind 77 = .ok (.istore_n 3, 1) := by decide +kernel
theorem dX6_behind_78 : decode cX6_behind 78 = .ok (.iload_n 3, 1) := by decide +kernel
theorem dX6_behind_79 : decode cX6_behind 79 = .ok (.ifCond .eq 9, 3) := by decide +kernel
theorem dX6_behind_82 : decode cX6_behind 82 = .ok (.iload_n 1, 1) := by decide +kernel
theorem dX6_behind_83 : decode cX6_behind 83 = .ok (.iconst 2, 1) := by decide +kernel
theorem dX6_behind_84 : decode cX6_behind 84 = .ok (.iadd, 1) := by decide +kernel
theorem dX6_behind_85 : decode cX6_behind 85 = .ok (.goto 4, 3) := by decide +kernel
theorem dX6_behind_88 : decode cX6_behind 88 = .ok (.iconst (-1), 1) := by decide +kernel
theorem dX6_behind_89 : decode cX6_behind 89 = .ok (.ireturn, 1) := by decide +kernel
theorem dX6_fewest_0 : decode cX6_fewest 0 = .ok (.aload_n 0, 1) := by decide +kernel
theorem dX6_fewest_1 : decode cX6_fewest 1 = .ok (.getfield 14, 3) := by decide +kernel
theorem dX6_fewest_4 : decode cX6_fewest 4 = .ok (.iconst 0, 1) := by decide +kernel
theorem dX6_fewest_5 : decode cX6_fewest 5 = .ok (.putfield 59, 3) := by decide +kernel
theorem dX6_fewest_8 : decode cX6_fewest 8 = .ok (.aload_n 0, 1) := by decide +kernel
theorem dX6_fewest_9 : decode cX6_fewest 9 = .ok (.getfield 27, 3) := by decide +kernel
theorem dX6_fewest_12 : decode cX6_fewest 12 = .ok (.iconst 0, 1) := by decide +kernel
theorem dX6_fewest_13 : decode cX6_fewest 13 = .ok (.iconst 1, 1) := by decide +kernel
theorem dX6_fewest_14 : decode cX6_fewest 14 = .ok (.aload_n 1, 1) := by decide +kernel
theorem dX6_fewest_15 : decode cX6_fewest 15 = .ok (.getfield 59, 3) := by decide +kernel
theorem dX6_fewest_18 : decode cX6_fewest 18 = .ok (.ishl, 1) := by decide +kernel
theorem dX6_fewest_19 : decode cX6_fewest 19 = .ok (.iastore, 1) := by decide +kernel
theorem dX6_fewest_20 : decode cX6_fewest 20 = .ok (.iconst 0, 1) := by decide +kernel
theorem dX6_fewest_21 : decode cX6_fewest 21 = .ok (.istore_n 3, 1) := by decide +kernel
theorem dX6_fewest_22 : decode cX6_fewest 22 = .ok (.iconst 1, 1) := by decide +kernel
theorem dX6_fewest_23 : decode cX6_fewest 23 = .ok (.istore 4, 2) := by decide +kernel
theorem dX6_fewest_25 : decode cX6_fewest 25 = .ok (.iload 4, 2) := by decide +kernel
theorem dX6_fewest_27 : decode cX6_fewest 27 = .ok (.bipush 12, 2) := by decide +kernel
theorem dX6_fewest_29 : decode cX6_fewest 29 = .ok (.if_icmp .gt 50, 3) := by decide +kernel
theorem dX6_fewest_32 : decode cX6_fewest 32 = .ok (.iload_n 3, 1) := by decide +kernel
theorem dX6_fewest_33 : decode cX6_fewest 33 = .ok (.ifCond .ne 46, 3) := by decide +kernel
theorem dX6_fewest_36 : decode cX6_fewest 36 = .ok (.aload_n 0, 1) := by decide +kernel
theorem dX6_fewest_37 : decode cX6_fewest 37 = .ok (.getfield 27, 3) := by decide +kernel
theorem dX6_fewest_40 : decode cX6_fewest 40 = .ok (.iload 4, 2) := by decide +kernel
theorem dX6_fewest_42 : decode cX6_fewest 42 = .ok (.aload_n 0, 1) := by decide +kernel
theorem dX6_fewest_43 : decode cX6_fewest 43 = .ok (.getfield 27, 3) := by decide +kernel
theorem dX6_fewest_46 : decode cX6_fewest 46 = .ok (.iload 4, 2) := by decide +kernel
theorem dX6_fewest_48 : decode cX6_fewest 48 = .ok (.iconst 1, 1) := by decide +kernel
theorem dX6_fewest_49 : decode cX6_fewest 49 = .ok (.isub, 1) := by decide +kernel
theorem dX6_fewest_50 : decode cX6_fewest 50 = .ok (.iaload, 1) := by decide +kernel
theorem dX6_fewest_51 : decode cX6_fewest 51 = .ok (.aload_n 1, 1) := by decide +kernel
theorem dX6_fewest_52 : decode cX6_fewest 52 = .ok (.aload_n 2, 1) := by decide +kernel
theorem dX6_fewest_53 : decode cX6_fewest 53 = .ok (.invokestatic 92, 3) := by decide +kernel
theorem dX6_fewest_56 : decode cX6_fewest 56 = .ok (.iastore, 1) := by decide +kernel
theorem dX6_fewest_57 : decode cX6_fewest 57 = .ok (.aload_n 0, 1) := by decide +kernel
theorem dX6_fewest_58 : decode cX6_fewest 58 = .ok (.getfield 27, 3) := by decide +kernel
theorem dX6_fewest_61 : decode cX6_fewest 61 = .ok (.iload 4, 2) := by decide +kernel
theorem dX6_fewest_63 : decode cX6_fewest 63 = .ok (.iaload, 1) := by decide +kernel
theorem dX6_fewest_64 : decode cX6_fewest 64 = .ok (.iconst 1, 1) := by decide +kernel
theorem dX6_fewest_65 : decode cX6_fewest 65 = .ok (.iand, 1) := by decide +kernel
theorem dX6_fewest_66 : decode cX6_fewest 66 = .ok (.iconst 1, 1) := by decide +kernel
theorem dX6_fewest_67 : decode cX6_fewest 67 = .ok (.if_icmp .ne 6, 3) := by decide +kernel
theorem dX6_fewest_70 : decode cX6_fewest 70 = .ok (.iload 4, 2) := by decide +kernel
theorem dX6_fewest_72 : decode cX6_fewest 72 = .ok (.istore_n 3, 1) := by decide +kernel
theorem dX6_fewest_73 : decode cX6_fewest 73 = .ok (.iinc 4 1, 3) := by decide +kernel
theorem dX6_fewest_76 : decode cX6_fewest 76 = .ok (.goto (-51), 3) := by decide +kernel
theorem dX6_fewest_79 : decode cX6_fewest 79 = .ok (.iconst 1, 1) := by decide +kernel
theorem dX6_fewest_80 : decode cX6_fewest 80 = .ok (.istore 4, 2) := by decide +kernel
theorem dX6_fewest_82 : decode cX6_fewest 82 = .ok (.iload_n 3, 1) := by decide +kernel
theorem dX6_fewest_83 : decode cX6_fewest 83 = .ok (.iconst 1, 1) := by decide +kernel
theorem dX6_fewest_84 : decode cX6_fewest 84 = .ok (.isub, 1) := by decide +kernel
theorem dX6_fewest_85 : decode cX6_fewest 85 = .ok (.istore 5, 2) := by decide +kernel
theorem dX6_fewest_87 : decode cX6_fewest 87 = .ok (.iload 5, 2) := by decide +kernel
theorem dX6_fewest_89 : decode cX6_fewest 89 = .ok (.ifCond .lt 74, 3) := by decide +kernel
theorem dX6_fewest_92 : decode cX6_fewest 92 = .ok (.iconst 0, 1) := by decide +kernel
theorem dX6_fewest_93 : decode cX6_fewest 93 = .ok (.istore 6, 2) := by decide +kernel
theorem dX6_fewest_95 : decode cX6_fewest 95 = .ok (.iload 6, 2) := by decide +kernel
theorem dX6_fewest_97 : decode cX6_fewest 97 = .ok (.bipush 9, 2) := by decide +kernel
theorem dX6_fewest_99 : decode cX6_fewest 99 = .ok (.if_icmp .ge 29, 3) := by decide +kernel
theorem dX6_fewest_102 : decode cX6_fewest 102 = .ok (.iload 4, 2) := by decide +kernel
theorem dX6_fewest_104 : decode cX6_fewest 104 = .ok (.iload 6, 2) := by decide +kernel
theorem dX6_fewest_106 : decode cX6_fewest 106 = .ok (.aload_n 1, 1) := by decide +kernel
theorem dX6_fewest_107 : decode cX6_fewest 107 = .ok (.aload_n 2, 1) := by decide +kernel
theorem dX6_fewest_108 : decode cX6_fewest 108 = .ok (.invokestatic 96, 3) := by decide +kernel
theorem dX6_fewest_111 : decode cX6_fewest 111 = .ok (.aload_n 0, 1) := by decide +kernel
theorem dX6_fewest_112 : decode cX6_fewest 112 = .ok (.getfield 27, 3) := by decide +kernel
theorem dX6_fewest_115 : decode cX6_fewest 115 = .ok (.iload 5, 2) := by decide +kernel
theorem dX6_fewest_117 : decode cX6_fewest 117 = .ok (.iaload, 1) := by decide +kernel
theorem dX6_fewest_118 : decode cX6_fewest 118 = .ok (.iand, 1) := by decide +kernel
theorem dX6_fewest_119 : decode cX6_fewest 119 = .ok (.ifCond .ne 9, 3) := by decide +kernel
theorem dX6_fewest_122 : decode cX6_fewest 122 = .ok (.iinc 6 1, 3) := by decide +kernel
theorem dX6_fewest_125 : decode cX6_fewest 125 = .ok (.goto (-30), 3) := by decide +kernel
theorem dX6_fewest_128 : decode cX6_fewest 128 = .ok (.iload 4, 2) := by decide +kernel
theorem dX6_fewest_130 : decode cX6_fewest 130 = .ok (.iload 6, 2) := by decide +kernel
theorem dX6_fewest_132 : decode cX6_fewest 132 = .ok (.aload_n 1, 1) := by decide +kernel
theorem dX6_fewest_133 : decode cX6_fewest 133 = .ok (.aload_n 2, 1) := by decide +kernel
theorem dX6_fewest_134 : decode cX6_fewest 134 = .ok (.invokestatic 96, 3) := by decide +kernel
theorem dX6_fewest_137 : decode cX6_fewest 137 = .ok (.aload_n 0, 1) := by decide +kernel
theorem dX6_fewest_138 : decode cX6_fewest 138 = .ok (.getfield 27, 3) := by decide +kernel
theorem dX6_fewest_141 : decode cX6_fewest 141 = .ok (.iload 5, 2) := by decide +kernel
theorem dX6_fewest_143 : decode cX6_fewest 143 = .ok (.iaload, 1) := by decide +kernel
theorem dX6_fewest_144 : decode cX6_fewest 144 = .ok (.iand, 1) := by decide +kernel
theorem dX6_fewest_145 : decode cX6_fewest 145 = .ok (.istore 4, 2) := by decide +kernel
theorem dX6_fewest_147 : decode cX6_fewest 147 = .ok (.aload_n 0, 1) := by decide +kernel
theorem dX6_fewest_148 : decode cX6_fewest 148 = .ok (.getfield 14, 3) := by decide +kernel
theorem dX6_fewest_151 : decode cX6_fewest 151 = .ok (.iload 6, 2) := by decide +kernel
theorem dX6_fewest_153 : decode cX6_fewest 153 = .ok (.invokevirtual 100, 3) := by decide +kernel
theorem dX6_fewest_156 : decode cX6_fewest 156 = .ok (.pop, 1) := by decide +kernel
theorem dX6_fewest_157 : decode cX6_fewest 157 = .ok (.iinc 5 (-1), 3) := by decide +kernel
theorem dX6_fewest_160 : decode cX6_fewest 160 = .ok (.goto (-73), 3) := by decide +kernel
theorem dX6_fewest_163 : decode cX6_fewest 163 = .ok (.return_, 1) := by decide +kernel
theorem dX6_placesInto_0 : decode cX6_placesInto 0 = .ok (.iconst 0, 1) := by decide +kernel
theorem dX6_placesInto_1 : decode cX6_placesInto 1 = .ok (.istore_n 3, 1) := by decide +kernel
theorem dX6_placesInto_2 : decode cX6_placesInto 2 = .ok (.iconst 0, 1) := by decide +kernel
theorem dX6_placesInto_3 : decode cX6_placesInto 3 = .ok (.istore 4, 2) := by decide +kernel
theorem dX6_placesInto_5 : decode cX6_placesInto 5 = .ok (.iload 4, 2) := by decide +kernel
theorem dX6_placesInto_7 : decode cX6_placesInto 7 = .ok (.aload_n 1, 1) := by decide +kernel
theorem dX6_placesInto_8 : decode cX6_placesInto 8 = .ok (.getfield 59, 3) := by decide +kernel
theorem dX6_placesInto_11 : decode cX6_placesInto 11 = .ok (.if_icmp .gt 46, 3) := by decide +kernel
theorem dX6_placesInto_14 : decode cX6_placesInto 14 = .ok (.iconst 0, 1) := by decide +kernel
theorem dX6_placesInto_15 : decode cX6_placesInto 15 = .ok (.istore 5, 2) := by decide +kernel
theorem dX6_placesInto_17 : decode cX6_placesInto 17 = .ok (.iload 5, 2) := by decide +kernel
theorem dX6_placesInto_19 : decode cX6_placesInto 19 = .ok (.bipush 10, 2) := by decide +kernel
theorem dX6_placesInto_21 : decode cX6_placesInto 21 = .ok (.if_icmp .ge 30, 3) := by decide +kernel
theorem dX6_placesInto_24 : decode cX6_placesInto 24 = .ok (.iload 4, 2) := by decide +kernel
theorem dX6_placesInto_26 : decode cX6_placesInto 26 = .ok (.iload 5, 2) := by decide +kernel
theorem dX6_placesInto_28 : decode cX6_placesInto 28 = .ok (.aload_n 1, 1) := by decide +kernel
theorem dX6_placesInto_29 : decode cX6_placesInto 29 = .ok (.aload_n 2, 1) := by decide +kernel
theorem dX6_placesInto_30 : decode cX6_placesInto 30 = .ok (.invokestatic 103, 3) := by decide +kernel
theorem dX6_placesInto_33 : decode cX6_placesInto 33 = .ok (.iload_n 0, 1) := by decide +kernel
theorem dX6_placesInto_34 : decode cX6_placesInto 34 = .ok (.iand, 1) := by decide +kernel
theorem dX6_placesInto_35 : decode cX6_placesInto 35 = .ok (.ifCond .eq 10, 3) := by decide +kernel
theorem dX6_placesInto_38 : decode cX6_placesInto 38 = .ok (.iload_n 3, 1) := by decide +kernel
theorem dX6_placesInto_39 : decode cX6_placesInto 39 = .ok (.iconst 1, 1) := by decide +kernel
theorem dX6_placesInto_40 : decode cX6_placesInto 40 = .ok (.iload 4, 2) := by decide +kernel
theorem dX6_placesInto_42 : decode cX6_placesInto 42 = .ok (.ishl, 1) := by decide +kernel
theorem dX6_placesInto_43 : decode cX6_placesInto 43 = .ok (.ior, 1) := by decide +kernel
theorem dX6_placesInto_44 : decode cX6_placesInto 44 = .ok (.istore_n 3, 1) := by decide +kernel
theorem dX6_placesInto_45 : decode cX6_placesInto 45 = .ok (.iinc 5 1, 3) := by decide +kernel
theorem dX6_placesInto_48 : decode cX6_placesInto 48 = .ok (.goto (-31), 3) := by decide +kernel
theorem dX6_placesInto_51 : decode cX6_placesInto 51 = .ok (.iinc 4 1, 3) := by decide +kernel
theorem dX6_placesInto_54 : decode cX6_placesInto 54 = .ok (.goto (-49), 3) := by decide +kernel
theorem dX6_placesInto_57 : decode cX6_placesInto 57 = .ok (.iload_n 3, 1) := by decide +kernel
theorem dX6_placesInto_58 : decode cX6_placesInto 58 = .ok (.ireturn, 1) := by decide +kernel
theorem dX6_onward_0 : decode cX6_onward 0 = .ok (.iconst 0, 1) := by decide +kernel
theorem dX6_onward_1 : decode cX6_onward 1 = .ok (.istore 4, 2) := by decide +kernel
theorem dX6_onward_3 : decode cX6_onward 3 = .ok (.iconst 0, 1) := by decide +kernel
theorem dX6_onward_4 : decode cX6_onward 4 = .ok (.istore 5, 2) := by decide +kernel
theorem dX6_onward_6 : decode cX6_onward 6 = .ok (.iload 5, 2) := by decide +kernel
theorem dX6_onward_8 : decode cX6_onward 8 = .ok (.aload_n 2, 1) := by decide +kernel
theorem dX6_onward_9 : decode cX6_onward 9 = .ok (.getfield 59, 3) := by decide +kernel
theorem dX6_onward_12 : decode cX6_onward 12 = .ok (.if_icmp .gt 32, 3) := by decide +kernel
theorem dX6_onward_15 : decode cX6_onward 15 = .ok (.iload_n 0, 1) := by decide +kernel
theorem dX6_onward_16 : decode cX6_onward 16 = .ok (.iload 5, 2) := by decide +kernel
theorem dX6_onward_18 : decode cX6_onward 18 = .ok (.ishr, 1) := by decide +kernel
theorem dX6_onward_19 : decode cX6_onward 19 = .ok (.iconst 1, 1) := by decide +kernel
theorem dX6_onward_20 : decode cX6_onward 20 = .ok (.iand, 1) := by decide +kernel
theorem dX6_onward_21 : decode cX6_onward 21 = .ok (.iconst 1, 1) := by decide +kernel
theorem dX6_onward_22 : decode cX6_onward 22 = .ok (.if_icmp .ne 16, 3) := by decide +kernel
theorem dX6_onward_25 : decode cX6_onward 25 = .ok (.iload 4, 2) := by decide +kernel
theorem dX6_onward_27 : decode cX6_onward 27 = .ok (.iload 5, 2) := by decide +kernel
theorem dX6_onward_29 : decode cX6_onward 29 = .ok (.iload_n 1, 1) := by decide +kernel
theorem dX6_onward_30 : decode cX6_onward 30 = .ok (.aload_n 2, 1) := by decide +kernel
theorem dX6_onward_31 : decode cX6_onward 31 = .ok (.aload_n 3, 1) := by decide +kernel
theorem dX6_onward_32 : decode cX6_onward 32 = .ok (.invokestatic 103, 3) := by decide +kernel
theorem dX6_onward_35 : decode cX6_onward 35 = .ok (.ior, 1) := by decide +kernel
theorem dX6_onward_36 : decode cX6_onward 36 = .ok (.istore 4, 2) := by decide +kernel
theorem dX6_onward_38 : decode cX6_onward 38 = .ok (.iinc 5 1, 3) := by decide +kernel
theorem dX6_onward_41 : decode cX6_onward 41 = .ok (.goto (-35), 3) := by decide +kernel
theorem dX6_onward_44 : decode cX6_onward 44 = .ok (.iload 4, 2) := by decide +kernel
theorem dX6_onward_46 : decode cX6_onward 46 = .ok (.ireturn, 1) := by decide +kernel
theorem dX6_onwardFrom_0 : decode cX6_onwardFrom 0 = .ok (.iload_n 1, 1) := by decide +kernel
theorem dX6_onwardFrom_1 : decode cX6_onwardFrom 1 = .ok (.iconst 0, 1) := by decide +kernel
theorem dX6_onwardFrom_2 : decode cX6_onwardFrom 2 = .ok (.invokestatic 55, 3) := by decide +kernel
theorem dX6_onwardFrom_5 : decode cX6_onwardFrom 5 = .ok (.istore 4, 2) := by decide +kernel
theorem dX6_onwardFrom_7 : decode cX6_onwardFrom 7 = .ok (.aload_n 2, 1) := by decide +kernel
theorem dX6_onwardFrom_8 : decode cX6_onwardFrom 8 = .ok (.iload_n 0, 1) := by decide +kernel
theorem dX6_onwardFrom_9 : decode cX6_onwardFrom 9 = .ok (.aload_n 3, 1) := by decide +kernel
theorem dX6_onwardFrom_10 : decode cX6_onwardFrom 10 = .ok (.iload 4, 2) := by decide +kernel
theorem dX6_onwardFrom_12 : decode cX6_onwardFrom 12 = .ok (.iaload, 1) := by decide +kernel
theorem dX6_onwardFrom_13 : decode cX6_onwardFrom 13 = .ok (.invokestatic 63, 3) := by decide +kernel
theorem dX6_onwardFrom_16 : decode cX6_onwardFrom 16 = .ok (.istore 5, 2) := by decide +kernel
theorem dX6_onwardFrom_18 : decode cX6_onwardFrom 18 = .ok (.aload_n 2, 1) := by decide +kernel
theorem dX6_onwardFrom_19 : decode cX6_onwardFrom 19 = .ok (.iload_n 0, 1) := by decide +kernel
theorem dX6_onwardFrom_20 : decode cX6_onwardFrom 20 = .ok (.aload_n 3, 1) := by decide +kernel
theorem dX6_onwardFrom_21 : decode cX6_onwardFrom 21 = .ok (.iload 4, 2) := by decide +kernel
theorem dX6_onwardFrom_23 : decode cX6_onwardFrom 23 = .ok (.iconst 1, 1) := by decide +kernel
theorem dX6_onwardFrom_24 : decode cX6_onwardFrom 24 = .ok (.iadd, 1) := by decide +kernel
theorem dX6_onwardFrom_25 : decode cX6_onwardFrom 25 = .ok (.iaload, 1) := by decide +kernel
theorem dX6_onwardFrom_26 : decode cX6_onwardFrom 26 = .ok (.invokestatic 63, 3) := by decide +kernel
theorem dX6_onwardFrom_29 : decode cX6_onwardFrom 29 = .ok (.istore 6, 2) := by decide +kernel
theorem dX6_onwardFrom_31 : decode cX6_onwardFrom 31 = .ok (.iload 5, 2) := by decide +kernel
theorem dX6_onwardFrom_33 : decode cX6_onwardFrom 33 = .ok (.ifCond .ge 7, 3) := by decide +kernel
theorem dX6_onwardFrom_36 : decode cX6_onwardFrom 36 = .ok (.iconst 0, 1) := by decide +kernel
theorem dX6_onwardFrom_37 : decode cX6_onwardFrom 37 = .ok (.goto 7, 3) := by decide +kernel
theorem dX6_onwardFrom_40 : decode cX6_onwardFrom 40 = .ok (.iconst 1, 1) := by decide +kernel
theorem dX6_onwardFrom_41 : decode cX6_onwardFrom 41 = .ok (.iload 5, 2) := by decide +kernel
theorem dX6_onwardFrom_43 : decode cX6_onwardFrom 43 = .ok (.ishl, 1) := by decide +kernel
theorem dX6_onwardFrom_44 : decode cX6_onwardFrom 44 = .ok (.iload 6, 2) := by decide +kernel
theorem dX6_onwardFrom_46 : decode cX6_onwardFrom 46 = .ok (.ifCond .ge 7, 3) := by decide +kernel
theorem dX6_onwardFrom_49 : decode cX6_onwardFrom 49 = .ok (.iconst 0, 1) := by decide +kernel
theorem dX6_onwardFrom_50 : decode cX6_onwardFrom 50 = .ok (.goto 7, 3) := by decide +kernel
theorem dX6_onwardFrom_53 : decode cX6_onwardFrom 53 = .ok (.iconst 1, 1) := by decide +kernel
theorem dX6_onwardFrom_54 : decode cX6_onwardFrom 54 = .ok (.iload 6, 2) := by decide +kernel
theorem dX6_onwardFrom_56 : decode cX6_onwardFrom 56 = .ok (.ishl, 1) := by decide +kernel
theorem dX6_onwardFrom_57 : decode cX6_onwardFrom 57 = .ok (.ior, 1) := by decide +kernel
theorem dX6_onwardFrom_58 : decode cX6_onwardFrom 58 = .ok (.ireturn, 1) := by decide +kernel
theorem dX6_woven_0 : decode cX6_woven 0 = .ok (.iload_n 1, 1) := by decide +kernel
theorem dX6_woven_1 : decode cX6_woven 1 = .ok (.invokestatic 47, 3) := by decide +kernel
theorem dX6_woven_4 : decode cX6_woven 4 = .ok (.istore 4, 2) := by decide +kernel
theorem dX6_woven_6 : decode cX6_woven 6 = .ok (.iload_n 2, 1) := by decide +kernel
theorem dX6_woven_7 : decode cX6_woven 7 = .ok (.invokestatic 47, 3) := by decide +kernel
theorem dX6_woven_10 : decode cX6_woven 10 = .ok (.istore 5, 2) := by decide +kernel
theorem dX6_woven_12 : decode cX6_woven 12 = .ok (.iload 4, 2) := by decide +kernel
theorem dX6_woven_14 : decode cX6_woven 14 = .ok (.iload 5, 2) := by decide +kernel
theorem dX6_woven_16 : decode cX6_woven 16 = .ok (.iadd, 1) := by decide +kernel
theorem dX6_woven_17 : decode cX6_woven 17 = .ok (.aload_n 3, 1) := by decide +kernel
theorem dX6_woven_18 : decode cX6_woven 18 = .ok (.getfield 59, 3) := by decide +kernel
theorem dX6_woven_21 : decode cX6_woven 21 = .ok (.if_icmp .eq 5, 3) := by decide +kernel
theorem dX6_woven_24 : decode cX6_woven 24 = .ok (.iconst 0, 1) := by decide +kernel
theorem dX6_woven_25 : decode cX6_woven 25 = .ok (.ireturn, 1) := by decide +kernel
theorem dX6_woven_26 : decode cX6_woven 26 = .ok (.iconst 0, 1) := by decide +kernel
theorem dX6_woven_27 : decode cX6_woven 27 = .ok (.istore 6, 2) := by decide +kernel
theorem dX6_woven_29 : decode cX6_woven 29 = .ok (.iload 6, 2) := by decide +kernel
theorem dX6_woven_31 : decode cX6_woven 31 = .ok (.iload 4, 2) := by decide +kernel
theorem dX6_woven_33 : decode cX6_woven 33 = .ok (.if_icmp .gt 137, 3) := by decide +kernel
theorem dX6_woven_36 : decode cX6_woven 36 = .ok (.iconst 0, 1) := by decide +kernel
theorem dX6_woven_37 : decode cX6_woven 37 = .ok (.istore 7, 2) := by decide +kernel
theorem dX6_woven_39 : decode cX6_woven 39 = .ok (.iload 7, 2) := by decide +kernel
theorem dX6_woven_41 : decode cX6_woven 41 = .ok (.iload 5, 2) := by decide +kernel
theorem dX6_woven_43 : decode cX6_woven 43 = .ok (.if_icmp .gt 121, 3) := by decide +kernel
theorem dX6_woven_46 : decode cX6_woven 46 = .ok (.iload 6, 2) := by decide +kernel
theorem dX6_woven_48 : decode cX6_woven 48 = .ok (.ifCond .ne 12, 3) := by decide +kernel
theorem dX6_woven_51 : decode cX6_woven 51 = .ok (.iload 7, 2) := by decide +kernel
theorem dX6_woven_53 : decode cX6_woven 53 = .ok (.ifCond .ne 7, 3) := by decide +kernel
theorem dX6_woven_56 : decode cX6_woven 56 = .ok (.iconst 1, 1) := by decide +kernel
theorem dX6_woven_57 : decode cX6_woven 57 = .ok (.goto 4, 3) := by decide +kernel
theorem dX6_woven_60 : decode cX6_woven 60 = .ok (.iconst 0, 1) := by decide +kernel
theorem dX6_woven_61 : decode cX6_woven 61 = .ok (.istore 8, 2) := by decide +kernel
theorem dX6_woven_63 : decode cX6_woven 63 = .ok (.aload_n 3, 1) := by decide +kernel
theorem dX6_woven_64 : decode cX6_woven 64 = .ok (.iload 6, 2) := by decide +kernel
theorem dX6_woven_66 : decode cX6_woven 66 = .ok (.iload 7, 2) := by decide +kernel
theorem dX6_woven_68 : decode cX6_woven 68 = .ok (.iadd, 1) := by decide +kernel
theorem dX6_woven_69 : decode cX6_woven 69 = .ok (.iconst 1, 1) := by decide +kernel
theorem dX6_woven_70 : decode cX6_woven 70 = .ok (.isub, 1) := by decide +kernel
theorem dX6_woven_71 : decode cX6_woven 71 = .ok (.invokevirtual 89, 3) := by decide +kernel
theorem dX6_woven_74 : decode cX6_woven 74 = .ok (.istore 9, 2) := by decide +kernel
theorem dX6_woven_76 : decode cX6_woven 76 = .ok (.iload 6, 2) := by decide +kernel
theorem dX6_woven_78 : decode cX6_woven 78 = .ok (.ifCond .le 33, 3) := by decide +kernel
theorem dX6_woven_81 : decode cX6_woven 81 = .ok (.iload_n 1, 1) := by decide +kernel
theorem dX6_woven_82 : decode cX6_woven 82 = .ok (.iload 6, 2) := by decide +kernel
theorem dX6_woven_84 : decode cX6_woven 84 = .ok (.iconst 1, 1) := by decide +kernel
theorem dX6_woven_85 : decode cX6_woven 85 = .ok (.isub, 1) := by decide +kernel
theorem dX6_woven_86 : decode cX6_woven 86 = .ok (.invokestatic 51, 3) := by decide +kernel
theorem dX6_woven_89 : decode cX6_woven 89 = .ok (.iload 9, 2) := by decide +kernel
theorem dX6_woven_91 : decode cX6_woven 91 = .ok (.if_icmp .ne 20, 3) := by decide +kernel
theorem dX6_woven_94 : decode cX6_woven 94 = .ok (.iload 8, 2) := by decide +kernel
theorem dX6_woven_96 : decode cX6_woven 96 = .ok (.aload_n 0, 1) := by decide +kernel
theorem dX6_woven_97 : decode cX6_woven 97 = .ok (.getfield 32, 3) := by decide +kernel
theorem dX6_woven_100 : decode cX6_woven 100 = .ok (.iload 6, 2) := by decide +kernel
theorem dX6_woven_102 : decode cX6_woven 102 = .ok (.iconst 1, 1) := by decide +kernel
theorem dX6_woven_103 : decode cX6_woven 103 = .ok (.isub, 1) := by decide +kernel
theorem dX6_woven_104 : decode cX6_woven 104 = .ok (.aaload, 1) := by decide +kernel
theorem dX6_woven_105 : decode cX6_woven 105 = .ok (.iload 7, 2) := by decide +kernel
theorem dX6_woven_107 : decode cX6_woven 107 = .ok (.iaload, 1) := by decide +kernel
theorem dX6_woven_108 : decode cX6_woven 108 = .ok (.iadd, 1) := by decide +kernel
theorem dX6_woven_109 : decode cX6_woven 109 = .ok (.istore 8, 2) := by decide +kernel
theorem dX6_woven_111 : decode cX6_woven 111 = .ok (.iload 7, 2) := by decide +kernel
theorem dX6_woven_113 : decode cX6_woven 113 = .ok (.ifCond .le 33, 3) := by decide +kernel
theorem dX6_woven_116 : decode cX6_woven 116 = .ok (.iload_n 2, 1) := by decide +kernel
theorem dX6_woven_117 : decode cX6_woven 117 = .ok (.iload 7, 2) := by decide +kernel
theorem dX6_woven_119 : decode cX6_woven 119 = .ok (.iconst 1, 1) := by decide +kernel
theorem dX6_woven_120 : decode cX6_woven 120 = .ok (.isub, 1) := by decide +kernel
theorem dX6_woven_121 : decode cX6_woven 121 = .ok (.invokestatic 51, 3) := by decide +kernel
theorem dX6_woven_124 : decode cX6_woven 124 = .ok (.iload 9, 2) := by decide +kernel
theorem dX6_woven_126 : decode cX6_woven 126 = .ok (.if_icmp .ne 20, 3) := by decide +kernel
theorem dX6_woven_129 : decode cX6_woven 129 = .ok (.iload 8, 2) := by decide +kernel
theorem dX6_woven_131 : decode cX6_woven 131 = .ok (.aload_n 0, 1) := by decide +kernel
theorem dX6_woven_132 : decode cX6_woven 132 = .ok (.getfield 32, 3) := by decide +kernel
theorem dX6_woven_135 : decode cX6_woven 135 = .ok (.iload 6, 2) := by decide +kernel
theorem dX6_woven_137 : decode cX6_woven 137 = .ok (.aaload, 1) := by decide +kernel
theorem dX6_woven_138 : decode cX6_woven 138 = .ok (.iload 7, 2) := by decide +kernel
theorem dX6_woven_140 : decode cX6_woven 140 = .ok (.iconst 1, 1) := by decide +kernel
theorem dX6_woven_141 : decode cX6_woven 141 = .ok (.isub, 1) := by decide +kernel
theorem dX6_woven_142 : decode cX6_woven 142 = .ok (.iaload, 1) := by decide +kernel
theorem dX6_woven_143 : decode cX6_woven 143 = .ok (.iadd, 1) := by decide +kernel
theorem dX6_woven_144 : decode cX6_woven 144 = .ok (.istore 8, 2) := by decide +kernel
theorem dX6_woven_146 : decode cX6_woven 146 = .ok (.aload_n 0, 1) := by decide +kernel
theorem dX6_woven_147 : decode cX6_woven 147 = .ok (.getfield 32, 3) := by decide +kernel
theorem dX6_woven_150 : decode cX6_woven 150 = .ok (.iload 6, 2) := by decide +kernel
theorem dX6_woven_152 : decode cX6_woven 152 = .ok (.aaload, 1) := by decide +kernel
theorem dX6_woven_153 : decode cX6_woven 153 = .ok (.iload 7, 2) := by decide +kernel
theorem dX6_woven_155 : decode cX6_woven 155 = .ok (.iload 8, 2) := by decide +kernel
theorem dX6_woven_157 : decode cX6_woven 157 = .ok (.iastore, 1) := by decide +kernel
theorem dX6_woven_158 : decode cX6_woven 158 = .ok (.iinc 7 1, 3) := by decide +kernel
theorem dX6_woven_161 : decode cX6_woven 161 = .ok (.goto (-122), 3) := by decide +kernel
theorem dX6_woven_164 : decode cX6_woven 164 = .ok (.iinc 6 1, 3) := by decide +kernel
theorem dX6_woven_167 : decode cX6_woven 167 = .ok (.goto (-138), 3) := by decide +kernel
theorem dX6_woven_170 : decode cX6_woven 170 = .ok (.aload_n 0, 1) := by decide +kernel
theorem dX6_woven_171 : decode cX6_woven 171 = .ok (.getfield 32, 3) := by decide +kernel
theorem dX6_woven_174 : decode cX6_woven 174 = .ok (.iload 4, 2) := by decide +kernel
theorem dX6_woven_176 : decode cX6_woven 176 = .ok (.aaload, 1) := by decide +kernel
theorem dX6_woven_177 : decode cX6_woven 177 = .ok (.iload 5, 2) := by decide +kernel
theorem dX6_woven_179 : decode cX6_woven 179 = .ok (.iaload, 1) := by decide +kernel
theorem dX6_woven_180 : decode cX6_woven 180 = .ok (.ireturn, 1) := by decide +kernel
theorem dX6_longestInBoth_0 : decode cX6_longestInBoth 0 = .ok (.aload_n 0, 1) := by decide +kernel
theorem dX6_longestInBoth_1 : decode cX6_longestInBoth 1 = .ok (.getfield 14, 3) := by decide +kernel
theorem dX6_longestInBoth_4 : decode cX6_longestInBoth 4 = .ok (.iconst 0, 1) := by decide +kernel
theorem dX6_longestInBoth_5 : decode cX6_longestInBoth 5 = .ok (.putfield 59, 3) := by decide +kernel
theorem dX6_longestInBoth_8 : decode cX6_longestInBoth 8 = .ok (.aload_n 1, 1) := by decide +kernel
theorem dX6_longestInBoth_9 : decode cX6_longestInBoth 9 = .ok (.getfield 59, 3) := by decide +kernel
theorem dX6_longestInBoth_12 : decode cX6_longestInBoth 12 = .ok (.istore_n 3, 1) := by decide +kernel
theorem dX6_longestInBoth_13 : decode cX6_longestInBoth 13 = .ok (.iload_n 3, 1) := by decide +kernel
theorem dX6_longestInBoth_14 : decode cX6_longestInBoth 14 = .ok (.ifCond .lt 131, 3) := by decide +kernel
theorem dX6_longestInBoth_17 : decode cX6_longestInBoth 17 = .ok (.aload_n 2, 1) := by decide +kernel
theorem dX6_longestInBoth_18 : decode cX6_longestInBoth 18 = .ok (.getfield 59, 3) := by decide +kernel
theorem dX6_longestInBoth_21 : decode cX6_longestInBoth 21 = .ok (.istore 4, 2) := by decide +kernel
theorem dX6_longestInBoth_23 : decode cX6_longestInBoth 23 = .ok (.iload 4, 2) := by decide +kernel
theorem dX6_longestInBoth_25 : decode cX6_longestInBoth 25 = .ok (.ifCond .lt 114, 3) := by decide +kernel
theorem dX6_longestInBoth_28 : decode cX6_longestInBoth 28 = .ok (.iload_n 3, 1) := by decide +kernel
theorem dX6_longestInBoth_29 : decode cX6_longestInBoth 29 = .ok (.aload_n 1, 1) := by decide +kernel
theorem dX6_longestInBoth_30 : decode cX6_longestInBoth 30 = .ok (.getfield 59, 3) := by decide +kernel
theorem dX6_longestInBoth_33 : decode cX6_longestInBoth 33 = .ok (.if_icmp .eq 12, 3) := by decide +kernel
theorem dX6_longestInBoth_36 : decode cX6_longestInBoth 36 = .ok (.iload 4, 2) := by decide +kernel
theorem dX6_longestInBoth_38 : decode cX6_longestInBoth 38 = .ok (.aload_n 2, 1) := by decide +kernel
theorem dX6_longestInBoth_39 : decode cX6_longestInBoth 39 = .ok (.getfield 59, 3) := by decide +kernel
theorem dX6_longestInBoth_42 : decode cX6_longestInBoth 42 = .ok (.if_icmp .ne 16, 3) := by decide +kernel
theorem dX6_longestInBoth_45 : decode cX6_longestInBoth 45 = .ok (.aload_n 0, 1) := by decide +kernel
theorem dX6_longestInBoth_46 : decode cX6_longestInBoth 46 = .ok (.getfield 32, 3) := by decide +kernel
theorem dX6_longestInBoth_49 : decode cX6_longestInBoth 49 = .ok (.iload_n 3, 1) := by decide +kernel
theorem dX6_longestInBoth_50 : decode cX6_longestInBoth 50 = .ok (.aaload, 1) := by decide +kernel
theorem dX6_longestInBoth_51 : decode cX6_longestInBoth 51 = .ok (.iload 4, 2) := by decide +kernel
theorem dX6_longestInBoth_53 : decode cX6_longestInBoth 53 = .ok (.iconst 0, 1) := by decide +kernel
theorem dX6_longestInBoth_54 : decode cX6_longestInBoth 54 = .ok (.iastore, 1) := by decide +kernel
theorem dX6_longestInBoth_55 : decode cX6_longestInBoth 55 = .ok (.goto 78, 3) := by decide +kernel
theorem dX6_longestInBoth_58 : decode cX6_longestInBoth 58 = .ok (.aload_n 1, 1) := by decide +kernel
theorem dX6_longestInBoth_59 : decode cX6_longestInBoth 59 = .ok (.iload_n 3, 1) := by decide +kernel
theorem dX6_longestInBoth_60 : decode cX6_longestInBoth 60 = .ok (.invokevirtual 89, 3) := by decide +kernel
theorem dX6_longestInBoth_63 : decode cX6_longestInBoth 63 = .ok (.aload_n 2, 1) := by decide +kernel
theorem dX6_longestInBoth_64 : decode cX6_longestInBoth 64 = .ok (.iload 4, 2) := by decide +kernel
theorem dX6_longestInBoth_66 : decode cX6_longestInBoth 66 = .ok (.invokevirtual 89, 3) := by decide +kernel
theorem dX6_longestInBoth_69 : decode cX6_longestInBoth 69 = .ok (.if_icmp .ne 30, 3) := by decide +kernel
theorem dX6_longestInBoth_72 : decode cX6_longestInBoth 72 = .ok (.aload_n 0, 1) := by decide +kernel
theorem dX6_longestInBoth_73 : decode cX6_longestInBoth 73 = .ok (.getfield 32, 3) := by decide +kernel
theorem dX6_longestInBoth_76 : decode cX6_longestInBoth 76 = .ok (.iload_n 3, 1) := by decide +kernel
theorem dX6_longestInBoth_77 : decode cX6_longestInBoth 77 = .ok (.aaload, 1) := by decide +kernel
theorem dX6_longestInBoth_78 : decode cX6_longestInBoth 78 = .ok (.iload 4, 2) := by decide +kernel
theorem dX6_longestInBoth_80 : decode cX6_longestInBoth 80 = .ok (.iconst 1, 1) := by decide +kernel
theorem dX6_longestInBoth_81 : decode cX6_longestInBoth 81 = .ok (.aload_n 0, 1) := by decide +kernel
theorem dX6_longestInBoth_82 : decode cX6_longestInBoth 82 = .ok (.getfield 32, 3) := by decide +kernel
theorem dX6_longestInBoth_85 : decode cX6_longestInBoth 85 = .ok (.iload_n 3, 1) := by decide +kernel
theorem dX6_longestInBoth_86 : decode cX6_longestInBoth 86 = .ok (.iconst 1, 1) := by decide +kernel
theorem dX6_longestInBoth_87 : decode cX6_longestInBoth 87 = .ok (.iadd, 1) := by decide +kernel
theorem dX6_longestInBoth_88 : decode cX6_longestInBoth 88 = .ok (.aaload, 1) := by decide +kernel
theorem dX6_longestInBoth_89 : decode cX6_longestInBoth 89 = .ok (.iload 4, 2) := by decide +kernel
theorem dX6_longestInBoth_91 : decode cX6_longestInBoth 91 = .ok (.iconst 1, 1) := by decide +kernel
theorem dX6_longestInBoth_92 : decode cX6_longestInBoth 92 = .ok (.iadd, 1) := by decide +kernel
theorem dX6_longestInBoth_93 : decode cX6_longestInBoth 93 = .ok (.iaload, 1) := by decide +kernel
theorem dX6_longestInBoth_94 : decode cX6_longestInBoth 94 = .ok (.iadd, 1) := by decide +kernel
theorem dX6_longestInBoth_95 : decode cX6_longestInBoth 95 = .ok (.iastore, 1) := by decide +kernel
theorem dX6_longestInBoth_96 : decode cX6_longestInBoth 96 = .ok (.goto 37, 3) := by decide +kernel
theorem dX6_longestInBoth_99 : decode cX6_longestInBoth 99 = .ok (.aload_n 0, 1) := by decide +kernel
theorem dX6_longestInBoth_100 : decode cX6_longestInBoth 100 = .ok (.getfield 32, 3) := by decide +kernel
theorem dX6_longestInBoth_103 : decode cX6_longestInBoth 103 = .ok (.iload_n 3, 1) := by decide +kernel
theorem dX6_longestInBoth_104 : decode cX6_longestInBoth 104 = .ok (.aaload, 1) := by decide +kernel
theorem dX6_longestInBoth_105 : decode cX6_longestInBoth 105 = .ok (.iload 4, 2) := by decide +kernel
theorem dX6_longestInBoth_107 : decode cX6_longestInBoth 107 = .ok (.aload_n 0, 1) := by decide +kernel
theorem dX6_longestInBoth_108 : decode cX6_longestInBoth 108 = .ok (.getfield 32, 3) := by decide +kernel
theorem dX6_longestInBoth_111 : decode cX6_longestInBoth 111 = .ok (.iload_n 3, 1) := by decide +kernel
theorem dX6_longestInBoth_112 : decode cX6_longestInBoth 112 = .ok (.iconst 1, 1) := by decide +kernel
theorem dX6_longestInBoth_113 : decode cX6_longestInBoth 113 = .ok (.iadd, 1) := by decide +kernel
theorem dX6_longestInBoth_114 : decode cX6_longestInBoth 114 = .ok (.aaload, 1) := by decide +kernel
theorem dX6_longestInBoth_115 : decode cX6_longestInBoth 115 = .ok (.iload 4, 2) := by decide +kernel
theorem dX6_longestInBoth_117 : decode cX6_longestInBoth 117 = .ok (.iaload, 1) := by decide +kernel
theorem dX6_longestInBoth_118 : decode cX6_longestInBoth 118 = .ok (.aload_n 0, 1) := by decide +kernel
theorem dX6_longestInBoth_119 : decode cX6_longestInBoth 119 = .ok (.getfield 32, 3) := by decide +kernel
theorem dX6_longestInBoth_122 : decode cX6_longestInBoth 122 = .ok (.iload_n 3, 1) := by decide +kernel
theorem dX6_longestInBoth_123 : decode cX6_longestInBoth 123 = .ok (.aaload, 1) := by decide +kernel
theorem dX6_longestInBoth_124 : decode cX6_longestInBoth 124 = .ok (.iload 4, 2) := by decide +kernel
theorem dX6_longestInBoth_126 : decode cX6_longestInBoth 126 = .ok (.iconst 1, 1) := by decide +kernel
theorem dX6_longestInBoth_127 : decode cX6_longestInBoth 127 = .ok (.iadd, 1) := by decide +kernel
theorem dX6_longestInBoth_128 : decode cX6_longestInBoth 128 = .ok (.iaload, 1) := by decide +kernel
theorem dX6_longestInBoth_129 : decode cX6_longestInBoth 129 = .ok (.invokestatic 106, 3) := by decide +kernel
theorem dX6_longestInBoth_132 : decode cX6_longestInBoth 132 = .ok (.iastore, 1) := by decide +kernel
theorem dX6_longestInBoth_133 : decode cX6_longestInBoth 133 = .ok (.iinc 4 (-1), 3) := by decide +kernel
theorem dX6_longestInBoth_136 : decode cX6_longestInBoth 136 = .ok (.goto (-113), 3) := by decide +kernel
theorem dX6_longestInBoth_139 : decode cX6_longestInBoth 139 = .ok (.iinc 3 (-1), 3) := by decide +kernel
theorem dX6_longestInBoth_142 : decode cX6_longestInBoth 142 = .ok (.goto (-129), 3) := by decide +kernel
theorem dX6_longestInBoth_145 : decode cX6_longestInBoth 145 = .ok (.iconst 0, 1) := by decide +kernel
theorem dX6_longestInBoth_146 : decode cX6_longestInBoth 146 = .ok (.istore_n 3, 1) := by decide +kernel
theorem dX6_longestInBoth_147 : decode cX6_longestInBoth 147 = .ok (.iconst 0, 1) := by decide +kernel
theorem dX6_longestInBoth_148 : decode cX6_longestInBoth 148 = .ok (.istore 4, 2) := by decide +kernel
theorem dX6_longestInBoth_150 : decode cX6_longestInBoth 150 = .ok (.aload_n 0, 1) := by decide +kernel
theorem dX6_longestInBoth_151 : decode cX6_longestInBoth 151 = .ok (.getfield 32, 3) := by decide +kernel
theorem dX6_longestInBoth_154 : decode cX6_longestInBoth 154 = .ok (.iconst 0, 1) := by decide +kernel
theorem dX6_longestInBoth_155 : decode cX6_longestInBoth 155 = .ok (.aaload, 1) := by decide +kernel
theorem dX6_longestInBoth_156 : decode cX6_longestInBoth 156 = .ok (.iconst 0, 1) := by decide +kernel
theorem dX6_longestInBoth_157 : decode cX6_longestInBoth 157 = .ok (.iaload, 1) := by decide +kernel
theorem dX6_longestInBoth_158 : decode cX6_longestInBoth 158 = .ok (.istore 5, 2) := by decide +kernel
theorem dX6_longestInBoth_160 : decode cX6_longestInBoth 160 = .ok (.iload 5, 2) := by decide +kernel
theorem dX6_longestInBoth_162 : decode cX6_longestInBoth 162 = .ok (.ifCond .le 75, 3) := by decide +kernel
theorem dX6_longestInBoth_165 : decode cX6_longestInBoth 165 = .ok (.iconst 0, 1) := by decide +kernel
theorem dX6_longestInBoth_166 : decode cX6_longestInBoth 166 = .ok (.istore 6, 2) := by decide +kernel
theorem dX6_longestInBoth_168 : decode cX6_longestInBoth 168 = .ok (.iload 6, 2) := by decide +kernel
theorem dX6_longestInBoth_170 : decode cX6_longestInBoth 170 = .ok (.bipush 9, 2) := by decide +kernel
theorem dX6_longestInBoth_172 : decode cX6_longestInBoth 172 = .ok (.if_icmp .ge 27, 3) := by decide +kernel
theorem dX6_longestInBoth_175 : decode cX6_longestInBoth 175 = .ok (.aload_n 0, 1) := by decide +kernel
theorem dX6_longestInBoth_176 : decode cX6_longestInBoth 176 = .ok (.iload 6, 2) := by decide +kernel
theorem dX6_longestInBoth_178 : decode cX6_longestInBoth 178 = .ok (.aload_n 1, 1) := by decide +kernel
theorem dX6_longestInBoth_179 : decode cX6_longestInBoth 179 = .ok (.iload_n 3, 1) := by decide +kernel
theorem dX6_longestInBoth_180 : decode cX6_longestInBoth 180 = .ok (.aload_n 2, 1) := by decide +kernel
theorem dX6_longestInBoth_181 : decode cX6_longestInBoth 181 = .ok (.iload 4, 2) := by decide +kernel
theorem dX6_longestInBoth_183 : decode cX6_longestInBoth 183 = .ok (.invokevirtual 111, 3) := by decide +kernel
theorem dX6_longestInBoth_186 : decode cX6_longestInBoth 186 = .ok (.iload 5, 2) := by decide +kernel
theorem dX6_longestInBoth_188 : decode cX6_longestInBoth 188 = .ok (.iconst 1, 1) := by decide +kernel
theorem dX6_longestInBoth_189 : decode cX6_longestInBoth 189 = .ok (.isub, 1) := by decide +kernel
theorem dX6_longestInBoth_190 : decode cX6_longestInBoth 190 = .ok (.if_icmp .ge 9, 3) := by decide +kernel
theorem dX6_longestInBoth_193 : decode cX6_longestInBoth 193 = .ok (.iinc 6 1, 3) := by decide +kernel
theorem dX6_longestInBoth_196 : decode cX6_longestInBoth 196 = .ok (.goto (-28), 3) := by decide +kernel
theorem dX6_longestInBoth_199 : decode cX6_longestInBoth 199 = .ok (.aload_n 0, 1) := by decide +kernel
theorem dX6_longestInBoth_200 : decode cX6_longestInBoth 200 = .ok (.getfield 14, 3) := by decide +kernel
theorem dX6_longestInBoth_203 : decode cX6_longestInBoth 203 = .ok (.iload 6, 2) := by decide +kernel
theorem dX6_longestInBoth_205 : decode cX6_longestInBoth 205 = .ok (.invokevirtual 100, 3) := by decide +kernel
theorem dX6_longestInBoth_208 : decode cX6_longestInBoth 208 = .ok (.pop, 1) := by decide +kernel
theorem dX6_longestInBoth_209 : decode cX6_longestInBoth 209 = .ok (.aload_n 1, 1) := by decide +kernel
theorem dX6_longestInBoth_210 : decode cX6_longestInBoth 210 = .ok (.iload_n 3, 1) := by decide +kernel
theorem dX6_longestInBoth_211 : decode cX6_longestInBoth 211 = .ok (.iload 6, 2) := by decide +kernel
theorem dX6_longestInBoth_213 : decode cX6_longestInBoth 213 = .ok (.invokestatic 115, 3) := by decide +kernel
theorem dX6_longestInBoth_216 : decode cX6_longestInBoth 216 = .ok (.iconst 1, 1) := by decide +kernel
theorem dX6_longestInBoth_217 : decode cX6_longestInBoth 217 = .ok (.iadd, 1) := by decide +kernel
theorem dX6_longestInBoth_218 : decode cX6_longestInBoth 218 = .ok (.istore_n 3, 1) := by decide +kernel
theorem dX6_longestInBoth_219 : decode cX6_longestInBoth 219 = .ok (.aload_n 2, 1) := by decide +kernel
theorem dX6_longestInBoth_220 : decode cX6_longestInBoth 220 = .ok (.iload 4, 2) := by decide +kernel
theorem dX6_longestInBoth_222 : decode cX6_longestInBoth 222 = .ok (.iload 6, 2) := by decide +kernel
theorem dX6_longestInBoth_224 : decode cX6_longestInBoth 224 = .ok (.invokestatic 115, 3) := by decide +kernel
theorem dX6_longestInBoth_227 : decode cX6_longestInBoth 227 = .ok (.iconst 1, 1) := by decide +kernel
theorem dX6_longestInBoth_228 : decode cX6_longestInBoth 228 = .ok (.iadd, 1) := by decide +kernel
theorem dX6_longestInBoth_229 : decode cX6_longestInBoth 229 = .ok (.istore 4, 2) := by decide +kernel
theorem dX6_longestInBoth_231 : decode cX6_longestInBoth 231 = .ok (.iinc 5 (-1), 3) := by decide +kernel
theorem dX6_longestInBoth_234 : decode cX6_longestInBoth 234 = .ok (.goto (-74), 3) := by decide +kernel
theorem dX6_longestInBoth_237 : decode cX6_longestInBoth 237 = .ok (.return_, 1) := by decide +kernel
theorem dX6_longBehind_0 : decode cX6_longBehind 0 = .ok (.aload_n 2, 1) := by decide +kernel
theorem dX6_longBehind_1 : decode cX6_longBehind 1 = .ok (.iload_n 3, 1) := by decide +kernel
theorem dX6_longBehind_2 : decode cX6_longBehind 2 = .ok (.iload_n 1, 1) := by decide +kernel
theorem dX6_longBehind_3 : decode cX6_longBehind 3 = .ok (.invokestatic 115, 3) := by decide +kernel
theorem dX6_longBehind_6 : decode cX6_longBehind 6 = .ok (.istore 6, 2) := by decide +kernel
theorem dX6_longBehind_8 : decode cX6_longBehind 8 = .ok (.aload 4, 2) := by decide +kernel
theorem dX6_longBehind_10 : decode cX6_longBehind 10 = .ok (.iload 5, 2) := by decide +kernel
theorem dX6_longBehind_12 : decode cX6_longBehind 12 = .ok (.iload_n 1, 1) := by decide +kernel
theorem dX6_longBehind_13 : decode cX6_longBehind 13 = .ok (.invokestatic 115, 3) := by decide +kernel
theorem dX6_longBehind_16 : decode cX6_longBehind 16 = .ok (.istore 7, 2) := by decide +kernel
theorem dX6_longBehind_18 : decode cX6_longBehind 18 = .ok (.iload 6, 2) := by decide +kernel
theorem dX6_longBehind_20 : decode cX6_longBehind 20 = .ok (.ifCond .lt 8, 3) := by decide +kernel
theorem dX6_longBehind_23 : decode cX6_longBehind 23 = .ok (.iload 7, 2) := by decide +kernel
theorem dX6_longBehind_25 : decode cX6_longBehind 25 = .ok (.ifCond .ge 7, 3) := by decide +kernel
theorem dX6_longBehind_28 : decode cX6_longBehind 28 = .ok (.iconst (-1), 1) := by decide +kernel
theorem dX6_longBehind_29 : decode cX6_longBehind 29 = .ok (.goto 17, 3) := by decide +kernel
theorem dX6_longBehind_32 : decode cX6_longBehind 32 = .ok (.aload_n 0, 1) := by decide +kernel
theorem dX6_longBehind_33 : decode cX6_longBehind 33 = .ok (.getfield 32, 3) := by decide +kernel
theorem dX6_longBehind_36 : decode cX6_longBehind 36 = .ok (.iload 6, 2) := by decide +kernel
theorem dX6_longBehind_38 : decode cX6_longBehind 38 = .ok (.iconst 1, 1) := by decide +kernel
theorem dX6_longBehind_39 : decode cX6_longBehind 39 = .ok (.iadd, 1) := by decide +kernel
theorem dX6_longBehind_40 : decode cX6_longBehind 40 = .ok (.aaload, 1) := by decide +kernel
theorem dX6_longBehind_41 : decode cX6_longBehind 41 = .ok (.iload 7, 2) := by decide +kernel
theorem dX6_longBehind_43 : decode cX6_longBehind 43 = .ok (.iconst 1, 1) := by decide +kernel
theorem dX6_longBehind_44 : decode cX6_longBehind 44 = .ok (.iadd, 1) := by decide +kernel
theorem dX6_longBehind_45 : decode cX6_longBehind 45 = .ok (.iaload, 1) := by decide +kernel
theorem dX6_longBehind_46 : decode cX6_longBehind 46 = .ok (.ireturn, 1) := by decide +kernel
theorem dX6_next_0 : decode cX6_next 0 = .ok (.iload_n 1, 1) := by decide +kernel
theorem dX6_next_1 : decode cX6_next 1 = .ok (.istore_n 3, 1) := by decide +kernel
theorem dX6_next_2 : decode cX6_next 2 = .ok (.iload_n 3, 1) := by decide +kernel
theorem dX6_next_3 : decode cX6_next 3 = .ok (.aload_n 0, 1) := by decide +kernel
theorem dX6_next_4 : decode cX6_next 4 = .ok (.getfield 59, 3) := by decide +kernel
theorem dX6_next_7 : decode cX6_next 7 = .ok (.if_icmp .ge 20, 3) := by decide +kernel
theorem dX6_next_10 : decode cX6_next 10 = .ok (.aload_n 0, 1) := by decide +kernel
theorem dX6_next_11 : decode cX6_next 11 = .ok (.iload_n 3, 1) := by decide +kernel
theorem dX6_next_12 : decode cX6_next 12 = .ok (.invokevirtual 89, 3) := by decide +kernel
theorem dX6_next_15 : decode cX6_next 15 = .ok (.iload_n 2, 1) := by decide +kernel
theorem dX6_next_16 : decode cX6_next 16 = .ok (.if_icmp .ne 5, 3) := by decide +kernel
theorem dX6_next_19 : decode cX6_next 19 = .ok (.iload_n 3, 1) := by decide +kernel
theorem dX6_next_20 : decode cX6_next 20 = .ok (.ireturn, 1) := by decide +kernel
theorem dX6_next_21 : decode cX6_next 21 = .ok (.iinc 3 1, 3) := by decide +kernel
theorem dX6_next_24 : decode cX6_next 24 = .ok (.goto (-22), 3) := by decide +kernel
theorem dX6_next_27 : decode cX6_next 27 = .ok (.iconst (-1), 1) := by decide +kernel
theorem dX6_next_28 : decode cX6_next 28 = .ok (.ireturn, 1) := by decide +kernel
theorem dX6_distance_0 : decode cX6_distance 0 = .ok (.iconst 0, 1) := by decide +kernel
theorem dX6_distance_1 : decode cX6_distance 1 = .ok (.istore_n 3, 1) := by decide +kernel
theorem dX6_distance_2 : decode cX6_distance 2 = .ok (.iload_n 3, 1) := by decide +kernel
theorem dX6_distance_3 : decode cX6_distance 3 = .ok (.aload_n 1, 1) := by decide +kernel
theorem dX6_distance_4 : decode cX6_distance 4 = .ok (.getfield 59, 3) := by decide +kernel
theorem dX6_distance_7 : decode cX6_distance 7 = .ok (.if_icmp .gt 136, 3) := by decide +kernel
theorem dX6_distance_10 : decode cX6_distance 10 = .ok (.iconst 0, 1) := by decide +kernel
theorem dX6_distance_11 : decode cX6_distance 11 = .ok (.istore 4, 2) := by decide +kernel
theorem dX6_distance_13 : decode cX6_distance 13 = .ok (.iload 4, 2) := by decide +kernel
theorem dX6_distance_15 : decode cX6_distance 15 = .ok (.aload_n 2, 1) := by decide +kernel
theorem dX6_distance_16 : decode cX6_distance 16 = .ok (.getfield 59, 3) := by decide +kernel
theorem dX6_distance_19 : decode cX6_distance 19 = .ok (.if_icmp .gt 118, 3) := by decide +kernel
theorem dX6_distance_22 : decode cX6_distance 22 = .ok (.iload_n 3, 1) := by decide +kernel
theorem dX6_distance_23 : decode cX6_distance 23 = .ok (.ifCond .eq 8, 3) := by decide +kernel
theorem dX6_distance_26 : decode cX6_distance 26 = .ok (.iload 4, 2) := by decide +kernel
theorem dX6_distance_28 : decode cX6_distance 28 = .ok (.ifCond .ne 19, 3) := by decide +kernel
theorem dX6_distance_31 : decode cX6_distance 31 = .ok (.aload_n 0, 1) := by decide +kernel
theorem dX6_distance_32 : decode cX6_distance 32 = .ok (.getfield 32, 3) := by decide +kernel
theorem dX6_distance_35 : decode cX6_distance 35 = .ok (.iload_n 3, 1) := by decide +kernel
theorem dX6_distance_36 : decode cX6_distance 36 = .ok (.aaload, 1) := by decide +kernel
theorem dX6_distance_37 : decode cX6_distance 37 = .ok (.iload 4, 2) := by decide +kernel
theorem dX6_distance_39 : decode cX6_distance 39 = .ok (.iload_n 3, 1) := by decide +kernel
theorem dX6_distance_40 : decode cX6_distance 40 = .ok (.iload 4, 2) := by decide +kernel
theorem dX6_distance_42 : decode cX6_distance 42 = .ok (.iadd, 1) := by decide +kernel
theorem dX6_distance_43 : decode cX6_distance 43 = .ok (.iastore, 1) := by decide +kernel
theorem dX6_distance_44 : decode cX6_distance 44 = .ok (.goto 87, 3) := by decide +kernel
theorem dX6_distance_47 : decode cX6_distance 47 = .ok (.aload_n 0, 1) := by decide +kernel
theorem dX6_distance_48 : decode cX6_distance 48 = .ok (.getfield 32, 3) := by decide +kernel
theorem dX6_distance_51 : decode cX6_distance 51 = .ok (.iload_n 3, 1) := by decide +kernel
theorem dX6_distance_52 : decode cX6_distance 52 = .ok (.iconst 1, 1) := by decide +kernel
theorem dX6_distance_53 : decode cX6_distance 53 = .ok (.isub, 1) := by decide +kernel
theorem dX6_distance_54 : decode cX6_distance 54 = .ok (.aaload, 1) := by decide +kernel
theorem dX6_distance_55 : decode cX6_distance 55 = .ok (.iload 4, 2) := by decide +kernel
theorem dX6_distance_57 : decode cX6_distance 57 = .ok (.iconst 1, 1) := by decide +kernel
theorem dX6_distance_58 : decode cX6_distance 58 = .ok (.isub, 1) := by decide +kernel
theorem dX6_distance_59 : decode cX6_distance 59 = .ok (.iaload, 1) := by decide +kernel
theorem dX6_distance_60 : decode cX6_distance 60 = .ok (.aload_n 1, 1) := by decide +kernel
theorem dX6_distance_61 : decode cX6_distance 61 = .ok (.iload_n 3, 1) := by decide +kernel
theorem dX6_distance_62 : decode cX6_distance 62 = .ok (.iconst 1, 1) := by decide +kernel
theorem dX6_distance_63 : decode cX6_distance 63 = .ok (.isub, 1) := by decide +kernel
theorem dX6_distance_64 : decode cX6_distance 64 = .ok (.invokevirtual 89, 3) := by decide +kernel
theorem dX6_distance_67 : decode cX6_distance 67 = .ok (.aload_n 2, 1) := by decide +kernel
theorem dX6_distance_68 : decode cX6_distance 68 = .ok (.iload 4, 2) := by decide +kernel
theorem dX6_distance_70 : decode cX6_distance 70 = .ok (.iconst 1, 1) := by decide +kernel
theorem dX6_distance_71 : decode cX6_distance 71 = .ok (.isub, 1) := by decide +kernel
theorem dX6_distance_72 : decode cX6_distance 72 = .ok (.invokevirtual 89, 3) := by decide +kernel
theorem dX6_distance_75 : decode cX6_distance 75 = .ok (.if_icmp .ne 7, 3) := by decide +kernel
theorem dX6_distance_78 : decode cX6_distance 78 = .ok (.iconst 0, 1) := by decide +kernel
theorem dX6_distance_79 : decode cX6_distance 79 = .ok (.goto 4, 3) := by decide +kernel
theorem dX6_distance_82 : decode cX6_distance 82 = .ok (.iconst 1, 1) := by decide +kernel
theorem dX6_distance_83 : decode cX6_distance 83 = .ok (.iadd, 1) := by decide +kernel
theorem dX6_distance_84 : decode cX6_distance 84 = .ok (.istore 5, 2) := by decide +kernel
theorem dX6_distance_86 : decode cX6_distance 86 = .ok (.aload_n 0, 1) := by decide +kernel
theorem dX6_distance_87 : decode cX6_distance 87 = .ok (.getfield 32, 3) := by decide +kernel
theorem dX6_distance_90 : decode cX6_distance 90 = .ok (.iload_n 3, 1) := by decide +kernel
theorem dX6_distance_91 : decode cX6_distance 91 = .ok (.iconst 1, 1) := by decide +kernel
theorem dX6_distance_92 : decode cX6_distance 92 = .ok (.isub, 1) := by decide +kernel
theorem dX6_distance_93 : decode cX6_distance 93 = .ok (.aaload, 1) := by decide +kernel
theorem dX6_distance_94 : decode cX6_distance 94 = .ok (.iload 4, 2) := by decide +kernel
theorem dX6_distance_96 : decode cX6_distance 96 = .ok (.iaload, 1) := by decide +kernel
theorem dX6_distance_97 : decode cX6_distance 97 = .ok (.aload_n 0, 1) := by decide +kernel
theorem dX6_distance_98 : decode cX6_distance 98 = .ok (.getfield 32, 3) := by decide +kernel
theorem dX6_distance_101 : decode cX6_distance 101 = .ok (.iload_n 3, 1) := by decide +kernel
theorem dX6_distance_102 : decode cX6_distance 102 = .ok (.aaload, 1) := by decide +kernel
theorem dX6_distance_103 : decode cX6_distance 103 = .ok (.iload 4, 2) := by decide +kernel
theorem dX6_distance_105 : decode cX6_distance 105 = .ok (.iconst 1, 1) := by decide +kernel
theorem dX6_distance_106 : decode cX6_distance 106 = .ok (.isub, 1) := by decide +kernel
theorem dX6_distance_107 : decode cX6_distance 107 = .ok (.iaload, 1) := by decide +kernel
theorem dX6_distance_108 : decode cX6_distance 108 = .ok (.invokestatic 118, 3) := by decide +kernel
theorem dX6_distance_111 : decode cX6_distance 111 = .ok (.iconst 1, 1) := by decide +kernel
theorem dX6_distance_112 : decode cX6_distance 112 = .ok (.iadd, 1) := by decide +kernel
theorem dX6_distance_113 : decode cX6_distance 113 = .ok (.istore 6, 2) := by decide +kernel
theorem dX6_distance_115 : decode cX6_distance 115 = .ok (.aload_n 0, 1) := by decide +kernel
theorem dX6_distance_116 : decode cX6_distance 116 = .ok (.getfield 32, 3) := by decide +kernel
theorem dX6_distance_119 : decode cX6_distance 119 = .ok (.iload_n 3, 1) := by decide +kernel
theorem dX6_distance_120 : decode cX6_distance 120 = .ok (.aaload, 1) := by decide +kernel
theorem dX6_distance_121 : decode cX6_distance 121 = .ok (.iload 4, 2) := by decide +kernel
theorem dX6_distance_123 : decode cX6_distance 123 = .ok (.iload 5, 2) := by decide +kernel
theorem dX6_distance_125 : decode cX6_distance 125 = .ok (.iload 6, 2) := by decide +kernel
theorem dX6_distance_127 : decode cX6_distance 127 = .ok (.invokestatic 118, 3) := by decide +kernel
theorem dX6_distance_130 : decode cX6_distance 130 = .ok (.iastore, 1) := by decide +kernel
theorem dX6_distance_131 : decode cX6_distance 131 = .ok (.iinc 4 1, 3) := by decide +kernel
theorem dX6_distance_134 : decode cX6_distance 134 = .ok (.goto (-121), 3) := by decide +kernel
theorem dX6_distance_137 : decode cX6_distance 137 = .ok (.iinc 3 1, 3) := by decide +kernel
theorem dX6_distance_140 : decode cX6_distance 140 = .ok (.goto (-138), 3) := by decide +kernel
theorem dX6_distance_143 : decode cX6_distance 143 = .ok (.aload_n 0, 1) := by decide +kernel
theorem dX6_distance_144 : decode cX6_distance 144 = .ok (.getfield 32, 3) := by decide +kernel
theorem dX6_distance_147 : decode cX6_distance 147 = .ok (.aload_n 1, 1) := by decide +kernel
theorem dX6_distance_148 : decode cX6_distance 148 = .ok (.getfield 59, 3) := by decide +kernel
theorem dX6_distance_151 : decode cX6_distance 151 = .ok (.aaload, 1) := by decide +kernel
theorem dX6_distance_152 : decode cX6_distance 152 = .ok (.aload_n 2, 1) := by decide +kernel
theorem dX6_distance_153 : decode cX6_distance 153 = .ok (.getfield 59, 3) := by decide +kernel
theorem dX6_distance_156 : decode cX6_distance 156 = .ok (.iaload, 1) := by decide +kernel
theorem dX6_distance_157 : decode cX6_distance 157 = .ok (.ireturn, 1) := by decide +kernel
theorem dX6_grown_0 : decode cX6_grown 0 = .ok (.aload_n 0, 1) := by decide +kernel
theorem dX6_grown_1 : decode cX6_grown 1 = .ok (.getfield 35, 3) := by decide +kernel
theorem dX6_grown_4 : decode cX6_grown 4 = .ok (.iconst 0, 1) := by decide +kernel
theorem dX6_grown_5 : decode cX6_grown 5 = .ok (.invokestatic 41, 3) := by decide +kernel
theorem dX6_grown_8 : decode cX6_grown 8 = .ok (.iload_n 1, 1) := by decide +kernel
theorem dX6_grown_9 : decode cX6_grown 9 = .ok (.invokestatic 47, 3) := by decide +kernel
theorem dX6_grown_12 : decode cX6_grown 12 = .ok (.istore 4, 2) := by decide +kernel
theorem dX6_grown_14 : decode cX6_grown 14 = .ok (.iconst 0, 1) := by decide +kernel
theorem dX6_grown_15 : decode cX6_grown 15 = .ok (.istore 5, 2) := by decide +kernel
theorem dX6_grown_17 : decode cX6_grown 17 = .ok (.iload 5, 2) := by decide +kernel
theorem dX6_grown_19 : decode cX6_grown 19 = .ok (.iload 4, 2) := by decide +kernel
theorem dX6_grown_21 : decode cX6_grown 21 = .ok (.if_icmp .ge 24, 3) := by decide +kernel
theorem dX6_grown_24 : decode cX6_grown 24 = .ok (.aload_n 0, 1) := by decide +kernel
theorem dX6_grown_25 : decode cX6_grown 25 = .ok (.getfield 35, 3) := by decide +kernel
theorem dX6_grown_28 : decode cX6_grown 28 = .ok (.iload_n 1, 1) := by decide +kernel
theorem dX6_grown_29 : decode cX6_grown 29 = .ok (.iload 5, 2) := by decide +kernel
theorem dX6_grown_31 : decode cX6_grown 31 = .ok (.invokestatic 51, 3) := by decide +kernel
theorem dX6_grown_34 : decode cX6_grown 34 = .ok (.dup2, 1) := by decide +kernel
theorem dX6_grown_35 : decode cX6_grown 35 = .ok (.iaload, 1) := by decide +kernel
theorem dX6_grown_36 : decode cX6_grown 36 = .ok (.iconst 1, 1) := by decide +kernel
theorem dX6_grown_37 : decode cX6_grown 37 = .ok (.iadd, 1) := by decide +kernel
theorem dX6_grown_38 : decode cX6_grown 38 = .ok (.iastore, 1) := by decide +kernel
theorem dX6_grown_39 : decode cX6_grown 39 = .ok (.iinc 5 1, 3) := by decide +kernel
theorem dX6_grown_42 : decode cX6_grown 42 = .ok (.goto (-25), 3) := by decide +kernel
theorem dX6_grown_45 : decode cX6_grown 45 = .ok (.iconst 0, 1) := by decide +kernel
theorem dX6_grown_46 : decode cX6_grown 46 = .ok (.istore 5, 2) := by decide +kernel
theorem dX6_grown_48 : decode cX6_grown 48 = .ok (.iload 5, 2) := by decide +kernel
theorem dX6_grown_50 : decode cX6_grown 50 = .ok (.iload_n 2, 1) := by decide +kernel
theorem dX6_grown_51 : decode cX6_grown 51 = .ok (.if_icmp .ge 14, 3) := by decide +kernel
theorem dX6_grown_54 : decode cX6_grown 54 = .ok (.aload_n 0, 1) := by decide +kernel
theorem dX6_grown_55 : decode cX6_grown 55 = .ok (.aload_n 3, 1) := by decide +kernel
theorem dX6_grown_56 : decode cX6_grown 56 = .ok (.invokevirtual 121, 3) := by decide +kernel
theorem dX6_grown_59 : decode cX6_grown 59 = .ok (.iinc 5 1, 3) := by decide +kernel
theorem dX6_grown_62 : decode cX6_grown 62 = .ok (.goto (-14), 3) := by decide +kernel
theorem dX6_grown_65 : decode cX6_grown 65 = .ok (.iconst 0, 1) := by decide +kernel
theorem dX6_grown_66 : decode cX6_grown 66 = .ok (.istore 5, 2) := by decide +kernel
theorem dX6_grown_68 : decode cX6_grown 68 = .ok (.iconst 0, 1) := by decide +kernel
theorem dX6_grown_69 : decode cX6_grown 69 = .ok (.istore 6, 2) := by decide +kernel
theorem dX6_grown_71 : decode cX6_grown 71 = .ok (.iload 6, 2) := by decide +kernel
theorem dX6_grown_73 : decode cX6_grown 73 = .ok (.bipush 10, 2) := by decide +kernel
theorem dX6_grown_75 : decode cX6_grown 75 = .ok (.if_icmp .ge 21, 3) := by decide +kernel
theorem dX6_grown_78 : decode cX6_grown 78 = .ok (.iload 5, 2) := by decide +kernel
theorem dX6_grown_80 : decode cX6_grown 80 = .ok (.aload_n 0, 1) := by decide +kernel
theorem dX6_grown_81 : decode cX6_grown 81 = .ok (.getfield 35, 3) := by decide +kernel
theorem dX6_grown_84 : decode cX6_grown 84 = .ok (.iload 6, 2) := by decide +kernel
theorem dX6_grown_86 : decode cX6_grown 86 = .ok (.iaload, 1) := by decide +kernel
theorem dX6_grown_87 : decode cX6_grown 87 = .ok (.iadd, 1) := by decide +kernel
theorem dX6_grown_88 : decode cX6_grown 88 = .ok (.istore 5, 2) := by decide +kernel
theorem dX6_grown_90 : decode cX6_grown 90 = .ok (.iinc 6 1, 3) := by decide +kernel
theorem dX6_grown_93 : decode cX6_grown 93 = .ok (.goto (-22), 3) := by decide +kernel
theorem dX6_grown_96 : decode cX6_grown 96 = .ok (.iload 5, 2) := by decide +kernel
theorem dX6_grown_98 : decode cX6_grown 98 = .ok (.sipush 9999, 3) := by decide +kernel
theorem dX6_grown_101 : decode cX6_grown 101 = .ok (.invokestatic 118, 3) := by decide +kernel
theorem dX6_grown_104 : decode cX6_grown 104 = .ok (.ireturn, 1) := by decide +kernel
theorem dX6_growOnce_0 : decode cX6_growOnce 0 = .ok (.aload_n 0, 1) := by decide +kernel
theorem dX6_growOnce_1 : decode cX6_growOnce 1 = .ok (.getfield 38, 3) := by decide +kernel
theorem dX6_growOnce_4 : decode cX6_growOnce 4 = .ok (.iconst 0, 1) := by decide +kernel
theorem dX6_growOnce_5 : decode cX6_growOnce 5 = .ok (.invokestatic 41, 3) := by decide +kernel
theorem dX6_growOnce_8 : decode cX6_growOnce 8 = .ok (.iconst 0, 1) := by decide +kernel
theorem dX6_growOnce_9 : decode cX6_growOnce 9 = .ok (.istore_n 2, 1) := by decide +kernel
theorem dX6_growOnce_10 : decode cX6_growOnce 10 = .ok (.iload_n 2, 1) := by decide +kernel
theorem dX6_growOnce_11 : decode cX6_growOnce 11 = .ok (.bipush 10, 2) := by decide +kernel
theorem dX6_growOnce_13 : decode cX6_growOnce 13 = .ok (.if_icmp .ge 100, 3) := by decide +kernel
theorem dX6_growOnce_16 : decode cX6_growOnce 16 = .ok (.aload_n 1, 1) := by decide +kernel
theorem dX6_growOnce_17 : decode cX6_growOnce 17 = .ok (.iload_n 2, 1) := by decide +kernel
theorem dX6_growOnce_18 : decode cX6_growOnce 18 = .ok (.iconst 0, 1) := by decide +kernel
theorem dX6_growOnce_19 : decode cX6_growOnce 19 = .ok (.invokestatic 55, 3) := by decide +kernel
theorem dX6_growOnce_22 : decode cX6_growOnce 22 = .ok (.iaload, 1) := by decide +kernel
theorem dX6_growOnce_23 : decode cX6_growOnce 23 = .ok (.istore_n 3, 1) := by decide +kernel
theorem dX6_growOnce_24 : decode cX6_growOnce 24 = .ok (.iload_n 3, 1) := by decide +kernel
theorem dX6_growOnce_25 : decode cX6_growOnce 25 = .ok (.bipush 11, 2) := by decide +kernel
theorem dX6_growOnce_27 : decode cX6_growOnce 27 = .ok (.bipush 110, 2) := by decide +kernel
theorem dX6_growOnce_29 : decode cX6_growOnce 29 = .ok (.invokestatic 77, 3) := by decide +kernel
theorem dX6_growOnce_32 : decode cX6_growOnce 32 = .ok (.ifCond .eq 48, 3) := by decide +kernel
theorem dX6_growOnce_35 : decode cX6_growOnce 35 = .ok (.aload_n 0, 1) := by decide +kernel
theorem dX6_growOnce_36 : decode cX6_growOnce 36 = .ok (.getfield 38, 3) := by decide +kernel
theorem dX6_growOnce_39 : decode cX6_growOnce 39 = .ok (.iload_n 3, 1) := by decide +kernel
theorem dX6_growOnce_40 : decode cX6_growOnce 40 = .ok (.bipush 11, 2) := by decide +kernel
theorem dX6_growOnce_42 : decode cX6_growOnce 42 = .ok (.isub, 1) := by decide +kernel
theorem dX6_growOnce_43 : decode cX6_growOnce 43 = .ok (.bipush 10, 2) := by decide +kernel
theorem dX6_growOnce_45 : decode cX6_growOnce 45 = .ok (.idiv, 1) := by decide +kernel
theorem dX6_growOnce_46 : decode cX6_growOnce 46 = .ok (.dup2, 1) := by decide +kernel
theorem dX6_growOnce_47 : decode cX6_growOnce 47 = .ok (.iaload, 1) := by decide +kernel
theorem dX6_growOnce_48 : decode cX6_growOnce 48 = .ok (.aload_n 0, 1) := by decide +kernel
theorem dX6_growOnce_49 : decode cX6_growOnce 49 = .ok (.getfield 35, 3) := by decide +kernel
theorem dX6_growOnce_52 : decode cX6_growOnce 52 = .ok (.iload_n 2, 1) := by decide +kernel
theorem dX6_growOnce_53 : decode cX6_growOnce 53 = .ok (.iaload, 1) := by decide +kernel
theorem dX6_growOnce_54 : decode cX6_growOnce 54 = .ok (.iadd, 1) := by decide +kernel
theorem dX6_growOnce_55 : decode cX6_growOnce 55 = .ok (.iastore, 1) := by decide +kernel
theorem dX6_growOnce_56 : decode cX6_growOnce 56 = .ok (.aload_n 0, 1) := by decide +kernel
theorem dX6_growOnce_57 : decode cX6_growOnce 57 = .ok (.getfield 38, 3) := by decide +kernel
theorem dX6_growOnce_60 : decode cX6_growOnce 60 = .ok (.iload_n 3, 1) := by decide +kernel
theorem dX6_growOnce_61 : decode cX6_growOnce 61 = .ok (.bipush 11, 2) := by decide +kernel
theorem dX6_growOnce_63 : decode cX6_growOnce 63 = .ok (.isub, 1) := by decide +kernel
theorem dX6_growOnce_64 : decode cX6_growOnce 64 = .ok (.bipush 10, 2) := by decide +kernel
theorem dX6_growOnce_66 : decode cX6_growOnce 66 = .ok (.irem, 1) := by decide +kernel
theorem dX6_growOnce_67 : decode cX6_growOnce 67 = .ok (.dup2, 1) := by decide +kernel
theorem dX6_growOnce_68 : decode cX6_growOnce 68 = .ok (.iaload, 1) := by decide +kernel
theorem dX6_growOnce_69 : decode cX6_growOnce 69 = .ok (.aload_n 0, 1) := by decide +kernel
theorem dX6_growOnce_70 : decode cX6_growOnce 70 = .ok (.getfield 35, 3) := by decide +kernel
theorem dX6_growOnce_73 : decode cX6_growOnce 73 = .ok (.iload_n 2, 1) := by decide +kernel
theorem dX6_growOnce_74 : decode cX6_growOnce 74 = .ok (.iaload, 1) := by decide +kernel
theorem dX6_growOnce_75 : decode cX6_growOnce 75 = .ok (.iadd, 1) := by decide +kernel
theorem dX6_growOnce_76 : decode cX6_growOnce 76 = .ok (.iastore, 1) := by decide +kernel
theorem dX6_growOnce_77 : decode cX6_growOnce 77 = .ok (.goto 30, 3) := by decide +kernel
theorem dX6_growOnce_80 : decode cX6_growOnce 80 = .ok (.iload_n 3, 1) := by decide +kernel
theorem dX6_growOnce_81 : decode cX6_growOnce 81 = .ok (.iconst 1, 1) := by decide +kernel
theorem dX6_growOnce_82 : decode cX6_growOnce 82 = .ok (.bipush 10, 2) := by decide +kernel
theorem dX6_growOnce_84 : decode cX6_growOnce 84 = .ok (.invokestatic 77, 3) := by decide +kernel
theorem dX6_growOnce_87 : decode cX6_growOnce 87 = .ok (.ifCond .eq 20, 3) := by decide +kernel
theorem dX6_growOnce_90 : decode cX6_growOnce 90 = .ok (.aload_n 0, 1) := by decide +kernel
theorem dX6_growOnce_91 : decode cX6_growOnce 91 = .ok (.getfield 38, 3) := by decide +kernel
theorem dX6_growOnce_94 : decode cX6_growOnce 94 = .ok (.iload_n 3, 1) := by decide +kernel
theorem dX6_growOnce_95 : decode cX6_growOnce 95 = .ok (.iconst 1, 1) := by decide +kernel
theorem dX6_growOnce_96 : decode cX6_growOnce 96 = .ok (.isub, 1) := by decide +kernel
theorem dX6_growOnce_97 : decode cX6_growOnce 97 = .ok (.dup2, 1) := by decide +kernel
theorem dX6_growOnce_98 : decode cX6_growOnce 98 = .ok (.iaload, 1) := by decide +kernel
theorem dX6_growOnce_99 : decode cX6_growOnce 99 = .ok (.aload_n 0, 1) := by decide +kernel
theorem dX6_growOnce_100 : decode cX6_growOnce 100 = .ok (.getfield 35, 3) := by decide +kernel
theorem dX6_growOnce_103 : decode cX6_growOnce 103 = .ok (.iload_n 2, 1) := by decide +kernel
theorem dX6_growOnce_104 : decode cX6_growOnce 104 = .ok (.iaload, 1) := by decide +kernel
theorem dX6_growOnce_105 : decode cX6_growOnce 105 = .ok (.iadd, 1) := by decide +kernel
theorem dX6_growOnce_106 : decode cX6_growOnce 106 = .ok (.iastore, 1) := by decide +kernel
theorem dX6_growOnce_107 : decode cX6_growOnce 107 = .ok (.iinc 2 1, 3) := by decide +kernel
theorem dX6_growOnce_110 : decode cX6_growOnce 110 = .ok (.goto (-100), 3) := by decide +kernel
theorem dX6_growOnce_113 : decode cX6_growOnce 113 = .ok (.aload_n 0, 1) := by decide +kernel
theorem dX6_growOnce_114 : decode cX6_growOnce 114 = .ok (.getfield 38, 3) := by decide +kernel
theorem dX6_growOnce_117 : decode cX6_growOnce 117 = .ok (.iconst 0, 1) := by decide +kernel
theorem dX6_growOnce_118 : decode cX6_growOnce 118 = .ok (.aload_n 0, 1) := by decide +kernel
theorem dX6_growOnce_119 : decode cX6_growOnce 119 = .ok (.getfield 35, 3) := by decide +kernel
theorem dX6_growOnce_122 : decode cX6_growOnce 122 = .ok (.iconst 0, 1) := by decide +kernel
theorem dX6_growOnce_123 : decode cX6_growOnce 123 = .ok (.bipush 10, 2) := by decide +kernel
theorem dX6_growOnce_125 : decode cX6_growOnce 125 = .ok (.invokestatic 71, 3) := by decide +kernel
theorem dX6_growOnce_128 : decode cX6_growOnce 128 = .ok (.return_, 1) := by decide +kernel
theorem dX7_init_0 : decode cX7_init 0 = .ok (.aload_n 0, 1) := by decide +kernel
theorem dX7_init_1 : decode cX7_init 1 = .ok (.invokespecial 3, 3) := by decide +kernel
theorem dX7_init_4 : decode cX7_init 4 = .ok (.aload_n 0, 1) := by decide +kernel
theorem dX7_init_5 : decode cX7_init 5 = .ok (.sipush 300, 3) := by decide +kernel
theorem dX7_init_8 : decode cX7_init 8 = .ok (.newarray .int, 2) := by decide +kernel
theorem dX7_init_10 : decode cX7_init 10 = .ok (.putfield 9, 3) := by decide +kernel
theorem dX7_init_13 : decode cX7_init 13 = .ok (.return_, 1) := by decide +kernel
theorem dX7_append_0 : decode cX7_append 0 = .ok (.bipush 24, 2) := by decide +kernel
theorem dX7_append_2 : decode cX7_append 2 = .ok (.istore_n 2, 1) := by decide +kernel
theorem dX7_append_3 : decode cX7_append 3 = .ok (.iload_n 2, 1) := by decide +kernel
theorem dX7_append_4 : decode cX7_append 4 = .ok (.ifCond .lt 49, 3) := by decide +kernel
theorem dX7_append_7 : decode cX7_append 7 = .ok (.aload_n 0, 1) := by decide +kernel
theorem dX7_append_8 : decode cX7_append 8 = .ok (.getfield 15, 3) := by decide +kernel
theorem dX7_append_11 : decode cX7_append 11 = .ok (.iconst 0, 1) := by decide +kernel
theorem dX7_append_12 : decode cX7_append 12 = .ok (.sipush 299, 3) := by decide +kernel
theorem dX7_append_15 : decode cX7_append 15 = .ok (.invokestatic 19, 3) := by decide +kernel
theorem dX7_append_18 : decode cX7_append 18 = .ok (.ifCond .eq 29, 3) := by decide +kernel
theorem dX7_append_21 : decode cX7_append 21 = .ok (.aload_n 0, 1) := by decide +kernel
theorem dX7_append_22 : decode cX7_append 22 = .ok (.getfield 9, 3) := by decide +kernel
theorem dX7_append_25 : decode cX7_append 25 = .ok (.aload_n 0, 1) := by decide +kernel
theorem dX7_append_26 : decode cX7_append 26 = .ok (.getfield 15, 3) := by decide +kernel
theorem dX7_append_29 : decode cX7_append 29 = .ok (.iload_n 1, 1) := by decide +kernel
theorem dX7_append_30 : decode cX7_append 30 = .ok (.iload_n 2, 1) := by decide +kernel
theorem dX7_append_31 : decode cX7_append 31 = .ok (.iushr, 1) := by decide +kernel
theorem dX7_append_32 : decode cX7_append 32 = .ok (.sipush 255, 3) := by decide +kernel
theorem dX7_append_35 : decode cX7_append 35 = .ok (.iand, 1) := by decide +kernel
theorem dX7_append_36 : decode cX7_append 36 = .ok (.iastore, 1) := by decide +kernel
theorem dX7_append_37 : decode cX7_append 37 = .ok (.aload_n 0, 1) := by decide +kernel
theorem dX7_append_38 : decode cX7_append 38 = .ok (.dup, 1) := by decide +kernel
theorem dX7_append_39 : decode cX7_append 39 = .ok (.getfield 15, 3) := by decide +kernel
theorem dX7_append_42 : decode cX7_append 42 = .ok (.iconst 1, 1) := by decide +kernel
theorem dX7_append_43 : decode cX7_append 43 = .ok (.iadd, 1) := by decide +kernel
theorem dX7_append_44 : decode cX7_append 44 = .ok (.putfield 15, 3) := by decide +kernel
theorem dX7_append_47 : decode cX7_append 47 = .ok (.iinc 2 (-8), 3) := by decide +kernel
theorem dX7_append_50 : decode cX7_append 50 = .ok (.goto (-47), 3) := by decide +kernel
theorem dX7_append_53 : decode cX7_append 53 = .ok (.return_, 1) := by decide +kernel
theorem dX7_rewind_0 : decode cX7_rewind 0 = .ok (.aload_n 0, 1) := by decide +kernel
theorem dX7_rewind_1 : decode cX7_rewind 1 = .ok (.iconst 0, 1) := by decide +kernel
theorem dX7_rewind_2 : decode cX7_rewind 2 = .ok (.putfield 23, 3) := by decide +kernel
theorem dX7_rewind_5 : decode cX7_rewind 5 = .ok (.aload_n 0, 1) := by decide +kernel
theorem dX7_rewind_6 : decode cX7_rewind 6 = .ok (.invokevirtual 26, 3) := by decide +kernel
theorem dX7_rewind_9 : decode cX7_rewind 9 = .ok (.return_, 1) := by decide +kernel
theorem dX7_advance_0 : decode cX7_advance 0 = .ok (.aload_n 0, 1) := by decide +kernel
theorem dX7_advance_1 : decode cX7_advance 1 = .ok (.aload_n 0, 1) := by decide +kernel
theorem dX7_advance_2 : decode cX7_advance 2 = .ok (.getfield 23, 3) := by decide +kernel
theorem dX7_advance_5 : decode cX7_advance 5 = .ok (.putfield 29, 3) := by decide +kernel
theorem dX7_advance_8 : decode cX7_advance 8 = .ok (.aload_n 0, 1) := by decide +kernel
theorem dX7_advance_9 : decode cX7_advance 9 = .ok (.getfield 29, 3) := by decide +kernel
theorem dX7_advance_12 : decode cX7_advance 12 = .ok (.aload_n 0, 1) := by decide +kernel
theorem dX7_advance_13 : decode cX7_advance 13 = .ok (.getfield 15, 3) := by decide +kernel
theorem dX7_advance_16 : decode cX7_advance 16 = .ok (.if_icmp .ge 42, 3) := by decide +kernel
theorem dX7_advance_19 : decode cX7_advance 19 = .ok (.aload_n 0, 1) := by decide +kernel
theorem dX7_advance_20 : decode cX7_advance 20 = .ok (.aload_n 0, 1) := by decide +kernel
theorem dX7_advance_21 : decode cX7_advance 21 = .ok (.getfield 29, 3) := by decide +kernel
theorem dX7_advance_24 : decode cX7_advance 24 = .ok (.invokevirtual 32, 3) := by decide +kernel
theorem dX7_advance_27 : decode cX7_advance 27 = .ok (.bipush 32, 2) := by decide +kernel
theorem dX7_advance_29 : decode cX7_advance 29 = .ok (.if_icmp .eq 16, 3) := by decide +kernel
theorem dX7_advance_32 : decode cX7_advance 32 = .ok (.aload_n 0, 1) := by decide +kernel
theorem dX7_advance_33 : decode cX7_advance 33 = .ok (.aload_n 0, 1) := by decide +kernel
theorem dX7_advance_34 : decode cX7_advance 34 = .ok (.getfield 29, 3) := by decide +kernel
theorem dX7_advance_37 : decode cX7_advance 37 = .ok (.invokevirtual 32, 3) := by decide +kernel
theorem dX7_advance_40 : decode cX7_advance 40 = .ok (.bipush 10, 2) := by decide +kernel
theorem dX7_advance_42 : decode cX7_advance 42 = .ok (.if_icmp .ne 16, 3) := by decide +kernel
theorem dX7_advance_45 : decode cX7_advance 45 = .ok (.aload_n 0, 1) := by decide +kernel
theorem dX7_advance_46 : decode cX7_advance 46 = .ok (.dup, 1) := by decide +kernel
theorem dX7_advance_47 : decode cX7_advance 47 = .ok (.getfield 29, 3) := by decide +kernel
theorem dX7_advance_50 : decode cX7_advance 50 = .ok (.iconst 1, 1) := by decide +kernel
theorem dX7_advance_51 : decode cX7_advance 51 = .ok (.iadd, 1) := by decide +kernel
theorem dX7_advance_52 : decode cX7_advance 52 = .ok (.putfield 29, 3) := by decide +kernel
theorem dX7_advance_55 : decode cX7_advance 55 = .ok (.goto (-47), 3) := by decide +kernel
theorem dX7_advance_58 : decode cX7_advance 58 = .ok (.aload_n 0, 1) := by decide +kernel
theorem dX7_advance_59 : decode cX7_advance 59 = .ok (.aload_n 0, 1) := by decide +kernel
theorem dX7_advance_60 : decode cX7_advance 60 = .ok (.getfield 29, 3) := by decide +kernel
theorem dX7_advance_63 : decode cX7_advance 63 = .ok (.iconst 1, 1) := by decide +kernel
theorem dX7_advance_64 : decode cX7_advance 64 = .ok (.iadd, 1) := by decide +kernel
theorem dX7_advance_65 : decode cX7_advance 65 = .ok (.putfield 23, 3) := by decide +kernel
theorem dX7_advance_68 : decode cX7_advance 68 = .ok (.aload_n 0, 1) := by decide +kernel
theorem dX7_advance_69 : decode cX7_advance 69 = .ok (.aload_n 0, 1) := by decide +kernel
theorem dX7_advance_70 : decode cX7_advance 70 = .ok (.getfield 29, 3) := by decide +kernel
theorem dX7_advance_73 : decode cX7_advance 73 = .ok (.invokevirtual 32, 3) := by decide +kernel
theorem dX7_advance_76 : decode cX7_advance 76 = .ok (.istore_n 1, 1) := by decide +kernel
theorem dX7_advance_77 : decode cX7_advance 77 = .ok (.aload_n 0, 1) := by decide +kernel
theorem dX7_advance_78 : decode cX7_advance 78 = .ok (.getfield 29, 3) := by decide +kernel
theorem dX7_advance_81 : decode cX7_advance 81 = .ok (.aload_n 0, 1) := by decide +kernel
theorem dX7_advance_82 : decode cX7_advance 82 = .ok (.getfield 15, 3) := by decide +kernel
theorem dX7_advance_85 : decode cX7_advance 85 = .ok (.if_icmp .lt 20, 3) := by decide +kernel
theorem dX7_advance_88 : decode cX7_advance 88 = .ok (.aload_n 0, 1) := by decide +kernel
theorem dX7_advance_89 : decode cX7_advance 89 = .ok (.aload_n 0, 1) := by decide +kernel
theorem dX7_advance_90 : decode cX7_advance 90 = .ok (.getfield 15, 3) := by decide +kernel
theorem dX7_advance_93 : decode cX7_advance 93 = .ok (.putfield 23, 3) := by decide +kernel
theorem dX7_advance_96 : decode cX7_advance 96 = .ok (.aload_n 0, 1) := by decide +kernel
theorem dX7_advance_97 : decode cX7_advance 97 = .ok (.bipush 41, 2) := by decide +kernel
theorem dX7_advance_99 : decode cX7_advance 99 = .ok (.putfield 36, 3) := by decide +kernel
theorem dX7_advance_102 : decode cX7_advance 102 = .ok (.goto 37, 3) := by decide +kernel
theorem dX7_advance_105 : decode cX7_advance 105 = .ok (.iload_n 1, 1) := by decide +kernel
theorem dX7_advance_106 : decode cX7_advance 106 = .ok (.invokestatic 39, 3) := by decide +kernel
theorem dX7_advance_109 : decode cX7_advance 109 = .ok (.ifCond .eq 10, 3) := by decide +kernel
theorem dX7_advance_112 : decode cX7_advance 112 = .ok (.aload_n 0, 1) := by decide +kernel
theorem dX7_advance_113 : decode cX7_advance 113 = .ok (.invokevirtual 43, 3) := by decide +kernel
theorem dX7_advance_116 : decode cX7_advance 116 = .ok (.goto 23, 3) := by decide +kernel
theorem dX7_advance_119 : decode cX7_advance 119 = .ok (.iload_n 1, 1) := by decide +kernel
theorem dX7_advance_120 : decode cX7_advance 120 = .ok (.invokestatic 46, 3) := by decide +kernel
theorem dX7_advance_123 : decode cX7_advance 123 = .ok (.ifCond .eq 10, 3) := by decide +kernel
theorem dX7_advance_126 : decode cX7_advance 126 = .ok (.aload_n 0, 1) := by decide +kernel
theorem dX7_advance_127 : decode cX7_advance 127 = .ok (.invokevirtual 49, 3) := by decide +kernel
theorem dX7_advance_130 : decode cX7_advance 130 = .ok (.goto 9, 3) := by decide +kernel
theorem dX7_advance_133 : decode cX7_advance 133 = .ok (.aload_n 0, 1) := by decide +kernel
theorem dX7_advance_134 : decode cX7_advance 134 = .ok (.iload_n 1, 1) := by decide +kernel
theorem dX7_advance_135 : decode cX7_advance 135 = .ok (.i2c, 1) := by decide +kernel
theorem dX7_advance_136 : decode cX7_advance 136 = .ok (.invokevirtual 52, 3) := by decide +kernel
theorem dX7_advance_139 : decode cX7_advance 139 = .ok (.return_, 1) := by decide +kernel
theorem dX7_scanWord_0 : decode cX7_scanWord 0 = .ok (.aload_n 0, 1) := by decide +kernel
theorem dX7_scanWord_1 : decode cX7_scanWord 1 = .ok (.getfield 23, 3) := by decide +kernel
theorem dX7_scanWord_4 : decode cX7_scanWord 4 = .ok (.aload_n 0, 1) := by decide +kernel
theorem dX7_scanWord_5 : decode cX7_scanWord 5 = .ok (.getfield 15, 3) := by decide +kernel
theorem dX7_scanWord_8 : decode cX7_scanWord 8 = .ok (.if_icmp .ge 30, 3) := by decide +kernel
theorem dX7_scanWord_11 : decode cX7_scanWord 11 = .ok (.aload_n 0, 1) := by decide +kernel
theorem dX7_scanWord_12 : decode cX7_scanWord 12 = .ok (.aload_n 0, 1) := by decide +kernel
theorem dX7_scanWord_13 : decode cX7_scanWord 13 = .ok (.getfield 23, 3) := by decide +kernel
theorem dX7_scanWord_16 : decode cX7_scanWord 16 = .ok (.invokevirtual 32, 3) := by decide +kernel
theorem dX7_scanWord_19 : decode cX7_scanWord 19 = .ok (.invokestatic 39, 3) := by decide +kernel
theorem dX7_scanWord_22 : decode cX7_scanWord 22 = .ok (.ifCond .eq 16, 3) := by decide +kernel
theorem dX7_scanWord_25 : decode cX7_scanWord 25 = .ok (.aload_n 0, 1) := by decide +kernel
theorem dX7_scanWord_26 : decode cX7_scanWord 26 = .ok (.dup, 1) := by decide +kernel
theorem dX7_scanWord_27 : decode cX7_scanWord 27 = .ok (.getfield 23, 3) := by decide +kernel
theorem dX7_scanWord_30 : decode cX7_scanWord 30 = .ok (.iconst 1, 1) := by decide +kernel
theorem dX7_scanWord_31 : decode cX7_scanWord 31 = .ok (.iadd, 1) := by decide +kernel
theorem dX7_scanWord_32 : decode cX7_scanWord 32 = .ok (.putfield 23, 3) := by decide +kernel
theorem dX7_scanWord_35 : decode cX7_scanWord 35 = .ok (.goto (-35), 3) := by decide +kernel
theorem dX7_scanWord_38 : decode cX7_scanWord 38 = .ok (.aload_n 0, 1) := by decide +kernel
theorem dX7_scanWord_39 : decode cX7_scanWord 39 = .ok (.bipush 42, 2) := by decide +kernel
theorem dX7_scanWord_41 : decode cX7_scanWord 41 = .ok (.putfield 36, 3) := by decide +kernel
theorem dX7_scanWord_44 : decode cX7_scanWord 44 = .ok (.iconst 0, 1) := by decide +kernel
theorem dX7_scanWord_45 : decode cX7_scanWord 45 = .ok (.istore_n 1, 1) := by decide +kernel
theorem dX7_scanWord_46 : decode cX7_scanWord 46 = .ok (.aload_n 0, 1) := by decide +kernel
theorem dX7_scanWord_47 : decode cX7_scanWord 47 = .ok (.getfield 29, 3) := by decide +kernel
theorem dX7_scanWord_50 : decode cX7_scanWord 50 = .ok (.istore_n 2, 1) := by decide +kernel
theorem dX7_scanWord_51 : decode cX7_scanWord 51 = .ok (.iconst 0, 1) := by decide +kernel
theorem dX7_scanWord_52 : decode cX7_scanWord 52 = .ok (.istore_n 3, 1) := by decide +kernel
theorem dX7_scanWord_53 : decode cX7_scanWord 53 = .ok (.iload_n 3, 1) := by decide +kernel
theorem dX7_scanWord_54 : decode cX7_scanWord 54 = .ok (.ldc 56, 2) := by decide +kernel
theorem dX7_scanWord_56 : decode cX7_scanWord 56 = .ok (.invokevirtual 58, 3) := by decide +kernel
theorem dX7_scanWord_59 : decode cX7_scanWord 59 = .ok (.if_icmp .ge 79, 3) := by decide +kernel
theorem dX7_scanWord_62 : decode cX7_scanWord 62 = .ok (.ldc 56, 2) := by decide +kernel
theorem dX7_scanWord_64 : decode cX7_scanWord 64 = .ok (.iload_n 3, 1) := by decide +kernel
theorem dX7_scanWord_65 : decode cX7_scanWord 65 = .ok (.invokevirtual 63, 3) := by decide +kernel
theorem dX7_scanWord_68 : decode cX7_scanWord 68 = .ok (.istore 4, 2) := by decide +kernel
theorem dX7_scanWord_70 : decode cX7_scanWord 70 = .ok (.iload 4, 2) := by decide +kernel
theorem dX7_scanWord_72 : decode cX7_scanWord 72 = .ok (.bipush 32, 2) := by decide +kernel
theorem dX7_scanWord_74 : decode cX7_scanWord 74 = .ok (.if_icmp .eq 36, 3) := by decide +kernel
theorem dX7_scanWord_77 : decode cX7_scanWord 77 = .ok (.iload_n 2, 1) := by decide +kernel
theorem dX7_scanWord_78 : decode cX7_scanWord 78 = .ok (.ifCond .lt 27, 3) := by decide +kernel
theorem dX7_scanWord_81 : decode cX7_scanWord 81 = .ok (.iload_n 2, 1) := by decide +kernel
theorem dX7_scanWord_82 : decode cX7_scanWord 82 = .ok (.aload_n 0, 1) := by decide +kernel
theorem dX7_scanWord_83 : decode cX7_scanWord 83 = .ok (.getfield 23, 3) := by decide +kernel
theorem dX7_scanWord_86 : decode cX7_scanWord 86 = .ok (.if_icmp .ge 19, 3) := by decide +kernel
theorem dX7_scanWord_89 : decode cX7_scanWord 89 = .ok (.aload_n 0, 1) := by decide +kernel
theorem dX7_scanWord_90 : decode cX7_scanWord 90 = .ok (.iload_n 2, 1) := by decide +kernel
theorem dX7_scanWord_91 : decode cX7_scanWord 91 = .ok (.invokevirtual 32, 3) := by decide +kernel
theorem dX7_scanWord_94 : decode cX7_scanWord 94 = .ok (.iload 4, 2) := by decide +kernel
theorem dX7_scanWord_96 : decode cX7_scanWord 96 = .ok (.if_icmp .ne 9, 3) := by decide +kernel
theorem dX7_scanWord_99 : decode cX7_scanWord 99 = .ok (.iload_n 2, 1) := by decide +kernel
theorem dX7_scanWord_100 : decode cX7_scanWord 100 = .ok (.iconst 1, 1) := by decide +kernel
theorem dX7_scanWord_101 : decode cX7_scanWord 101 = .ok (.iadd, 1) := by decide +kernel
theorem dX7_scanWord_102 : decode cX7_scanWord 102 = .ok (.goto 4, 3) := by decide +kernel
theorem dX7_scanWord_105 : decode cX7_scanWord 105 = .ok (.iconst (-1), 1) := by decide +kernel
theorem dX7_scanWord_106 : decode cX7_scanWord 106 = .ok (.istore_n 2, 1) := by decide +kernel
theorem dX7_scanWord_107 : decode cX7_scanWord 107 = .ok (.goto 25, 3) := by decide +kernel
theorem dX7_scanWord_110 : decode cX7_scanWord 110 = .ok (.iload_n 2, 1) := by decide +kernel
theorem dX7_scanWord_111 : decode cX7_scanWord 111 = .ok (.aload_n 0, 1) := by decide +kernel
theorem dX7_scanWord_112 : decode cX7_scanWord 112 = .ok (.getfield 23, 3) := by decide +kernel
theorem dX7_scanWord_115 : decode cX7_scanWord 115 = .ok (.if_icmp .ne 9, 3) := by decide +kernel
theorem dX7_scanWord_118 : decode cX7_scanWord 118 = .ok (.aload_n 0, 1) := by decide +kernel
theorem dX7_scanWord_119 : decode cX7_scanWord 119 = .ok (.iload_n 1, 1) := by decide +kernel
theorem dX7_scanWord_120 : decode cX7_scanWord 120 = .ok (.putfield 36, 3) := by decide +kernel
theorem dX7_scanWord_123 : decode cX7_scanWord 123 = .ok (.return_, 1) := by decide +kernel
theorem dX7_scanWord_124 : decode cX7_scanWord 124 = .ok (.iinc 1 1, 3) := by decide +kernel
theorem dX7_scanWord_127 : decode cX7_scanWord 127 = .ok (.aload_n 0, 1) := by decide +kernel
theorem dX7_scanWord_128 : decode cX7_scanWord 128 = .ok (.getfield 29, 3) := by decide +kernel
theorem dX7_scanWord_131 : decode cX7_scanWord 131 = .ok (.istore_n 2, 1) := by decide +kernel
theorem dX7_scanWord_132 : decode cX7_scanWord 132 = .ok (.iinc 3 1, 3) := by decide +kernel
theorem dX7_scanWord_135 : decode cX7_scanWord 135 = .ok (.goto (-82), 3) := by decide +kernel
theorem dX7_scanWord_138 : decode cX7_scanWord 138 = .ok (.return_, 1) := by decide +kernel
theorem dX7_scanNumber_0 : decode cX7_scanNumber 0 = .ok (.aload_n 0, 1) := by decide +kernel
theorem dX7_scanNumber_1 : decode cX7_scanNumber 1 = .ok (.bipush 27, 2) := by decide +kernel
theorem dX7_scanNumber_3 : decode cX7_scanNumber 3 = .ok (.putfield 36, 3) := by decide +kernel
theorem dX7_scanNumber_6 : decode cX7_scanNumber 6 = .ok (.aload_n 0, 1) := by decide +kernel
theorem dX7_scanNumber_7 : decode cX7_scanNumber 7 = .ok (.aload_n 0, 1) := by decide +kernel
theorem dX7_scanNumber_8 : decode cX7_scanNumber 8 = .ok (.aload_n 0, 1) := by decide +kernel
theorem dX7_scanNumber_9 : decode cX7_scanNumber 9 = .ok (.getfield 29, 3) := by decide +kernel
theorem dX7_scanNumber_12 : decode cX7_scanNumber 12 = .ok (.invokevirtual 32, 3) := by decide +kernel
theorem dX7_scanNumber_15 : decode cX7_scanNumber 15 = .ok (.bipush 48, 2) := by decide +kernel
theorem dX7_scanNumber_17 : decode cX7_scanNumber 17 = .ok (.isub, 1) := by decide +kernel
theorem dX7_scanNumber_18 : decode cX7_scanNumber 18 = .ok (.putfield 67, 3) := by decide +kernel
theorem dX7_scanNumber_21 : decode cX7_scanNumber 21 = .ok (.aload_n 0, 1) := by decide +kernel
theorem dX7_scanNumber_22 : decode cX7_scanNumber 22 = .ok (.getfield 23, 3) := by decide +kernel
theorem dX7_scanNumber_25 : decode cX7_scanNumber 25 = .ok (.aload_n 0, 1) := by decide +kernel
theorem dX7_scanNumber_26 : decode cX7_scanNumber 26 = .ok (.getfield 15, 3) := by decide +kernel
theorem dX7_scanNumber_29 : decode cX7_scanNumber 29 = .ok (.if_icmp .ge 59, 3) := by decide +kernel
theorem dX7_scanNumber_32 : decode cX7_scanNumber 32 = .ok (.aload_n 0, 1) := by decide +kernel
theorem dX7_scanNumber_33 : decode cX7_scanNumber 33 = .ok (.aload_n 0, 1) := by decide +kernel
theorem dX7_scanNumber_34 : decode cX7_scanNumber 34 = .ok (.getfield 23, 3) := by decide +kernel
theorem dX7_scanNumber_37 : decode cX7_scanNumber 37 = .ok (.invokevirtual 32, 3) := by decide +kernel
theorem dX7_scanNumber_40 : decode cX7_scanNumber 40 = .ok (.invokestatic 46, 3) := by decide +kernel
theorem dX7_scanNumber_43 : decode cX7_scanNumber 43 = .ok (.ifCond .eq 45, 3) := by decide +kernel
theorem dX7_scanNumber_46 : decode cX7_scanNumber 46 = .ok (.aload_n 0, 1) := by decide +kernel
theorem dX7_scanNumber_47 : decode cX7_scanNumber 47 = .ok (.aload_n 0, 1) := by decide +kernel
theorem dX7_scanNumber_48 : decode cX7_scanNumber 48 = .ok (.getfield 67, 3) := by decide +kernel
theorem dX7_scanNumber_51 : decode cX7_scanNumber 51 = .ok (.bipush 10, 2) := by decide +kernel
theorem dX7_scanNumber_53 : decode cX7_scanNumber 53 = .ok (.imul, 1) := by decide +kernel
theorem dX7_scanNumber_54 : decode cX7_scanNumber 54 = .ok (.aload_n 0, 1) := by decide +kernel
theorem dX7_scanNumber_55 : decode cX7_scanNumber 55 = .ok (.aload_n 0, 1) := by decide +kernel
theorem dX7_scanNumber_56 : decode cX7_scanNumber 56 = .ok (.getfield 23, 3) := by decide +kernel
theorem dX7_scanNumber_59 : decode cX7_scanNumber 59 = .ok (.invokevirtual 32, 3) := by decide +kernel
theorem dX7_scanNumber_62 : decode cX7_scanNumber 62 = .ok (.iadd, 1) := by decide +kernel
theorem dX7_scanNumber_63 : decode cX7_scanNumber 63 = .ok (.bipush 48, 2) := by decide +kernel
theorem dX7_scanNumber_65 : decode cX7_scanNumber 65 = .ok (.isub, 1) := by decide +kernel
theorem dX7_scanNumber_66 : decode cX7_scanNumber 66 = .ok (.sipush 10000, 3) := by decide +kernel
theorem dX7_scanNumber_69 : decode cX7_scanNumber 69 = .ok (.invokestatic 70, 3) := by decide +kernel
theorem dX7_scanNumber_72 : decode cX7_scanNumber 72 = .ok (.putfield 67, 3) := by decide +kernel
theorem dX7_scanNumber_75 : decode cX7_scanNumber 75 = .ok (.aload_n 0, 1) := by decide +kernel
theorem dX7_scanNumber_76 : decode cX7_scanNumber 76 = .ok (.dup, 1) := by decide +kernel
theorem dX7_scanNumber_77 : decode cX7_scanNumber 77 = .ok (.getfield 23, 3) := by decide +kernel
theorem dX7_scanNumber_80 : decode cX7_scanNumber 80 = .ok (.iconst 1, 1) := by decide +kernel
theorem dX7_scanNumber_81 : decode cX7_scanNumber 81 = .ok (.iadd, 1) := by decide +kernel
theorem dX7_scanNumber_82 : decode cX7_scanNumber 82 = .ok (.putfield 23, 3) := by decide +kernel
theorem dX7_scanNumber_85 : decode cX7_scanNumber 85 = .ok (.goto (-64), 3) := by decide +kernel
theorem dX7_scanNumber_88 : decode cX7_scanNumber 88 = .ok (.return_, 1) := by decide +kernel
theorem dX7_scanSymbol_0 : decode cX7_scanSymbol 0 = .ok (.ldc 76, 2) := by decide +kernel
theorem dX7_scanSymbol_2 : decode cX7_scanSymbol 2 = .ok (.iload_n 1, 1) := by decide +kernel
theorem dX7_scanSymbol_3 : decode cX7_scanSymbol 3 = .ok (.invokevirtual 78, 3) := by decide +kernel
theorem dX7_scanSymbol_6 : decode cX7_scanSymbol 6 = .ok (.istore_n 2, 1) := by decide +kernel
theorem dX7_scanSymbol_7 : decode cX7_scanSymbol 7 = .ok (.aload_n 0, 1) := by decide +kernel
theorem dX7_scanSymbol_8 : decode cX7_scanSymbol 8 = .ok (.iload_n 2, 1) := by decide +kernel
theorem dX7_scanSymbol_9 : decode cX7_scanSymbol 9 = .ok (.ifCond .ge 8, 3) := by decide +kernel
theorem dX7_scanSymbol_12 : decode cX7_scanSymbol 12 = .ok (.bipush 42, 2) := by decide +kernel
theorem dX7_scanSymbol_14 : decode cX7_scanSymbol 14 = .ok (.goto 7, 3) := by decide +kernel
theorem dX7_scanSymbol_17 : decode cX7_scanSymbol 17 = .ok (.bipush 28, 2) := by decide +kernel
theorem dX7_scanSymbol_19 : decode cX7_scanSymbol 19 = .ok (.iload_n 2, 1) := by decide +kernel
theorem dX7_scanSymbol_20 : decode cX7_scanSymbol 20 = .ok (.iadd, 1) := by decide +kernel
theorem dX7_scanSymbol_21 : decode cX7_scanSymbol 21 = .ok (.putfield 36, 3) := by decide +kernel
theorem dX7_scanSymbol_24 : decode cX7_scanSymbol 24 = .ok (.aload_n 0, 1) := by decide +kernel
theorem dX7_scanSymbol_25 : decode cX7_scanSymbol 25 = .ok (.getfield 36, 3) := by decide +kernel
theorem dX7_scanSymbol_28 : decode cX7_scanSymbol 28 = .ok (.bipush 28, 2) := by decide +kernel
theorem dX7_scanSymbol_30 : decode cX7_scanSymbol 30 = .ok (.if_icmp .eq 12, 3) := by decide +kernel
theorem dX7_scanSymbol_33 : decode cX7_scanSymbol 33 = .ok (.aload_n 0, 1) := by decide +kernel
theorem dX7_scanSymbol_34 : decode cX7_scanSymbol 34 = .ok (.getfield 36, 3) := by decide +kernel
theorem dX7_scanSymbol_37 : decode cX7_scanSymbol 37 = .ok (.bipush 29, 2) := by decide +kernel
theorem dX7_scanSymbol_39 : decode cX7_scanSymbol 39 = .ok (.if_icmp .ne 57, 3) := by decide +kernel
theorem dX7_scanSymbol_42 : decode cX7_scanSymbol 42 = .ok (.aload_n 0, 1) := by decide +kernel
theorem dX7_scanSymbol_43 : decode cX7_scanSymbol 43 = .ok (.getfield 23, 3) := by decide +kernel
theorem dX7_scanSymbol_46 : decode cX7_scanSymbol 46 = .ok (.aload_n 0, 1) := by decide +kernel
theorem dX7_scanSymbol_47 : decode cX7_scanSymbol 47 = .ok (.getfield 15, 3) := by decide +kernel
theorem dX7_scanSymbol_50 : decode cX7_scanSymbol 50 = .ok (.if_icmp .ge 46, 3) := by decide +kernel
theorem dX7_scanSymbol_53 : decode cX7_scanSymbol 53 = .ok (.aload_n 0, 1) := by decide +kernel
theorem dX7_scanSymbol_54 : decode cX7_scanSymbol 54 = .ok (.aload_n 0, 1) := by decide +kernel
theorem dX7_scanSymbol_55 : decode cX7_scanSymbol 55 = .ok (.getfield 23, 3) := by decide +kernel
theorem dX7_scanSymbol_58 : decode cX7_scanSymbol 58 = .ok (.invokevirtual 32, 3) := by decide +kernel
theorem dX7_scanSymbol_61 : decode cX7_scanSymbol 61 = .ok (.bipush 61, 2) := by decide +kernel
theorem dX7_scanSymbol_63 : decode cX7_scanSymbol 63 = .ok (.if_icmp .ne 33, 3) := by decide +kernel
theorem dX7_scanSymbol_66 : decode cX7_scanSymbol 66 = .ok (.aload_n 0, 1) := by decide +kernel
theorem dX7_scanSymbol_67 : decode cX7_scanSymbol 67 = .ok (.aload_n 0, 1) := by decide +kernel
theorem dX7_scanSymbol_68 : decode cX7_scanSymbol 68 = .ok (.getfield 36, 3) := by decide +kernel
theorem dX7_scanSymbol_71 : decode cX7_scanSymbol 71 = .ok (.bipush 28, 2) := by decide +kernel
theorem dX7_scanSymbol_73 : decode cX7_scanSymbol 73 = .ok (.if_icmp .ne 8, 3) := by decide +kernel
theorem dX7_scanSymbol_76 : decode cX7_scanSymbol 76 = .ok (.bipush 39, 2) := by decide +kernel
theorem dX7_scanSymbol_78 : decode cX7_scanSymbol 78 = .ok (.goto 5, 3) := by decide +kernel
theorem dX7_scanSymbol_81 : decode cX7_scanSymbol 81 = .ok (.bipush 40, 2) := by decide +kernel
theorem dX7_scanSymbol_83 : decode cX7_scanSymbol 83 = .ok (.putfield 36, 3) := by decide +kernel
theorem dX7_scanSymbol_86 : decode cX7_scanSymbol 86 = .ok (.aload_n 0, 1) := by decide +kernel
theorem dX7_scanSymbol_87 : decode cX7_scanSymbol 87 = .ok (.dup, 1) := by decide +kernel
theorem dX7_scanSymbol_88 : decode cX7_scanSymbol 88 = .ok (.getfield 23, 3) := by decide +kernel
theorem dX7_scanSymbol_91 : decode cX7_scanSymbol 91 = .ok (.iconst 1, 1) := by decide +kernel
theorem dX7_scanSymbol_92 : decode cX7_scanSymbol 92 = .ok (.iadd, 1) := by decide +kernel
theorem dX7_scanSymbol_93 : decode cX7_scanSymbol 93 = .ok (.putfield 23, 3) := by decide +kernel
theorem dX7_scanSymbol_96 : decode cX7_scanSymbol 96 = .ok (.return_, 1) := by decide +kernel
theorem dX7_byteAt_0 : decode cX7_byteAt 0 = .ok (.iload_n 1, 1) := by decide +kernel
theorem dX7_byteAt_1 : decode cX7_byteAt 1 = .ok (.ifCond .lt 27, 3) := by decide +kernel
theorem dX7_byteAt_4 : decode cX7_byteAt 4 = .ok (.iload_n 1, 1) := by decide +kernel
theorem dX7_byteAt_5 : decode cX7_byteAt 5 = .ok (.aload_n 0, 1) := by decide +kernel
theorem dX7_byteAt_6 : decode cX7_byteAt 6 = .ok (.getfield 15, 3) := by decide +kernel
theorem dX7_byteAt_9 : decode cX7_byteAt 9 = .ok (.if_icmp .ge 19, 3) := by decide +kernel
theorem dX7_byteAt_12 : decode cX7_byteAt 12 = .ok (.iload_n 1, 1) := by decide +kernel
theorem dX7_byteAt_13 : decode cX7_byteAt 13 = .ok (.sipush 300, 3) := by decide +kernel
theorem dX7_byteAt_16 : decode cX7_byteAt 16 = .ok (.if_icmp .ge 12, 3) := by decide +kernel
theorem dX7_byteAt_19 : decode cX7_byteAt 19 = .ok (.aload_n 0, 1) := by decide +kernel
theorem dX7_byteAt_20 : decode cX7_byteAt 20 = .ok (.getfield 9, 3) := by decide +kernel
theorem dX7_byteAt_23 : decode cX7_byteAt 23 = .ok (.iload_n 1, 1) := by decide +kernel
theorem dX7_byteAt_24 : decode cX7_byteAt 24 = .ok (.iaload, 1) := by decide +kernel
theorem dX7_byteAt_25 : decode cX7_byteAt 25 = .ok (.goto 4, 3) := by decide +kernel
theorem dX7_byteAt_28 : decode cX7_byteAt 28 = .ok (.iconst (-1), 1) := by decide +kernel
theorem dX7_byteAt_29 : decode cX7_byteAt 29 = .ok (.ireturn, 1) := by decide +kernel
theorem dX7_isLetter_0 : decode cX7_isLetter 0 = .ok (.iload_n 0, 1) := by decide +kernel
theorem dX7_isLetter_1 : decode cX7_isLetter 1 = .ok (.bipush 97, 2) := by decide +kernel
theorem dX7_isLetter_3 : decode cX7_isLetter 3 = .ok (.if_icmp .lt 9, 3) := by decide +kernel
theorem dX7_isLetter_6 : decode cX7_isLetter 6 = .ok (.iload_n 0, 1) := by decide +kernel
theorem dX7_isLetter_7 : decode cX7_isLetter 7 = .ok (.bipush 122, 2) := by decide +kernel
theorem dX7_isLetter_9 : decode cX7_isLetter 9 = .ok (.if_icmp .le 15, 3) := by decide +kernel
theorem dX7_isLetter_12 : decode cX7_isLetter 12 = .ok (.iload_n 0, 1) := by decide +kernel
theorem dX7_isLetter_13 : decode cX7_isLetter 13 = .ok (.bipush 65, 2) := by decide +kernel
theorem dX7_isLetter_15 : decode cX7_isLetter 15 = .ok (.if_icmp .lt 13, 3) := by decide +kernel
theorem dX7_isLetter_18 : decode cX7_isLetter 18 = .ok (.iload_n 0, 1) := by decide +kernel
theorem dX7_isLetter_19 : decode cX7_isLetter 19 = .ok (.bipush 90, 2) := by decide +kernel
theorem dX7_isLetter_21 : decode cX7_isLetter 21 = .ok (.if_icmp .gt 7, 3) := by decide +kernel
theorem dX7_isLetter_24 : decode cX7_isLetter 24 = .ok (.iconst 1, 1) := by decide +kernel
theorem dX7_isLetter_25 : decode cX7_isLetter 25 = .ok (.goto 4, 3) := by decide +kernel
theorem dX7_isLetter_28 : decode cX7_isLetter 28 = .ok (.iconst 0, 1) := by decide +kernel
theorem dX7_isLetter_29 : decode cX7_isLetter 29 = .ok (.ireturn, 1) := by decide +kernel
theorem dX7_isDigit_0 : decode cX7_isDigit 0 = .ok (.iload_n 0, 1) := by decide +kernel
theorem dX7_isDigit_1 : decode cX7_isDigit 1 = .ok (.bipush 48, 2) := by decide +kernel
theorem dX7_isDigit_3 : decode cX7_isDigit 3 = .ok (.if_icmp .lt 13, 3) := by decide +kernel
theorem dX7_isDigit_6 : decode cX7_isDigit 6 = .ok (.iload_n 0, 1) := by decide +kernel
theorem dX7_isDigit_7 : decode cX7_isDigit 7 = .ok (.bipush 57, 2) := by decide +kernel
theorem dX7_isDigit_9 : decode cX7_isDigit 9 = .ok (.if_icmp .gt 7, 3) := by decide +kernel
theorem dX7_isDigit_12 : decode cX7_isDigit 12 = .ok (.iconst 1, 1) := by decide +kernel
theorem dX7_isDigit_13 : decode cX7_isDigit 13 = .ok (.goto 4, 3) := by decide +kernel
theorem dX7_isDigit_16 : decode cX7_isDigit 16 = .ok (.iconst 0, 1) := by decide +kernel
theorem dX7_isDigit_17 : decode cX7_isDigit 17 = .ok (.ireturn, 1) := by decide +kernel
theorem dX8_init_0 : decode cX8_init 0 = .ok (.aload_n 0, 1) := by decide +kernel
theorem dX8_init_1 : decode cX8_init 1 = .ok (.invokespecial 3, 3) := by decide +kernel
theorem dX8_init_4 : decode cX8_init 4 = .ok (.aload_n 0, 1) := by decide +kernel
theorem dX8_init_5 : decode cX8_init 5 = .ok (.aload_n 1, 1) := by decide +kernel
theorem dX8_init_6 : decode cX8_init 6 = .ok (.putfield 9, 3) := by decide +kernel
theorem dX8_init_9 : decode cX8_init 9 = .ok (.aload_n 0, 1) := by decide +kernel
theorem dX8_init_10 : decode cX8_init 10 = .ok (.aload_n 2, 1) := by decide +kernel
theorem dX8_init_11 : decode cX8_init 11 = .ok (.putfield 15, 3) := by decide +kernel
theorem dX8_init_14 : decode cX8_init 14 = .ok (.aload_n 0, 1) := by decide +kernel
theorem dX8_init_15 : decode cX8_init 15 = .ok (.aload_n 3, 1) := by decide +kernel
theorem dX8_init_16 : decode cX8_init 16 = .ok (.putfield 18, 3) := by decide +kernel
theorem dX8_init_19 : decode cX8_init 19 = .ok (.aload_n 0, 1) := by decide +kernel
theorem dX8_init_20 : decode cX8_init 20 = .ok (.aload 4, 2) := by decide +kernel
theorem dX8_init_22 : decode cX8_init 22 = .ok (.putfield 21, 3) := by decide +kernel
theorem dX8_init_25 : decode cX8_init 25 = .ok (.aload_n 0, 1) := by decide +kernel
theorem dX8_init_26 : decode cX8_init 26 = .ok (.aload 5, 2) := by decide +kernel
theorem dX8_init_28 : decode cX8_init 28 = .ok (.putfield 24, 3) := by decide +kernel
theorem dX8_init_31 : decode cX8_init 31 = .ok (.aload_n 0, 1) := by decide +kernel
theorem dX8_init_32 : decode cX8_init 32 = .ok (.iload 6, 2) := by decide +kernel
theorem dX8_init_34 : decode cX8_init 34 = .ok (.putfield 27, 3) := by decide +kernel
theorem dX8_init_37 : decode cX8_init 37 = .ok (.return_, 1) := by decide +kernel
theorem dX8_hasLaw_0 : decode cX8_hasLaw 0 = .ok (.iload_n 1, 1) := by decide +kernel
theorem dX8_hasLaw_1 : decode cX8_hasLaw 1 = .ok (.ifCond .lt 25, 3) := by decide +kernel
theorem dX8_hasLaw_4 : decode cX8_hasLaw 4 = .ok (.iload_n 1, 1) := by decide +kernel
theorem dX8_hasLaw_5 : decode cX8_hasLaw 5 = .ok (.aload_n 0, 1) := by decide +kernel
theorem dX8_hasLaw_6 : decode cX8_hasLaw 6 = .ok (.getfield 18, 3) := by decide +kernel
theorem dX8_hasLaw_9 : decode cX8_hasLaw 9 = .ok (.arraylength, 1) := by decide +kernel
theorem dX8_hasLaw_10 : decode cX8_hasLaw 10 = .ok (.if_icmp .ge 16, 3) := by decide +kernel
theorem dX8_hasLaw_13 : decode cX8_hasLaw 13 = .ok (.aload_n 0, 1) := by decide +kernel
theorem dX8_hasLaw_14 : decode cX8_hasLaw 14 = .ok (.getfield 18, 3) := by decide +kernel
theorem dX8_hasLaw_17 : decode cX8_hasLaw 17 = .ok (.iload_n 1, 1) := by decide +kernel
theorem dX8_hasLaw_18 : decode cX8_hasLaw 18 = .ok (.iaload, 1) := by decide +kernel
theorem dX8_hasLaw_19 : decode cX8_hasLaw 19 = .ok (.ifCond .lt 7, 3) := by decide +kernel
theorem dX8_hasLaw_22 : decode cX8_hasLaw 22 = .ok (.iconst 1, 1) := by decide +kernel
theorem dX8_hasLaw_23 : decode cX8_hasLaw 23 = .ok (.goto 4, 3) := by decide +kernel
theorem dX8_hasLaw_26 : decode cX8_hasLaw 26 = .ok (.iconst 0, 1) := by decide +kernel
theorem dX8_hasLaw_27 : decode cX8_hasLaw 27 = .ok (.ireturn, 1) := by decide +kernel
theorem dX8_clausePart_0 : decode cX8_clausePart 0 = .ok (.iload_n 1, 1) := by decide +kernel
theorem dX8_clausePart_1 : decode cX8_clausePart 1 = .ok (.iconst 3, 1) := by decide +kernel
theorem dX8_clausePart_2 : decode cX8_clausePart 2 = .ok (.imul, 1) := by decide +kernel
theorem dX8_clausePart_3 : decode cX8_clausePart 3 = .ok (.iload_n 2, 1) := by decide +kernel
theorem dX8_clausePart_4 : decode cX8_clausePart 4 = .ok (.iadd, 1) := by decide +kernel
theorem dX8_clausePart_5 : decode cX8_clausePart 5 = .ok (.istore_n 3, 1) := by decide +kernel
theorem dX8_clausePart_6 : decode cX8_clausePart 6 = .ok (.iload_n 3, 1) := by decide +kernel
theorem dX8_clausePart_7 : decode cX8_clausePart 7 = .ok (.ifCond .lt 21, 3) := by decide +kernel
theorem dX8_clausePart_10 : decode cX8_clausePart 10 = .ok (.iload_n 3, 1) := by decide +kernel
theorem dX8_clausePart_11 : decode cX8_clausePart 11 = .ok (.aload_n 0, 1) := by decide +kernel
theorem dX8_clausePart_12 : decode cX8_clausePart 12 = .ok (.getfield 24, 3) := by decide +kernel
theorem dX8_clausePart_15 : decode cX8_clausePart 15 = .ok (.arraylength, 1) := by decide +kernel
theorem dX8_clausePart_16 : decode cX8_clausePart 16 = .ok (.if_icmp .ge 12, 3) := by decide +kernel
theorem dX8_clausePart_19 : decode cX8_clausePart 19 = .ok (.aload_n 0, 1) := by decide +kernel
theorem dX8_clausePart_20 : decode cX8_clausePart 20 = .ok (.getfield 24, 3) := by decide +kernel
theorem dX8_clausePart_23 : decode cX8_clausePart 23 = .ok (.iload_n 3, 1) := by decide +kernel
theorem dX8_clausePart_24 : decode cX8_clausePart 24 = .ok (.iaload, 1) := by decide +kernel
theorem dX8_clausePart_25 : decode cX8_clausePart 25 = .ok (.goto 4, 3) := by decide +kernel
theorem dX8_clausePart_28 : decode cX8_clausePart 28 = .ok (.iconst (-1), 1) := by decide +kernel
theorem dX8_clausePart_29 : decode cX8_clausePart 29 = .ok (.ireturn, 1) := by decide +kernel
theorem dX9_init_0 : decode cX9_init 0 = .ok (.aload_n 0, 1) := by decide +kernel
theorem dX9_init_1 : decode cX9_init 1 = .ok (.invokespecial 3, 3) := by decide +kernel
theorem dX9_init_4 : decode cX9_init 4 = .ok (.aload_n 0, 1) := by decide +kernel
theorem dX9_init_5 : decode cX9_init 5 = .ok (.sipush 193, 3) := by decide +kernel
theorem dX9_init_8 : decode cX9_init 8 = .ok (.putfield 9, 3) := by decide +kernel
theorem dX9_init_11 : decode cX9_init 11 = .ok (.aload_n 0, 1) := by decide +kernel
theorem dX9_init_12 : decode cX9_init 12 = .ok (.iconst 5, 1) := by decide +kernel
theorem dX9_init_13 : decode cX9_init 13 = .ok (.newarray .int, 2) := by decide +kernel
theorem dX9_init_15 : decode cX9_init 15 = .ok (.putfield 15, 3) := by decide +kernel
theorem dX9_init_18 : decode cX9_init 18 = .ok (.aload_n 0, 1) := by decide +kernel
theorem dX9_init_19 : decode cX9_init 19 = .ok (.iconst 5, 1) := by decide +kernel
theorem dX9_init_20 : decode cX9_init 20 = .ok (.newarray .int, 2) := by decide +kernel
theorem dX9_init_22 : decode cX9_init 22 = .ok (.putfield 19, 3) := by decide +kernel
theorem dX9_init_25 : decode cX9_init 25 = .ok (.aload_n 0, 1) := by decide +kernel
theorem dX9_init_26 : decode cX9_init 26 = .ok (.iconst 5, 1) := by decide +kernel
theorem dX9_init_27 : decode cX9_init 27 = .ok (.newarray .int, 2) := by decide +kernel
theorem dX9_init_29 : decode cX9_init 29 = .ok (.putfield 22, 3) := by decide +kernel
theorem dX9_init_32 : decode cX9_init 32 = .ok (.aload_n 0, 1) := by decide +kernel
theorem dX9_init_33 : decode cX9_init 33 = .ok (.iconst 5, 1) := by decide +kernel
theorem dX9_init_34 : decode cX9_init 34 = .ok (.newarray .int, 2) := by decide +kernel
theorem dX9_init_36 : decode cX9_init 36 = .ok (.putfield 25, 3) := by decide +kernel
theorem dX9_init_39 : decode cX9_init 39 = .ok (.aload_n 0, 1) := by decide +kernel
theorem dX9_init_40 : decode cX9_init 40 = .ok (.iconst 5, 1) := by decide +kernel
theorem dX9_init_41 : decode cX9_init 41 = .ok (.newarray .int, 2) := by decide +kernel
theorem dX9_init_43 : decode cX9_init 43 = .ok (.putfield 28, 3) := by decide +kernel
theorem dX9_init_46 : decode cX9_init 46 = .ok (.aload_n 0, 1) := by decide +kernel
theorem dX9_init_47 : decode cX9_init 47 = .ok (.iconst 5, 1) := by decide +kernel
theorem dX9_init_48 : decode cX9_init 48 = .ok (.newarray .int, 2) := by decide +kernel
theorem dX9_init_50 : decode cX9_init 50 = .ok (.putfield 31, 3) := by decide +kernel
theorem dX9_init_53 : decode cX9_init 53 = .ok (.aload_n 0, 1) := by decide +kernel
theorem dX9_init_54 : decode cX9_init 54 = .ok (.bipush 60, 2) := by decide +kernel
theorem dX9_init_56 : decode cX9_init 56 = .ok (.newarray .int, 2) := by decide +kernel
theorem dX9_init_58 : decode cX9_init 58 = .ok (.putfield 34, 3) := by decide +kernel
theorem dX9_init_61 : decode cX9_init 61 = .ok (.aload_n 0, 1) := by decide +kernel
theorem dX9_init_62 : decode cX9_init 62 = .ok (.bipush 120, 2) := by decide +kernel
theorem dX9_init_64 : decode cX9_init 64 = .ok (.newarray .int, 2) := by decide +kernel
theorem dX9_init_66 : decode cX9_init 66 = .ok (.putfield 37, 3) := by decide +kernel
theorem dX9_init_69 : decode cX9_init 69 = .ok (.return_, 1) := by decide +kernel
theorem dX9_has_0 : decode cX9_has 0 = .ok (.iload_n 1, 1) := by decide +kernel
theorem dX9_has_1 : decode cX9_has 1 = .ok (.ifCond .lt 20, 3) := by decide +kernel
theorem dX9_has_4 : decode cX9_has 4 = .ok (.iload_n 1, 1) := by decide +kernel
theorem dX9_has_5 : decode cX9_has 5 = .ok (.aload_n 0, 1) := by decide +kernel
theorem dX9_has_6 : decode cX9_has 6 = .ok (.getfield 40, 3) := by decide +kernel
theorem dX9_has_9 : decode cX9_has 9 = .ok (.if_icmp .ge 12, 3) := by decide +kernel
theorem dX9_has_12 : decode cX9_has 12 = .ok (.iload_n 1, 1) := by decide +kernel
theorem dX9_has_13 : decode cX9_has 13 = .ok (.iconst 5, 1) := by decide +kernel
theorem dX9_has_14 : decode cX9_has 14 = .ok (.if_icmp .ge 7, 3) := by decide +kernel
theorem dX9_has_17 : decode cX9_has 17 = .ok (.iconst 1, 1) := by decide +kernel
theorem dX9_has_18 : decode cX9_has 18 = .ok (.goto 4, 3) := by decide +kernel
theorem dX9_has_21 : decode cX9_has 21 = .ok (.iconst 0, 1) := by decide +kernel
theorem dX9_has_22 : decode cX9_has 22 = .ok (.ireturn, 1) := by decide +kernel
theorem dX9_install_0 : decode cX9_install 0 = .ok (.aload_n 0, 1) := by decide +kernel
theorem dX9_install_1 : decode cX9_install 1 = .ok (.getfield 40, 3) := by decide +kernel
theorem dX9_install_4 : decode cX9_install 4 = .ok (.iconst 0, 1) := by decide +kernel
theorem dX9_install_5 : decode cX9_install 5 = .ok (.iconst 4, 1) := by decide +kernel
theorem dX9_install_6 : decode cX9_install 6 = .ok (.invokestatic 43, 3) := by decide +kernel
theorem dX9_install_9 : decode cX9_install 9 = .ok (.ifCond .ne 5, 3) := by decide +kernel
theorem dX9_install_12 : decode cX9_install 12 = .ok (.iconst (-1), 1) := by decide +kernel
theorem dX9_install_13 : decode cX9_install 13 = .ok (.ireturn, 1) := by decide +kernel
theorem dX9_install_14 : decode cX9_install 14 = .ok (.aload_n 0, 1) := by decide +kernel
theorem dX9_install_15 : decode cX9_install 15 = .ok (.getfield 15, 3) := by decide +kernel
theorem dX9_install_18 : decode cX9_install 18 = .ok (.aload_n 0, 1) := by decide +kernel
theorem dX9_install_19 : decode cX9_install 19 = .ok (.getfield 40, 3) := by decide +kernel
theorem dX9_install_22 : decode cX9_install 22 = .ok (.iload_n 1, 1) := by decide +kernel
theorem dX9_install_23 : decode cX9_install 23 = .ok (.iastore, 1) := by decide +kernel
theorem dX9_install_24 : decode cX9_install 24 = .ok (.aload_n 0, 1) := by decide +kernel
theorem dX9_install_25 : decode cX9_install 25 = .ok (.getfield 19, 3) := by decide +kernel
theorem dX9_install_28 : decode cX9_install 28 = .ok (.aload_n 0, 1) := by decide +kernel
theorem dX9_install_29 : decode cX9_install 29 = .ok (.getfield 40, 3) := by decide +kernel
theorem dX9_install_32 : decode cX9_install 32 = .ok (.iload_n 2, 1) := by decide +kernel
theorem dX9_install_33 : decode cX9_install 33 = .ok (.iastore, 1) := by decide +kernel
theorem dX9_install_34 : decode cX9_install 34 = .ok (.aload_n 0, 1) := by decide +kernel
theorem dX9_install_35 : decode cX9_install 35 = .ok (.aload_n 0, 1) := by decide +kernel
theorem dX9_install_36 : decode cX9_install 36 = .ok (.getfield 40, 3) := by decide +kernel
theorem dX9_install_39 : decode cX9_install 39 = .ok (.invokevirtual 47, 3) := by decide +kernel
theorem dX9_install_42 : decode cX9_install 42 = .ok (.aload_n 0, 1) := by decide +kernel
theorem dX9_install_43 : decode cX9_install 43 = .ok (.dup, 1) := by decide +kernel
theorem dX9_install_44 : decode cX9_install 44 = .ok (.getfield 40, 3) := by decide +kernel
theorem dX9_install_47 : decode cX9_install 47 = .ok (.iconst 1, 1) := by decide +kernel
theorem dX9_install_48 : decode cX9_install 48 = .ok (.iadd, 1) := by decide +kernel
theorem dX9_install_49 : decode cX9_install 49 = .ok (.putfield 40, 3) := by decide +kernel
theorem dX9_install_52 : decode cX9_install 52 = .ok (.aload_n 0, 1) := by decide +kernel
theorem dX9_install_53 : decode cX9_install 53 = .ok (.getfield 40, 3) := by decide +kernel
theorem dX9_install_56 : decode cX9_install 56 = .ok (.iconst 1, 1) := by decide +kernel
theorem dX9_install_57 : decode cX9_install 57 = .ok (.isub, 1) := by decide +kernel
theorem dX9_install_58 : decode cX9_install 58 = .ok (.ireturn, 1) := by decide +kernel
theorem dX9_setAsTold_0 : decode cX9_setAsTold 0 = .ok (.aload_n 0, 1) := by decide +kernel
theorem dX9_setAsTold_1 : decode cX9_setAsTold 1 = .ok (.getfield 22, 3) := by decide +kernel
theorem dX9_setAsTold_4 : decode cX9_setAsTold 4 = .ok (.iload_n 1, 1) := by decide +kernel
theorem dX9_setAsTold_5 : decode cX9_setAsTold 5 = .ok (.aload_n 0, 1) := by decide +kernel
theorem dX9_setAsTold_6 : decode cX9_setAsTold 6 = .ok (.getfield 19, 3) := by decide +kernel
theorem dX9_setAsTold_9 : decode cX9_setAsTold 9 = .ok (.iload_n 1, 1) := by decide +kernel
theorem dX9_setAsTold_10 : decode cX9_setAsTold 10 = .ok (.iaload, 1) := by decide +kernel
theorem dX9_setAsTold_11 : decode cX9_setAsTold 11 = .ok (.iastore, 1) := by decide +kernel
theorem dX9_setAsTold_12 : decode cX9_setAsTold 12 = .ok (.aload_n 0, 1) := by decide +kernel
theorem dX9_setAsTold_13 : decode cX9_setAsTold 13 = .ok (.getfield 25, 3) := by decide +kernel
theorem dX9_setAsTold_16 : decode cX9_setAsTold 16 = .ok (.iload_n 1, 1) := by decide +kernel
theorem dX9_setAsTold_17 : decode cX9_setAsTold 17 = .ok (.iconst 0, 1) := by decide +kernel
theorem dX9_setAsTold_18 : decode cX9_setAsTold 18 = .ok (.iastore, 1) := by decide +kernel
theorem dX9_setAsTold_19 : decode cX9_setAsTold 19 = .ok (.aload_n 0, 1) := by decide +kernel
theorem dX9_setAsTold_20 : decode cX9_setAsTold 20 = .ok (.getfield 28, 3) := by decide +kernel
theorem dX9_setAsTold_23 : decode cX9_setAsTold 23 = .ok (.iload_n 1, 1) := by decide +kernel
theorem dX9_setAsTold_24 : decode cX9_setAsTold 24 = .ok (.iconst 0, 1) := by decide +kernel
theorem dX9_setAsTold_25 : decode cX9_setAsTold 25 = .ok (.iastore, 1) := by decide +kernel
theorem dX9_setAsTold_26 : decode cX9_setAsTold 26 = .ok (.aload_n 0, 1) := by decide +kernel
theorem dX9_setAsTold_27 : decode cX9_setAsTold 27 = .ok (.getfield 31, 3) := by decide +kernel
theorem dX9_setAsTold_30 : decode cX9_setAsTold 30 = .ok (.iload_n 1, 1) := by decide +kernel
theorem dX9_setAsTold_31 : decode cX9_setAsTold 31 = .ok (.iconst 0, 1) := by decide +kernel
theorem dX9_setAsTold_32 : decode cX9_setAsTold 32 = .ok (.iastore, 1) := by decide +kernel
theorem dX9_setAsTold_33 : decode cX9_setAsTold 33 = .ok (.return_, 1) := by decide +kernel
theorem dX9_canTurn_0 : decode cX9_canTurn 0 = .ok (.aload_n 0, 1) := by decide +kernel
theorem dX9_canTurn_1 : decode cX9_canTurn 1 = .ok (.iload_n 1, 1) := by decide +kernel
theorem dX9_canTurn_2 : decode cX9_canTurn 2 = .ok (.invokevirtual 51, 3) := by decide +kernel
theorem dX9_canTurn_5 : decode cX9_canTurn 5 = .ok (.ifCond .eq 18, 3) := by decide +kernel
theorem dX9_canTurn_8 : decode cX9_canTurn 8 = .ok (.aload_n 0, 1) := by decide +kernel
theorem dX9_canTurn_9 : decode cX9_canTurn 9 = .ok (.getfield 22, 3) := by decide +kernel
theorem dX9_canTurn_12 : decode cX9_canTurn 12 = .ok (.iload_n 1, 1) := by decide +kernel
theorem dX9_canTurn_13 : decode cX9_canTurn 13 = .ok (.iaload, 1) := by decide +kernel
theorem dX9_canTurn_14 : decode cX9_canTurn 14 = .ok (.bipush 99, 2) := by decide +kernel
theorem dX9_canTurn_16 : decode cX9_canTurn 16 = .ok (.if_icmp .ge 7, 3) := by decide +kernel
theorem dX9_canTurn_19 : decode cX9_canTurn 19 = .ok (.iconst 1, 1) := by decide +kernel
theorem dX9_canTurn_20 : decode cX9_canTurn 20 = .ok (.goto 4, 3) := by decide +kernel
theorem dX9_canTurn_23 : decode cX9_canTurn 23 = .ok (.iconst 0, 1) := by decide +kernel
theorem dX9_canTurn_24 : decode cX9_canTurn 24 = .ok (.ireturn, 1) := by decide +kernel
theorem dX9_turn_0 : decode cX9_turn 0 = .ok (.aload_n 0, 1) := by decide +kernel
theorem dX9_turn_1 : decode cX9_turn 1 = .ok (.getfield 28, 3) := by decide +kernel
theorem dX9_turn_4 : decode cX9_turn 4 = .ok (.iload_n 1, 1) := by decide +kernel
theorem dX9_turn_5 : decode cX9_turn 5 = .ok (.aload_n 0, 1) := by decide +kernel
theorem dX9_turn_6 : decode cX9_turn 6 = .ok (.getfield 28, 3) := by decide +kernel
theorem dX9_turn_9 : decode cX9_turn 9 = .ok (.iload_n 1, 1) := by decide +kernel
theorem dX9_turn_10 : decode cX9_turn 10 = .ok (.iaload, 1) := by decide +kernel
theorem dX9_turn_11 : decode cX9_turn 11 = .ok (.iload_n 2, 1) := by decide +kernel
theorem dX9_turn_12 : decode cX9_turn 12 = .ok (.iadd, 1) := by decide +kernel
theorem dX9_turn_13 : decode cX9_turn 13 = .ok (.sipush 10000, 3) := by decide +kernel
theorem dX9_turn_16 : decode cX9_turn 16 = .ok (.irem, 1) := by decide +kernel
theorem dX9_turn_17 : decode cX9_turn 17 = .ok (.iastore, 1) := by decide +kernel
theorem dX9_turn_18 : decode cX9_turn 18 = .ok (.aload_n 0, 1) := by decide +kernel
theorem dX9_turn_19 : decode cX9_turn 19 = .ok (.getfield 22, 3) := by decide +kernel
theorem dX9_turn_22 : decode cX9_turn 22 = .ok (.iload_n 1, 1) := by decide +kernel
theorem dX9_turn_23 : decode cX9_turn 23 = .ok (.dup2, 1) := by decide +kernel
theorem dX9_turn_24 : decode cX9_turn 24 = .ok (.iaload, 1) := by decide +kernel
theorem dX9_turn_25 : decode cX9_turn 25 = .ok (.iconst 1, 1) := by decide +kernel
theorem dX9_turn_26 : decode cX9_turn 26 = .ok (.iadd, 1) := by decide +kernel
theorem dX9_turn_27 : decode cX9_turn 27 = .ok (.iastore, 1) := by decide +kernel
theorem dX9_turn_28 : decode cX9_turn 28 = .ok (.return_, 1) := by decide +kernel
theorem dX9_hasRoll_0 : decode cX9_hasRoll 0 = .ok (.aload_n 0, 1) := by decide +kernel
theorem dX9_hasRoll_1 : decode cX9_hasRoll 1 = .ok (.iload_n 1, 1) := by decide +kernel
theorem dX9_hasRoll_2 : decode cX9_hasRoll 2 = .ok (.invokevirtual 51, 3) := by decide +kernel
theorem dX9_hasRoll_5 : decode cX9_hasRoll 5 = .ok (.ifCond .eq 16, 3) := by decide +kernel
theorem dX9_hasRoll_8 : decode cX9_hasRoll 8 = .ok (.aload_n 0, 1) := by decide +kernel
theorem dX9_hasRoll_9 : decode cX9_hasRoll 9 = .ok (.getfield 31, 3) := by decide +kernel
theorem dX9_hasRoll_12 : decode cX9_hasRoll 12 = .ok (.iload_n 1, 1) := by decide +kernel
theorem dX9_hasRoll_13 : decode cX9_hasRoll 13 = .ok (.iaload, 1) := by decide +kernel
theorem dX9_hasRoll_14 : decode cX9_hasRoll 14 = .ok (.ifCond .le 7, 3) := by decide +kernel
theorem dX9_hasRoll_17 : decode cX9_hasRoll 17 = .ok (.iconst 1, 1) := by decide +kernel
theorem dX9_hasRoll_18 : decode cX9_hasRoll 18 = .ok (.goto 4, 3) := by decide +kernel
theorem dX9_hasRoll_21 : decode cX9_hasRoll 21 = .ok (.iconst 0, 1) := by decide +kernel
theorem dX9_hasRoll_22 : decode cX9_hasRoll 22 = .ok (.ireturn, 1) := by decide +kernel
theorem dX9_rollDigit_0 : decode cX9_rollDigit 0 = .ok (.aload_n 0, 1) := by decide +kernel
theorem dX9_rollDigit_1 : decode cX9_rollDigit 1 = .ok (.iload_n 1, 1) := by decide +kernel
theorem dX9_rollDigit_2 : decode cX9_rollDigit 2 = .ok (.invokevirtual 51, 3) := by decide +kernel
theorem dX9_rollDigit_5 : decode cX9_rollDigit 5 = .ok (.ifCond .eq 25, 3) := by decide +kernel
theorem dX9_rollDigit_8 : decode cX9_rollDigit 8 = .ok (.iload_n 2, 1) := by decide +kernel
theorem dX9_rollDigit_9 : decode cX9_rollDigit 9 = .ok (.iconst 0, 1) := by decide +kernel
theorem dX9_rollDigit_10 : decode cX9_rollDigit 10 = .ok (.aload_n 0, 1) := by decide +kernel
theorem dX9_rollDigit_11 : decode cX9_rollDigit 11 = .ok (.getfield 31, 3) := by decide +kernel
theorem dX9_rollDigit_14 : decode cX9_rollDigit 14 = .ok (.iload_n 1, 1) := by decide +kernel
theorem dX9_rollDigit_15 : decode cX9_rollDigit 15 = .ok (.iaload, 1) := by decide +kernel
theorem dX9_rollDigit_16 : decode cX9_rollDigit 16 = .ok (.iconst 1, 1) := by decide +kernel
theorem dX9_rollDigit_17 : decode cX9_rollDigit 17 = .ok (.isub, 1) := by decide +kernel
theorem dX9_rollDigit_18 : decode cX9_rollDigit 18 = .ok (.invokestatic 43, 3) := by decide +kernel
theorem dX9_rollDigit_21 : decode cX9_rollDigit 21 = .ok (.ifCond .eq 9, 3) := by decide +kernel
theorem dX9_rollDigit_24 : decode cX9_rollDigit 24 = .ok (.iload_n 2, 1) := by decide +kernel
theorem dX9_rollDigit_25 : decode cX9_rollDigit 25 = .ok (.bipush 12, 2) := by decide +kernel
theorem dX9_rollDigit_27 : decode cX9_rollDigit 27 = .ok (.if_icmp .lt 5, 3) := by decide +kernel
theorem dX9_rollDigit_30 : decode cX9_rollDigit 30 = .ok (.iconst (-1), 1) := by decide +kernel
theorem dX9_rollDigit_31 : decode cX9_rollDigit 31 = .ok (.ireturn, 1) := by decide +kernel
theorem dX9_rollDigit_32 : decode cX9_rollDigit 32 = .ok (.aload_n 0, 1) := by decide +kernel
theorem dX9_rollDigit_33 : decode cX9_rollDigit 33 = .ok (.getfield 34, 3) := by decide +kernel
theorem dX9_rollDigit_36 : decode cX9_rollDigit 36 = .ok (.iload_n 1, 1) := by decide +kernel
theorem dX9_rollDigit_37 : decode cX9_rollDigit 37 = .ok (.bipush 12, 2) := by decide +kernel
theorem dX9_rollDigit_39 : decode cX9_rollDigit 39 = .ok (.imul, 1) := by decide +kernel
theorem dX9_rollDigit_40 : decode cX9_rollDigit 40 = .ok (.iload_n 2, 1) := by decide +kernel
theorem dX9_rollDigit_41 : decode cX9_rollDigit 41 = .ok (.iadd, 1) := by decide +kernel
theorem dX9_rollDigit_42 : decode cX9_rollDigit 42 = .ok (.iaload, 1) := by decide +kernel
theorem dX9_rollDigit_43 : decode cX9_rollDigit 43 = .ok (.ireturn, 1) := by decide +kernel
theorem dX9_printWord_0 : decode cX9_printWord 0 = .ok (.iload_n 2, 1) := by decide +kernel
theorem dX9_printWord_1 : decode cX9_printWord 1 = .ok (.bipush 11, 2) := by decide +kernel
theorem dX9_printWord_3 : decode cX9_printWord 3 = .ok (.if_icmp .lt 30, 3) := by decide +kernel
theorem dX9_printWord_6 : decode cX9_printWord 6 = .ok (.aload_n 0, 1) := by decide +kernel
theorem dX9_printWord_7 : decode cX9_printWord 7 = .ok (.iload_n 1, 1) := by decide +kernel
theorem dX9_printWord_8 : decode cX9_printWord 8 = .ok (.iload_n 2, 1) := by decide +kernel
theorem dX9_printWord_9 : decode cX9_printWord 9 = .ok (.bipush 11, 2) := by decide +kernel
theorem dX9_printWord_11 : decode cX9_printWord 11 = .ok (.isub, 1) := by decide +kernel
theorem dX9_printWord_12 : decode cX9_printWord 12 = .ok (.bipush 10, 2) := by decide +kernel
theorem dX9_printWord_14 : decode cX9_printWord 14 = .ok (.idiv, 1) := by decide +kernel
theorem dX9_printWord_15 : decode cX9_printWord 15 = .ok (.invokevirtual 55, 3) := by decide +kernel
theorem dX9_printWord_18 : decode cX9_printWord 18 = .ok (.aload_n 0, 1) := by decide +kernel
theorem dX9_printWord_19 : decode cX9_printWord 19 = .ok (.iload_n 1, 1) := by decide +kernel
theorem dX9_printWord_20 : decode cX9_printWord 20 = .ok (.iload_n 2, 1) := by decide +kernel
theorem dX9_printWord_21 : decode cX9_printWord 21 = .ok (.bipush 11, 2) := by decide +kernel
theorem dX9_printWord_23 : decode cX9_printWord 23 = .ok (.isub, 1) := by decide +kernel
theorem dX9_printWord_24 : decode cX9_printWord 24 = .ok (.bipush 10, 2) := by decide +kernel
theorem dX9_printWord_26 : decode cX9_printWord 26 = .ok (.irem, 1) := by decide +kernel
theorem dX9_printWord_27 : decode cX9_printWord 27 = .ok (.invokevirtual 55, 3) := by decide +kernel
theorem dX9_printWord_30 : decode cX9_printWord 30 = .ok (.goto 15, 3) := by decide +kernel
theorem dX9_printWord_33 : decode cX9_printWord 33 = .ok (.iload_n 2, 1) := by decide +kernel
theorem dX9_printWord_34 : decode cX9_printWord 34 = .ok (.ifCond .le 11, 3) := by decide +kernel
theorem dX9_printWord_37 : decode cX9_printWord 37 = .ok (.aload_n 0, 1) := by decide +kernel
theorem dX9_printWord_38 : decode cX9_printWord 38 = .ok (.iload_n 1, 1) := by decide +kernel
theorem dX9_printWord_39 : decode cX9_printWord 39 = .ok (.iload_n 2, 1) := by decide +kernel
theorem dX9_printWord_40 : decode cX9_printWord 40 = .ok (.iconst 1, 1) := by decide +kernel
theorem dX9_printWord_41 : decode cX9_printWord 41 = .ok (.isub, 1) := by decide +kernel
theorem dX9_printWord_42 : decode cX9_printWord 42 = .ok (.invokevirtual 55, 3) := by decide +kernel
theorem dX9_printWord_45 : decode cX9_printWord 45 = .ok (.return_, 1) := by decide +kernel
theorem dX9_printDigit_0 : decode cX9_printDigit 0 = .ok (.aload_n 0, 1) := by decide +kernel
theorem dX9_printDigit_1 : decode cX9_printDigit 1 = .ok (.getfield 31, 3) := by decide +kernel
theorem dX9_printDigit_4 : decode cX9_printDigit 4 = .ok (.iload_n 1, 1) := by decide +kernel
theorem dX9_printDigit_5 : decode cX9_printDigit 5 = .ok (.iaload, 1) := by decide +kernel
theorem dX9_printDigit_6 : decode cX9_printDigit 6 = .ok (.istore_n 3, 1) := by decide +kernel
theorem dX9_printDigit_7 : decode cX9_printDigit 7 = .ok (.iload_n 3, 1) := by decide +kernel
theorem dX9_printDigit_8 : decode cX9_printDigit 8 = .ok (.iconst 0, 1) := by decide +kernel
theorem dX9_printDigit_9 : decode cX9_printDigit 9 = .ok (.bipush 11, 2) := by decide +kernel
theorem dX9_printDigit_11 : decode cX9_printDigit 11 = .ok (.invokestatic 43, 3) := by decide +kernel
theorem dX9_printDigit_14 : decode cX9_printDigit 14 = .ok (.ifCond .eq 24, 3) := by decide +kernel
theorem dX9_printDigit_17 : decode cX9_printDigit 17 = .ok (.aload_n 0, 1) := by decide +kernel
theorem dX9_printDigit_18 : decode cX9_printDigit 18 = .ok (.getfield 34, 3) := by decide +kernel
theorem dX9_printDigit_21 : decode cX9_printDigit 21 = .ok (.iload_n 1, 1) := by decide +kernel
theorem dX9_printDigit_22 : decode cX9_printDigit 22 = .ok (.bipush 12, 2) := by decide +kernel
theorem dX9_printDigit_24 : decode cX9_printDigit 24 = .ok (.imul, 1) := by decide +kernel
theorem dX9_printDigit_25 : decode cX9_printDigit 25 = .ok (.iload_n 3, 1) := by decide +kernel
theorem dX9_printDigit_26 : decode cX9_printDigit 26 = .ok (.iadd, 1) := by decide +kernel
theorem dX9_printDigit_27 : decode cX9_printDigit 27 = .ok (.iload_n 2, 1) := by decide +kernel
theorem dX9_printDigit_28 : decode cX9_printDigit 28 = .ok (.iastore, 1) := by decide +kernel
theorem dX9_printDigit_29 : decode cX9_printDigit 29 = .ok (.aload_n 0, 1) := by decide +kernel
theorem dX9_printDigit_30 : decode cX9_printDigit 30 = .ok (.getfield 31, 3) := by decide +kernel
theorem dX9_printDigit_33 : decode cX9_printDigit 33 = .ok (.iload_n 1, 1) := by decide +kernel
theorem dX9_printDigit_34 : decode cX9_printDigit 34 = .ok (.iload_n 3, 1) := by decide +kernel
theorem dX9_printDigit_35 : decode cX9_printDigit 35 = .ok (.iconst 1, 1) := by decide +kernel
theorem dX9_printDigit_36 : decode cX9_printDigit 36 = .ok (.iadd, 1) := by decide +kernel
theorem dX9_printDigit_37 : decode cX9_printDigit 37 = .ok (.iastore, 1) := by decide +kernel
theorem dX9_printDigit_38 : decode cX9_printDigit 38 = .ok (.return_, 1) := by decide +kernel
theorem dX9_rollNumber_0 : decode cX9_rollNumber 0 = .ok (.iconst 0, 1) := by decide +kernel
theorem dX9_rollNumber_1 : decode cX9_rollNumber 1 = .ok (.istore_n 2, 1) := by decide +kernel
theorem dX9_rollNumber_2 : decode cX9_rollNumber 2 = .ok (.iconst 0, 1) := by decide +kernel
theorem dX9_rollNumber_3 : decode cX9_rollNumber 3 = .ok (.aload_n 0, 1) := by decide +kernel
theorem dX9_rollNumber_4 : decode cX9_rollNumber 4 = .ok (.getfield 31, 3) := by decide +kernel
theorem dX9_rollNumber_7 : decode cX9_rollNumber 7 = .ok (.iload_n 1, 1) := by decide +kernel
theorem dX9_rollNumber_8 : decode cX9_rollNumber 8 = .ok (.iaload, 1) := by decide +kernel
theorem dX9_rollNumber_9 : decode cX9_rollNumber 9 = .ok (.iconst 4, 1) := by decide +kernel
theorem dX9_rollNumber_10 : decode cX9_rollNumber 10 = .ok (.isub, 1) := by decide +kernel
theorem dX9_rollNumber_11 : decode cX9_rollNumber 11 = .ok (.invokestatic 59, 3) := by decide +kernel
theorem dX9_rollNumber_14 : decode cX9_rollNumber 14 = .ok (.istore_n 3, 1) := by decide +kernel
theorem dX9_rollNumber_15 : decode cX9_rollNumber 15 = .ok (.iload_n 3, 1) := by decide +kernel
theorem dX9_rollNumber_16 : decode cX9_rollNumber 16 = .ok (.aload_n 0, 1) := by decide +kernel
theorem dX9_rollNumber_17 : decode cX9_rollNumber 17 = .ok (.getfield 31, 3) := by decide +kernel
theorem dX9_rollNumber_20 : decode cX9_rollNumber 20 = .ok (.iload_n 1, 1) := by decide +kernel
theorem dX9_rollNumber_21 : decode cX9_rollNumber 21 = .ok (.iaload, 1) := by decide +kernel
theorem dX9_rollNumber_22 : decode cX9_rollNumber 22 = .ok (.if_icmp .ge 21, 3) := by decide +kernel
theorem dX9_rollNumber_25 : decode cX9_rollNumber 25 = .ok (.iload_n 2, 1) := by decide +kernel
theorem dX9_rollNumber_26 : decode cX9_rollNumber 26 = .ok (.bipush 10, 2) := by decide +kernel
theorem dX9_rollNumber_28 : decode cX9_rollNumber 28 = .ok (.imul, 1) := by decide +kernel
theorem dX9_rollNumber_29 : decode cX9_rollNumber 29 = .ok (.aload_n 0, 1) := by decide +kernel
theorem dX9_rollNumber_30 : decode cX9_rollNumber 30 = .ok (.iload_n 1, 1) := by decide +kernel
theorem dX9_rollNumber_31 : decode cX9_rollNumber 31 = .ok (.iload_n 3, 1) := by decide +kernel
theorem dX9_rollNumber_32 : decode cX9_rollNumber 32 = .ok (.invokevirtual 65, 3) := by decide +kernel
theorem dX9_rollNumber_35 : decode cX9_rollNumber 35 = .ok (.iadd, 1) := by decide +kernel
theorem dX9_rollNumber_36 : decode cX9_rollNumber 36 = .ok (.istore_n 2, 1) := by decide +kernel
theorem dX9_rollNumber_37 : decode cX9_rollNumber 37 = .ok (.iinc 3 1, 3) := by decide +kernel
theorem dX9_rollNumber_40 : decode cX9_rollNumber 40 = .ok (.goto (-25), 3) := by decide +kernel
theorem dX9_rollNumber_43 : decode cX9_rollNumber 43 = .ok (.iload_n 2, 1) := by decide +kernel
theorem dX9_rollNumber_44 : decode cX9_rollNumber 44 = .ok (.ireturn, 1) := by decide +kernel
theorem dX9_renewX_0 : decode cX9_renewX 0 = .ok (.aload_n 0, 1) := by decide +kernel
theorem dX9_renewX_1 : decode cX9_renewX 1 = .ok (.aload_n 0, 1) := by decide +kernel
theorem dX9_renewX_2 : decode cX9_renewX 2 = .ok (.getfield 9, 3) := by decide +kernel
theorem dX9_renewX_5 : decode cX9_renewX 5 = .ok (.sipush 433, 3) := by decide +kernel
theorem dX9_renewX_8 : decode cX9_renewX 8 = .ok (.imul, 1) := by decide +kernel
theorem dX9_renewX_9 : decode cX9_renewX 9 = .ok (.sipush 313, 3) := by decide +kernel
theorem dX9_renewX_12 : decode cX9_renewX 12 = .ok (.iadd, 1) := by decide +kernel
theorem dX9_renewX_13 : decode cX9_renewX 13 = .ok (.sipush 30557, 3) := by decide +kernel
theorem dX9_renewX_16 : decode cX9_renewX 16 = .ok (.irem, 1) := by decide +kernel
theorem dX9_renewX_17 : decode cX9_renewX 17 = .ok (.putfield 9, 3) := by decide +kernel
theorem dX9_renewX_20 : decode cX9_renewX 20 = .ok (.return_, 1) := by decide +kernel
theorem dX9_draw_0 : decode cX9_draw 0 = .ok (.aload_n 0, 1) := by decide +kernel
theorem dX9_draw_1 : decode cX9_draw 1 = .ok (.getfield 9, 3) := by decide +kernel
theorem dX9_draw_4 : decode cX9_draw 4 = .ok (.bipush 10, 2) := by decide +kernel
theorem dX9_draw_6 : decode cX9_draw 6 = .ok (.irem, 1) := by decide +kernel
theorem dX9_draw_7 : decode cX9_draw 7 = .ok (.istore_n 1, 1) := by decide +kernel
theorem dX9_draw_8 : decode cX9_draw 8 = .ok (.aload_n 0, 1) := by decide +kernel
theorem dX9_draw_9 : decode cX9_draw 9 = .ok (.invokevirtual 68, 3) := by decide +kernel
theorem dX9_draw_12 : decode cX9_draw 12 = .ok (.iload_n 1, 1) := by decide +kernel
theorem dX9_draw_13 : decode cX9_draw 13 = .ok (.ireturn, 1) := by decide +kernel
theorem dX9_believe_0 : decode cX9_believe 0 = .ok (.aload_n 0, 1) := by decide +kernel
theorem dX9_believe_1 : decode cX9_believe 1 = .ok (.iload_n 1, 1) := by decide +kernel
theorem dX9_believe_2 : decode cX9_believe 2 = .ok (.invokevirtual 71, 3) := by decide +kernel
theorem dX9_believe_5 : decode cX9_believe 5 = .ok (.istore_n 2, 1) := by decide +kernel
theorem dX9_believe_6 : decode cX9_believe 6 = .ok (.aload_n 0, 1) := by decide +kernel
theorem dX9_believe_7 : decode cX9_believe 7 = .ok (.getfield 75, 3) := by decide +kernel
theorem dX9_believe_10 : decode cX9_believe 10 = .ok (.bipush 30, 2) := by decide +kernel
theorem dX9_believe_12 : decode cX9_believe 12 = .ok (.if_icmp .lt 24, 3) := by decide +kernel
theorem dX9_believe_15 : decode cX9_believe 15 = .ok (.aload_n 0, 1) := by decide +kernel
theorem dX9_believe_16 : decode cX9_believe 16 = .ok (.getfield 37, 3) := by decide +kernel
theorem dX9_believe_19 : decode cX9_believe 19 = .ok (.iconst 4, 1) := by decide +kernel
theorem dX9_believe_20 : decode cX9_believe 20 = .ok (.aload_n 0, 1) := by decide +kernel
theorem dX9_believe_21 : decode cX9_believe 21 = .ok (.getfield 37, 3) := by decide +kernel
theorem dX9_believe_24 : decode cX9_believe 24 = .ok (.iconst 0, 1) := by decide +kernel
theorem dX9_believe_25 : decode cX9_believe 25 = .ok (.bipush 116, 2) := by decide +kernel
theorem dX9_believe_27 : decode cX9_believe 27 = .ok (.invokestatic 78, 3) := by decide +kernel
theorem dX9_believe_30 : decode cX9_believe 30 = .ok (.aload_n 0, 1) := by decide +kernel
theorem dX9_believe_31 : decode cX9_believe 31 = .ok (.bipush 29, 2) := by decide +kernel
theorem dX9_believe_33 : decode cX9_believe 33 = .ok (.putfield 75, 3) := by decide +kernel
theorem dX9_believe_36 : decode cX9_believe 36 = .ok (.aload_n 0, 1) := by decide +kernel
theorem dX9_believe_37 : decode cX9_believe 37 = .ok (.getfield 75, 3) := by decide +kernel
theorem dX9_believe_40 : decode cX9_believe 40 = .ok (.iconst 4, 1) := by decide +kernel
theorem dX9_believe_41 : decode cX9_believe 41 = .ok (.imul, 1) := by decide +kernel
theorem dX9_believe_42 : decode cX9_believe 42 = .ok (.istore_n 3, 1) := by decide +kernel
theorem dX9_believe_43 : decode cX9_believe 43 = .ok (.aload_n 0, 1) := by decide +kernel
theorem dX9_believe_44 : decode cX9_believe 44 = .ok (.getfield 37, 3) := by decide +kernel
theorem dX9_believe_47 : decode cX9_believe 47 = .ok (.iload_n 3, 1) := by decide +kernel
theorem dX9_believe_48 : decode cX9_believe 48 = .ok (.aload_n 0, 1) := by decide +kernel
theorem dX9_believe_49 : decode cX9_believe 49 = .ok (.getfield 84, 3) := by decide +kernel
theorem dX9_believe_52 : decode cX9_believe 52 = .ok (.iastore, 1) := by decide +kernel
theorem dX9_believe_53 : decode cX9_believe 53 = .ok (.aload_n 0, 1) := by decide +kernel
theorem dX9_believe_54 : decode cX9_believe 54 = .ok (.getfield 37, 3) := by decide +kernel
theorem dX9_believe_57 : decode cX9_believe 57 = .ok (.iload_n 3, 1) := by decide +kernel
theorem dX9_believe_58 : decode cX9_believe 58 = .ok (.iconst 1, 1) := by decide +kernel
theorem dX9_believe_59 : decode cX9_believe 59 = .ok (.iadd, 1) := by decide +kernel
theorem dX9_believe_60 : decode cX9_believe 60 = .ok (.iload_n 1, 1) := by decide +kernel
theorem dX9_believe_61 : decode cX9_believe 61 = .ok (.iastore, 1) := by decide +kernel
theorem dX9_believe_62 : decode cX9_believe 62 = .ok (.aload_n 0, 1) := by decide +kernel
theorem dX9_believe_63 : decode cX9_believe 63 = .ok (.getfield 37, 3) := by decide +kernel
theorem dX9_believe_66 : decode cX9_believe 66 = .ok (.iload_n 3, 1) := by decide +kernel
theorem dX9_believe_67 : decode cX9_believe 67 = .ok (.iconst 2, 1) := by decide +kernel
theorem dX9_believe_68 : decode cX9_believe 68 = .ok (.iadd, 1) := by decide +kernel
theorem dX9_believe_69 : decode cX9_believe 69 = .ok (.aload_n 0, 1) := by decide +kernel
theorem dX9_believe_70 : decode cX9_believe 70 = .ok (.getfield 28, 3) := by decide +kernel
theorem dX9_believe_73 : decode cX9_believe 73 = .ok (.iload_n 1, 1) := by decide +kernel
theorem dX9_believe_74 : decode cX9_believe 74 = .ok (.iaload, 1) := by decide +kernel
theorem dX9_believe_75 : decode cX9_believe 75 = .ok (.iastore, 1) := by decide +kernel
theorem dX9_believe_76 : decode cX9_believe 76 = .ok (.aload_n 0, 1) := by decide +kernel
theorem dX9_believe_77 : decode cX9_believe 77 = .ok (.getfield 37, 3) := by decide +kernel
theorem dX9_believe_80 : decode cX9_believe 80 = .ok (.iload_n 3, 1) := by decide +kernel
theorem dX9_believe_81 : decode cX9_believe 81 = .ok (.iconst 3, 1) := by decide +kernel
theorem dX9_believe_82 : decode cX9_believe 82 = .ok (.iadd, 1) := by decide +kernel
theorem dX9_believe_83 : decode cX9_believe 83 = .ok (.iload_n 2, 1) := by decide +kernel
theorem dX9_believe_84 : decode cX9_believe 84 = .ok (.iastore, 1) := by decide +kernel
theorem dX9_believe_85 : decode cX9_believe 85 = .ok (.aload_n 0, 1) := by decide +kernel
theorem dX9_believe_86 : decode cX9_believe 86 = .ok (.dup, 1) := by decide +kernel
theorem dX9_believe_87 : decode cX9_believe 87 = .ok (.getfield 75, 3) := by decide +kernel
theorem dX9_believe_90 : decode cX9_believe 90 = .ok (.iconst 1, 1) := by decide +kernel
theorem dX9_believe_91 : decode cX9_believe 91 = .ok (.iadd, 1) := by decide +kernel
theorem dX9_believe_92 : decode cX9_believe 92 = .ok (.putfield 75, 3) := by decide +kernel
theorem dX9_believe_95 : decode cX9_believe 95 = .ok (.aload_n 0, 1) := by decide +kernel
theorem dX9_believe_96 : decode cX9_believe 96 = .ok (.getfield 28, 3) := by decide +kernel
theorem dX9_believe_99 : decode cX9_believe 99 = .ok (.iload_n 1, 1) := by decide +kernel
theorem dX9_believe_100 : decode cX9_believe 100 = .ok (.iload_n 2, 1) := by decide +kernel
theorem dX9_believe_101 : decode cX9_believe 101 = .ok (.iastore, 1) := by decide +kernel
theorem dX9_believe_102 : decode cX9_believe 102 = .ok (.return_, 1) := by decide +kernel
theorem dX9_bookedOf_0 : decode cX9_bookedOf 0 = .ok (.iconst 0, 1) := by decide +kernel
theorem dX9_bookedOf_1 : decode cX9_bookedOf 1 = .ok (.istore_n 2, 1) := by decide +kernel
theorem dX9_bookedOf_2 : decode cX9_bookedOf 2 = .ok (.iconst 0, 1) := by decide +kernel
theorem dX9_bookedOf_3 : decode cX9_bookedOf 3 = .ok (.istore_n 3, 1) := by decide +kernel
theorem dX9_bookedOf_4 : decode cX9_bookedOf 4 = .ok (.iload_n 3, 1) := by decide +kernel
theorem dX9_bookedOf_5 : decode cX9_bookedOf 5 = .ok (.aload_n 0, 1) := by decide +kernel
theorem dX9_bookedOf_6 : decode cX9_bookedOf 6 = .ok (.getfield 75, 3) := by decide +kernel
theorem dX9_bookedOf_9 : decode cX9_bookedOf 9 = .ok (.if_icmp .ge 26, 3) := by decide +kernel
theorem dX9_bookedOf_12 : decode cX9_bookedOf 12 = .ok (.aload_n 0, 1) := by decide +kernel
theorem dX9_bookedOf_13 : decode cX9_bookedOf 13 = .ok (.getfield 37, 3) := by decide +kernel
theorem dX9_bookedOf_16 : decode cX9_bookedOf 16 = .ok (.iload_n 3, 1) := by decide +kernel
theorem dX9_bookedOf_17 : decode cX9_bookedOf 17 = .ok (.iconst 4, 1) := by decide +kernel
theorem dX9_bookedOf_18 : decode cX9_bookedOf 18 = .ok (.imul, 1) := by decide +kernel
theorem dX9_bookedOf_19 : decode cX9_bookedOf 19 = .ok (.iconst 1, 1) := by decide +kernel
theorem dX9_bookedOf_20 : decode cX9_bookedOf 20 = .ok (.iadd, 1) := by decide +kernel
theorem dX9_bookedOf_21 : decode cX9_bookedOf 21 = .ok (.iaload, 1) := by decide +kernel
theorem dX9_bookedOf_22 : decode cX9_bookedOf 22 = .ok (.iload_n 1, 1) := by decide +kernel
theorem dX9_bookedOf_23 : decode cX9_bookedOf 23 = .ok (.if_icmp .ne 6, 3) := by decide +kernel
theorem dX9_bookedOf_26 : decode cX9_bookedOf 26 = .ok (.iinc 2 1, 3) := by decide +kernel
theorem dX9_bookedOf_29 : decode cX9_bookedOf 29 = .ok (.iinc 3 1, 3) := by decide +kernel
theorem dX9_bookedOf_32 : decode cX9_bookedOf 32 = .ok (.goto (-28), 3) := by decide +kernel
theorem dX9_bookedOf_35 : decode cX9_bookedOf 35 = .ok (.iload_n 2, 1) := by decide +kernel
theorem dX9_bookedOf_36 : decode cX9_bookedOf 36 = .ok (.ireturn, 1) := by decide +kernel
theorem dX9_sumOf_0 : decode cX9_sumOf 0 = .ok (.iconst 0, 1) := by decide +kernel
theorem dX9_sumOf_1 : decode cX9_sumOf 1 = .ok (.istore_n 2, 1) := by decide +kernel
theorem dX9_sumOf_2 : decode cX9_sumOf 2 = .ok (.iconst 0, 1) := by decide +kernel
theorem dX9_sumOf_3 : decode cX9_sumOf 3 = .ok (.istore_n 3, 1) := by decide +kernel
theorem dX9_sumOf_4 : decode cX9_sumOf 4 = .ok (.iload_n 3, 1) := by decide +kernel
theorem dX9_sumOf_5 : decode cX9_sumOf 5 = .ok (.aload_n 0, 1) := by decide +kernel
theorem dX9_sumOf_6 : decode cX9_sumOf 6 = .ok (.getfield 40, 3) := by decide +kernel
theorem dX9_sumOf_9 : decode cX9_sumOf 9 = .ok (.if_icmp .ge 27, 3) := by decide +kernel
theorem dX9_sumOf_12 : decode cX9_sumOf 12 = .ok (.iload_n 1, 1) := by decide +kernel
theorem dX9_sumOf_13 : decode cX9_sumOf 13 = .ok (.iload_n 3, 1) := by decide +kernel
theorem dX9_sumOf_14 : decode cX9_sumOf 14 = .ok (.ishr, 1) := by decide +kernel
theorem dX9_sumOf_15 : decode cX9_sumOf 15 = .ok (.iconst 1, 1) := by decide +kernel
theorem dX9_sumOf_16 : decode cX9_sumOf 16 = .ok (.iand, 1) := by decide +kernel
theorem dX9_sumOf_17 : decode cX9_sumOf 17 = .ok (.iconst 1, 1) := by decide +kernel
theorem dX9_sumOf_18 : decode cX9_sumOf 18 = .ok (.if_icmp .ne 12, 3) := by decide +kernel
theorem dX9_sumOf_21 : decode cX9_sumOf 21 = .ok (.iload_n 2, 1) := by decide +kernel
theorem dX9_sumOf_22 : decode cX9_sumOf 22 = .ok (.aload_n 0, 1) := by decide +kernel
theorem dX9_sumOf_23 : decode cX9_sumOf 23 = .ok (.getfield 28, 3) := by decide +kernel
theorem dX9_sumOf_26 : decode cX9_sumOf 26 = .ok (.iload_n 3, 1) := by decide +kernel
theorem dX9_sumOf_27 : decode cX9_sumOf 27 = .ok (.iaload, 1) := by decide +kernel
theorem dX9_sumOf_28 : decode cX9_sumOf 28 = .ok (.iadd, 1) := by decide +kernel
theorem dX9_sumOf_29 : decode cX9_sumOf 29 = .ok (.istore_n 2, 1) := by decide +kernel
theorem dX9_sumOf_30 : decode cX9_sumOf 30 = .ok (.iinc 3 1, 3) := by decide +kernel
theorem dX9_sumOf_33 : decode cX9_sumOf 33 = .ok (.goto (-29), 3) := by decide +kernel
theorem dX9_sumOf_36 : decode cX9_sumOf 36 = .ok (.iload_n 2, 1) := by decide +kernel
theorem dX9_sumOf_37 : decode cX9_sumOf 37 = .ok (.ireturn, 1) := by decide +kernel
theorem dX9_copyFrom_0 : decode cX9_copyFrom 0 = .ok (.aload_n 0, 1) := by decide +kernel
theorem dX9_copyFrom_1 : decode cX9_copyFrom 1 = .ok (.aload_n 1, 1) := by decide +kernel
theorem dX9_copyFrom_2 : decode cX9_copyFrom 2 = .ok (.getfield 40, 3) := by decide +kernel
theorem dX9_copyFrom_5 : decode cX9_copyFrom 5 = .ok (.putfield 40, 3) := by decide +kernel
theorem dX9_copyFrom_8 : decode cX9_copyFrom 8 = .ok (.aload_n 1, 1) := by decide +kernel
theorem dX9_copyFrom_9 : decode cX9_copyFrom 9 = .ok (.getfield 15, 3) := by decide +kernel
theorem dX9_copyFrom_12 : decode cX9_copyFrom 12 = .ok (.iconst 0, 1) := by decide +kernel
theorem dX9_copyFrom_13 : decode cX9_copyFrom 13 = .ok (.aload_n 0, 1) := by decide +kernel
theorem dX9_copyFrom_14 : decode cX9_copyFrom 14 = .ok (.getfield 15, 3) := by decide +kernel
theorem dX9_copyFrom_17 : decode cX9_copyFrom 17 = .ok (.iconst 0, 1) := by decide +kernel
theorem dX9_copyFrom_18 : decode cX9_copyFrom 18 = .ok (.iconst 5, 1) := by decide +kernel
theorem dX9_copyFrom_19 : decode cX9_copyFrom 19 = .ok (.invokestatic 78, 3) := by decide +kernel
theorem dX9_copyFrom_22 : decode cX9_copyFrom 22 = .ok (.aload_n 1, 1) := by decide +kernel
theorem dX9_copyFrom_23 : decode cX9_copyFrom 23 = .ok (.getfield 19, 3) := by decide +kernel
theorem dX9_copyFrom_26 : decode cX9_copyFrom 26 = .ok (.iconst 0, 1) := by decide +kernel
theorem dX9_copyFrom_27 : decode cX9_copyFrom 27 = .ok (.aload_n 0, 1) := by decide +kernel
theorem dX9_copyFrom_28 : decode cX9_copyFrom 28 = .ok (.getfield 19, 3) := by decide +kernel
theorem dX9_copyFrom_31 : decode cX9_copyFrom 31 = .ok (.iconst 0, 1) := by decide +kernel
theorem dX9_copyFrom_32 : decode cX9_copyFrom 32 = .ok (.iconst 5, 1) := by decide +kernel
theorem dX9_copyFrom_33 : decode cX9_copyFrom 33 = .ok (.invokestatic 78, 3) := by decide +kernel
theorem dX9_copyFrom_36 : decode cX9_copyFrom 36 = .ok (.aload_n 0, 1) := by decide +kernel
theorem dX9_copyFrom_37 : decode cX9_copyFrom 37 = .ok (.aload_n 1, 1) := by decide +kernel
theorem dX9_copyFrom_38 : decode cX9_copyFrom 38 = .ok (.invokevirtual 87, 3) := by decide +kernel
theorem dX9_copyFrom_41 : decode cX9_copyFrom 41 = .ok (.return_, 1) := by decide +kernel
theorem dX9_goBackTo_0 : decode cX9_goBackTo 0 = .ok (.aload_n 0, 1) := by decide +kernel
theorem dX9_goBackTo_1 : decode cX9_goBackTo 1 = .ok (.aload_n 1, 1) := by decide +kernel
theorem dX9_goBackTo_2 : decode cX9_goBackTo 2 = .ok (.invokevirtual 87, 3) := by decide +kernel
theorem dX9_goBackTo_5 : decode cX9_goBackTo 5 = .ok (.aload_n 1, 1) := by decide +kernel
theorem dX9_goBackTo_6 : decode cX9_goBackTo 6 = .ok (.getfield 40, 3) := by decide +kernel
theorem dX9_goBackTo_9 : decode cX9_goBackTo 9 = .ok (.istore_n 2, 1) := by decide +kernel
theorem dX9_goBackTo_10 : decode cX9_goBackTo 10 = .ok (.iload_n 2, 1) := by decide +kernel
theorem dX9_goBackTo_11 : decode cX9_goBackTo 11 = .ok (.aload_n 0, 1) := by decide +kernel
theorem dX9_goBackTo_12 : decode cX9_goBackTo 12 = .ok (.getfield 40, 3) := by decide +kernel
theorem dX9_goBackTo_15 : decode cX9_goBackTo 15 = .ok (.if_icmp .ge 14, 3) := by decide +kernel
theorem dX9_goBackTo_18 : decode cX9_goBackTo 18 = .ok (.aload_n 0, 1) := by decide +kernel
theorem dX9_goBackTo_19 : decode cX9_goBackTo 19 = .ok (.iload_n 2, 1) := by decide +kernel
theorem dX9_goBackTo_20 : decode cX9_goBackTo 20 = .ok (.invokevirtual 47, 3) := by decide +kernel
theorem dX9_goBackTo_23 : decode cX9_goBackTo 23 = .ok (.iinc 2 1, 3) := by decide +kernel
theorem dX9_goBackTo_26 : decode cX9_goBackTo 26 = .ok (.goto (-16), 3) := by decide +kernel
theorem dX9_goBackTo_29 : decode cX9_goBackTo 29 = .ok (.return_, 1) := by decide +kernel
theorem dX9_copyChanging_0 : decode cX9_copyChanging 0 = .ok (.aload_n 0, 1) := by decide +kernel
theorem dX9_copyChanging_1 : decode cX9_copyChanging 1 = .ok (.aload_n 1, 1) := by decide +kernel
theorem dX9_copyChanging_2 : decode cX9_copyChanging 2 = .ok (.getfield 84, 3) := by decide +kernel
theorem dX9_copyChanging_5 : decode cX9_copyChanging 5 = .ok (.putfield 84, 3) := by decide +kernel
theorem dX9_copyChanging_8 : decode cX9_copyChanging 8 = .ok (.aload_n 0, 1) := by decide +kernel
theorem dX9_copyChanging_9 : decode cX9_copyChanging 9 = .ok (.aload_n 1, 1) := by decide +kernel
theorem dX9_copyChanging_10 : decode cX9_copyChanging 10 = .ok (.getfield 9, 3) := by decide +kernel
theorem dX9_copyChanging_13 : decode cX9_copyChanging 13 = .ok (.putfield 9, 3) := by decide +kernel
theorem dX9_copyChanging_16 : decode cX9_copyChanging 16 = .ok (.aload_n 0, 1) := by decide +kernel
theorem dX9_copyChanging_17 : decode cX9_copyChanging 17 = .ok (.aload_n 1, 1) := by decide +kernel
theorem dX9_copyChanging_18 : decode cX9_copyChanging 18 = .ok (.getfield 75, 3) := by decide +kernel
theorem dX9_copyChanging_21 : decode cX9_copyChanging 21 = .ok (.putfield 75, 3) := by decide +kernel
theorem dX9_copyChanging_24 : decode cX9_copyChanging 24 = .ok (.aload_n 1, 1) := by decide +kernel
theorem dX9_copyChanging_25 : decode cX9_copyChanging 25 = .ok (.getfield 22, 3) := by decide +kernel
theorem dX9_copyChanging_28 : decode cX9_copyChanging 28 = .ok (.iconst 0, 1) := by decide +kernel
theorem dX9_copyChanging_29 : decode cX9_copyChanging 29 = .ok (.aload_n 0, 1) := by decide +kernel
theorem dX9_copyChanging_30 : decode cX9_copyChanging 30 = .ok (.getfield 22, 3) := by decide +kernel
theorem dX9_copyChanging_33 : decode cX9_copyChanging 33 = .ok (.iconst 0, 1) := by decide +kernel
theorem dX9_copyChanging_34 : decode cX9_copyChanging 34 = .ok (.iconst 5, 1) := by decide +kernel
theorem dX9_copyChanging_35 : decode cX9_copyChanging 35 = .ok (.invokestatic 78, 3) := by decide +kernel
theorem dX9_copyChanging_38 : decode cX9_copyChanging 38 = .ok (.aload_n 1, 1) := by decide +kernel
theorem dX9_copyChanging_39 : decode cX9_copyChanging 39 = .ok (.getfield 25, 3) := by decide +kernel
theorem dX9_copyChanging_42 : decode cX9_copyChanging 42 = .ok (.iconst 0, 1) := by decide +kernel
theorem dX9_copyChanging_43 : decode cX9_copyChanging 43 = .ok (.aload_n 0, 1) := by decide +kernel
theorem dX9_copyChanging_44 : decode cX9_copyChanging 44 = .ok (.getfield 25, 3) := by decide +kernel
theorem dX9_copyChanging_47 : decode cX9_copyChanging 47 = .ok (.iconst 0, 1) := by decide +kernel
theorem dX9_copyChanging_48 : decode cX9_copyChanging 48 = .ok (.iconst 5, 1) := by decide +kernel
theorem dX9_copyChanging_49 : decode cX9_copyChanging 49 = .ok (.invokestatic 78, 3) := by decide +kernel
theorem dX9_copyChanging_52 : decode cX9_copyChanging 52 = .ok (.aload_n 1, 1) := by decide +kernel
theorem dX9_copyChanging_53 : decode cX9_copyChanging 53 = .ok (.getfield 28, 3) := by decide +kernel
theorem dX9_copyChanging_56 : decode cX9_copyChanging 56 = .ok (.iconst 0, 1) := by decide +kernel
theorem dX9_copyChanging_57 : decode cX9_copyChanging 57 = .ok (.aload_n 0, 1) := by decide +kernel
theorem dX9_copyChanging_58 : decode cX9_copyChanging 58 = .ok (.getfield 28, 3) := by decide +kernel
theorem dX9_copyChanging_61 : decode cX9_copyChanging 61 = .ok (.iconst 0, 1) := by decide +kernel
theorem dX9_copyChanging_62 : decode cX9_copyChanging 62 = .ok (.iconst 5, 1) := by decide +kernel
theorem dX9_copyChanging_63 : decode cX9_copyChanging 63 = .ok (.invokestatic 78, 3) := by decide +kernel
theorem dX9_copyChanging_66 : decode cX9_copyChanging 66 = .ok (.aload_n 1, 1) := by decide +kernel
theorem dX9_copyChanging_67 : decode cX9_copyChanging 67 = .ok (.getfield 31, 3) := by decide +kernel
theorem dX9_copyChanging_70 : decode cX9_copyChanging 70 = .ok (.iconst 0, 1) := by decide +kernel
theorem dX9_copyChanging_71 : decode cX9_copyChanging 71 = .ok (.aload_n 0, 1) := by decide +kernel
theorem dX9_copyChanging_72 : decode cX9_copyChanging 72 = .ok (.getfield 31, 3) := by decide +kernel
theorem dX9_copyChanging_75 : decode cX9_copyChanging 75 = .ok (.iconst 0, 1) := by decide +kernel
theorem dX9_copyChanging_76 : decode cX9_copyChanging 76 = .ok (.iconst 5, 1) := by decide +kernel
theorem dX9_copyChanging_77 : decode cX9_copyChanging 77 = .ok (.invokestatic 78, 3) := by decide +kernel
theorem dX9_copyChanging_80 : decode cX9_copyChanging 80 = .ok (.aload_n 1, 1) := by decide +kernel
theorem dX9_copyChanging_81 : decode cX9_copyChanging 81 = .ok (.getfield 34, 3) := by decide +kernel
theorem dX9_copyChanging_84 : decode cX9_copyChanging 84 = .ok (.iconst 0, 1) := by decide +kernel
theorem dX9_copyChanging_85 : decode cX9_copyChanging 85 = .ok (.aload_n 0, 1) := by decide +kernel
theorem dX9_copyChanging_86 : decode cX9_copyChanging 86 = .ok (.getfield 34, 3) := by decide +kernel
theorem dX9_copyChanging_89 : decode cX9_copyChanging 89 = .ok (.iconst 0, 1) := by decide +kernel
theorem dX9_copyChanging_90 : decode cX9_copyChanging 90 = .ok (.aload_n 0, 1) := by decide +kernel
theorem dX9_copyChanging_91 : decode cX9_copyChanging 91 = .ok (.getfield 34, 3) := by decide +kernel
theorem dX9_copyChanging_94 : decode cX9_copyChanging 94 = .ok (.arraylength, 1) := by decide +kernel
theorem dX9_copyChanging_95 : decode cX9_copyChanging 95 = .ok (.invokestatic 78, 3) := by decide +kernel
theorem dX9_copyChanging_98 : decode cX9_copyChanging 98 = .ok (.aload_n 1, 1) := by decide +kernel
theorem dX9_copyChanging_99 : decode cX9_copyChanging 99 = .ok (.getfield 37, 3) := by decide +kernel
theorem dX9_copyChanging_102 : decode cX9_copyChanging 102 = .ok (.iconst 0, 1) := by decide +kernel
theorem dX9_copyChanging_103 : decode cX9_copyChanging 103 = .ok (.aload_n 0, 1) := by decide +kernel
theorem dX9_copyChanging_104 : decode cX9_copyChanging 104 = .ok (.getfield 37, 3) := by decide +kernel
theorem dX9_copyChanging_107 : decode cX9_copyChanging 107 = .ok (.iconst 0, 1) := by decide +kernel
theorem dX9_copyChanging_108 : decode cX9_copyChanging 108 = .ok (.aload_n 0, 1) := by decide +kernel
theorem dX9_copyChanging_109 : decode cX9_copyChanging 109 = .ok (.getfield 37, 3) := by decide +kernel
theorem dX9_copyChanging_112 : decode cX9_copyChanging 112 = .ok (.arraylength, 1) := by decide +kernel
theorem dX9_copyChanging_113 : decode cX9_copyChanging 113 = .ok (.invokestatic 78, 3) := by decide +kernel
theorem dX9_copyChanging_116 : decode cX9_copyChanging 116 = .ok (.return_, 1) := by decide +kernel
