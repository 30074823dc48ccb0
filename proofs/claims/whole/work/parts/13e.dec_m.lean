theorem dX11_init_0 : decode cX11_init 0 = .ok (.aload_n 0, 1) := by decide +kernel
theorem dX11_init_1 : decode cX11_init 1 = .ok (.invokespecial 1, 3) := by decide +kernel
theorem dX11_init_4 : decode cX11_init 4 = .ok (.aload_n 0, 1) := by decide +kernel
theorem dX11_init_5 : decode cX11_init 5 = .ok (.sipush 4607, 3) := by decide +kernel
theorem dX11_init_8 : decode cX11_init 8 = .ok (.newarray .int, 2) := by decide +kernel
theorem dX11_init_10 : decode cX11_init 10 = .ok (.putfield 7, 3) := by decide +kernel
theorem dX11_init_13 : decode cX11_init 13 = .ok (.aload_n 0, 1) := by decide +kernel
theorem dX11_init_14 : decode cX11_init 14 = .ok (.sipush 4607, 3) := by decide +kernel
theorem dX11_init_17 : decode cX11_init 17 = .ok (.newarray .int, 2) := by decide +kernel
theorem dX11_init_19 : decode cX11_init 19 = .ok (.putfield 13, 3) := by decide +kernel
theorem dX11_init_22 : decode cX11_init 22 = .ok (.aload_n 0, 1) := by decide +kernel
theorem dX11_init_23 : decode cX11_init 23 = .ok (.sipush 2820, 3) := by decide +kernel
theorem dX11_init_26 : decode cX11_init 26 = .ok (.newarray .int, 2) := by decide +kernel
theorem dX11_init_28 : decode cX11_init 28 = .ok (.putfield 16, 3) := by decide +kernel
theorem dX11_init_31 : decode cX11_init 31 = .ok (.aload_n 0, 1) := by decide +kernel
theorem dX11_init_32 : decode cX11_init 32 = .ok (.sipush 300, 3) := by decide +kernel
theorem dX11_init_35 : decode cX11_init 35 = .ok (.newarray .int, 2) := by decide +kernel
theorem dX11_init_37 : decode cX11_init 37 = .ok (.putfield 19, 3) := by decide +kernel
theorem dX11_init_40 : decode cX11_init 40 = .ok (.aload_n 0, 1) := by decide +kernel
theorem dX11_init_41 : decode cX11_init 41 = .ok (.iconst (-1), 1) := by decide +kernel
theorem dX11_init_42 : decode cX11_init 42 = .ok (.putfield 22, 3) := by decide +kernel
theorem dX11_init_45 : decode cX11_init 45 = .ok (.aload_n 0, 1) := by decide +kernel
theorem dX11_init_46 : decode cX11_init 46 = .ok (.iconst (-1), 1) := by decide +kernel
theorem dX11_init_47 : decode cX11_init 47 = .ok (.putfield 26, 3) := by decide +kernel
theorem dX11_init_50 : decode cX11_init 50 = .ok (.aload_n 0, 1) := by decide +kernel
theorem dX11_init_51 : decode cX11_init 51 = .ok (.sipush 160, 3) := by decide +kernel
theorem dX11_init_54 : decode cX11_init 54 = .ok (.newarray .int, 2) := by decide +kernel
theorem dX11_init_56 : decode cX11_init 56 = .ok (.putfield 29, 3) := by decide +kernel
theorem dX11_init_59 : decode cX11_init 59 = .ok (.aload_n 0, 1) := by decide +kernel
theorem dX11_init_60 : decode cX11_init 60 = .ok (.bipush 8, 2) := by decide +kernel
theorem dX11_init_62 : decode cX11_init 62 = .ok (.newarray .int, 2) := by decide +kernel
theorem dX11_init_64 : decode cX11_init 64 = .ok (.putfield 32, 3) := by decide +kernel
theorem dX11_init_67 : decode cX11_init 67 = .ok (.aload_n 0, 1) := by decide +kernel
theorem dX11_init_68 : decode cX11_init 68 = .ok (.sipush 330, 3) := by decide +kernel
theorem dX11_init_71 : decode cX11_init 71 = .ok (.newarray .long, 2) := by decide +kernel
theorem dX11_init_73 : decode cX11_init 73 = .ok (.putfield 35, 3) := by decide +kernel
theorem dX11_init_76 : decode cX11_init 76 = .ok (.aload_n 0, 1) := by decide +kernel
theorem dX11_init_77 : decode cX11_init 77 = .ok (.sipush 330, 3) := by decide +kernel
theorem dX11_init_80 : decode cX11_init 80 = .ok (.newarray .boolean, 2) := by decide +kernel
theorem dX11_init_82 : decode cX11_init 82 = .ok (.putfield 39, 3) := by decide +kernel
theorem dX11_init_85 : decode cX11_init 85 = .ok (.aload_n 0, 1) := by decide +kernel
theorem dX11_init_86 : decode cX11_init 86 = .ok (.iconst 1, 1) := by decide +kernel
theorem dX11_init_87 : decode cX11_init 87 = .ok (.putfield 43, 3) := by decide +kernel
theorem dX11_init_90 : decode cX11_init 90 = .ok (.aload_n 0, 1) := by decide +kernel
theorem dX11_init_91 : decode cX11_init 91 = .ok (.bipush 101, 2) := by decide +kernel
theorem dX11_init_93 : decode cX11_init 93 = .ok (.newarray .int, 2) := by decide +kernel
theorem dX11_init_95 : decode cX11_init 95 = .ok (.putfield 47, 3) := by decide +kernel
theorem dX11_init_98 : decode cX11_init 98 = .ok (.aload_n 0, 1) := by decide +kernel
theorem dX11_init_99 : decode cX11_init 99 = .ok (.bipush 13, 2) := by decide +kernel
theorem dX11_init_101 : decode cX11_init 101 = .ok (.newarray .long, 2) := by decide +kernel
theorem dX11_init_103 : decode cX11_init 103 = .ok (.putfield 50, 3) := by decide +kernel
theorem dX11_init_106 : decode cX11_init 106 = .ok (.aload_n 0, 1) := by decide +kernel
theorem dX11_init_107 : decode cX11_init 107 = .ok (.bipush 13, 2) := by decide +kernel
theorem dX11_init_109 : decode cX11_init 109 = .ok (.newarray .long, 2) := by decide +kernel
theorem dX11_init_111 : decode cX11_init 111 = .ok (.putfield 53, 3) := by decide +kernel
theorem dX11_init_114 : decode cX11_init 114 = .ok (.aload_n 0, 1) := by decide +kernel
theorem dX11_init_115 : decode cX11_init 115 = .ok (.bipush 13, 2) := by decide +kernel
theorem dX11_init_117 : decode cX11_init 117 = .ok (.newarray .int, 2) := by decide +kernel
theorem dX11_init_119 : decode cX11_init 119 = .ok (.putfield 56, 3) := by decide +kernel
theorem dX11_init_122 : decode cX11_init 122 = .ok (.aload_n 0, 1) := by decide +kernel
theorem dX11_init_123 : decode cX11_init 123 = .ok (.bipush 12, 2) := by decide +kernel
theorem dX11_init_125 : decode cX11_init 125 = .ok (.newarray .int, 2) := by decide +kernel
theorem dX11_init_127 : decode cX11_init 127 = .ok (.putfield 59, 3) := by decide +kernel
theorem dX11_init_130 : decode cX11_init 130 = .ok (.aload_n 0, 1) := by decide +kernel
theorem dX11_init_131 : decode cX11_init 131 = .ok (.sipush 169, 3) := by decide +kernel
theorem dX11_init_134 : decode cX11_init 134 = .ok (.newarray .int, 2) := by decide +kernel
theorem dX11_init_136 : decode cX11_init 136 = .ok (.putfield 62, 3) := by decide +kernel
theorem dX11_init_139 : decode cX11_init 139 = .ok (.aload_n 0, 1) := by decide +kernel
theorem dX11_init_140 : decode cX11_init 140 = .ok (.bipush 10, 2) := by decide +kernel
theorem dX11_init_142 : decode cX11_init 142 = .ok (.newarray .int, 2) := by decide +kernel
theorem dX11_init_144 : decode cX11_init 144 = .ok (.putfield 65, 3) := by decide +kernel
theorem dX11_init_147 : decode cX11_init 147 = .ok (.aload_n 0, 1) := by decide +kernel
theorem dX11_init_148 : decode cX11_init 148 = .ok (.bipush 10, 2) := by decide +kernel
theorem dX11_init_150 : decode cX11_init 150 = .ok (.newarray .int, 2) := by decide +kernel
theorem dX11_init_152 : decode cX11_init 152 = .ok (.putfield 68, 3) := by decide +kernel
theorem dX11_init_155 : decode cX11_init 155 = .ok (.aload_n 0, 1) := by decide +kernel
theorem dX11_init_156 : decode cX11_init 156 = .ok (.iconst 5, 1) := by decide +kernel
theorem dX11_init_157 : decode cX11_init 157 = .ok (.newarray .int, 2) := by decide +kernel
theorem dX11_init_159 : decode cX11_init 159 = .ok (.putfield 71, 3) := by decide +kernel
theorem dX11_init_162 : decode cX11_init 162 = .ok (.aload_n 0, 1) := by decide +kernel
theorem dX11_init_163 : decode cX11_init 163 = .ok (.iconst 5, 1) := by decide +kernel
theorem dX11_init_164 : decode cX11_init 164 = .ok (.newarray .int, 2) := by decide +kernel
theorem dX11_init_166 : decode cX11_init 166 = .ok (.putfield 74, 3) := by decide +kernel
theorem dX11_init_169 : decode cX11_init 169 = .ok (.aload_n 0, 1) := by decide +kernel
theorem dX11_init_170 : decode cX11_init 170 = .ok (.bipush 8, 2) := by decide +kernel
theorem dX11_init_172 : decode cX11_init 172 = .ok (.newarray .int, 2) := by decide +kernel
theorem dX11_init_174 : decode cX11_init 174 = .ok (.putfield 77, 3) := by decide +kernel
theorem dX11_init_177 : decode cX11_init 177 = .ok (.aload_n 0, 1) := by decide +kernel
theorem dX11_init_178 : decode cX11_init 178 = .ok (.bipush 8, 2) := by decide +kernel
theorem dX11_init_180 : decode cX11_init 180 = .ok (.newarray .int, 2) := by decide +kernel
theorem dX11_init_182 : decode cX11_init 182 = .ok (.putfield 80, 3) := by decide +kernel
theorem dX11_init_185 : decode cX11_init 185 = .ok (.aload_n 0, 1) := by decide +kernel
theorem dX11_init_186 : decode cX11_init 186 = .ok (.getfield 7, 3) := by decide +kernel
theorem dX11_init_189 : decode cX11_init 189 = .ok (.bipush 9, 2) := by decide +kernel
theorem dX11_init_191 : decode cX11_init 191 = .ok (.sipush 193, 3) := by decide +kernel
theorem dX11_init_194 : decode cX11_init 194 = .ok (.iastore, 1) := by decide +kernel
theorem dX11_init_195 : decode cX11_init 195 = .ok (.aload_n 0, 1) := by decide +kernel
theorem dX11_init_196 : decode cX11_init 196 = .ok (.getfield 7, 3) := by decide +kernel
theorem dX11_init_199 : decode cX11_init 199 = .ok (.iconst 2, 1) := by decide +kernel
theorem dX11_init_200 : decode cX11_init 200 = .ok (.iconst (-1), 1) := by decide +kernel
theorem dX11_init_201 : decode cX11_init 201 = .ok (.iastore, 1) := by decide +kernel
theorem dX11_init_202 : decode cX11_init 202 = .ok (.iconst 0, 1) := by decide +kernel
theorem dX11_init_203 : decode cX11_init 203 = .ok (.istore_n 1, 1) := by decide +kernel
theorem dX11_init_204 : decode cX11_init 204 = .ok (.iload_n 1, 1) := by decide +kernel
theorem dX11_init_205 : decode cX11_init 205 = .ok (.bipush 10, 2) := by decide +kernel
theorem dX11_init_207 : decode cX11_init 207 = .ok (.if_icmp .ge 43, 3) := by decide +kernel
theorem dX11_init_210 : decode cX11_init 210 = .ok (.aload_n 0, 1) := by decide +kernel
theorem dX11_init_211 : decode cX11_init 211 = .ok (.getfield 7, 3) := by decide +kernel
theorem dX11_init_214 : decode cX11_init 214 = .ok (.bipush 101, 2) := by decide +kernel
theorem dX11_init_216 : decode cX11_init 216 = .ok (.iconst 2, 1) := by decide +kernel
theorem dX11_init_217 : decode cX11_init 217 = .ok (.iload_n 1, 1) := by decide +kernel
theorem dX11_init_218 : decode cX11_init 218 = .ok (.imul, 1) := by decide +kernel
theorem dX11_init_219 : decode cX11_init 219 = .ok (.iadd, 1) := by decide +kernel
theorem dX11_init_220 : decode cX11_init 220 = .ok (.iload_n 1, 1) := by decide +kernel
theorem dX11_init_221 : decode cX11_init 221 = .ok (.iconst 1, 1) := by decide +kernel
theorem dX11_init_222 : decode cX11_init 222 = .ok (.iadd, 1) := by decide +kernel
theorem dX11_init_223 : decode cX11_init 223 = .ok (.iastore, 1) := by decide +kernel
theorem dX11_init_224 : decode cX11_init 224 = .ok (.aload_n 0, 1) := by decide +kernel
theorem dX11_init_225 : decode cX11_init 225 = .ok (.getfield 7, 3) := by decide +kernel
theorem dX11_init_228 : decode cX11_init 228 = .ok (.bipush 101, 2) := by decide +kernel
theorem dX11_init_230 : decode cX11_init 230 = .ok (.iconst 2, 1) := by decide +kernel
theorem dX11_init_231 : decode cX11_init 231 = .ok (.iload_n 1, 1) := by decide +kernel
theorem dX11_init_232 : decode cX11_init 232 = .ok (.imul, 1) := by decide +kernel
theorem dX11_init_233 : decode cX11_init 233 = .ok (.iadd, 1) := by decide +kernel
theorem dX11_init_234 : decode cX11_init 234 = .ok (.iconst 1, 1) := by decide +kernel
theorem dX11_init_235 : decode cX11_init 235 = .ok (.iadd, 1) := by decide +kernel
theorem dX11_init_236 : decode cX11_init 236 = .ok (.bipush 11, 2) := by decide +kernel
theorem dX11_init_238 : decode cX11_init 238 = .ok (.bipush 11, 2) := by decide +kernel
theorem dX11_init_240 : decode cX11_init 240 = .ok (.iload_n 1, 1) := by decide +kernel
theorem dX11_init_241 : decode cX11_init 241 = .ok (.imul, 1) := by decide +kernel
theorem dX11_init_242 : decode cX11_init 242 = .ok (.iadd, 1) := by decide +kernel
theorem dX11_init_243 : decode cX11_init 243 = .ok (.iastore, 1) := by decide +kernel
theorem dX11_init_244 : decode cX11_init 244 = .ok (.iinc 1 1, 3) := by decide +kernel
theorem dX11_init_247 : decode cX11_init 247 = .ok (.goto (-43), 3) := by decide +kernel
theorem dX11_init_250 : decode cX11_init 250 = .ok (.aload_n 0, 1) := by decide +kernel
theorem dX11_init_251 : decode cX11_init 251 = .ok (.getfield 7, 3) := by decide +kernel
theorem dX11_init_254 : decode cX11_init 254 = .ok (.aload_n 0, 1) := by decide +kernel
theorem dX11_init_255 : decode cX11_init 255 = .ok (.getfield 13, 3) := by decide +kernel
theorem dX11_init_258 : decode cX11_init 258 = .ok (.invokestatic 83, 3) := by decide +kernel
theorem dX11_init_261 : decode cX11_init 261 = .ok (.return_, 1) := by decide +kernel
theorem dX11_copy_0 : decode cX11_copy 0 = .ok (.iconst 0, 1) := by decide +kernel
theorem dX11_copy_1 : decode cX11_copy 1 = .ok (.istore_n 2, 1) := by decide +kernel
theorem dX11_copy_2 : decode cX11_copy 2 = .ok (.iload_n 2, 1) := by decide +kernel
theorem dX11_copy_3 : decode cX11_copy 3 = .ok (.sipush 4607, 3) := by decide +kernel
theorem dX11_copy_6 : decode cX11_copy 6 = .ok (.if_icmp .ge 15, 3) := by decide +kernel
theorem dX11_copy_9 : decode cX11_copy 9 = .ok (.aload_n 1, 1) := by decide +kernel
theorem dX11_copy_10 : decode cX11_copy 10 = .ok (.iload_n 2, 1) := by decide +kernel
theorem dX11_copy_11 : decode cX11_copy 11 = .ok (.aload_n 0, 1) := by decide +kernel
theorem dX11_copy_12 : decode cX11_copy 12 = .ok (.iload_n 2, 1) := by decide +kernel
theorem dX11_copy_13 : decode cX11_copy 13 = .ok (.iaload, 1) := by decide +kernel
theorem dX11_copy_14 : decode cX11_copy 14 = .ok (.iastore, 1) := by decide +kernel
theorem dX11_copy_15 : decode cX11_copy 15 = .ok (.iinc 2 1, 3) := by decide +kernel
theorem dX11_copy_18 : decode cX11_copy 18 = .ok (.goto (-16), 3) := by decide +kernel
theorem dX11_copy_21 : decode cX11_copy 21 = .ok (.return_, 1) := by decide +kernel
theorem dX11_isIn_0 : decode cX11_isIn 0 = .ok (.iload_n 0, 1) := by decide +kernel
theorem dX11_isIn_1 : decode cX11_isIn 1 = .ok (.iload_n 1, 1) := by decide +kernel
theorem dX11_isIn_2 : decode cX11_isIn 2 = .ok (.if_icmp .lt 12, 3) := by decide +kernel
theorem dX11_isIn_5 : decode cX11_isIn 5 = .ok (.iload_n 0, 1) := by decide +kernel
theorem dX11_isIn_6 : decode cX11_isIn 6 = .ok (.iload_n 2, 1) := by decide +kernel
theorem dX11_isIn_7 : decode cX11_isIn 7 = .ok (.if_icmp .gt 7, 3) := by decide +kernel
theorem dX11_isIn_10 : decode cX11_isIn 10 = .ok (.iconst 1, 1) := by decide +kernel
theorem dX11_isIn_11 : decode cX11_isIn 11 = .ok (.goto 4, 3) := by decide +kernel
theorem dX11_isIn_14 : decode cX11_isIn 14 = .ok (.iconst 0, 1) := by decide +kernel
theorem dX11_isIn_15 : decode cX11_isIn 15 = .ok (.ireturn, 1) := by decide +kernel
theorem dX11_cut_0 : decode cX11_cut 0 = .ok (.lload_n 0, 1) := by decide +kernel
theorem dX11_cut_1 : decode cX11_cut 1 = .ok (.iload_n 2, 1) := by decide +kernel
theorem dX11_cut_2 : decode cX11_cut 2 = .ok (.i2l, 1) := by decide +kernel
theorem dX11_cut_3 : decode cX11_cut 3 = .ok (.lcmp, 1) := by decide +kernel
theorem dX11_cut_4 : decode cX11_cut 4 = .ok (.ifCond .ge 7, 3) := by decide +kernel
theorem dX11_cut_7 : decode cX11_cut 7 = .ok (.iload_n 2, 1) := by decide +kernel
theorem dX11_cut_8 : decode cX11_cut 8 = .ok (.goto 16, 3) := by decide +kernel
theorem dX11_cut_11 : decode cX11_cut 11 = .ok (.lload_n 0, 1) := by decide +kernel
theorem dX11_cut_12 : decode cX11_cut 12 = .ok (.iload_n 3, 1) := by decide +kernel
theorem dX11_cut_13 : decode cX11_cut 13 = .ok (.i2l, 1) := by decide +kernel
theorem dX11_cut_14 : decode cX11_cut 14 = .ok (.lcmp, 1) := by decide +kernel
theorem dX11_cut_15 : decode cX11_cut 15 = .ok (.ifCond .le 7, 3) := by decide +kernel
theorem dX11_cut_18 : decode cX11_cut 18 = .ok (.iload_n 3, 1) := by decide +kernel
theorem dX11_cut_19 : decode cX11_cut 19 = .ok (.goto 5, 3) := by decide +kernel
theorem dX11_cut_22 : decode cX11_cut 22 = .ok (.lload_n 0, 1) := by decide +kernel
theorem dX11_cut_23 : decode cX11_cut 23 = .ok (.l2i, 1) := by decide +kernel
theorem dX11_cut_24 : decode cX11_cut 24 = .ok (.ireturn, 1) := by decide +kernel
theorem dX11_has_0 : decode cX11_has 0 = .ok (.iload_n 0, 1) := by decide +kernel
theorem dX11_has_1 : decode cX11_has 1 = .ok (.iload_n 1, 1) := by decide +kernel
theorem dX11_has_2 : decode cX11_has 2 = .ok (.ishr, 1) := by decide +kernel
theorem dX11_has_3 : decode cX11_has 3 = .ok (.iconst 1, 1) := by decide +kernel
theorem dX11_has_4 : decode cX11_has 4 = .ok (.iand, 1) := by decide +kernel
theorem dX11_has_5 : decode cX11_has 5 = .ok (.iconst 1, 1) := by decide +kernel
theorem dX11_has_6 : decode cX11_has 6 = .ok (.if_icmp .ne 7, 3) := by decide +kernel
theorem dX11_has_9 : decode cX11_has 9 = .ok (.iconst 1, 1) := by decide +kernel
theorem dX11_has_10 : decode cX11_has 10 = .ok (.goto 4, 3) := by decide +kernel
theorem dX11_has_13 : decode cX11_has 13 = .ok (.iconst 0, 1) := by decide +kernel
theorem dX11_has_14 : decode cX11_has 14 = .ok (.ireturn, 1) := by decide +kernel
theorem dX11_bits_0 : decode cX11_bits 0 = .ok (.iconst 0, 1) := by decide +kernel
theorem dX11_bits_1 : decode cX11_bits 1 = .ok (.istore_n 1, 1) := by decide +kernel
theorem dX11_bits_2 : decode cX11_bits 2 = .ok (.iload_n 0, 1) := by decide +kernel
theorem dX11_bits_3 : decode cX11_bits 3 = .ok (.istore_n 2, 1) := by decide +kernel
theorem dX11_bits_4 : decode cX11_bits 4 = .ok (.iload_n 2, 1) := by decide +kernel
theorem dX11_bits_5 : decode cX11_bits 5 = .ok (.ifCond .eq 15, 3) := by decide +kernel
theorem dX11_bits_8 : decode cX11_bits 8 = .ok (.iinc 1 1, 3) := by decide +kernel
theorem dX11_bits_11 : decode cX11_bits 11 = .ok (.iload_n 2, 1) := by decide +kernel
theorem dX11_bits_12 : decode cX11_bits 12 = .ok (.iload_n 2, 1) := by decide +kernel
theorem dX11_bits_13 : decode cX11_bits 13 = .ok (.iconst 1, 1) := by decide +kernel
theorem dX11_bits_14 : decode cX11_bits 14 = .ok (.isub, 1) := by decide +kernel
theorem dX11_bits_15 : decode cX11_bits 15 = .ok (.iand, 1) := by decide +kernel
theorem dX11_bits_16 : decode cX11_bits 16 = .ok (.istore_n 2, 1) := by decide +kernel
theorem dX11_bits_17 : decode cX11_bits 17 = .ok (.goto (-13), 3) := by decide +kernel
theorem dX11_bits_20 : decode cX11_bits 20 = .ok (.iload_n 1, 1) := by decide +kernel
theorem dX11_bits_21 : decode cX11_bits 21 = .ok (.ireturn, 1) := by decide +kernel
theorem dX11_isMachine_0 : decode cX11_isMachine 0 = .ok (.iload_n 1, 1) := by decide +kernel
theorem dX11_isMachine_1 : decode cX11_isMachine 1 = .ok (.iconst 0, 1) := by decide +kernel
theorem dX11_isMachine_2 : decode cX11_isMachine 2 = .ok (.aload_n 0, 1) := by decide +kernel
theorem dX11_isMachine_3 : decode cX11_isMachine 3 = .ok (.getfield 7, 3) := by decide +kernel
theorem dX11_isMachine_6 : decode cX11_isMachine 6 = .ok (.iconst 0, 1) := by decide +kernel
theorem dX11_isMachine_7 : decode cX11_isMachine 7 = .ok (.iaload, 1) := by decide +kernel
theorem dX11_isMachine_8 : decode cX11_isMachine 8 = .ok (.iconst 1, 1) := by decide +kernel
theorem dX11_isMachine_9 : decode cX11_isMachine 9 = .ok (.isub, 1) := by decide +kernel
theorem dX11_isMachine_10 : decode cX11_isMachine 10 = .ok (.invokestatic 87, 3) := by decide +kernel
theorem dX11_isMachine_13 : decode cX11_isMachine 13 = .ok (.ireturn, 1) := by decide +kernel
theorem dX11_isDigit_0 : decode cX11_isDigit 0 = .ok (.iload_n 0, 1) := by decide +kernel
theorem dX11_isDigit_1 : decode cX11_isDigit 1 = .ok (.iconst 0, 1) := by decide +kernel
theorem dX11_isDigit_2 : decode cX11_isDigit 2 = .ok (.bipush 9, 2) := by decide +kernel
theorem dX11_isDigit_4 : decode cX11_isDigit 4 = .ok (.invokestatic 87, 3) := by decide +kernel
theorem dX11_isDigit_7 : decode cX11_isDigit 7 = .ok (.ireturn, 1) := by decide +kernel
theorem dX11_isNumber_0 : decode cX11_isNumber 0 = .ok (.iload_n 0, 1) := by decide +kernel
theorem dX11_isNumber_1 : decode cX11_isNumber 1 = .ok (.iconst 0, 1) := by decide +kernel
theorem dX11_isNumber_2 : decode cX11_isNumber 2 = .ok (.sipush 9999, 3) := by decide +kernel
theorem dX11_isNumber_5 : decode cX11_isNumber 5 = .ok (.invokestatic 87, 3) := by decide +kernel
theorem dX11_isNumber_8 : decode cX11_isNumber 8 = .ok (.ireturn, 1) := by decide +kernel
theorem dX11_get_0 : decode cX11_get 0 = .ok (.aload_n 0, 1) := by decide +kernel
theorem dX11_get_1 : decode cX11_get 1 = .ok (.getfield 7, 3) := by decide +kernel
theorem dX11_get_4 : decode cX11_get 4 = .ok (.bipush 11, 2) := by decide +kernel
theorem dX11_get_6 : decode cX11_get 6 = .ok (.bipush 18, 2) := by decide +kernel
theorem dX11_get_8 : decode cX11_get 8 = .ok (.iload_n 1, 1) := by decide +kernel
theorem dX11_get_9 : decode cX11_get 9 = .ok (.imul, 1) := by decide +kernel
theorem dX11_get_10 : decode cX11_get 10 = .ok (.iadd, 1) := by decide +kernel
theorem dX11_get_11 : decode cX11_get 11 = .ok (.iload_n 2, 1) := by decide +kernel
theorem dX11_get_12 : decode cX11_get 12 = .ok (.iadd, 1) := by decide +kernel
theorem dX11_get_13 : decode cX11_get 13 = .ok (.iaload, 1) := by decide +kernel
theorem dX11_get_14 : decode cX11_get 14 = .ok (.ireturn, 1) := by decide +kernel
theorem dX11_lay_0 : decode cX11_lay 0 = .ok (.aload_n 0, 1) := by decide +kernel
theorem dX11_lay_1 : decode cX11_lay 1 = .ok (.getfield 7, 3) := by decide +kernel
theorem dX11_lay_4 : decode cX11_lay 4 = .ok (.bipush 11, 2) := by decide +kernel
theorem dX11_lay_6 : decode cX11_lay 6 = .ok (.bipush 18, 2) := by decide +kernel
theorem dX11_lay_8 : decode cX11_lay 8 = .ok (.iload_n 1, 1) := by decide +kernel
theorem dX11_lay_9 : decode cX11_lay 9 = .ok (.imul, 1) := by decide +kernel
theorem dX11_lay_10 : decode cX11_lay 10 = .ok (.iadd, 1) := by decide +kernel
theorem dX11_lay_11 : decode cX11_lay 11 = .ok (.iload_n 2, 1) := by decide +kernel
theorem dX11_lay_12 : decode cX11_lay 12 = .ok (.iadd, 1) := by decide +kernel
theorem dX11_lay_13 : decode cX11_lay 13 = .ok (.iload_n 3, 1) := by decide +kernel
theorem dX11_lay_14 : decode cX11_lay 14 = .ok (.iastore, 1) := by decide +kernel
theorem dX11_lay_15 : decode cX11_lay 15 = .ok (.return_, 1) := by decide +kernel
theorem dX11_longOf_0 : decode cX11_longOf 0 = .ok (.iload_n 0, 1) := by decide +kernel
theorem dX11_longOf_1 : decode cX11_longOf 1 = .ok (.bipush 10, 2) := by decide +kernel
theorem dX11_longOf_3 : decode cX11_longOf 3 = .ok (.if_icmp .ge 7, 3) := by decide +kernel
theorem dX11_longOf_6 : decode cX11_longOf 6 = .ok (.iconst 1, 1) := by decide +kernel
theorem dX11_longOf_7 : decode cX11_longOf 7 = .ok (.goto 25, 3) := by decide +kernel
theorem dX11_longOf_10 : decode cX11_longOf 10 = .ok (.iload_n 0, 1) := by decide +kernel
theorem dX11_longOf_11 : decode cX11_longOf 11 = .ok (.bipush 100, 2) := by decide +kernel
theorem dX11_longOf_13 : decode cX11_longOf 13 = .ok (.if_icmp .ge 7, 3) := by decide +kernel
theorem dX11_longOf_16 : decode cX11_longOf 16 = .ok (.iconst 2, 1) := by decide +kernel
theorem dX11_longOf_17 : decode cX11_longOf 17 = .ok (.goto 15, 3) := by decide +kernel
theorem dX11_longOf_20 : decode cX11_longOf 20 = .ok (.iload_n 0, 1) := by decide +kernel
theorem dX11_longOf_21 : decode cX11_longOf 21 = .ok (.sipush 1000, 3) := by decide +kernel
theorem dX11_longOf_24 : decode cX11_longOf 24 = .ok (.if_icmp .ge 7, 3) := by decide +kernel
theorem dX11_longOf_27 : decode cX11_longOf 27 = .ok (.iconst 3, 1) := by decide +kernel
theorem dX11_longOf_28 : decode cX11_longOf 28 = .ok (.goto 4, 3) := by decide +kernel
theorem dX11_longOf_31 : decode cX11_longOf 31 = .ok (.iconst 4, 1) := by decide +kernel
theorem dX11_longOf_32 : decode cX11_longOf 32 = .ok (.ireturn, 1) := by decide +kernel
theorem dX11_digitOf_0 : decode cX11_digitOf 0 = .ok (.iload_n 0, 1) := by decide +kernel
theorem dX11_digitOf_1 : decode cX11_digitOf 1 = .ok (.istore_n 2, 1) := by decide +kernel
theorem dX11_digitOf_2 : decode cX11_digitOf 2 = .ok (.iload_n 0, 1) := by decide +kernel
theorem dX11_digitOf_3 : decode cX11_digitOf 3 = .ok (.invokestatic 91, 3) := by decide +kernel
theorem dX11_digitOf_6 : decode cX11_digitOf 6 = .ok (.iconst 1, 1) := by decide +kernel
theorem dX11_digitOf_7 : decode cX11_digitOf 7 = .ok (.isub, 1) := by decide +kernel
theorem dX11_digitOf_8 : decode cX11_digitOf 8 = .ok (.istore_n 3, 1) := by decide +kernel
theorem dX11_digitOf_9 : decode cX11_digitOf 9 = .ok (.iload_n 3, 1) := by decide +kernel
theorem dX11_digitOf_10 : decode cX11_digitOf 10 = .ok (.iload_n 1, 1) := by decide +kernel
theorem dX11_digitOf_11 : decode cX11_digitOf 11 = .ok (.if_icmp .le 14, 3) := by decide +kernel
theorem dX11_digitOf_14 : decode cX11_digitOf 14 = .ok (.iload_n 2, 1) := by decide +kernel
theorem dX11_digitOf_15 : decode cX11_digitOf 15 = .ok (.bipush 10, 2) := by decide +kernel
theorem dX11_digitOf_17 : decode cX11_digitOf 17 = .ok (.idiv, 1) := by decide +kernel
theorem dX11_digitOf_18 : decode cX11_digitOf 18 = .ok (.istore_n 2, 1) := by decide +kernel
theorem dX11_digitOf_19 : decode cX11_digitOf 19 = .ok (.iinc 3 (-1), 3) := by decide +kernel
theorem dX11_digitOf_22 : decode cX11_digitOf 22 = .ok (.goto (-13), 3) := by decide +kernel
theorem dX11_digitOf_25 : decode cX11_digitOf 25 = .ok (.iload_n 2, 1) := by decide +kernel
theorem dX11_digitOf_26 : decode cX11_digitOf 26 = .ok (.bipush 10, 2) := by decide +kernel
theorem dX11_digitOf_28 : decode cX11_digitOf 28 = .ok (.irem, 1) := by decide +kernel
theorem dX11_digitOf_29 : decode cX11_digitOf 29 = .ok (.ireturn, 1) := by decide +kernel
theorem dX11_wordLong_0 : decode cX11_wordLong 0 = .ok (.iload_n 0, 1) := by decide +kernel
theorem dX11_wordLong_1 : decode cX11_wordLong 1 = .ok (.ifCond .ne 7, 3) := by decide +kernel
theorem dX11_wordLong_4 : decode cX11_wordLong 4 = .ok (.iconst 0, 1) := by decide +kernel
theorem dX11_wordLong_5 : decode cX11_wordLong 5 = .ok (.goto 14, 3) := by decide +kernel
theorem dX11_wordLong_8 : decode cX11_wordLong 8 = .ok (.iload_n 0, 1) := by decide +kernel
theorem dX11_wordLong_9 : decode cX11_wordLong 9 = .ok (.bipush 11, 2) := by decide +kernel
theorem dX11_wordLong_11 : decode cX11_wordLong 11 = .ok (.if_icmp .ge 7, 3) := by decide +kernel
theorem dX11_wordLong_14 : decode cX11_wordLong 14 = .ok (.iconst 1, 1) := by decide +kernel
theorem dX11_wordLong_15 : decode cX11_wordLong 15 = .ok (.goto 4, 3) := by decide +kernel
theorem dX11_wordLong_18 : decode cX11_wordLong 18 = .ok (.iconst 2, 1) := by decide +kernel
theorem dX11_wordLong_19 : decode cX11_wordLong 19 = .ok (.ireturn, 1) := by decide +kernel
theorem dX11_wordDigit_0 : decode cX11_wordDigit 0 = .ok (.iload_n 0, 1) := by decide +kernel
theorem dX11_wordDigit_1 : decode cX11_wordDigit 1 = .ok (.bipush 11, 2) := by decide +kernel
theorem dX11_wordDigit_3 : decode cX11_wordDigit 3 = .ok (.if_icmp .ge 9, 3) := by decide +kernel
theorem dX11_wordDigit_6 : decode cX11_wordDigit 6 = .ok (.iload_n 0, 1) := by decide +kernel
theorem dX11_wordDigit_7 : decode cX11_wordDigit 7 = .ok (.iconst 1, 1) := by decide +kernel
theorem dX11_wordDigit_8 : decode cX11_wordDigit 8 = .ok (.isub, 1) := by decide +kernel
theorem dX11_wordDigit_9 : decode cX11_wordDigit 9 = .ok (.goto 24, 3) := by decide +kernel
theorem dX11_wordDigit_12 : decode cX11_wordDigit 12 = .ok (.iload_n 1, 1) := by decide +kernel
theorem dX11_wordDigit_13 : decode cX11_wordDigit 13 = .ok (.ifCond .ne 13, 3) := by decide +kernel
theorem dX11_wordDigit_16 : decode cX11_wordDigit 16 = .ok (.iload_n 0, 1) := by decide +kernel
theorem dX11_wordDigit_17 : decode cX11_wordDigit 17 = .ok (.bipush 11, 2) := by decide +kernel
theorem dX11_wordDigit_19 : decode cX11_wordDigit 19 = .ok (.isub, 1) := by decide +kernel
theorem dX11_wordDigit_20 : decode cX11_wordDigit 20 = .ok (.bipush 10, 2) := by decide +kernel
theorem dX11_wordDigit_22 : decode cX11_wordDigit 22 = .ok (.idiv, 1) := by decide +kernel
theorem dX11_wordDigit_23 : decode cX11_wordDigit 23 = .ok (.goto 10, 3) := by decide +kernel
theorem dX11_wordDigit_26 : decode cX11_wordDigit 26 = .ok (.iload_n 0, 1) := by decide +kernel
theorem dX11_wordDigit_27 : decode cX11_wordDigit 27 = .ok (.bipush 11, 2) := by decide +kernel
theorem dX11_wordDigit_29 : decode cX11_wordDigit 29 = .ok (.isub, 1) := by decide +kernel
theorem dX11_wordDigit_30 : decode cX11_wordDigit 30 = .ok (.bipush 10, 2) := by decide +kernel
theorem dX11_wordDigit_32 : decode cX11_wordDigit 32 = .ok (.irem, 1) := by decide +kernel
theorem dX11_wordDigit_33 : decode cX11_wordDigit 33 = .ok (.ireturn, 1) := by decide +kernel
theorem dX11_ruleOf_0 : decode cX11_ruleOf 0 = .ok (.aload_n 0, 1) := by decide +kernel
theorem dX11_ruleOf_1 : decode cX11_ruleOf 1 = .ok (.getfield 7, 3) := by decide +kernel
theorem dX11_ruleOf_4 : decode cX11_ruleOf 4 = .ok (.bipush 101, 2) := by decide +kernel
theorem dX11_ruleOf_6 : decode cX11_ruleOf 6 = .ok (.iconst 2, 1) := by decide +kernel
theorem dX11_ruleOf_7 : decode cX11_ruleOf 7 = .ok (.iload_n 1, 1) := by decide +kernel
theorem dX11_ruleOf_8 : decode cX11_ruleOf 8 = .ok (.imul, 1) := by decide +kernel
theorem dX11_ruleOf_9 : decode cX11_ruleOf 9 = .ok (.iadd, 1) := by decide +kernel
theorem dX11_ruleOf_10 : decode cX11_ruleOf 10 = .ok (.iload_n 2, 1) := by decide +kernel
theorem dX11_ruleOf_11 : decode cX11_ruleOf 11 = .ok (.iadd, 1) := by decide +kernel
theorem dX11_ruleOf_12 : decode cX11_ruleOf 12 = .ok (.iaload, 1) := by decide +kernel
theorem dX11_ruleOf_13 : decode cX11_ruleOf 13 = .ok (.ireturn, 1) := by decide +kernel
theorem dX11_machine_0 : decode cX11_machine 0 = .ok (.iload_n 1, 1) := by decide +kernel
theorem dX11_machine_1 : decode cX11_machine 1 = .ok (.invokestatic 95, 3) := by decide +kernel
theorem dX11_machine_4 : decode cX11_machine 4 = .ok (.ifCond .eq 23, 3) := by decide +kernel
theorem dX11_machine_7 : decode cX11_machine 7 = .ok (.iload_n 2, 1) := by decide +kernel
theorem dX11_machine_8 : decode cX11_machine 8 = .ok (.iconst 0, 1) := by decide +kernel
theorem dX11_machine_9 : decode cX11_machine 9 = .ok (.bipush 99, 2) := by decide +kernel
theorem dX11_machine_11 : decode cX11_machine 11 = .ok (.invokestatic 87, 3) := by decide +kernel
theorem dX11_machine_14 : decode cX11_machine 14 = .ok (.ifCond .eq 13, 3) := by decide +kernel
theorem dX11_machine_17 : decode cX11_machine 17 = .ok (.aload_n 0, 1) := by decide +kernel
theorem dX11_machine_18 : decode cX11_machine 18 = .ok (.getfield 7, 3) := by decide +kernel
theorem dX11_machine_21 : decode cX11_machine 21 = .ok (.iconst 0, 1) := by decide +kernel
theorem dX11_machine_22 : decode cX11_machine 22 = .ok (.iaload, 1) := by decide +kernel
theorem dX11_machine_23 : decode cX11_machine 23 = .ok (.iconst 5, 1) := by decide +kernel
theorem dX11_machine_24 : decode cX11_machine 24 = .ok (.if_icmp .ne 5, 3) := by decide +kernel
theorem dX11_machine_27 : decode cX11_machine 27 = .ok (.iconst (-1), 1) := by decide +kernel
theorem dX11_machine_28 : decode cX11_machine 28 = .ok (.ireturn, 1) := by decide +kernel
theorem dX11_machine_29 : decode cX11_machine 29 = .ok (.aload_n 0, 1) := by decide +kernel
theorem dX11_machine_30 : decode cX11_machine 30 = .ok (.getfield 7, 3) := by decide +kernel
theorem dX11_machine_33 : decode cX11_machine 33 = .ok (.iconst 0, 1) := by decide +kernel
theorem dX11_machine_34 : decode cX11_machine 34 = .ok (.iaload, 1) := by decide +kernel
theorem dX11_machine_35 : decode cX11_machine 35 = .ok (.istore_n 3, 1) := by decide +kernel
theorem dX11_machine_36 : decode cX11_machine 36 = .ok (.aload_n 0, 1) := by decide +kernel
theorem dX11_machine_37 : decode cX11_machine 37 = .ok (.iload_n 3, 1) := by decide +kernel
theorem dX11_machine_38 : decode cX11_machine 38 = .ok (.bipush 16, 2) := by decide +kernel
theorem dX11_machine_40 : decode cX11_machine 40 = .ok (.iload_n 1, 1) := by decide +kernel
theorem dX11_machine_41 : decode cX11_machine 41 = .ok (.invokevirtual 99, 3) := by decide +kernel
theorem dX11_machine_44 : decode cX11_machine 44 = .ok (.aload_n 0, 1) := by decide +kernel
theorem dX11_machine_45 : decode cX11_machine 45 = .ok (.iload_n 3, 1) := by decide +kernel
theorem dX11_machine_46 : decode cX11_machine 46 = .ok (.bipush 17, 2) := by decide +kernel
theorem dX11_machine_48 : decode cX11_machine 48 = .ok (.iload_n 2, 1) := by decide +kernel
theorem dX11_machine_49 : decode cX11_machine 49 = .ok (.invokevirtual 99, 3) := by decide +kernel
theorem dX11_machine_52 : decode cX11_machine 52 = .ok (.aload_n 0, 1) := by decide +kernel
theorem dX11_machine_53 : decode cX11_machine 53 = .ok (.iload_n 3, 1) := by decide +kernel
theorem dX11_machine_54 : decode cX11_machine 54 = .ok (.invokevirtual 103, 3) := by decide +kernel
theorem dX11_machine_57 : decode cX11_machine 57 = .ok (.aload_n 0, 1) := by decide +kernel
theorem dX11_machine_58 : decode cX11_machine 58 = .ok (.getfield 7, 3) := by decide +kernel
theorem dX11_machine_61 : decode cX11_machine 61 = .ok (.iconst 0, 1) := by decide +kernel
theorem dX11_machine_62 : decode cX11_machine 62 = .ok (.dup2, 1) := by decide +kernel
theorem dX11_machine_63 : decode cX11_machine 63 = .ok (.iaload, 1) := by decide +kernel
theorem dX11_machine_64 : decode cX11_machine 64 = .ok (.iconst 1, 1) := by decide +kernel
theorem dX11_machine_65 : decode cX11_machine 65 = .ok (.iadd, 1) := by decide +kernel
theorem dX11_machine_66 : decode cX11_machine 66 = .ok (.iastore, 1) := by decide +kernel
theorem dX11_machine_67 : decode cX11_machine 67 = .ok (.iload_n 3, 1) := by decide +kernel
theorem dX11_machine_68 : decode cX11_machine 68 = .ok (.ireturn, 1) := by decide +kernel
theorem dX11_begin_0 : decode cX11_begin 0 = .ok (.iconst 0, 1) := by decide +kernel
theorem dX11_begin_1 : decode cX11_begin 1 = .ok (.istore_n 2, 1) := by decide +kernel
theorem dX11_begin_2 : decode cX11_begin 2 = .ok (.iload_n 2, 1) := by decide +kernel
theorem dX11_begin_3 : decode cX11_begin 3 = .ok (.bipush 16, 2) := by decide +kernel
theorem dX11_begin_5 : decode cX11_begin 5 = .ok (.if_icmp .ge 16, 3) := by decide +kernel
theorem dX11_begin_8 : decode cX11_begin 8 = .ok (.aload_n 0, 1) := by decide +kernel
theorem dX11_begin_9 : decode cX11_begin 9 = .ok (.iload_n 1, 1) := by decide +kernel
theorem dX11_begin_10 : decode cX11_begin 10 = .ok (.iload_n 2, 1) := by decide +kernel
theorem dX11_begin_11 : decode cX11_begin 11 = .ok (.iconst 0, 1) := by decide +kernel
theorem dX11_begin_12 : decode cX11_begin 12 = .ok (.invokevirtual 99, 3) := by decide +kernel
theorem dX11_begin_15 : decode cX11_begin 15 = .ok (.iinc 2 1, 3) := by decide +kernel
theorem dX11_begin_18 : decode cX11_begin 18 = .ok (.goto (-16), 3) := by decide +kernel
theorem dX11_begin_21 : decode cX11_begin 21 = .ok (.aload_n 0, 1) := by decide +kernel
theorem dX11_begin_22 : decode cX11_begin 22 = .ok (.iload_n 1, 1) := by decide +kernel
theorem dX11_begin_23 : decode cX11_begin 23 = .ok (.iconst 0, 1) := by decide +kernel
theorem dX11_begin_24 : decode cX11_begin 24 = .ok (.aload_n 0, 1) := by decide +kernel
theorem dX11_begin_25 : decode cX11_begin 25 = .ok (.iload_n 1, 1) := by decide +kernel
theorem dX11_begin_26 : decode cX11_begin 26 = .ok (.bipush 17, 2) := by decide +kernel
theorem dX11_begin_28 : decode cX11_begin 28 = .ok (.invokevirtual 107, 3) := by decide +kernel
theorem dX11_begin_31 : decode cX11_begin 31 = .ok (.invokevirtual 99, 3) := by decide +kernel
theorem dX11_begin_34 : decode cX11_begin 34 = .ok (.return_, 1) := by decide +kernel
theorem dX11_rule_0 : decode cX11_rule 0 = .ok (.iload_n 1, 1) := by decide +kernel
theorem dX11_rule_1 : decode cX11_rule 1 = .ok (.invokestatic 95, 3) := by decide +kernel
theorem dX11_rule_4 : decode cX11_rule 4 = .ok (.ifCond .eq 13, 3) := by decide +kernel
theorem dX11_rule_7 : decode cX11_rule 7 = .ok (.iload_n 3, 1) := by decide +kernel
theorem dX11_rule_8 : decode cX11_rule 8 = .ok (.iconst 0, 1) := by decide +kernel
theorem dX11_rule_9 : decode cX11_rule 9 = .ok (.bipush 110, 2) := by decide +kernel
theorem dX11_rule_11 : decode cX11_rule 11 = .ok (.invokestatic 87, 3) := by decide +kernel
theorem dX11_rule_14 : decode cX11_rule 14 = .ok (.ifCond .ne 5, 3) := by decide +kernel
theorem dX11_rule_17 : decode cX11_rule 17 = .ok (.iconst 0, 1) := by decide +kernel
theorem dX11_rule_18 : decode cX11_rule 18 = .ok (.ireturn, 1) := by decide +kernel
theorem dX11_rule_19 : decode cX11_rule 19 = .ok (.aload_n 0, 1) := by decide +kernel
theorem dX11_rule_20 : decode cX11_rule 20 = .ok (.getfield 7, 3) := by decide +kernel
theorem dX11_rule_23 : decode cX11_rule 23 = .ok (.bipush 101, 2) := by decide +kernel
theorem dX11_rule_25 : decode cX11_rule 25 = .ok (.iconst 2, 1) := by decide +kernel
theorem dX11_rule_26 : decode cX11_rule 26 = .ok (.iload_n 1, 1) := by decide +kernel
theorem dX11_rule_27 : decode cX11_rule 27 = .ok (.imul, 1) := by decide +kernel
theorem dX11_rule_28 : decode cX11_rule 28 = .ok (.iadd, 1) := by decide +kernel
theorem dX11_rule_29 : decode cX11_rule 29 = .ok (.iload_n 2, 1) := by decide +kernel
theorem dX11_rule_30 : decode cX11_rule 30 = .ok (.ifCond .eq 7, 3) := by decide +kernel
theorem dX11_rule_33 : decode cX11_rule 33 = .ok (.iconst 1, 1) := by decide +kernel
theorem dX11_rule_34 : decode cX11_rule 34 = .ok (.goto 4, 3) := by decide +kernel
theorem dX11_rule_37 : decode cX11_rule 37 = .ok (.iconst 0, 1) := by decide +kernel
theorem dX11_rule_38 : decode cX11_rule 38 = .ok (.iadd, 1) := by decide +kernel
theorem dX11_rule_39 : decode cX11_rule 39 = .ok (.iload_n 3, 1) := by decide +kernel
theorem dX11_rule_40 : decode cX11_rule 40 = .ok (.iastore, 1) := by decide +kernel
theorem dX11_rule_41 : decode cX11_rule 41 = .ok (.iconst 1, 1) := by decide +kernel
theorem dX11_rule_42 : decode cX11_rule 42 = .ok (.ireturn, 1) := by decide +kernel
theorem dX11_four_0 : decode cX11_four 0 = .ok (.bipush 24, 2) := by decide +kernel
theorem dX11_four_2 : decode cX11_four 2 = .ok (.istore_n 2, 1) := by decide +kernel
theorem dX11_four_3 : decode cX11_four 3 = .ok (.iload_n 2, 1) := by decide +kernel
theorem dX11_four_4 : decode cX11_four 4 = .ok (.ifCond .lt 35, 3) := by decide +kernel
theorem dX11_four_7 : decode cX11_four 7 = .ok (.aload_n 0, 1) := by decide +kernel
theorem dX11_four_8 : decode cX11_four 8 = .ok (.getfield 19, 3) := by decide +kernel
theorem dX11_four_11 : decode cX11_four 11 = .ok (.aload_n 0, 1) := by decide +kernel
theorem dX11_four_12 : decode cX11_four 12 = .ok (.getfield 111, 3) := by decide +kernel
theorem dX11_four_15 : decode cX11_four 15 = .ok (.iload_n 1, 1) := by decide +kernel
theorem dX11_four_16 : decode cX11_four 16 = .ok (.iload_n 2, 1) := by decide +kernel
theorem dX11_four_17 : decode cX11_four 17 = .ok (.ishr, 1) := by decide +kernel
theorem dX11_four_18 : decode cX11_four 18 = .ok (.sipush 255, 3) := by decide +kernel
theorem dX11_four_21 : decode cX11_four 21 = .ok (.iand, 1) := by decide +kernel
theorem dX11_four_22 : decode cX11_four 22 = .ok (.iastore, 1) := by decide +kernel
theorem dX11_four_23 : decode cX11_four 23 = .ok (.aload_n 0, 1) := by decide +kernel
theorem dX11_four_24 : decode cX11_four 24 = .ok (.dup, 1) := by decide +kernel
theorem dX11_four_25 : decode cX11_four 25 = .ok (.getfield 111, 3) := by decide +kernel
theorem dX11_four_28 : decode cX11_four 28 = .ok (.iconst 1, 1) := by decide +kernel
theorem dX11_four_29 : decode cX11_four 29 = .ok (.iadd, 1) := by decide +kernel
theorem dX11_four_30 : decode cX11_four 30 = .ok (.putfield 111, 3) := by decide +kernel
theorem dX11_four_33 : decode cX11_four 33 = .ok (.iinc 2 (-8), 3) := by decide +kernel
theorem dX11_four_36 : decode cX11_four 36 = .ok (.goto (-33), 3) := by decide +kernel
theorem dX11_four_39 : decode cX11_four 39 = .ok (.return_, 1) := by decide +kernel
theorem dX11_feed_0 : decode cX11_feed 0 = .ok (.aload_n 0, 1) := by decide +kernel
theorem dX11_feed_1 : decode cX11_feed 1 = .ok (.getfield 111, 3) := by decide +kernel
theorem dX11_feed_4 : decode cX11_feed 4 = .ok (.bipush 20, 2) := by decide +kernel
theorem dX11_feed_6 : decode cX11_feed 6 = .ok (.iadd, 1) := by decide +kernel
theorem dX11_feed_7 : decode cX11_feed 7 = .ok (.sipush 300, 3) := by decide +kernel
theorem dX11_feed_10 : decode cX11_feed 10 = .ok (.if_icmp .le 5, 3) := by decide +kernel
theorem dX11_feed_13 : decode cX11_feed 13 = .ok (.iconst (-1), 1) := by decide +kernel
theorem dX11_feed_14 : decode cX11_feed 14 = .ok (.ireturn, 1) := by decide +kernel
theorem dX11_feed_15 : decode cX11_feed 15 = .ok (.aload_n 0, 1) := by decide +kernel
theorem dX11_feed_16 : decode cX11_feed 16 = .ok (.iload_n 1, 1) := by decide +kernel
theorem dX11_feed_17 : decode cX11_feed 17 = .ok (.invokevirtual 114, 3) := by decide +kernel
theorem dX11_feed_20 : decode cX11_feed 20 = .ok (.aload_n 0, 1) := by decide +kernel
theorem dX11_feed_21 : decode cX11_feed 21 = .ok (.iload_n 2, 1) := by decide +kernel
theorem dX11_feed_22 : decode cX11_feed 22 = .ok (.invokevirtual 114, 3) := by decide +kernel
theorem dX11_feed_25 : decode cX11_feed 25 = .ok (.aload_n 0, 1) := by decide +kernel
theorem dX11_feed_26 : decode cX11_feed 26 = .ok (.iload_n 3, 1) := by decide +kernel
theorem dX11_feed_27 : decode cX11_feed 27 = .ok (.invokevirtual 114, 3) := by decide +kernel
theorem dX11_feed_30 : decode cX11_feed 30 = .ok (.aload_n 0, 1) := by decide +kernel
theorem dX11_feed_31 : decode cX11_feed 31 = .ok (.iload 4, 2) := by decide +kernel
theorem dX11_feed_33 : decode cX11_feed 33 = .ok (.invokevirtual 114, 3) := by decide +kernel
theorem dX11_feed_36 : decode cX11_feed 36 = .ok (.aload_n 0, 1) := by decide +kernel
theorem dX11_feed_37 : decode cX11_feed 37 = .ok (.iload 5, 2) := by decide +kernel
theorem dX11_feed_39 : decode cX11_feed 39 = .ok (.invokevirtual 114, 3) := by decide +kernel
theorem dX11_feed_42 : decode cX11_feed 42 = .ok (.aload_n 0, 1) := by decide +kernel
theorem dX11_feed_43 : decode cX11_feed 43 = .ok (.getfield 111, 3) := by decide +kernel
theorem dX11_feed_46 : decode cX11_feed 46 = .ok (.ireturn, 1) := by decide +kernel
theorem dX11_end_0 : decode cX11_end 0 = .ok (.iload_n 1, 1) := by decide +kernel
theorem dX11_end_1 : decode cX11_end 1 = .ok (.iconst 0, 1) := by decide +kernel
theorem dX11_end_2 : decode cX11_end 2 = .ok (.aload_n 0, 1) := by decide +kernel
theorem dX11_end_3 : decode cX11_end 3 = .ok (.getfield 111, 3) := by decide +kernel
theorem dX11_end_6 : decode cX11_end 6 = .ok (.invokestatic 87, 3) := by decide +kernel
theorem dX11_end_9 : decode cX11_end 9 = .ok (.ifCond .ne 5, 3) := by decide +kernel
theorem dX11_end_12 : decode cX11_end 12 = .ok (.iconst (-1), 1) := by decide +kernel
theorem dX11_end_13 : decode cX11_end 13 = .ok (.ireturn, 1) := by decide +kernel
theorem dX11_end_14 : decode cX11_end 14 = .ok (.aload_n 0, 1) := by decide +kernel
theorem dX11_end_15 : decode cX11_end 15 = .ok (.iload_n 1, 1) := by decide +kernel
theorem dX11_end_16 : decode cX11_end 16 = .ok (.putfield 111, 3) := by decide +kernel
theorem dX11_end_19 : decode cX11_end 19 = .ok (.iload_n 1, 1) := by decide +kernel
theorem dX11_end_20 : decode cX11_end 20 = .ok (.ireturn, 1) := by decide +kernel
theorem dX11_byteAt_0 : decode cX11_byteAt 0 = .ok (.iload_n 1, 1) := by decide +kernel
theorem dX11_byteAt_1 : decode cX11_byteAt 1 = .ok (.aload_n 0, 1) := by decide +kernel
theorem dX11_byteAt_2 : decode cX11_byteAt 2 = .ok (.getfield 111, 3) := by decide +kernel
theorem dX11_byteAt_5 : decode cX11_byteAt 5 = .ok (.if_icmp .ge 12, 3) := by decide +kernel
theorem dX11_byteAt_8 : decode cX11_byteAt 8 = .ok (.aload_n 0, 1) := by decide +kernel
theorem dX11_byteAt_9 : decode cX11_byteAt 9 = .ok (.getfield 19, 3) := by decide +kernel
theorem dX11_byteAt_12 : decode cX11_byteAt 12 = .ok (.iload_n 1, 1) := by decide +kernel
theorem dX11_byteAt_13 : decode cX11_byteAt 13 = .ok (.iaload, 1) := by decide +kernel
theorem dX11_byteAt_14 : decode cX11_byteAt 14 = .ok (.goto 4, 3) := by decide +kernel
theorem dX11_byteAt_17 : decode cX11_byteAt 17 = .ok (.iconst (-1), 1) := by decide +kernel
theorem dX11_byteAt_18 : decode cX11_byteAt 18 = .ok (.ireturn, 1) := by decide +kernel
theorem dX11_isLetterByte_0 : decode cX11_isLetterByte 0 = .ok (.iload_n 0, 1) := by decide +kernel
theorem dX11_isLetterByte_1 : decode cX11_isLetterByte 1 = .ok (.bipush 97, 2) := by decide +kernel
theorem dX11_isLetterByte_3 : decode cX11_isLetterByte 3 = .ok (.if_icmp .lt 9, 3) := by decide +kernel
theorem dX11_isLetterByte_6 : decode cX11_isLetterByte 6 = .ok (.iload_n 0, 1) := by decide +kernel
theorem dX11_isLetterByte_7 : decode cX11_isLetterByte 7 = .ok (.bipush 122, 2) := by decide +kernel
theorem dX11_isLetterByte_9 : decode cX11_isLetterByte 9 = .ok (.if_icmp .le 15, 3) := by decide +kernel
theorem dX11_isLetterByte_12 : decode cX11_isLetterByte 12 = .ok (.iload_n 0, 1) := by decide +kernel
theorem dX11_isLetterByte_13 : decode cX11_isLetterByte 13 = .ok (.bipush 65, 2) := by decide +kernel
theorem dX11_isLetterByte_15 : decode cX11_isLetterByte 15 = .ok (.if_icmp .lt 13, 3) := by decide +kernel
theorem dX11_isLetterByte_18 : decode cX11_isLetterByte 18 = .ok (.iload_n 0, 1) := by decide +kernel
theorem dX11_isLetterByte_19 : decode cX11_isLetterByte 19 = .ok (.bipush 90, 2) := by decide +kernel
theorem dX11_isLetterByte_21 : decode cX11_isLetterByte 21 = .ok (.if_icmp .gt 7, 3) := by decide +kernel
theorem dX11_isLetterByte_24 : decode cX11_isLetterByte 24 = .ok (.iconst 1, 1) := by decide +kernel
theorem dX11_isLetterByte_25 : decode cX11_isLetterByte 25 = .ok (.goto 4, 3) := by decide +kernel
theorem dX11_isLetterByte_28 : decode cX11_isLetterByte 28 = .ok (.iconst 0, 1) := by decide +kernel
theorem dX11_isLetterByte_29 : decode cX11_isLetterByte 29 = .ok (.ireturn, 1) := by decide +kernel
theorem dX11_isFigure_0 : decode cX11_isFigure 0 = .ok (.iload_n 0, 1) := by decide +kernel
theorem dX11_isFigure_1 : decode cX11_isFigure 1 = .ok (.bipush 48, 2) := by decide +kernel
theorem dX11_isFigure_3 : decode cX11_isFigure 3 = .ok (.if_icmp .lt 13, 3) := by decide +kernel
theorem dX11_isFigure_6 : decode cX11_isFigure 6 = .ok (.iload_n 0, 1) := by decide +kernel
theorem dX11_isFigure_7 : decode cX11_isFigure 7 = .ok (.bipush 57, 2) := by decide +kernel
theorem dX11_isFigure_9 : decode cX11_isFigure 9 = .ok (.if_icmp .gt 7, 3) := by decide +kernel
theorem dX11_isFigure_12 : decode cX11_isFigure 12 = .ok (.iconst 1, 1) := by decide +kernel
theorem dX11_isFigure_13 : decode cX11_isFigure 13 = .ok (.goto 4, 3) := by decide +kernel
theorem dX11_isFigure_16 : decode cX11_isFigure 16 = .ok (.iconst 0, 1) := by decide +kernel
theorem dX11_isFigure_17 : decode cX11_isFigure 17 = .ok (.ireturn, 1) := by decide +kernel
theorem dX11_isSign_0 : decode cX11_isSign 0 = .ok (.iload_n 0, 1) := by decide +kernel
theorem dX11_isSign_1 : decode cX11_isSign 1 = .ok (.tableswitch 129 35 62 #[127, 129, 129, 129, 129, 127, 127, 127, 127, 129, 127, 129, 127, 129, 129, 129, 129, 129, 129, 129, 129, 129, 129, 127, 127, 127, 127, 127], 127) := by decide +kernel
theorem dX11_isSign_128 : decode cX11_isSign 128 = .ok (.iconst 1, 1) := by decide +kernel
theorem dX11_isSign_129 : decode cX11_isSign 129 = .ok (.ireturn, 1) := by decide +kernel
theorem dX11_isSign_130 : decode cX11_isSign 130 = .ok (.iconst 0, 1) := by decide +kernel
theorem dX11_isSign_131 : decode cX11_isSign 131 = .ok (.ireturn, 1) := by decide +kernel
theorem dX11_nextToken_0 : decode cX11_nextToken 0 = .ok (.aload_n 0, 1) := by decide +kernel
theorem dX11_nextToken_1 : decode cX11_nextToken 1 = .ok (.aload_n 0, 1) := by decide +kernel
theorem dX11_nextToken_2 : decode cX11_nextToken 2 = .ok (.getfield 117, 3) := by decide +kernel
theorem dX11_nextToken_5 : decode cX11_nextToken 5 = .ok (.invokevirtual 120, 3) := by decide +kernel
theorem dX11_nextToken_8 : decode cX11_nextToken 8 = .ok (.bipush 32, 2) := by decide +kernel
theorem dX11_nextToken_10 : decode cX11_nextToken 10 = .ok (.if_icmp .eq 16, 3) := by decide +kernel
theorem dX11_nextToken_13 : decode cX11_nextToken 13 = .ok (.aload_n 0, 1) := by decide +kernel
theorem dX11_nextToken_14 : decode cX11_nextToken 14 = .ok (.aload_n 0, 1) := by decide +kernel
theorem dX11_nextToken_15 : decode cX11_nextToken 15 = .ok (.getfield 117, 3) := by decide +kernel
theorem dX11_nextToken_18 : decode cX11_nextToken 18 = .ok (.invokevirtual 120, 3) := by decide +kernel
theorem dX11_nextToken_21 : decode cX11_nextToken 21 = .ok (.bipush 10, 2) := by decide +kernel
theorem dX11_nextToken_23 : decode cX11_nextToken 23 = .ok (.if_icmp .ne 16, 3) := by decide +kernel
theorem dX11_nextToken_26 : decode cX11_nextToken 26 = .ok (.aload_n 0, 1) := by decide +kernel
theorem dX11_nextToken_27 : decode cX11_nextToken 27 = .ok (.dup, 1) := by decide +kernel
theorem dX11_nextToken_28 : decode cX11_nextToken 28 = .ok (.getfield 117, 3) := by decide +kernel
theorem dX11_nextToken_31 : decode cX11_nextToken 31 = .ok (.iconst 1, 1) := by decide +kernel
theorem dX11_nextToken_32 : decode cX11_nextToken 32 = .ok (.iadd, 1) := by decide +kernel
theorem dX11_nextToken_33 : decode cX11_nextToken 33 = .ok (.putfield 117, 3) := by decide +kernel
theorem dX11_nextToken_36 : decode cX11_nextToken 36 = .ok (.goto (-36), 3) := by decide +kernel
theorem dX11_nextToken_39 : decode cX11_nextToken 39 = .ok (.aload_n 0, 1) := by decide +kernel
theorem dX11_nextToken_40 : decode cX11_nextToken 40 = .ok (.aload_n 0, 1) := by decide +kernel
theorem dX11_nextToken_41 : decode cX11_nextToken 41 = .ok (.getfield 117, 3) := by decide +kernel
theorem dX11_nextToken_44 : decode cX11_nextToken 44 = .ok (.putfield 123, 3) := by decide +kernel
theorem dX11_nextToken_47 : decode cX11_nextToken 47 = .ok (.aload_n 0, 1) := by decide +kernel
theorem dX11_nextToken_48 : decode cX11_nextToken 48 = .ok (.aload_n 0, 1) := by decide +kernel
theorem dX11_nextToken_49 : decode cX11_nextToken 49 = .ok (.getfield 117, 3) := by decide +kernel
theorem dX11_nextToken_52 : decode cX11_nextToken 52 = .ok (.invokevirtual 120, 3) := by decide +kernel
theorem dX11_nextToken_55 : decode cX11_nextToken 55 = .ok (.istore_n 1, 1) := by decide +kernel
theorem dX11_nextToken_56 : decode cX11_nextToken 56 = .ok (.iload_n 1, 1) := by decide +kernel
theorem dX11_nextToken_57 : decode cX11_nextToken 57 = .ok (.ifCond .ge 11, 3) := by decide +kernel
theorem dX11_nextToken_60 : decode cX11_nextToken 60 = .ok (.aload_n 0, 1) := by decide +kernel
theorem dX11_nextToken_61 : decode cX11_nextToken 61 = .ok (.iconst 0, 1) := by decide +kernel
theorem dX11_nextToken_62 : decode cX11_nextToken 62 = .ok (.putfield 126, 3) := by decide +kernel
theorem dX11_nextToken_65 : decode cX11_nextToken 65 = .ok (.goto 245, 3) := by decide +kernel
theorem dX11_nextToken_68 : decode cX11_nextToken 68 = .ok (.iload_n 1, 1) := by decide +kernel
theorem dX11_nextToken_69 : decode cX11_nextToken 69 = .ok (.invokestatic 129, 3) := by decide +kernel
theorem dX11_nextToken_72 : decode cX11_nextToken 72 = .ok (.ifCond .eq 79, 3) := by decide +kernel
theorem dX11_nextToken_75 : decode cX11_nextToken 75 = .ok (.aload_n 0, 1) := by decide +kernel
theorem dX11_nextToken_76 : decode cX11_nextToken 76 = .ok (.iconst 1, 1) := by decide +kernel
theorem dX11_nextToken_77 : decode cX11_nextToken 77 = .ok (.putfield 126, 3) := by decide +kernel
theorem dX11_nextToken_80 : decode cX11_nextToken 80 = .ok (.aload_n 0, 1) := by decide +kernel
theorem dX11_nextToken_81 : decode cX11_nextToken 81 = .ok (.iconst 0, 1) := by decide +kernel
theorem dX11_nextToken_82 : decode cX11_nextToken 82 = .ok (.putfield 132, 3) := by decide +kernel
theorem dX11_nextToken_85 : decode cX11_nextToken 85 = .ok (.aload_n 0, 1) := by decide +kernel
theorem dX11_nextToken_86 : decode cX11_nextToken 86 = .ok (.aload_n 0, 1) := by decide +kernel
theorem dX11_nextToken_87 : decode cX11_nextToken 87 = .ok (.getfield 117, 3) := by decide +kernel
theorem dX11_nextToken_90 : decode cX11_nextToken 90 = .ok (.invokevirtual 120, 3) := by decide +kernel
theorem dX11_nextToken_93 : decode cX11_nextToken 93 = .ok (.invokestatic 129, 3) := by decide +kernel
theorem dX11_nextToken_96 : decode cX11_nextToken 96 = .ok (.ifCond .eq 214, 3) := by decide +kernel
theorem dX11_nextToken_99 : decode cX11_nextToken 99 = .ok (.aload_n 0, 1) := by decide +kernel
theorem dX11_nextToken_100 : decode cX11_nextToken 100 = .ok (.aload_n 0, 1) := by decide +kernel
theorem dX11_nextToken_101 : decode cX11_nextToken 101 = .ok (.getfield 132, 3) := by decide +kernel
theorem dX11_nextToken_104 : decode cX11_nextToken 104 = .ok (.ldc 135, 2) := by decide +kernel
theorem dX11_nextToken_106 : decode cX11_nextToken 106 = .ok (.if_icmp .le 10, 3) := by decide +kernel
theorem dX11_nextToken_109 : decode cX11_nextToken 109 = .ok (.aload_n 0, 1) := by decide +kernel
theorem dX11_nextToken_110 : decode cX11_nextToken 110 = .ok (.getfield 132, 3) := by decide +kernel
theorem dX11_nextToken_113 : decode cX11_nextToken 113 = .ok (.goto 22, 3) := by decide +kernel
theorem dX11_nextToken_116 : decode cX11_nextToken 116 = .ok (.bipush 10, 2) := by decide +kernel
theorem dX11_nextToken_118 : decode cX11_nextToken 118 = .ok (.aload_n 0, 1) := by decide +kernel
theorem dX11_nextToken_119 : decode cX11_nextToken 119 = .ok (.getfield 132, 3) := by decide +kernel
theorem dX11_nextToken_122 : decode cX11_nextToken 122 = .ok (.imul, 1) := by decide +kernel
theorem dX11_nextToken_123 : decode cX11_nextToken 123 = .ok (.aload_n 0, 1) := by decide +kernel
theorem dX11_nextToken_124 : decode cX11_nextToken 124 = .ok (.aload_n 0, 1) := by decide +kernel
theorem dX11_nextToken_125 : decode cX11_nextToken 125 = .ok (.getfield 117, 3) := by decide +kernel
theorem dX11_nextToken_128 : decode cX11_nextToken 128 = .ok (.invokevirtual 120, 3) := by decide +kernel
theorem dX11_nextToken_131 : decode cX11_nextToken 131 = .ok (.iadd, 1) := by decide +kernel
theorem dX11_nextToken_132 : decode cX11_nextToken 132 = .ok (.bipush 48, 2) := by decide +kernel
theorem dX11_nextToken_134 : decode cX11_nextToken 134 = .ok (.isub, 1) := by decide +kernel
theorem dX11_nextToken_135 : decode cX11_nextToken 135 = .ok (.putfield 132, 3) := by decide +kernel
theorem dX11_nextToken_138 : decode cX11_nextToken 138 = .ok (.aload_n 0, 1) := by decide +kernel
theorem dX11_nextToken_139 : decode cX11_nextToken 139 = .ok (.dup, 1) := by decide +kernel
theorem dX11_nextToken_140 : decode cX11_nextToken 140 = .ok (.getfield 117, 3) := by decide +kernel
theorem dX11_nextToken_143 : decode cX11_nextToken 143 = .ok (.iconst 1, 1) := by decide +kernel
theorem dX11_nextToken_144 : decode cX11_nextToken 144 = .ok (.iadd, 1) := by decide +kernel
theorem dX11_nextToken_145 : decode cX11_nextToken 145 = .ok (.putfield 117, 3) := by decide +kernel
theorem dX11_nextToken_148 : decode cX11_nextToken 148 = .ok (.goto (-63), 3) := by decide +kernel
theorem dX11_nextToken_151 : decode cX11_nextToken 151 = .ok (.iload_n 1, 1) := by decide +kernel
theorem dX11_nextToken_152 : decode cX11_nextToken 152 = .ok (.invokestatic 136, 3) := by decide +kernel
theorem dX11_nextToken_155 : decode cX11_nextToken 155 = .ok (.ifCond .eq 79, 3) := by decide +kernel
theorem dX11_nextToken_158 : decode cX11_nextToken 158 = .ok (.aload_n 0, 1) := by decide +kernel
theorem dX11_nextToken_159 : decode cX11_nextToken 159 = .ok (.iconst 2, 1) := by decide +kernel
theorem dX11_nextToken_160 : decode cX11_nextToken 160 = .ok (.putfield 126, 3) := by decide +kernel
theorem dX11_nextToken_163 : decode cX11_nextToken 163 = .ok (.aload_n 0, 1) := by decide +kernel
theorem dX11_nextToken_164 : decode cX11_nextToken 164 = .ok (.lconst 0, 1) := by decide +kernel
theorem dX11_nextToken_165 : decode cX11_nextToken 165 = .ok (.putfield 139, 3) := by decide +kernel
theorem dX11_nextToken_168 : decode cX11_nextToken 168 = .ok (.aload_n 0, 1) := by decide +kernel
theorem dX11_nextToken_169 : decode cX11_nextToken 169 = .ok (.aload_n 0, 1) := by decide +kernel
theorem dX11_nextToken_170 : decode cX11_nextToken 170 = .ok (.getfield 117, 3) := by decide +kernel
theorem dX11_nextToken_173 : decode cX11_nextToken 173 = .ok (.invokevirtual 120, 3) := by decide +kernel
theorem dX11_nextToken_176 : decode cX11_nextToken 176 = .ok (.invokestatic 136, 3) := by decide +kernel
theorem dX11_nextToken_179 : decode cX11_nextToken 179 = .ok (.ifCond .eq 131, 3) := by decide +kernel
theorem dX11_nextToken_182 : decode cX11_nextToken 182 = .ok (.aload_n 0, 1) := by decide +kernel
theorem dX11_nextToken_183 : decode cX11_nextToken 183 = .ok (.aload_n 0, 1) := by decide +kernel
theorem dX11_nextToken_184 : decode cX11_nextToken 184 = .ok (.getfield 139, 3) := by decide +kernel
theorem dX11_nextToken_187 : decode cX11_nextToken 187 = .ok (.bipush 48, 2) := by decide +kernel
theorem dX11_nextToken_189 : decode cX11_nextToken 189 = .ok (.lshr, 1) := by decide +kernel
theorem dX11_nextToken_190 : decode cX11_nextToken 190 = .ok (.lconst 0, 1) := by decide +kernel
theorem dX11_nextToken_191 : decode cX11_nextToken 191 = .ok (.lcmp, 1) := by decide +kernel
theorem dX11_nextToken_192 : decode cX11_nextToken 192 = .ok (.ifCond .eq 9, 3) := by decide +kernel
theorem dX11_nextToken_195 : decode cX11_nextToken 195 = .ok (.ldc2_w 143, 3) := by decide +kernel
theorem dX11_nextToken_198 : decode cX11_nextToken 198 = .ok (.goto 20, 3) := by decide +kernel
theorem dX11_nextToken_201 : decode cX11_nextToken 201 = .ok (.aload_n 0, 1) := by decide +kernel
theorem dX11_nextToken_202 : decode cX11_nextToken 202 = .ok (.getfield 139, 3) := by decide +kernel
theorem dX11_nextToken_205 : decode cX11_nextToken 205 = .ok (.bipush 8, 2) := by decide +kernel
theorem dX11_nextToken_207 : decode cX11_nextToken 207 = .ok (.lshl, 1) := by decide +kernel
theorem dX11_nextToken_208 : decode cX11_nextToken 208 = .ok (.aload_n 0, 1) := by decide +kernel
theorem dX11_nextToken_209 : decode cX11_nextToken 209 = .ok (.aload_n 0, 1) := by decide +kernel
theorem dX11_nextToken_210 : decode cX11_nextToken 210 = .ok (.getfield 117, 3) := by decide +kernel
theorem dX11_nextToken_213 : decode cX11_nextToken 213 = .ok (.invokevirtual 120, 3) := by decide +kernel
theorem dX11_nextToken_216 : decode cX11_nextToken 216 = .ok (.i2l, 1) := by decide +kernel
theorem dX11_nextToken_217 : decode cX11_nextToken 217 = .ok (.lor, 1) := by decide +kernel
theorem dX11_nextToken_218 : decode cX11_nextToken 218 = .ok (.putfield 139, 3) := by decide +kernel
theorem dX11_nextToken_221 : decode cX11_nextToken 221 = .ok (.aload_n 0, 1) := by decide +kernel
theorem dX11_nextToken_222 : decode cX11_nextToken 222 = .ok (.dup, 1) := by decide +kernel
theorem dX11_nextToken_223 : decode cX11_nextToken 223 = .ok (.getfield 117, 3) := by decide +kernel
theorem dX11_nextToken_226 : decode cX11_nextToken 226 = .ok (.iconst 1, 1) := by decide +kernel
theorem dX11_nextToken_227 : decode cX11_nextToken 227 = .ok (.iadd, 1) := by decide +kernel
theorem dX11_nextToken_228 : decode cX11_nextToken 228 = .ok (.putfield 117, 3) := by decide +kernel
theorem dX11_nextToken_231 : decode cX11_nextToken 231 = .ok (.goto (-63), 3) := by decide +kernel
theorem dX11_nextToken_234 : decode cX11_nextToken 234 = .ok (.aload_n 0, 1) := by decide +kernel
theorem dX11_nextToken_235 : decode cX11_nextToken 235 = .ok (.iload_n 1, 1) := by decide +kernel
theorem dX11_nextToken_236 : decode cX11_nextToken 236 = .ok (.invokestatic 145, 3) := by decide +kernel
theorem dX11_nextToken_239 : decode cX11_nextToken 239 = .ok (.ifCond .eq 7, 3) := by decide +kernel
theorem dX11_nextToken_242 : decode cX11_nextToken 242 = .ok (.iload_n 1, 1) := by decide +kernel
theorem dX11_nextToken_243 : decode cX11_nextToken 243 = .ok (.goto 4, 3) := by decide +kernel
theorem dX11_nextToken_246 : decode cX11_nextToken 246 = .ok (.iconst 3, 1) := by decide +kernel
theorem dX11_nextToken_247 : decode cX11_nextToken 247 = .ok (.putfield 126, 3) := by decide +kernel
theorem dX11_nextToken_250 : decode cX11_nextToken 250 = .ok (.aload_n 0, 1) := by decide +kernel
theorem dX11_nextToken_251 : decode cX11_nextToken 251 = .ok (.dup, 1) := by decide +kernel
theorem dX11_nextToken_252 : decode cX11_nextToken 252 = .ok (.getfield 117, 3) := by decide +kernel
theorem dX11_nextToken_255 : decode cX11_nextToken 255 = .ok (.iconst 1, 1) := by decide +kernel
theorem dX11_nextToken_256 : decode cX11_nextToken 256 = .ok (.iadd, 1) := by decide +kernel
theorem dX11_nextToken_257 : decode cX11_nextToken 257 = .ok (.putfield 117, 3) := by decide +kernel
theorem dX11_nextToken_260 : decode cX11_nextToken 260 = .ok (.iload_n 1, 1) := by decide +kernel
theorem dX11_nextToken_261 : decode cX11_nextToken 261 = .ok (.bipush 60, 2) := by decide +kernel
theorem dX11_nextToken_263 : decode cX11_nextToken 263 = .ok (.if_icmp .eq 9, 3) := by decide +kernel
theorem dX11_nextToken_266 : decode cX11_nextToken 266 = .ok (.iload_n 1, 1) := by decide +kernel
theorem dX11_nextToken_267 : decode cX11_nextToken 267 = .ok (.bipush 62, 2) := by decide +kernel
theorem dX11_nextToken_269 : decode cX11_nextToken 269 = .ok (.if_icmp .ne 41, 3) := by decide +kernel
theorem dX11_nextToken_272 : decode cX11_nextToken 272 = .ok (.aload_n 0, 1) := by decide +kernel
theorem dX11_nextToken_273 : decode cX11_nextToken 273 = .ok (.aload_n 0, 1) := by decide +kernel
theorem dX11_nextToken_274 : decode cX11_nextToken 274 = .ok (.getfield 117, 3) := by decide +kernel
theorem dX11_nextToken_277 : decode cX11_nextToken 277 = .ok (.invokevirtual 120, 3) := by decide +kernel
theorem dX11_nextToken_280 : decode cX11_nextToken 280 = .ok (.bipush 61, 2) := by decide +kernel
theorem dX11_nextToken_282 : decode cX11_nextToken 282 = .ok (.if_icmp .ne 28, 3) := by decide +kernel
theorem dX11_nextToken_285 : decode cX11_nextToken 285 = .ok (.aload_n 0, 1) := by decide +kernel
theorem dX11_nextToken_286 : decode cX11_nextToken 286 = .ok (.iload_n 1, 1) := by decide +kernel
theorem dX11_nextToken_287 : decode cX11_nextToken 287 = .ok (.bipush 60, 2) := by decide +kernel
theorem dX11_nextToken_289 : decode cX11_nextToken 289 = .ok (.if_icmp .ne 7, 3) := by decide +kernel
theorem dX11_nextToken_292 : decode cX11_nextToken 292 = .ok (.iconst 4, 1) := by decide +kernel
theorem dX11_nextToken_293 : decode cX11_nextToken 293 = .ok (.goto 4, 3) := by decide +kernel
theorem dX11_nextToken_296 : decode cX11_nextToken 296 = .ok (.iconst 5, 1) := by decide +kernel
theorem dX11_nextToken_297 : decode cX11_nextToken 297 = .ok (.putfield 126, 3) := by decide +kernel
theorem dX11_nextToken_300 : decode cX11_nextToken 300 = .ok (.aload_n 0, 1) := by decide +kernel
theorem dX11_nextToken_301 : decode cX11_nextToken 301 = .ok (.dup, 1) := by decide +kernel
theorem dX11_nextToken_302 : decode cX11_nextToken 302 = .ok (.getfield 117, 3) := by decide +kernel
theorem dX11_nextToken_305 : decode cX11_nextToken 305 = .ok (.iconst 1, 1) := by decide +kernel
theorem dX11_nextToken_306 : decode cX11_nextToken 306 = .ok (.iadd, 1) := by decide +kernel
theorem dX11_nextToken_307 : decode cX11_nextToken 307 = .ok (.putfield 117, 3) := by decide +kernel
theorem dX11_nextToken_310 : decode cX11_nextToken 310 = .ok (.return_, 1) := by decide +kernel
theorem dX11_w2_0 : decode cX11_w2 0 = .ok (.iload_n 0, 1) := by decide +kernel
theorem dX11_w2_1 : decode cX11_w2 1 = .ok (.i2l, 1) := by decide +kernel
theorem dX11_w2_2 : decode cX11_w2 2 = .ok (.bipush 8, 2) := by decide +kernel
theorem dX11_w2_4 : decode cX11_w2 4 = .ok (.lshl, 1) := by decide +kernel
theorem dX11_w2_5 : decode cX11_w2 5 = .ok (.iload_n 1, 1) := by decide +kernel
theorem dX11_w2_6 : decode cX11_w2 6 = .ok (.i2l, 1) := by decide +kernel
theorem dX11_w2_7 : decode cX11_w2 7 = .ok (.lor, 1) := by decide +kernel
theorem dX11_w2_8 : decode cX11_w2 8 = .ok (.lreturn, 1) := by decide +kernel
theorem dX11_w3_0 : decode cX11_w3 0 = .ok (.iload_n 0, 1) := by decide +kernel
theorem dX11_w3_1 : decode cX11_w3 1 = .ok (.iload_n 1, 1) := by decide +kernel
theorem dX11_w3_2 : decode cX11_w3 2 = .ok (.invokestatic 148, 3) := by decide +kernel
theorem dX11_w3_5 : decode cX11_w3 5 = .ok (.bipush 8, 2) := by decide +kernel
theorem dX11_w3_7 : decode cX11_w3 7 = .ok (.lshl, 1) := by decide +kernel
theorem dX11_w3_8 : decode cX11_w3 8 = .ok (.iload_n 2, 1) := by decide +kernel
theorem dX11_w3_9 : decode cX11_w3 9 = .ok (.i2l, 1) := by decide +kernel
theorem dX11_w3_10 : decode cX11_w3 10 = .ok (.lor, 1) := by decide +kernel
theorem dX11_w3_11 : decode cX11_w3 11 = .ok (.lreturn, 1) := by decide +kernel
theorem dX11_w4_0 : decode cX11_w4 0 = .ok (.iload_n 0, 1) := by decide +kernel
theorem dX11_w4_1 : decode cX11_w4 1 = .ok (.iload_n 1, 1) := by decide +kernel
theorem dX11_w4_2 : decode cX11_w4 2 = .ok (.iload_n 2, 1) := by decide +kernel
theorem dX11_w4_3 : decode cX11_w4 3 = .ok (.invokestatic 152, 3) := by decide +kernel
theorem dX11_w4_6 : decode cX11_w4 6 = .ok (.bipush 8, 2) := by decide +kernel
theorem dX11_w4_8 : decode cX11_w4 8 = .ok (.lshl, 1) := by decide +kernel
theorem dX11_w4_9 : decode cX11_w4 9 = .ok (.iload_n 3, 1) := by decide +kernel
theorem dX11_w4_10 : decode cX11_w4 10 = .ok (.i2l, 1) := by decide +kernel
theorem dX11_w4_11 : decode cX11_w4 11 = .ok (.lor, 1) := by decide +kernel
theorem dX11_w4_12 : decode cX11_w4 12 = .ok (.lreturn, 1) := by decide +kernel
theorem dX11_w5_0 : decode cX11_w5 0 = .ok (.iload_n 0, 1) := by decide +kernel
theorem dX11_w5_1 : decode cX11_w5 1 = .ok (.iload_n 1, 1) := by decide +kernel
theorem dX11_w5_2 : decode cX11_w5 2 = .ok (.iload_n 2, 1) := by decide +kernel
theorem dX11_w5_3 : decode cX11_w5 3 = .ok (.iload_n 3, 1) := by decide +kernel
theorem dX11_w5_4 : decode cX11_w5 4 = .ok (.invokestatic 156, 3) := by decide +kernel
theorem dX11_w5_7 : decode cX11_w5 7 = .ok (.bipush 8, 2) := by decide +kernel
theorem dX11_w5_9 : decode cX11_w5 9 = .ok (.lshl, 1) := by decide +kernel
theorem dX11_w5_10 : decode cX11_w5 10 = .ok (.iload 4, 2) := by decide +kernel
theorem dX11_w5_12 : decode cX11_w5 12 = .ok (.i2l, 1) := by decide +kernel
theorem dX11_w5_13 : decode cX11_w5 13 = .ok (.lor, 1) := by decide +kernel
theorem dX11_w5_14 : decode cX11_w5 14 = .ok (.lreturn, 1) := by decide +kernel
theorem dX11_w6_0 : decode cX11_w6 0 = .ok (.iload_n 0, 1) := by decide +kernel
theorem dX11_w6_1 : decode cX11_w6 1 = .ok (.iload_n 1, 1) := by decide +kernel
theorem dX11_w6_2 : decode cX11_w6 2 = .ok (.iload_n 2, 1) := by decide +kernel
theorem dX11_w6_3 : decode cX11_w6 3 = .ok (.iload_n 3, 1) := by decide +kernel
theorem dX11_w6_4 : decode cX11_w6 4 = .ok (.iload 4, 2) := by decide +kernel
theorem dX11_w6_6 : decode cX11_w6 6 = .ok (.invokestatic 160, 3) := by decide +kernel
theorem dX11_w6_9 : decode cX11_w6 9 = .ok (.bipush 8, 2) := by decide +kernel
theorem dX11_w6_11 : decode cX11_w6 11 = .ok (.lshl, 1) := by decide +kernel
theorem dX11_w6_12 : decode cX11_w6 12 = .ok (.iload 5, 2) := by decide +kernel
theorem dX11_w6_14 : decode cX11_w6 14 = .ok (.i2l, 1) := by decide +kernel
theorem dX11_w6_15 : decode cX11_w6 15 = .ok (.lor, 1) := by decide +kernel
theorem dX11_w6_16 : decode cX11_w6 16 = .ok (.lreturn, 1) := by decide +kernel
theorem dX11_isWord_0 : decode cX11_isWord 0 = .ok (.aload_n 0, 1) := by decide +kernel
theorem dX11_isWord_1 : decode cX11_isWord 1 = .ok (.getfield 126, 3) := by decide +kernel
theorem dX11_isWord_4 : decode cX11_isWord 4 = .ok (.iconst 2, 1) := by decide +kernel
theorem dX11_isWord_5 : decode cX11_isWord 5 = .ok (.if_icmp .ne 16, 3) := by decide +kernel
theorem dX11_isWord_8 : decode cX11_isWord 8 = .ok (.aload_n 0, 1) := by decide +kernel
theorem dX11_isWord_9 : decode cX11_isWord 9 = .ok (.getfield 139, 3) := by decide +kernel
theorem dX11_isWord_12 : decode cX11_isWord 12 = .ok (.lload_n 1, 1) := by decide +kernel
theorem dX11_isWord_13 : decode cX11_isWord 13 = .ok (.lcmp, 1) := by decide +kernel
theorem dX11_isWord_14 : decode cX11_isWord 14 = .ok (.ifCond .ne 7, 3) := by decide +kernel
theorem dX11_isWord_17 : decode cX11_isWord 17 = .ok (.iconst 1, 1) := by decide +kernel
theorem dX11_isWord_18 : decode cX11_isWord 18 = .ok (.goto 4, 3) := by decide +kernel
theorem dX11_isWord_21 : decode cX11_isWord 21 = .ok (.iconst 0, 1) := by decide +kernel
theorem dX11_isWord_22 : decode cX11_isWord 22 = .ok (.ireturn, 1) := by decide +kernel
theorem dX11_emit_0 : decode cX11_emit 0 = .ok (.aload_n 0, 1) := by decide +kernel
theorem dX11_emit_1 : decode cX11_emit 1 = .ok (.getfield 16, 3) := by decide +kernel
theorem dX11_emit_4 : decode cX11_emit 4 = .ok (.aload_n 0, 1) := by decide +kernel
theorem dX11_emit_5 : decode cX11_emit 5 = .ok (.getfield 164, 3) := by decide +kernel
theorem dX11_emit_8 : decode cX11_emit 8 = .ok (.bipush 97, 2) := by decide +kernel
theorem dX11_emit_10 : decode cX11_emit 10 = .ok (.iadd, 1) := by decide +kernel
theorem dX11_emit_11 : decode cX11_emit 11 = .ok (.iconst 2, 1) := by decide +kernel
theorem dX11_emit_12 : decode cX11_emit 12 = .ok (.aload_n 0, 1) := by decide +kernel
theorem dX11_emit_13 : decode cX11_emit 13 = .ok (.getfield 167, 3) := by decide +kernel
theorem dX11_emit_16 : decode cX11_emit 16 = .ok (.imul, 1) := by decide +kernel
theorem dX11_emit_17 : decode cX11_emit 17 = .ok (.iadd, 1) := by decide +kernel
theorem dX11_emit_18 : decode cX11_emit 18 = .ok (.iload_n 1, 1) := by decide +kernel
theorem dX11_emit_19 : decode cX11_emit 19 = .ok (.iastore, 1) := by decide +kernel
theorem dX11_emit_20 : decode cX11_emit 20 = .ok (.aload_n 0, 1) := by decide +kernel
theorem dX11_emit_21 : decode cX11_emit 21 = .ok (.getfield 16, 3) := by decide +kernel
theorem dX11_emit_24 : decode cX11_emit 24 = .ok (.aload_n 0, 1) := by decide +kernel
theorem dX11_emit_25 : decode cX11_emit 25 = .ok (.getfield 164, 3) := by decide +kernel
theorem dX11_emit_28 : decode cX11_emit 28 = .ok (.bipush 97, 2) := by decide +kernel
theorem dX11_emit_30 : decode cX11_emit 30 = .ok (.iadd, 1) := by decide +kernel
theorem dX11_emit_31 : decode cX11_emit 31 = .ok (.iconst 2, 1) := by decide +kernel
theorem dX11_emit_32 : decode cX11_emit 32 = .ok (.aload_n 0, 1) := by decide +kernel
theorem dX11_emit_33 : decode cX11_emit 33 = .ok (.getfield 167, 3) := by decide +kernel
theorem dX11_emit_36 : decode cX11_emit 36 = .ok (.imul, 1) := by decide +kernel
theorem dX11_emit_37 : decode cX11_emit 37 = .ok (.iadd, 1) := by decide +kernel
theorem dX11_emit_38 : decode cX11_emit 38 = .ok (.iconst 1, 1) := by decide +kernel
theorem dX11_emit_39 : decode cX11_emit 39 = .ok (.iadd, 1) := by decide +kernel
theorem dX11_emit_40 : decode cX11_emit 40 = .ok (.iload_n 2, 1) := by decide +kernel
theorem dX11_emit_41 : decode cX11_emit 41 = .ok (.iastore, 1) := by decide +kernel
theorem dX11_emit_42 : decode cX11_emit 42 = .ok (.aload_n 0, 1) := by decide +kernel
theorem dX11_emit_43 : decode cX11_emit 43 = .ok (.dup, 1) := by decide +kernel
theorem dX11_emit_44 : decode cX11_emit 44 = .ok (.getfield 167, 3) := by decide +kernel
theorem dX11_emit_47 : decode cX11_emit 47 = .ok (.iconst 1, 1) := by decide +kernel
theorem dX11_emit_48 : decode cX11_emit 48 = .ok (.iadd, 1) := by decide +kernel
theorem dX11_emit_49 : decode cX11_emit 49 = .ok (.putfield 167, 3) := by decide +kernel
theorem dX11_emit_52 : decode cX11_emit 52 = .ok (.return_, 1) := by decide +kernel
theorem dX11_isLong_0 : decode cX11_isLong 0 = .ok (.aload_n 0, 1) := by decide +kernel
theorem dX11_isLong_1 : decode cX11_isLong 1 = .ok (.getfield 126, 3) := by decide +kernel
theorem dX11_isLong_4 : decode cX11_isLong 4 = .ok (.iconst 2, 1) := by decide +kernel
theorem dX11_isLong_5 : decode cX11_isLong 5 = .ok (.if_icmp .ne 17, 3) := by decide +kernel
theorem dX11_isLong_8 : decode cX11_isLong 8 = .ok (.aload_n 0, 1) := by decide +kernel
theorem dX11_isLong_9 : decode cX11_isLong 9 = .ok (.getfield 117, 3) := by decide +kernel
theorem dX11_isLong_12 : decode cX11_isLong 12 = .ok (.aload_n 0, 1) := by decide +kernel
theorem dX11_isLong_13 : decode cX11_isLong 13 = .ok (.getfield 123, 3) := by decide +kernel
theorem dX11_isLong_16 : decode cX11_isLong 16 = .ok (.isub, 1) := by decide +kernel
theorem dX11_isLong_17 : decode cX11_isLong 17 = .ok (.iload 5, 2) := by decide +kernel
theorem dX11_isLong_19 : decode cX11_isLong 19 = .ok (.if_icmp .eq 5, 3) := by decide +kernel
theorem dX11_isLong_22 : decode cX11_isLong 22 = .ok (.iconst 0, 1) := by decide +kernel
theorem dX11_isLong_23 : decode cX11_isLong 23 = .ok (.ireturn, 1) := by decide +kernel
theorem dX11_isLong_24 : decode cX11_isLong 24 = .ok (.iload 5, 2) := by decide +kernel
theorem dX11_isLong_26 : decode cX11_isLong 26 = .ok (.bipush 7, 2) := by decide +kernel
theorem dX11_isLong_28 : decode cX11_isLong 28 = .ok (.if_icmp .ne 40, 3) := by decide +kernel
theorem dX11_isLong_31 : decode cX11_isLong 31 = .ok (.aload_n 0, 1) := by decide +kernel
theorem dX11_isLong_32 : decode cX11_isLong 32 = .ok (.aload_n 0, 1) := by decide +kernel
theorem dX11_isLong_33 : decode cX11_isLong 33 = .ok (.getfield 123, 3) := by decide +kernel
theorem dX11_isLong_36 : decode cX11_isLong 36 = .ok (.iconst 4, 1) := by decide +kernel
theorem dX11_isLong_37 : decode cX11_isLong 37 = .ok (.iadd, 1) := by decide +kernel
theorem dX11_isLong_38 : decode cX11_isLong 38 = .ok (.invokevirtual 120, 3) := by decide +kernel
theorem dX11_isLong_41 : decode cX11_isLong 41 = .ok (.aload_n 0, 1) := by decide +kernel
theorem dX11_isLong_42 : decode cX11_isLong 42 = .ok (.aload_n 0, 1) := by decide +kernel
theorem dX11_isLong_43 : decode cX11_isLong 43 = .ok (.getfield 123, 3) := by decide +kernel
theorem dX11_isLong_46 : decode cX11_isLong 46 = .ok (.iconst 5, 1) := by decide +kernel
theorem dX11_isLong_47 : decode cX11_isLong 47 = .ok (.iadd, 1) := by decide +kernel
theorem dX11_isLong_48 : decode cX11_isLong 48 = .ok (.invokevirtual 120, 3) := by decide +kernel
theorem dX11_isLong_51 : decode cX11_isLong 51 = .ok (.aload_n 0, 1) := by decide +kernel
theorem dX11_isLong_52 : decode cX11_isLong 52 = .ok (.aload_n 0, 1) := by decide +kernel
theorem dX11_isLong_53 : decode cX11_isLong 53 = .ok (.getfield 123, 3) := by decide +kernel
theorem dX11_isLong_56 : decode cX11_isLong 56 = .ok (.bipush 6, 2) := by decide +kernel
theorem dX11_isLong_58 : decode cX11_isLong 58 = .ok (.iadd, 1) := by decide +kernel
theorem dX11_isLong_59 : decode cX11_isLong 59 = .ok (.invokevirtual 120, 3) := by decide +kernel
theorem dX11_isLong_62 : decode cX11_isLong 62 = .ok (.invokestatic 152, 3) := by decide +kernel
theorem dX11_isLong_65 : decode cX11_isLong 65 = .ok (.goto 48, 3) := by decide +kernel
theorem dX11_isLong_68 : decode cX11_isLong 68 = .ok (.aload_n 0, 1) := by decide +kernel
theorem dX11_isLong_69 : decode cX11_isLong 69 = .ok (.aload_n 0, 1) := by decide +kernel
theorem dX11_isLong_70 : decode cX11_isLong 70 = .ok (.getfield 123, 3) := by decide +kernel
theorem dX11_isLong_73 : decode cX11_isLong 73 = .ok (.iconst 4, 1) := by decide +kernel
theorem dX11_isLong_74 : decode cX11_isLong 74 = .ok (.iadd, 1) := by decide +kernel
theorem dX11_isLong_75 : decode cX11_isLong 75 = .ok (.invokevirtual 120, 3) := by decide +kernel
theorem dX11_isLong_78 : decode cX11_isLong 78 = .ok (.aload_n 0, 1) := by decide +kernel
theorem dX11_isLong_79 : decode cX11_isLong 79 = .ok (.aload_n 0, 1) := by decide +kernel
theorem dX11_isLong_80 : decode cX11_isLong 80 = .ok (.getfield 123, 3) := by decide +kernel
theorem dX11_isLong_83 : decode cX11_isLong 83 = .ok (.iconst 5, 1) := by decide +kernel
theorem dX11_isLong_84 : decode cX11_isLong 84 = .ok (.iadd, 1) := by decide +kernel
theorem dX11_isLong_85 : decode cX11_isLong 85 = .ok (.invokevirtual 120, 3) := by decide +kernel
theorem dX11_isLong_88 : decode cX11_isLong 88 = .ok (.aload_n 0, 1) := by decide +kernel
theorem dX11_isLong_89 : decode cX11_isLong 89 = .ok (.aload_n 0, 1) := by decide +kernel
theorem dX11_isLong_90 : decode cX11_isLong 90 = .ok (.getfield 123, 3) := by decide +kernel
theorem dX11_isLong_93 : decode cX11_isLong 93 = .ok (.bipush 6, 2) := by decide +kernel
theorem dX11_isLong_95 : decode cX11_isLong 95 = .ok (.iadd, 1) := by decide +kernel
theorem dX11_isLong_96 : decode cX11_isLong 96 = .ok (.invokevirtual 120, 3) := by decide +kernel
theorem dX11_isLong_99 : decode cX11_isLong 99 = .ok (.aload_n 0, 1) := by decide +kernel
theorem dX11_isLong_100 : decode cX11_isLong 100 = .ok (.aload_n 0, 1) := by decide +kernel
theorem dX11_isLong_101 : decode cX11_isLong 101 = .ok (.getfield 123, 3) := by decide +kernel
theorem dX11_isLong_104 : decode cX11_isLong 104 = .ok (.bipush 7, 2) := by decide +kernel
theorem dX11_isLong_106 : decode cX11_isLong 106 = .ok (.iadd, 1) := by decide +kernel
theorem dX11_isLong_107 : decode cX11_isLong 107 = .ok (.invokevirtual 120, 3) := by decide +kernel
theorem dX11_isLong_110 : decode cX11_isLong 110 = .ok (.invokestatic 156, 3) := by decide +kernel
theorem dX11_isLong_113 : decode cX11_isLong 113 = .ok (.lstore 6, 2) := by decide +kernel
theorem dX11_isLong_115 : decode cX11_isLong 115 = .ok (.aload_n 0, 1) := by decide +kernel
theorem dX11_isLong_116 : decode cX11_isLong 116 = .ok (.aload_n 0, 1) := by decide +kernel
theorem dX11_isLong_117 : decode cX11_isLong 117 = .ok (.getfield 123, 3) := by decide +kernel
theorem dX11_isLong_120 : decode cX11_isLong 120 = .ok (.invokevirtual 120, 3) := by decide +kernel
theorem dX11_isLong_123 : decode cX11_isLong 123 = .ok (.aload_n 0, 1) := by decide +kernel
theorem dX11_isLong_124 : decode cX11_isLong 124 = .ok (.aload_n 0, 1) := by decide +kernel
theorem dX11_isLong_125 : decode cX11_isLong 125 = .ok (.getfield 123, 3) := by decide +kernel
theorem dX11_isLong_128 : decode cX11_isLong 128 = .ok (.iconst 1, 1) := by decide +kernel
theorem dX11_isLong_129 : decode cX11_isLong 129 = .ok (.iadd, 1) := by decide +kernel
theorem dX11_isLong_130 : decode cX11_isLong 130 = .ok (.invokevirtual 120, 3) := by decide +kernel
theorem dX11_isLong_133 : decode cX11_isLong 133 = .ok (.aload_n 0, 1) := by decide +kernel
theorem dX11_isLong_134 : decode cX11_isLong 134 = .ok (.aload_n 0, 1) := by decide +kernel
theorem dX11_isLong_135 : decode cX11_isLong 135 = .ok (.getfield 123, 3) := by decide +kernel
theorem dX11_isLong_138 : decode cX11_isLong 138 = .ok (.iconst 2, 1) := by decide +kernel
theorem dX11_isLong_139 : decode cX11_isLong 139 = .ok (.iadd, 1) := by decide +kernel
theorem dX11_isLong_140 : decode cX11_isLong 140 = .ok (.invokevirtual 120, 3) := by decide +kernel
theorem dX11_isLong_143 : decode cX11_isLong 143 = .ok (.aload_n 0, 1) := by decide +kernel
theorem dX11_isLong_144 : decode cX11_isLong 144 = .ok (.aload_n 0, 1) := by decide +kernel
theorem dX11_isLong_145 : decode cX11_isLong 145 = .ok (.getfield 123, 3) := by decide +kernel
theorem dX11_isLong_148 : decode cX11_isLong 148 = .ok (.iconst 3, 1) := by decide +kernel
theorem dX11_isLong_149 : decode cX11_isLong 149 = .ok (.iadd, 1) := by decide +kernel
theorem dX11_isLong_150 : decode cX11_isLong 150 = .ok (.invokevirtual 120, 3) := by decide +kernel
theorem dX11_isLong_153 : decode cX11_isLong 153 = .ok (.invokestatic 156, 3) := by decide +kernel
theorem dX11_isLong_156 : decode cX11_isLong 156 = .ok (.lload_n 1, 1) := by decide +kernel
theorem dX11_isLong_157 : decode cX11_isLong 157 = .ok (.lcmp, 1) := by decide +kernel
theorem dX11_isLong_158 : decode cX11_isLong 158 = .ok (.ifCond .ne 14, 3) := by decide +kernel
theorem dX11_isLong_161 : decode cX11_isLong 161 = .ok (.lload 6, 2) := by decide +kernel
theorem dX11_isLong_163 : decode cX11_isLong 163 = .ok (.lload_n 3, 1) := by decide +kernel
theorem dX11_isLong_164 : decode cX11_isLong 164 = .ok (.lcmp, 1) := by decide +kernel
theorem dX11_isLong_165 : decode cX11_isLong 165 = .ok (.ifCond .ne 7, 3) := by decide +kernel
theorem dX11_isLong_168 : decode cX11_isLong 168 = .ok (.iconst 1, 1) := by decide +kernel
theorem dX11_isLong_169 : decode cX11_isLong 169 = .ok (.goto 4, 3) := by decide +kernel
theorem dX11_isLong_172 : decode cX11_isLong 172 = .ok (.iconst 0, 1) := by decide +kernel
theorem dX11_isLong_173 : decode cX11_isLong 173 = .ok (.ireturn, 1) := by decide +kernel
theorem dX11_nameOf_0 : decode cX11_nameOf 0 = .ok (.aload_n 0, 1) := by decide +kernel
theorem dX11_nameOf_1 : decode cX11_nameOf 1 = .ok (.getfield 126, 3) := by decide +kernel
theorem dX11_nameOf_4 : decode cX11_nameOf 4 = .ok (.iconst 2, 1) := by decide +kernel
theorem dX11_nameOf_5 : decode cX11_nameOf 5 = .ok (.if_icmp .eq 5, 3) := by decide +kernel
theorem dX11_nameOf_8 : decode cX11_nameOf 8 = .ok (.iconst (-1), 1) := by decide +kernel
theorem dX11_nameOf_9 : decode cX11_nameOf 9 = .ok (.ireturn, 1) := by decide +kernel
theorem dX11_nameOf_10 : decode cX11_nameOf 10 = .ok (.aload_n 0, 1) := by decide +kernel
theorem dX11_nameOf_11 : decode cX11_nameOf 11 = .ok (.getfield 139, 3) := by decide +kernel
theorem dX11_nameOf_14 : decode cX11_nameOf 14 = .ok (.bipush 110, 2) := by decide +kernel
theorem dX11_nameOf_16 : decode cX11_nameOf 16 = .ok (.bipush 105, 2) := by decide +kernel
theorem dX11_nameOf_18 : decode cX11_nameOf 18 = .ok (.bipush 103, 2) := by decide +kernel
theorem dX11_nameOf_20 : decode cX11_nameOf 20 = .ok (.bipush 104, 2) := by decide +kernel
theorem dX11_nameOf_22 : decode cX11_nameOf 22 = .ok (.bipush 116, 2) := by decide +kernel
theorem dX11_nameOf_24 : decode cX11_nameOf 24 = .ok (.invokestatic 160, 3) := by decide +kernel
theorem dX11_nameOf_27 : decode cX11_nameOf 27 = .ok (.lcmp, 1) := by decide +kernel
theorem dX11_nameOf_28 : decode cX11_nameOf 28 = .ok (.ifCond .ne 5, 3) := by decide +kernel
theorem dX11_nameOf_31 : decode cX11_nameOf 31 = .ok (.iconst 0, 1) := by decide +kernel
theorem dX11_nameOf_32 : decode cX11_nameOf 32 = .ok (.ireturn, 1) := by decide +kernel
theorem dX11_nameOf_33 : decode cX11_nameOf 33 = .ok (.aload_n 0, 1) := by decide +kernel
theorem dX11_nameOf_34 : decode cX11_nameOf 34 = .ok (.getfield 139, 3) := by decide +kernel
theorem dX11_nameOf_37 : decode cX11_nameOf 37 = .ok (.bipush 98, 2) := by decide +kernel
theorem dX11_nameOf_39 : decode cX11_nameOf 39 = .ok (.bipush 114, 2) := by decide +kernel
theorem dX11_nameOf_41 : decode cX11_nameOf 41 = .ok (.bipush 97, 2) := by decide +kernel
theorem dX11_nameOf_43 : decode cX11_nameOf 43 = .ok (.bipush 115, 2) := by decide +kernel
theorem dX11_nameOf_45 : decode cX11_nameOf 45 = .ok (.bipush 115, 2) := by decide +kernel
theorem dX11_nameOf_47 : decode cX11_nameOf 47 = .ok (.invokestatic 160, 3) := by decide +kernel
theorem dX11_nameOf_50 : decode cX11_nameOf 50 = .ok (.lcmp, 1) := by decide +kernel
theorem dX11_nameOf_51 : decode cX11_nameOf 51 = .ok (.ifCond .ne 5, 3) := by decide +kernel
theorem dX11_nameOf_54 : decode cX11_nameOf 54 = .ok (.iconst 1, 1) := by decide +kernel
theorem dX11_nameOf_55 : decode cX11_nameOf 55 = .ok (.ireturn, 1) := by decide +kernel
theorem dX11_nameOf_56 : decode cX11_nameOf 56 = .ok (.aload_n 0, 1) := by decide +kernel
theorem dX11_nameOf_57 : decode cX11_nameOf 57 = .ok (.getfield 139, 3) := by decide +kernel
theorem dX11_nameOf_60 : decode cX11_nameOf 60 = .ok (.bipush 119, 2) := by decide +kernel
theorem dX11_nameOf_62 : decode cX11_nameOf 62 = .ok (.bipush 101, 2) := by decide +kernel
theorem dX11_nameOf_64 : decode cX11_nameOf 64 = .ok (.bipush 97, 2) := by decide +kernel
theorem dX11_nameOf_66 : decode cX11_nameOf 66 = .ok (.bipush 114, 2) := by decide +kernel
theorem dX11_nameOf_68 : decode cX11_nameOf 68 = .ok (.invokestatic 156, 3) := by decide +kernel
theorem dX11_nameOf_71 : decode cX11_nameOf 71 = .ok (.lcmp, 1) := by decide +kernel
theorem dX11_nameOf_72 : decode cX11_nameOf 72 = .ok (.ifCond .ne 5, 3) := by decide +kernel
theorem dX11_nameOf_75 : decode cX11_nameOf 75 = .ok (.iconst 2, 1) := by decide +kernel
theorem dX11_nameOf_76 : decode cX11_nameOf 76 = .ok (.ireturn, 1) := by decide +kernel
theorem dX11_nameOf_77 : decode cX11_nameOf 77 = .ok (.aload_n 0, 1) := by decide +kernel
theorem dX11_nameOf_78 : decode cX11_nameOf 78 = .ok (.getfield 139, 3) := by decide +kernel
theorem dX11_nameOf_81 : decode cX11_nameOf 81 = .ok (.bipush 111, 2) := by decide +kernel
theorem dX11_nameOf_83 : decode cX11_nameOf 83 = .ok (.bipush 105, 2) := by decide +kernel
theorem dX11_nameOf_85 : decode cX11_nameOf 85 = .ok (.bipush 108, 2) := by decide +kernel
theorem dX11_nameOf_87 : decode cX11_nameOf 87 = .ok (.invokestatic 152, 3) := by decide +kernel
theorem dX11_nameOf_90 : decode cX11_nameOf 90 = .ok (.lcmp, 1) := by decide +kernel
theorem dX11_nameOf_91 : decode cX11_nameOf 91 = .ok (.ifCond .ne 5, 3) := by decide +kernel
theorem dX11_nameOf_94 : decode cX11_nameOf 94 = .ok (.iconst 3, 1) := by decide +kernel
theorem dX11_nameOf_95 : decode cX11_nameOf 95 = .ok (.ireturn, 1) := by decide +kernel
theorem dX11_nameOf_96 : decode cX11_nameOf 96 = .ok (.aload_n 0, 1) := by decide +kernel
theorem dX11_nameOf_97 : decode cX11_nameOf 97 = .ok (.getfield 139, 3) := by decide +kernel
theorem dX11_nameOf_100 : decode cX11_nameOf 100 = .ok (.bipush 115, 2) := by decide +kernel
theorem dX11_nameOf_102 : decode cX11_nameOf 102 = .ok (.bipush 117, 2) := by decide +kernel
theorem dX11_nameOf_104 : decode cX11_nameOf 104 = .ok (.bipush 109, 2) := by decide +kernel
theorem dX11_nameOf_106 : decode cX11_nameOf 106 = .ok (.invokestatic 152, 3) := by decide +kernel
theorem dX11_nameOf_109 : decode cX11_nameOf 109 = .ok (.lcmp, 1) := by decide +kernel
theorem dX11_nameOf_110 : decode cX11_nameOf 110 = .ok (.ifCond .ne 5, 3) := by decide +kernel
theorem dX11_nameOf_113 : decode cX11_nameOf 113 = .ok (.iconst 4, 1) := by decide +kernel
theorem dX11_nameOf_114 : decode cX11_nameOf 114 = .ok (.ireturn, 1) := by decide +kernel
theorem dX11_nameOf_115 : decode cX11_nameOf 115 = .ok (.aload_n 0, 1) := by decide +kernel
theorem dX11_nameOf_116 : decode cX11_nameOf 116 = .ok (.getfield 139, 3) := by decide +kernel
theorem dX11_nameOf_119 : decode cX11_nameOf 119 = .ok (.bipush 119, 2) := by decide +kernel
theorem dX11_nameOf_121 : decode cX11_nameOf 121 = .ok (.bipush 104, 2) := by decide +kernel
theorem dX11_nameOf_123 : decode cX11_nameOf 123 = .ok (.bipush 111, 2) := by decide +kernel
theorem dX11_nameOf_125 : decode cX11_nameOf 125 = .ok (.invokestatic 152, 3) := by decide +kernel
theorem dX11_nameOf_128 : decode cX11_nameOf 128 = .ok (.lcmp, 1) := by decide +kernel
theorem dX11_nameOf_129 : decode cX11_nameOf 129 = .ok (.ifCond .ne 5, 3) := by decide +kernel
theorem dX11_nameOf_132 : decode cX11_nameOf 132 = .ok (.iconst 5, 1) := by decide +kernel
theorem dX11_nameOf_133 : decode cX11_nameOf 133 = .ok (.ireturn, 1) := by decide +kernel
theorem dX11_nameOf_134 : decode cX11_nameOf 134 = .ok (.aload_n 0, 1) := by decide +kernel
theorem dX11_nameOf_135 : decode cX11_nameOf 135 = .ok (.getfield 139, 3) := by decide +kernel
theorem dX11_nameOf_138 : decode cX11_nameOf 138 = .ok (.bipush 108, 2) := by decide +kernel
theorem dX11_nameOf_140 : decode cX11_nameOf 140 = .ok (.bipush 111, 2) := by decide +kernel
theorem dX11_nameOf_142 : decode cX11_nameOf 142 = .ok (.bipush 110, 2) := by decide +kernel
theorem dX11_nameOf_144 : decode cX11_nameOf 144 = .ok (.bipush 103, 2) := by decide +kernel
theorem dX11_nameOf_146 : decode cX11_nameOf 146 = .ok (.invokestatic 156, 3) := by decide +kernel
theorem dX11_nameOf_149 : decode cX11_nameOf 149 = .ok (.lcmp, 1) := by decide +kernel
theorem dX11_nameOf_150 : decode cX11_nameOf 150 = .ok (.ifCond .ne 8, 3) := by decide +kernel
theorem dX11_nameOf_153 : decode cX11_nameOf 153 = .ok (.bipush 6, 2) := by decide +kernel
theorem dX11_nameOf_155 : decode cX11_nameOf 155 = .ok (.goto 28, 3) := by decide +kernel
theorem dX11_nameOf_158 : decode cX11_nameOf 158 = .ok (.aload_n 0, 1) := by decide +kernel
theorem dX11_nameOf_159 : decode cX11_nameOf 159 = .ok (.getfield 139, 3) := by decide +kernel
theorem dX11_nameOf_162 : decode cX11_nameOf 162 = .ok (.bipush 115, 2) := by decide +kernel
theorem dX11_nameOf_164 : decode cX11_nameOf 164 = .ok (.bipush 97, 2) := by decide +kernel
theorem dX11_nameOf_166 : decode cX11_nameOf 166 = .ok (.bipush 109, 2) := by decide +kernel
theorem dX11_nameOf_168 : decode cX11_nameOf 168 = .ok (.bipush 101, 2) := by decide +kernel
theorem dX11_nameOf_170 : decode cX11_nameOf 170 = .ok (.invokestatic 156, 3) := by decide +kernel
theorem dX11_nameOf_173 : decode cX11_nameOf 173 = .ok (.lcmp, 1) := by decide +kernel
theorem dX11_nameOf_174 : decode cX11_nameOf 174 = .ok (.ifCond .ne 8, 3) := by decide +kernel
theorem dX11_nameOf_177 : decode cX11_nameOf 177 = .ok (.bipush 7, 2) := by decide +kernel
theorem dX11_nameOf_179 : decode cX11_nameOf 179 = .ok (.goto 4, 3) := by decide +kernel
theorem dX11_nameOf_182 : decode cX11_nameOf 182 = .ok (.iconst (-1), 1) := by decide +kernel
theorem dX11_nameOf_183 : decode cX11_nameOf 183 = .ok (.ireturn, 1) := by decide +kernel
theorem dX11_isOf_0 : decode cX11_isOf 0 = .ok (.iload_n 1, 1) := by decide +kernel
theorem dX11_isOf_1 : decode cX11_isOf 1 = .ok (.bipush 6, 2) := by decide +kernel
theorem dX11_isOf_3 : decode cX11_isOf 3 = .ok (.if_icmp .lt 27, 3) := by decide +kernel
theorem dX11_isOf_6 : decode cX11_isOf 6 = .ok (.iload_n 1, 1) := by decide +kernel
theorem dX11_isOf_7 : decode cX11_isOf 7 = .ok (.bipush 6, 2) := by decide +kernel
theorem dX11_isOf_9 : decode cX11_isOf 9 = .ok (.if_icmp .ne 13, 3) := by decide +kernel
theorem dX11_isOf_12 : decode cX11_isOf 12 = .ok (.aload_n 0, 1) := by decide +kernel
theorem dX11_isOf_13 : decode cX11_isOf 13 = .ok (.getfield 170, 3) := by decide +kernel
theorem dX11_isOf_16 : decode cX11_isOf 16 = .ok (.ifCond .eq 18, 3) := by decide +kernel
theorem dX11_isOf_19 : decode cX11_isOf 19 = .ok (.goto 11, 3) := by decide +kernel
theorem dX11_isOf_22 : decode cX11_isOf 22 = .ok (.aload_n 0, 1) := by decide +kernel
theorem dX11_isOf_23 : decode cX11_isOf 23 = .ok (.getfield 170, 3) := by decide +kernel
theorem dX11_isOf_26 : decode cX11_isOf 26 = .ok (.iconst 1, 1) := by decide +kernel
theorem dX11_isOf_27 : decode cX11_isOf 27 = .ok (.if_icmp .ne 7, 3) := by decide +kernel
theorem dX11_isOf_30 : decode cX11_isOf 30 = .ok (.iconst 1, 1) := by decide +kernel
theorem dX11_isOf_31 : decode cX11_isOf 31 = .ok (.goto 4, 3) := by decide +kernel
theorem dX11_isOf_34 : decode cX11_isOf 34 = .ok (.iconst 0, 1) := by decide +kernel
theorem dX11_isOf_35 : decode cX11_isOf 35 = .ok (.ireturn, 1) := by decide +kernel
theorem dX11_rank_0 : decode cX11_rank 0 = .ok (.iload_n 0, 1) := by decide +kernel
theorem dX11_rank_1 : decode cX11_rank 1 = .ok (.bipush 40, 2) := by decide +kernel
theorem dX11_rank_3 : decode cX11_rank 3 = .ok (.if_icmp .lt 7, 3) := by decide +kernel
theorem dX11_rank_6 : decode cX11_rank 6 = .ok (.iconst 0, 1) := by decide +kernel
theorem dX11_rank_7 : decode cX11_rank 7 = .ok (.goto 75, 3) := by decide +kernel
theorem dX11_rank_10 : decode cX11_rank 10 = .ok (.iload_n 0, 1) := by decide +kernel
theorem dX11_rank_11 : decode cX11_rank 11 = .ok (.bipush 22, 2) := by decide +kernel
theorem dX11_rank_13 : decode cX11_rank 13 = .ok (.if_icmp .ne 7, 3) := by decide +kernel
theorem dX11_rank_16 : decode cX11_rank 16 = .ok (.iconst 1, 1) := by decide +kernel
theorem dX11_rank_17 : decode cX11_rank 17 = .ok (.goto 65, 3) := by decide +kernel
theorem dX11_rank_20 : decode cX11_rank 20 = .ok (.iload_n 0, 1) := by decide +kernel
theorem dX11_rank_21 : decode cX11_rank 21 = .ok (.bipush 21, 2) := by decide +kernel
theorem dX11_rank_23 : decode cX11_rank 23 = .ok (.if_icmp .ne 7, 3) := by decide +kernel
theorem dX11_rank_26 : decode cX11_rank 26 = .ok (.iconst 2, 1) := by decide +kernel
theorem dX11_rank_27 : decode cX11_rank 27 = .ok (.goto 55, 3) := by decide +kernel
theorem dX11_rank_30 : decode cX11_rank 30 = .ok (.iload_n 0, 1) := by decide +kernel
theorem dX11_rank_31 : decode cX11_rank 31 = .ok (.bipush 20, 2) := by decide +kernel
theorem dX11_rank_33 : decode cX11_rank 33 = .ok (.if_icmp .ne 7, 3) := by decide +kernel
theorem dX11_rank_36 : decode cX11_rank 36 = .ok (.iconst 3, 1) := by decide +kernel
theorem dX11_rank_37 : decode cX11_rank 37 = .ok (.goto 45, 3) := by decide +kernel
theorem dX11_rank_40 : decode cX11_rank 40 = .ok (.iload_n 0, 1) := by decide +kernel
theorem dX11_rank_41 : decode cX11_rank 41 = .ok (.bipush 10, 2) := by decide +kernel
theorem dX11_rank_43 : decode cX11_rank 43 = .ok (.if_icmp .lt 7, 3) := by decide +kernel
theorem dX11_rank_46 : decode cX11_rank 46 = .ok (.iconst 4, 1) := by decide +kernel
theorem dX11_rank_47 : decode cX11_rank 47 = .ok (.goto 35, 3) := by decide +kernel
theorem dX11_rank_50 : decode cX11_rank 50 = .ok (.iload_n 0, 1) := by decide +kernel
theorem dX11_rank_51 : decode cX11_rank 51 = .ok (.iconst 5, 1) := by decide +kernel
theorem dX11_rank_52 : decode cX11_rank 52 = .ok (.if_icmp .eq 13, 3) := by decide +kernel
theorem dX11_rank_55 : decode cX11_rank 55 = .ok (.iload_n 0, 1) := by decide +kernel
theorem dX11_rank_56 : decode cX11_rank 56 = .ok (.iconst 2, 1) := by decide +kernel
theorem dX11_rank_57 : decode cX11_rank 57 = .ok (.if_icmp .eq 8, 3) := by decide +kernel
theorem dX11_rank_60 : decode cX11_rank 60 = .ok (.iload_n 0, 1) := by decide +kernel
theorem dX11_rank_61 : decode cX11_rank 61 = .ok (.iconst 3, 1) := by decide +kernel
theorem dX11_rank_62 : decode cX11_rank 62 = .ok (.if_icmp .ne 8, 3) := by decide +kernel
theorem dX11_rank_65 : decode cX11_rank 65 = .ok (.bipush 7, 2) := by decide +kernel
theorem dX11_rank_67 : decode cX11_rank 67 = .ok (.goto 15, 3) := by decide +kernel
theorem dX11_rank_70 : decode cX11_rank 70 = .ok (.iload_n 0, 1) := by decide +kernel
theorem dX11_rank_71 : decode cX11_rank 71 = .ok (.bipush 8, 2) := by decide +kernel
theorem dX11_rank_73 : decode cX11_rank 73 = .ok (.if_icmp .lt 8, 3) := by decide +kernel
theorem dX11_rank_76 : decode cX11_rank 76 = .ok (.bipush 6, 2) := by decide +kernel
theorem dX11_rank_78 : decode cX11_rank 78 = .ok (.goto 4, 3) := by decide +kernel
theorem dX11_rank_81 : decode cX11_rank 81 = .ok (.iconst 5, 1) := by decide +kernel
theorem dX11_rank_82 : decode cX11_rank 82 = .ok (.ireturn, 1) := by decide +kernel
theorem dX11_settle_0 : decode cX11_settle 0 = .ok (.aload_n 0, 1) := by decide +kernel
theorem dX11_settle_1 : decode cX11_settle 1 = .ok (.getfield 173, 3) := by decide +kernel
theorem dX11_settle_4 : decode cX11_settle 4 = .ok (.ifCond .le 89, 3) := by decide +kernel
theorem dX11_settle_7 : decode cX11_settle 7 = .ok (.aload_n 0, 1) := by decide +kernel
theorem dX11_settle_8 : decode cX11_settle 8 = .ok (.getfield 29, 3) := by decide +kernel
theorem dX11_settle_11 : decode cX11_settle 11 = .ok (.aload_n 0, 1) := by decide +kernel
theorem dX11_settle_12 : decode cX11_settle 12 = .ok (.getfield 173, 3) := by decide +kernel
theorem dX11_settle_15 : decode cX11_settle 15 = .ok (.iconst 1, 1) := by decide +kernel
theorem dX11_settle_16 : decode cX11_settle 16 = .ok (.isub, 1) := by decide +kernel
theorem dX11_settle_17 : decode cX11_settle 17 = .ok (.iaload, 1) := by decide +kernel
theorem dX11_settle_18 : decode cX11_settle 18 = .ok (.invokestatic 176, 3) := by decide +kernel
theorem dX11_settle_21 : decode cX11_settle 21 = .ok (.iload_n 1, 1) := by decide +kernel
theorem dX11_settle_22 : decode cX11_settle 22 = .ok (.if_icmp .lt 71, 3) := by decide +kernel
theorem dX11_settle_25 : decode cX11_settle 25 = .ok (.aload_n 0, 1) := by decide +kernel
theorem dX11_settle_26 : decode cX11_settle 26 = .ok (.dup, 1) := by decide +kernel
theorem dX11_settle_27 : decode cX11_settle 27 = .ok (.getfield 173, 3) := by decide +kernel
theorem dX11_settle_30 : decode cX11_settle 30 = .ok (.iconst 1, 1) := by decide +kernel
theorem dX11_settle_31 : decode cX11_settle 31 = .ok (.isub, 1) := by decide +kernel
theorem dX11_settle_32 : decode cX11_settle 32 = .ok (.putfield 173, 3) := by decide +kernel
theorem dX11_settle_35 : decode cX11_settle 35 = .ok (.aload_n 0, 1) := by decide +kernel
theorem dX11_settle_36 : decode cX11_settle 36 = .ok (.aload_n 0, 1) := by decide +kernel
theorem dX11_settle_37 : decode cX11_settle 37 = .ok (.getfield 29, 3) := by decide +kernel
theorem dX11_settle_40 : decode cX11_settle 40 = .ok (.aload_n 0, 1) := by decide +kernel
theorem dX11_settle_41 : decode cX11_settle 41 = .ok (.getfield 173, 3) := by decide +kernel
theorem dX11_settle_44 : decode cX11_settle 44 = .ok (.iaload, 1) := by decide +kernel
theorem dX11_settle_45 : decode cX11_settle 45 = .ok (.iconst 0, 1) := by decide +kernel
theorem dX11_settle_46 : decode cX11_settle 46 = .ok (.invokevirtual 179, 3) := by decide +kernel
theorem dX11_settle_49 : decode cX11_settle 49 = .ok (.aload_n 0, 1) := by decide +kernel
theorem dX11_settle_50 : decode cX11_settle 50 = .ok (.getfield 29, 3) := by decide +kernel
theorem dX11_settle_53 : decode cX11_settle 53 = .ok (.aload_n 0, 1) := by decide +kernel
theorem dX11_settle_54 : decode cX11_settle 54 = .ok (.getfield 173, 3) := by decide +kernel
theorem dX11_settle_57 : decode cX11_settle 57 = .ok (.iaload, 1) := by decide +kernel
theorem dX11_settle_58 : decode cX11_settle 58 = .ok (.invokestatic 176, 3) := by decide +kernel
theorem dX11_settle_61 : decode cX11_settle 61 = .ok (.bipush 7, 2) := by decide +kernel
theorem dX11_settle_63 : decode cX11_settle 63 = .ok (.if_icmp .eq 17, 3) := by decide +kernel
theorem dX11_settle_66 : decode cX11_settle 66 = .ok (.aload_n 0, 1) := by decide +kernel
theorem dX11_settle_67 : decode cX11_settle 67 = .ok (.getfield 29, 3) := by decide +kernel
theorem dX11_settle_70 : decode cX11_settle 70 = .ok (.aload_n 0, 1) := by decide +kernel
theorem dX11_settle_71 : decode cX11_settle 71 = .ok (.getfield 173, 3) := by decide +kernel
theorem dX11_settle_74 : decode cX11_settle 74 = .ok (.iaload, 1) := by decide +kernel
theorem dX11_settle_75 : decode cX11_settle 75 = .ok (.bipush 20, 2) := by decide +kernel
theorem dX11_settle_77 : decode cX11_settle 77 = .ok (.if_icmp .ne (-77), 3) := by decide +kernel
theorem dX11_settle_80 : decode cX11_settle 80 = .ok (.aload_n 0, 1) := by decide +kernel
theorem dX11_settle_81 : decode cX11_settle 81 = .ok (.dup, 1) := by decide +kernel
theorem dX11_settle_82 : decode cX11_settle 82 = .ok (.getfield 183, 3) := by decide +kernel
theorem dX11_settle_85 : decode cX11_settle 85 = .ok (.iconst 1, 1) := by decide +kernel
theorem dX11_settle_86 : decode cX11_settle 86 = .ok (.isub, 1) := by decide +kernel
theorem dX11_settle_87 : decode cX11_settle 87 = .ok (.putfield 183, 3) := by decide +kernel
theorem dX11_settle_90 : decode cX11_settle 90 = .ok (.goto (-90), 3) := by decide +kernel
theorem dX11_settle_93 : decode cX11_settle 93 = .ok (.return_, 1) := by decide +kernel
theorem dX11_openAt_0 : decode cX11_openAt 0 = .ok (.aload_n 0, 1) := by decide +kernel
theorem dX11_openAt_1 : decode cX11_openAt 1 = .ok (.getfield 173, 3) := by decide +kernel
theorem dX11_openAt_4 : decode cX11_openAt 4 = .ok (.iconst 1, 1) := by decide +kernel
theorem dX11_openAt_5 : decode cX11_openAt 5 = .ok (.isub, 1) := by decide +kernel
theorem dX11_openAt_6 : decode cX11_openAt 6 = .ok (.istore_n 1, 1) := by decide +kernel
theorem dX11_openAt_7 : decode cX11_openAt 7 = .ok (.iload_n 1, 1) := by decide +kernel
theorem dX11_openAt_8 : decode cX11_openAt 8 = .ok (.ifCond .lt 20, 3) := by decide +kernel
theorem dX11_openAt_11 : decode cX11_openAt 11 = .ok (.aload_n 0, 1) := by decide +kernel
theorem dX11_openAt_12 : decode cX11_openAt 12 = .ok (.getfield 29, 3) := by decide +kernel
theorem dX11_openAt_15 : decode cX11_openAt 15 = .ok (.iload_n 1, 1) := by decide +kernel
theorem dX11_openAt_16 : decode cX11_openAt 16 = .ok (.iaload, 1) := by decide +kernel
theorem dX11_openAt_17 : decode cX11_openAt 17 = .ok (.bipush 40, 2) := by decide +kernel
theorem dX11_openAt_19 : decode cX11_openAt 19 = .ok (.if_icmp .ge 9, 3) := by decide +kernel
theorem dX11_openAt_22 : decode cX11_openAt 22 = .ok (.iinc 1 (-1), 3) := by decide +kernel
theorem dX11_openAt_25 : decode cX11_openAt 25 = .ok (.goto (-18), 3) := by decide +kernel
theorem dX11_openAt_28 : decode cX11_openAt 28 = .ok (.iload_n 1, 1) := by decide +kernel
theorem dX11_openAt_29 : decode cX11_openAt 29 = .ok (.ireturn, 1) := by decide +kernel
theorem dX11_openNow_0 : decode cX11_openNow 0 = .ok (.aload_n 0, 1) := by decide +kernel
theorem dX11_openNow_1 : decode cX11_openNow 1 = .ok (.invokevirtual 186, 3) := by decide +kernel
theorem dX11_openNow_4 : decode cX11_openNow 4 = .ok (.ifCond .ge 7, 3) := by decide +kernel
theorem dX11_openNow_7 : decode cX11_openNow 7 = .ok (.iconst (-1), 1) := by decide +kernel
theorem dX11_openNow_8 : decode cX11_openNow 8 = .ok (.goto 12, 3) := by decide +kernel
theorem dX11_openNow_11 : decode cX11_openNow 11 = .ok (.aload_n 0, 1) := by decide +kernel
theorem dX11_openNow_12 : decode cX11_openNow 12 = .ok (.getfield 29, 3) := by decide +kernel
theorem dX11_openNow_15 : decode cX11_openNow 15 = .ok (.aload_n 0, 1) := by decide +kernel
theorem dX11_openNow_16 : decode cX11_openNow 16 = .ok (.invokevirtual 186, 3) := by decide +kernel
theorem dX11_openNow_19 : decode cX11_openNow 19 = .ok (.iaload, 1) := by decide +kernel
theorem dX11_openNow_20 : decode cX11_openNow 20 = .ok (.ireturn, 1) := by decide +kernel
theorem dX11_isCompared_0 : decode cX11_isCompared 0 = .ok (.aload_n 0, 1) := by decide +kernel
theorem dX11_isCompared_1 : decode cX11_isCompared 1 = .ok (.getfield 173, 3) := by decide +kernel
theorem dX11_isCompared_4 : decode cX11_isCompared 4 = .ok (.iconst 1, 1) := by decide +kernel
theorem dX11_isCompared_5 : decode cX11_isCompared 5 = .ok (.isub, 1) := by decide +kernel
theorem dX11_isCompared_6 : decode cX11_isCompared 6 = .ok (.istore_n 1, 1) := by decide +kernel
theorem dX11_isCompared_7 : decode cX11_isCompared 7 = .ok (.iload_n 1, 1) := by decide +kernel
theorem dX11_isCompared_8 : decode cX11_isCompared 8 = .ok (.ifCond .lt 22, 3) := by decide +kernel
theorem dX11_isCompared_11 : decode cX11_isCompared 11 = .ok (.aload_n 0, 1) := by decide +kernel
theorem dX11_isCompared_12 : decode cX11_isCompared 12 = .ok (.getfield 29, 3) := by decide +kernel
theorem dX11_isCompared_15 : decode cX11_isCompared 15 = .ok (.iload_n 1, 1) := by decide +kernel
theorem dX11_isCompared_16 : decode cX11_isCompared 16 = .ok (.iaload, 1) := by decide +kernel
theorem dX11_isCompared_17 : decode cX11_isCompared 17 = .ok (.invokestatic 176, 3) := by decide +kernel
theorem dX11_isCompared_20 : decode cX11_isCompared 20 = .ok (.iconst 4, 1) := by decide +kernel
theorem dX11_isCompared_21 : decode cX11_isCompared 21 = .ok (.if_icmp .le 9, 3) := by decide +kernel
theorem dX11_isCompared_24 : decode cX11_isCompared 24 = .ok (.iinc 1 (-1), 3) := by decide +kernel
theorem dX11_isCompared_27 : decode cX11_isCompared 27 = .ok (.goto (-20), 3) := by decide +kernel
theorem dX11_isCompared_30 : decode cX11_isCompared 30 = .ok (.iload_n 1, 1) := by decide +kernel
theorem dX11_isCompared_31 : decode cX11_isCompared 31 = .ok (.ifCond .lt 20, 3) := by decide +kernel
theorem dX11_isCompared_34 : decode cX11_isCompared 34 = .ok (.aload_n 0, 1) := by decide +kernel
theorem dX11_isCompared_35 : decode cX11_isCompared 35 = .ok (.getfield 29, 3) := by decide +kernel
theorem dX11_isCompared_38 : decode cX11_isCompared 38 = .ok (.iload_n 1, 1) := by decide +kernel
theorem dX11_isCompared_39 : decode cX11_isCompared 39 = .ok (.iaload, 1) := by decide +kernel
theorem dX11_isCompared_40 : decode cX11_isCompared 40 = .ok (.invokestatic 176, 3) := by decide +kernel
theorem dX11_isCompared_43 : decode cX11_isCompared 43 = .ok (.iconst 4, 1) := by decide +kernel
theorem dX11_isCompared_44 : decode cX11_isCompared 44 = .ok (.if_icmp .ne 7, 3) := by decide +kernel
theorem dX11_isCompared_47 : decode cX11_isCompared 47 = .ok (.iconst 1, 1) := by decide +kernel
theorem dX11_isCompared_48 : decode cX11_isCompared 48 = .ok (.goto 4, 3) := by decide +kernel
theorem dX11_isCompared_51 : decode cX11_isCompared 51 = .ok (.iconst 0, 1) := by decide +kernel
theorem dX11_isCompared_52 : decode cX11_isCompared 52 = .ok (.ireturn, 1) := by decide +kernel
theorem dX11_isAskAhead_0 : decode cX11_isAskAhead 0 = .ok (.aload_n 0, 1) := by decide +kernel
theorem dX11_isAskAhead_1 : decode cX11_isAskAhead 1 = .ok (.invokevirtual 190, 3) := by decide +kernel
theorem dX11_isAskAhead_4 : decode cX11_isAskAhead 4 = .ok (.bipush 41, 2) := by decide +kernel
theorem dX11_isAskAhead_6 : decode cX11_isAskAhead 6 = .ok (.if_icmp .ne 45, 3) := by decide +kernel
theorem dX11_isAskAhead_9 : decode cX11_isAskAhead 9 = .ok (.aload_n 0, 1) := by decide +kernel
theorem dX11_isAskAhead_10 : decode cX11_isAskAhead 10 = .ok (.getfield 29, 3) := by decide +kernel
theorem dX11_isAskAhead_13 : decode cX11_isAskAhead 13 = .ok (.aload_n 0, 1) := by decide +kernel
theorem dX11_isAskAhead_14 : decode cX11_isAskAhead 14 = .ok (.getfield 173, 3) := by decide +kernel
theorem dX11_isAskAhead_17 : decode cX11_isAskAhead 17 = .ok (.iconst 1, 1) := by decide +kernel
theorem dX11_isAskAhead_18 : decode cX11_isAskAhead 18 = .ok (.isub, 1) := by decide +kernel
theorem dX11_isAskAhead_19 : decode cX11_isAskAhead 19 = .ok (.iaload, 1) := by decide +kernel
theorem dX11_isAskAhead_20 : decode cX11_isAskAhead 20 = .ok (.bipush 40, 2) := by decide +kernel
theorem dX11_isAskAhead_22 : decode cX11_isAskAhead 22 = .ok (.if_icmp .ge 25, 3) := by decide +kernel
theorem dX11_isAskAhead_25 : decode cX11_isAskAhead 25 = .ok (.aload_n 0, 1) := by decide +kernel
theorem dX11_isAskAhead_26 : decode cX11_isAskAhead 26 = .ok (.getfield 29, 3) := by decide +kernel
theorem dX11_isAskAhead_29 : decode cX11_isAskAhead 29 = .ok (.aload_n 0, 1) := by decide +kernel
theorem dX11_isAskAhead_30 : decode cX11_isAskAhead 30 = .ok (.getfield 173, 3) := by decide +kernel
theorem dX11_isAskAhead_33 : decode cX11_isAskAhead 33 = .ok (.iconst 1, 1) := by decide +kernel
theorem dX11_isAskAhead_34 : decode cX11_isAskAhead 34 = .ok (.isub, 1) := by decide +kernel
theorem dX11_isAskAhead_35 : decode cX11_isAskAhead 35 = .ok (.iaload, 1) := by decide +kernel
theorem dX11_isAskAhead_36 : decode cX11_isAskAhead 36 = .ok (.invokestatic 176, 3) := by decide +kernel
theorem dX11_isAskAhead_39 : decode cX11_isAskAhead 39 = .ok (.iconst 1, 1) := by decide +kernel
theorem dX11_isAskAhead_40 : decode cX11_isAskAhead 40 = .ok (.iconst 3, 1) := by decide +kernel
theorem dX11_isAskAhead_41 : decode cX11_isAskAhead 41 = .ok (.invokestatic 87, 3) := by decide +kernel
theorem dX11_isAskAhead_44 : decode cX11_isAskAhead 44 = .ok (.ifCond .eq 7, 3) := by decide +kernel
theorem dX11_isAskAhead_47 : decode cX11_isAskAhead 47 = .ok (.iconst 1, 1) := by decide +kernel
theorem dX11_isAskAhead_48 : decode cX11_isAskAhead 48 = .ok (.goto 4, 3) := by decide +kernel
theorem dX11_isAskAhead_51 : decode cX11_isAskAhead 51 = .ok (.iconst 0, 1) := by decide +kernel
theorem dX11_isAskAhead_52 : decode cX11_isAskAhead 52 = .ok (.ireturn, 1) := by decide +kernel
theorem dX11_opened_0 : decode cX11_opened 0 = .ok (.aload_n 0, 1) := by decide +kernel
theorem dX11_opened_1 : decode cX11_opened 1 = .ok (.getfield 183, 3) := by decide +kernel
theorem dX11_opened_4 : decode cX11_opened 4 = .ok (.bipush 8, 2) := by decide +kernel
theorem dX11_opened_6 : decode cX11_opened 6 = .ok (.if_icmp .ne 5, 3) := by decide +kernel
theorem dX11_opened_9 : decode cX11_opened 9 = .ok (.iconst 3, 1) := by decide +kernel
theorem dX11_opened_10 : decode cX11_opened 10 = .ok (.ireturn, 1) := by decide +kernel
theorem dX11_opened_11 : decode cX11_opened 11 = .ok (.aload_n 0, 1) := by decide +kernel
theorem dX11_opened_12 : decode cX11_opened 12 = .ok (.dup, 1) := by decide +kernel
theorem dX11_opened_13 : decode cX11_opened 13 = .ok (.getfield 183, 3) := by decide +kernel
theorem dX11_opened_16 : decode cX11_opened 16 = .ok (.iconst 1, 1) := by decide +kernel
theorem dX11_opened_17 : decode cX11_opened 17 = .ok (.iadd, 1) := by decide +kernel
theorem dX11_opened_18 : decode cX11_opened 18 = .ok (.putfield 183, 3) := by decide +kernel
theorem dX11_opened_21 : decode cX11_opened 21 = .ok (.aload_n 0, 1) := by decide +kernel
theorem dX11_opened_22 : decode cX11_opened 22 = .ok (.getfield 29, 3) := by decide +kernel
theorem dX11_opened_25 : decode cX11_opened 25 = .ok (.aload_n 0, 1) := by decide +kernel
theorem dX11_opened_26 : decode cX11_opened 26 = .ok (.getfield 173, 3) := by decide +kernel
theorem dX11_opened_29 : decode cX11_opened 29 = .ok (.iload_n 1, 1) := by decide +kernel
theorem dX11_opened_30 : decode cX11_opened 30 = .ok (.iastore, 1) := by decide +kernel
theorem dX11_opened_31 : decode cX11_opened 31 = .ok (.aload_n 0, 1) := by decide +kernel
theorem dX11_opened_32 : decode cX11_opened 32 = .ok (.dup, 1) := by decide +kernel
theorem dX11_opened_33 : decode cX11_opened 33 = .ok (.getfield 173, 3) := by decide +kernel
theorem dX11_opened_36 : decode cX11_opened 36 = .ok (.iconst 1, 1) := by decide +kernel
theorem dX11_opened_37 : decode cX11_opened 37 = .ok (.iadd, 1) := by decide +kernel
theorem dX11_opened_38 : decode cX11_opened 38 = .ok (.putfield 173, 3) := by decide +kernel
theorem dX11_opened_41 : decode cX11_opened 41 = .ok (.aload_n 0, 1) := by decide +kernel
theorem dX11_opened_42 : decode cX11_opened 42 = .ok (.invokevirtual 193, 3) := by decide +kernel
theorem dX11_opened_45 : decode cX11_opened 45 = .ok (.iconst 0, 1) := by decide +kernel
theorem dX11_opened_46 : decode cX11_opened 46 = .ok (.ireturn, 1) := by decide +kernel
theorem dX11_beginOne_0 : decode cX11_beginOne 0 = .ok (.aload_n 0, 1) := by decide +kernel
theorem dX11_beginOne_1 : decode cX11_beginOne 1 = .ok (.getfield 126, 3) := by decide +kernel
theorem dX11_beginOne_4 : decode cX11_beginOne 4 = .ok (.iconst 1, 1) := by decide +kernel
theorem dX11_beginOne_5 : decode cX11_beginOne 5 = .ok (.if_icmp .ne 15, 3) := by decide +kernel
theorem dX11_beginOne_8 : decode cX11_beginOne 8 = .ok (.aload_n 0, 1) := by decide +kernel
theorem dX11_beginOne_9 : decode cX11_beginOne 9 = .ok (.getfield 132, 3) := by decide +kernel
theorem dX11_beginOne_12 : decode cX11_beginOne 12 = .ok (.sipush 9999, 3) := by decide +kernel
theorem dX11_beginOne_15 : decode cX11_beginOne 15 = .ok (.if_icmp .le 5, 3) := by decide +kernel
theorem dX11_beginOne_18 : decode cX11_beginOne 18 = .ok (.iconst 2, 1) := by decide +kernel
theorem dX11_beginOne_19 : decode cX11_beginOne 19 = .ok (.ireturn, 1) := by decide +kernel
theorem dX11_beginOne_20 : decode cX11_beginOne 20 = .ok (.aload_n 0, 1) := by decide +kernel
theorem dX11_beginOne_21 : decode cX11_beginOne 21 = .ok (.invokevirtual 196, 3) := by decide +kernel
theorem dX11_beginOne_24 : decode cX11_beginOne 24 = .ok (.istore_n 1, 1) := by decide +kernel
theorem dX11_beginOne_25 : decode cX11_beginOne 25 = .ok (.iload_n 1, 1) := by decide +kernel
theorem dX11_beginOne_26 : decode cX11_beginOne 26 = .ok (.ifCond .lt 13, 3) := by decide +kernel
theorem dX11_beginOne_29 : decode cX11_beginOne 29 = .ok (.aload_n 0, 1) := by decide +kernel
theorem dX11_beginOne_30 : decode cX11_beginOne 30 = .ok (.iload_n 1, 1) := by decide +kernel
theorem dX11_beginOne_31 : decode cX11_beginOne 31 = .ok (.invokevirtual 199, 3) := by decide +kernel
theorem dX11_beginOne_34 : decode cX11_beginOne 34 = .ok (.ifCond .ne 5, 3) := by decide +kernel
theorem dX11_beginOne_37 : decode cX11_beginOne 37 = .ok (.iconst 5, 1) := by decide +kernel
theorem dX11_beginOne_38 : decode cX11_beginOne 38 = .ok (.ireturn, 1) := by decide +kernel
theorem dX11_beginOne_39 : decode cX11_beginOne 39 = .ok (.aload_n 0, 1) := by decide +kernel
theorem dX11_beginOne_40 : decode cX11_beginOne 40 = .ok (.getfield 126, 3) := by decide +kernel
theorem dX11_beginOne_43 : decode cX11_beginOne 43 = .ok (.iconst 1, 1) := by decide +kernel
theorem dX11_beginOne_44 : decode cX11_beginOne 44 = .ok (.if_icmp .eq 7, 3) := by decide +kernel
theorem dX11_beginOne_47 : decode cX11_beginOne 47 = .ok (.iload_n 1, 1) := by decide +kernel
theorem dX11_beginOne_48 : decode cX11_beginOne 48 = .ok (.ifCond .lt 53, 3) := by decide +kernel
theorem dX11_beginOne_51 : decode cX11_beginOne 51 = .ok (.aload_n 0, 1) := by decide +kernel
theorem dX11_beginOne_52 : decode cX11_beginOne 52 = .ok (.aload_n 0, 1) := by decide +kernel
theorem dX11_beginOne_53 : decode cX11_beginOne 53 = .ok (.getfield 126, 3) := by decide +kernel
theorem dX11_beginOne_56 : decode cX11_beginOne 56 = .ok (.iconst 1, 1) := by decide +kernel
theorem dX11_beginOne_57 : decode cX11_beginOne 57 = .ok (.if_icmp .ne 7, 3) := by decide +kernel
theorem dX11_beginOne_60 : decode cX11_beginOne 60 = .ok (.iconst 0, 1) := by decide +kernel
theorem dX11_beginOne_61 : decode cX11_beginOne 61 = .ok (.goto 4, 3) := by decide +kernel
theorem dX11_beginOne_64 : decode cX11_beginOne 64 = .ok (.iconst 1, 1) := by decide +kernel
theorem dX11_beginOne_65 : decode cX11_beginOne 65 = .ok (.aload_n 0, 1) := by decide +kernel
theorem dX11_beginOne_66 : decode cX11_beginOne 66 = .ok (.getfield 126, 3) := by decide +kernel
theorem dX11_beginOne_69 : decode cX11_beginOne 69 = .ok (.iconst 1, 1) := by decide +kernel
theorem dX11_beginOne_70 : decode cX11_beginOne 70 = .ok (.if_icmp .ne 10, 3) := by decide +kernel
theorem dX11_beginOne_73 : decode cX11_beginOne 73 = .ok (.aload_n 0, 1) := by decide +kernel
theorem dX11_beginOne_74 : decode cX11_beginOne 74 = .ok (.getfield 132, 3) := by decide +kernel
theorem dX11_beginOne_77 : decode cX11_beginOne 77 = .ok (.goto 4, 3) := by decide +kernel
theorem dX11_beginOne_80 : decode cX11_beginOne 80 = .ok (.iload_n 1, 1) := by decide +kernel
theorem dX11_beginOne_81 : decode cX11_beginOne 81 = .ok (.invokevirtual 179, 3) := by decide +kernel
theorem dX11_beginOne_84 : decode cX11_beginOne 84 = .ok (.aload_n 0, 1) := by decide +kernel
theorem dX11_beginOne_85 : decode cX11_beginOne 85 = .ok (.invokevirtual 193, 3) := by decide +kernel
theorem dX11_beginOne_88 : decode cX11_beginOne 88 = .ok (.aload_n 0, 1) := by decide +kernel
theorem dX11_beginOne_89 : decode cX11_beginOne 89 = .ok (.iconst 1, 1) := by decide +kernel
theorem dX11_beginOne_90 : decode cX11_beginOne 90 = .ok (.putfield 202, 3) := by decide +kernel
theorem dX11_beginOne_93 : decode cX11_beginOne 93 = .ok (.aload_n 0, 1) := by decide +kernel
theorem dX11_beginOne_94 : decode cX11_beginOne 94 = .ok (.bipush 7, 2) := by decide +kernel
theorem dX11_beginOne_96 : decode cX11_beginOne 96 = .ok (.invokevirtual 205, 3) := by decide +kernel
theorem dX11_beginOne_99 : decode cX11_beginOne 99 = .ok (.iconst 0, 1) := by decide +kernel
theorem dX11_beginOne_100 : decode cX11_beginOne 100 = .ok (.ireturn, 1) := by decide +kernel
theorem dX11_beginOne_101 : decode cX11_beginOne 101 = .ok (.aload_n 0, 1) := by decide +kernel
theorem dX11_beginOne_102 : decode cX11_beginOne 102 = .ok (.getfield 126, 3) := by decide +kernel
theorem dX11_beginOne_105 : decode cX11_beginOne 105 = .ok (.bipush 40, 2) := by decide +kernel
theorem dX11_beginOne_107 : decode cX11_beginOne 107 = .ok (.if_icmp .ne 10, 3) := by decide +kernel
theorem dX11_beginOne_110 : decode cX11_beginOne 110 = .ok (.aload_n 0, 1) := by decide +kernel
theorem dX11_beginOne_111 : decode cX11_beginOne 111 = .ok (.bipush 40, 2) := by decide +kernel
theorem dX11_beginOne_113 : decode cX11_beginOne 113 = .ok (.invokevirtual 208, 3) := by decide +kernel
theorem dX11_beginOne_116 : decode cX11_beginOne 116 = .ok (.ireturn, 1) := by decide +kernel
theorem dX11_beginOne_117 : decode cX11_beginOne 117 = .ok (.aload_n 0, 1) := by decide +kernel
theorem dX11_beginOne_118 : decode cX11_beginOne 118 = .ok (.getfield 126, 3) := by decide +kernel
theorem dX11_beginOne_121 : decode cX11_beginOne 121 = .ok (.bipush 45, 2) := by decide +kernel
theorem dX11_beginOne_123 : decode cX11_beginOne 123 = .ok (.if_icmp .ne 9, 3) := by decide +kernel
theorem dX11_beginOne_126 : decode cX11_beginOne 126 = .ok (.aload_n 0, 1) := by decide +kernel
theorem dX11_beginOne_127 : decode cX11_beginOne 127 = .ok (.iconst 5, 1) := by decide +kernel
theorem dX11_beginOne_128 : decode cX11_beginOne 128 = .ok (.invokevirtual 208, 3) := by decide +kernel
theorem dX11_beginOne_131 : decode cX11_beginOne 131 = .ok (.ireturn, 1) := by decide +kernel
theorem dX11_beginOne_132 : decode cX11_beginOne 132 = .ok (.aload_n 0, 1) := by decide +kernel
theorem dX11_beginOne_133 : decode cX11_beginOne 133 = .ok (.bipush 100, 2) := by decide +kernel
theorem dX11_beginOne_135 : decode cX11_beginOne 135 = .ok (.bipush 105, 2) := by decide +kernel
theorem dX11_beginOne_137 : decode cX11_beginOne 137 = .ok (.bipush 103, 2) := by decide +kernel
theorem dX11_beginOne_139 : decode cX11_beginOne 139 = .ok (.bipush 105, 2) := by decide +kernel
theorem dX11_beginOne_141 : decode cX11_beginOne 141 = .ok (.bipush 116, 2) := by decide +kernel
theorem dX11_beginOne_143 : decode cX11_beginOne 143 = .ok (.bipush 115, 2) := by decide +kernel
theorem dX11_beginOne_145 : decode cX11_beginOne 145 = .ok (.invokestatic 211, 3) := by decide +kernel
theorem dX11_beginOne_148 : decode cX11_beginOne 148 = .ok (.invokevirtual 215, 3) := by decide +kernel
theorem dX11_beginOne_151 : decode cX11_beginOne 151 = .ok (.ifCond .eq 9, 3) := by decide +kernel
theorem dX11_beginOne_154 : decode cX11_beginOne 154 = .ok (.aload_n 0, 1) := by decide +kernel
theorem dX11_beginOne_155 : decode cX11_beginOne 155 = .ok (.iconst 2, 1) := by decide +kernel
theorem dX11_beginOne_156 : decode cX11_beginOne 156 = .ok (.invokevirtual 208, 3) := by decide +kernel
theorem dX11_beginOne_159 : decode cX11_beginOne 159 = .ok (.ireturn, 1) := by decide +kernel
theorem dX11_beginOne_160 : decode cX11_beginOne 160 = .ok (.aload_n 0, 1) := by decide +kernel
theorem dX11_beginOne_161 : decode cX11_beginOne 161 = .ok (.bipush 115, 2) := by decide +kernel
theorem dX11_beginOne_163 : decode cX11_beginOne 163 = .ok (.bipush 117, 2) := by decide +kernel
theorem dX11_beginOne_165 : decode cX11_beginOne 165 = .ok (.bipush 109, 2) := by decide +kernel
theorem dX11_beginOne_167 : decode cX11_beginOne 167 = .ok (.bipush 115, 2) := by decide +kernel
theorem dX11_beginOne_169 : decode cX11_beginOne 169 = .ok (.invokestatic 156, 3) := by decide +kernel
theorem dX11_beginOne_172 : decode cX11_beginOne 172 = .ok (.invokevirtual 215, 3) := by decide +kernel
theorem dX11_beginOne_175 : decode cX11_beginOne 175 = .ok (.ifCond .eq 9, 3) := by decide +kernel
theorem dX11_beginOne_178 : decode cX11_beginOne 178 = .ok (.aload_n 0, 1) := by decide +kernel
theorem dX11_beginOne_179 : decode cX11_beginOne 179 = .ok (.iconst 3, 1) := by decide +kernel
theorem dX11_beginOne_180 : decode cX11_beginOne 180 = .ok (.invokevirtual 208, 3) := by decide +kernel
theorem dX11_beginOne_183 : decode cX11_beginOne 183 = .ok (.ireturn, 1) := by decide +kernel
theorem dX11_beginOne_184 : decode cX11_beginOne 184 = .ok (.aload_n 0, 1) := by decide +kernel
theorem dX11_beginOne_185 : decode cX11_beginOne 185 = .ok (.bipush 105, 2) := by decide +kernel
theorem dX11_beginOne_187 : decode cX11_beginOne 187 = .ok (.bipush 102, 2) := by decide +kernel
theorem dX11_beginOne_189 : decode cX11_beginOne 189 = .ok (.invokestatic 148, 3) := by decide +kernel
theorem dX11_beginOne_192 : decode cX11_beginOne 192 = .ok (.invokevirtual 215, 3) := by decide +kernel
theorem dX11_beginOne_195 : decode cX11_beginOne 195 = .ok (.ifCond .eq 10, 3) := by decide +kernel
theorem dX11_beginOne_198 : decode cX11_beginOne 198 = .ok (.aload_n 0, 1) := by decide +kernel
theorem dX11_beginOne_199 : decode cX11_beginOne 199 = .ok (.bipush 41, 2) := by decide +kernel
theorem dX11_beginOne_201 : decode cX11_beginOne 201 = .ok (.invokevirtual 208, 3) := by decide +kernel
theorem dX11_beginOne_204 : decode cX11_beginOne 204 = .ok (.ireturn, 1) := by decide +kernel
theorem dX11_beginOne_205 : decode cX11_beginOne 205 = .ok (.aload_n 0, 1) := by decide +kernel
theorem dX11_beginOne_206 : decode cX11_beginOne 206 = .ok (.bipush 110, 2) := by decide +kernel
theorem dX11_beginOne_208 : decode cX11_beginOne 208 = .ok (.bipush 111, 2) := by decide +kernel
theorem dX11_beginOne_210 : decode cX11_beginOne 210 = .ok (.bipush 116, 2) := by decide +kernel
theorem dX11_beginOne_212 : decode cX11_beginOne 212 = .ok (.invokestatic 152, 3) := by decide +kernel
theorem dX11_beginOne_215 : decode cX11_beginOne 215 = .ok (.invokevirtual 215, 3) := by decide +kernel
theorem dX11_beginOne_218 : decode cX11_beginOne 218 = .ok (.ifCond .eq 19, 3) := by decide +kernel
theorem dX11_beginOne_221 : decode cX11_beginOne 221 = .ok (.aload_n 0, 1) := by decide +kernel
theorem dX11_beginOne_222 : decode cX11_beginOne 222 = .ok (.invokevirtual 219, 3) := by decide +kernel
theorem dX11_beginOne_225 : decode cX11_beginOne 225 = .ok (.ifCond .eq 12, 3) := by decide +kernel
theorem dX11_beginOne_228 : decode cX11_beginOne 228 = .ok (.aload_n 0, 1) := by decide +kernel
theorem dX11_beginOne_229 : decode cX11_beginOne 229 = .ok (.bipush 20, 2) := by decide +kernel
theorem dX11_beginOne_231 : decode cX11_beginOne 231 = .ok (.invokevirtual 208, 3) := by decide +kernel
theorem dX11_beginOne_234 : decode cX11_beginOne 234 = .ok (.goto 4, 3) := by decide +kernel
theorem dX11_beginOne_237 : decode cX11_beginOne 237 = .ok (.iconst 1, 1) := by decide +kernel
theorem dX11_beginOne_238 : decode cX11_beginOne 238 = .ok (.ireturn, 1) := by decide +kernel
theorem dX11_compareOf_0 : decode cX11_compareOf 0 = .ok (.aload_n 0, 1) := by decide +kernel
theorem dX11_compareOf_1 : decode cX11_compareOf 1 = .ok (.getfield 126, 3) := by decide +kernel
theorem dX11_compareOf_4 : decode cX11_compareOf 4 = .ok (.bipush 60, 2) := by decide +kernel
theorem dX11_compareOf_6 : decode cX11_compareOf 6 = .ok (.if_icmp .ne 8, 3) := by decide +kernel
theorem dX11_compareOf_9 : decode cX11_compareOf 9 = .ok (.bipush 10, 2) := by decide +kernel
theorem dX11_compareOf_11 : decode cX11_compareOf 11 = .ok (.goto 72, 3) := by decide +kernel
theorem dX11_compareOf_14 : decode cX11_compareOf 14 = .ok (.aload_n 0, 1) := by decide +kernel
theorem dX11_compareOf_15 : decode cX11_compareOf 15 = .ok (.getfield 126, 3) := by decide +kernel
theorem dX11_compareOf_18 : decode cX11_compareOf 18 = .ok (.iconst 4, 1) := by decide +kernel
theorem dX11_compareOf_19 : decode cX11_compareOf 19 = .ok (.if_icmp .ne 8, 3) := by decide +kernel
theorem dX11_compareOf_22 : decode cX11_compareOf 22 = .ok (.bipush 11, 2) := by decide +kernel
theorem dX11_compareOf_24 : decode cX11_compareOf 24 = .ok (.goto 59, 3) := by decide +kernel
theorem dX11_compareOf_27 : decode cX11_compareOf 27 = .ok (.aload_n 0, 1) := by decide +kernel
theorem dX11_compareOf_28 : decode cX11_compareOf 28 = .ok (.getfield 126, 3) := by decide +kernel
theorem dX11_compareOf_31 : decode cX11_compareOf 31 = .ok (.bipush 62, 2) := by decide +kernel
theorem dX11_compareOf_33 : decode cX11_compareOf 33 = .ok (.if_icmp .ne 8, 3) := by decide +kernel
theorem dX11_compareOf_36 : decode cX11_compareOf 36 = .ok (.bipush 12, 2) := by decide +kernel
theorem dX11_compareOf_38 : decode cX11_compareOf 38 = .ok (.goto 45, 3) := by decide +kernel
theorem dX11_compareOf_41 : decode cX11_compareOf 41 = .ok (.aload_n 0, 1) := by decide +kernel
theorem dX11_compareOf_42 : decode cX11_compareOf 42 = .ok (.getfield 126, 3) := by decide +kernel
theorem dX11_compareOf_45 : decode cX11_compareOf 45 = .ok (.iconst 5, 1) := by decide +kernel
theorem dX11_compareOf_46 : decode cX11_compareOf 46 = .ok (.if_icmp .ne 8, 3) := by decide +kernel
theorem dX11_compareOf_49 : decode cX11_compareOf 49 = .ok (.bipush 13, 2) := by decide +kernel
theorem dX11_compareOf_51 : decode cX11_compareOf 51 = .ok (.goto 32, 3) := by decide +kernel
theorem dX11_compareOf_54 : decode cX11_compareOf 54 = .ok (.aload_n 0, 1) := by decide +kernel
theorem dX11_compareOf_55 : decode cX11_compareOf 55 = .ok (.getfield 126, 3) := by decide +kernel
theorem dX11_compareOf_58 : decode cX11_compareOf 58 = .ok (.bipush 61, 2) := by decide +kernel
theorem dX11_compareOf_60 : decode cX11_compareOf 60 = .ok (.if_icmp .ne 8, 3) := by decide +kernel
theorem dX11_compareOf_63 : decode cX11_compareOf 63 = .ok (.bipush 14, 2) := by decide +kernel
theorem dX11_compareOf_65 : decode cX11_compareOf 65 = .ok (.goto 18, 3) := by decide +kernel
theorem dX11_compareOf_68 : decode cX11_compareOf 68 = .ok (.aload_n 0, 1) := by decide +kernel
theorem dX11_compareOf_69 : decode cX11_compareOf 69 = .ok (.getfield 126, 3) := by decide +kernel
theorem dX11_compareOf_72 : decode cX11_compareOf 72 = .ok (.bipush 35, 2) := by decide +kernel
theorem dX11_compareOf_74 : decode cX11_compareOf 74 = .ok (.if_icmp .ne 8, 3) := by decide +kernel
theorem dX11_compareOf_77 : decode cX11_compareOf 77 = .ok (.bipush 15, 2) := by decide +kernel
theorem dX11_compareOf_79 : decode cX11_compareOf 79 = .ok (.goto 4, 3) := by decide +kernel
theorem dX11_compareOf_82 : decode cX11_compareOf 82 = .ok (.iconst (-1), 1) := by decide +kernel
theorem dX11_compareOf_83 : decode cX11_compareOf 83 = .ok (.ireturn, 1) := by decide +kernel
theorem dX11_betweenOf_0 : decode cX11_betweenOf 0 = .ok (.aload_n 0, 1) := by decide +kernel
theorem dX11_betweenOf_1 : decode cX11_betweenOf 1 = .ok (.getfield 126, 3) := by decide +kernel
theorem dX11_betweenOf_4 : decode cX11_betweenOf 4 = .ok (.bipush 43, 2) := by decide +kernel
theorem dX11_betweenOf_6 : decode cX11_betweenOf 6 = .ok (.if_icmp .ne 6, 3) := by decide +kernel
theorem dX11_betweenOf_9 : decode cX11_betweenOf 9 = .ok (.bipush 6, 2) := by decide +kernel
theorem dX11_betweenOf_11 : decode cX11_betweenOf 11 = .ok (.ireturn, 1) := by decide +kernel
theorem dX11_betweenOf_12 : decode cX11_betweenOf 12 = .ok (.aload_n 0, 1) := by decide +kernel
theorem dX11_betweenOf_13 : decode cX11_betweenOf 13 = .ok (.getfield 126, 3) := by decide +kernel
theorem dX11_betweenOf_16 : decode cX11_betweenOf 16 = .ok (.bipush 45, 2) := by decide +kernel
theorem dX11_betweenOf_18 : decode cX11_betweenOf 18 = .ok (.if_icmp .ne 6, 3) := by decide +kernel
theorem dX11_betweenOf_21 : decode cX11_betweenOf 21 = .ok (.bipush 7, 2) := by decide +kernel
theorem dX11_betweenOf_23 : decode cX11_betweenOf 23 = .ok (.ireturn, 1) := by decide +kernel
theorem dX11_betweenOf_24 : decode cX11_betweenOf 24 = .ok (.aload_n 0, 1) := by decide +kernel
theorem dX11_betweenOf_25 : decode cX11_betweenOf 25 = .ok (.getfield 126, 3) := by decide +kernel
theorem dX11_betweenOf_28 : decode cX11_betweenOf 28 = .ok (.bipush 42, 2) := by decide +kernel
theorem dX11_betweenOf_30 : decode cX11_betweenOf 30 = .ok (.if_icmp .ne 6, 3) := by decide +kernel
theorem dX11_betweenOf_33 : decode cX11_betweenOf 33 = .ok (.bipush 8, 2) := by decide +kernel
theorem dX11_betweenOf_35 : decode cX11_betweenOf 35 = .ok (.ireturn, 1) := by decide +kernel
theorem dX11_betweenOf_36 : decode cX11_betweenOf 36 = .ok (.aload_n 0, 1) := by decide +kernel
theorem dX11_betweenOf_37 : decode cX11_betweenOf 37 = .ok (.getfield 126, 3) := by decide +kernel
theorem dX11_betweenOf_40 : decode cX11_betweenOf 40 = .ok (.bipush 47, 2) := by decide +kernel
theorem dX11_betweenOf_42 : decode cX11_betweenOf 42 = .ok (.if_icmp .ne 6, 3) := by decide +kernel
theorem dX11_betweenOf_45 : decode cX11_betweenOf 45 = .ok (.bipush 9, 2) := by decide +kernel
theorem dX11_betweenOf_47 : decode cX11_betweenOf 47 = .ok (.ireturn, 1) := by decide +kernel
theorem dX11_betweenOf_48 : decode cX11_betweenOf 48 = .ok (.aload_n 0, 1) := by decide +kernel
theorem dX11_betweenOf_49 : decode cX11_betweenOf 49 = .ok (.invokevirtual 190, 3) := by decide +kernel
theorem dX11_betweenOf_52 : decode cX11_betweenOf 52 = .ok (.bipush 41, 2) := by decide +kernel
theorem dX11_betweenOf_54 : decode cX11_betweenOf 54 = .ok (.if_icmp .eq 5, 3) := by decide +kernel
theorem dX11_betweenOf_57 : decode cX11_betweenOf 57 = .ok (.iconst (-1), 1) := by decide +kernel
theorem dX11_betweenOf_58 : decode cX11_betweenOf 58 = .ok (.ireturn, 1) := by decide +kernel
theorem dX11_betweenOf_59 : decode cX11_betweenOf 59 = .ok (.aload_n 0, 1) := by decide +kernel
theorem dX11_betweenOf_60 : decode cX11_betweenOf 60 = .ok (.invokevirtual 223, 3) := by decide +kernel
theorem dX11_betweenOf_63 : decode cX11_betweenOf 63 = .ok (.ifCond .ne 8, 3) := by decide +kernel
theorem dX11_betweenOf_66 : decode cX11_betweenOf 66 = .ok (.aload_n 0, 1) := by decide +kernel
theorem dX11_betweenOf_67 : decode cX11_betweenOf 67 = .ok (.invokevirtual 226, 3) := by decide +kernel
theorem dX11_betweenOf_70 : decode cX11_betweenOf 70 = .ok (.ireturn, 1) := by decide +kernel
theorem dX11_betweenOf_71 : decode cX11_betweenOf 71 = .ok (.aload_n 0, 1) := by decide +kernel
theorem dX11_betweenOf_72 : decode cX11_betweenOf 72 = .ok (.bipush 97, 2) := by decide +kernel
theorem dX11_betweenOf_74 : decode cX11_betweenOf 74 = .ok (.bipush 110, 2) := by decide +kernel
theorem dX11_betweenOf_76 : decode cX11_betweenOf 76 = .ok (.bipush 100, 2) := by decide +kernel
theorem dX11_betweenOf_78 : decode cX11_betweenOf 78 = .ok (.invokestatic 152, 3) := by decide +kernel
theorem dX11_betweenOf_81 : decode cX11_betweenOf 81 = .ok (.invokevirtual 215, 3) := by decide +kernel
theorem dX11_betweenOf_84 : decode cX11_betweenOf 84 = .ok (.ifCond .eq 8, 3) := by decide +kernel
theorem dX11_betweenOf_87 : decode cX11_betweenOf 87 = .ok (.bipush 21, 2) := by decide +kernel
theorem dX11_betweenOf_89 : decode cX11_betweenOf 89 = .ok (.goto 23, 3) := by decide +kernel
theorem dX11_betweenOf_92 : decode cX11_betweenOf 92 = .ok (.aload_n 0, 1) := by decide +kernel
theorem dX11_betweenOf_93 : decode cX11_betweenOf 93 = .ok (.bipush 111, 2) := by decide +kernel
theorem dX11_betweenOf_95 : decode cX11_betweenOf 95 = .ok (.bipush 114, 2) := by decide +kernel
theorem dX11_betweenOf_97 : decode cX11_betweenOf 97 = .ok (.invokestatic 148, 3) := by decide +kernel
theorem dX11_betweenOf_100 : decode cX11_betweenOf 100 = .ok (.invokevirtual 215, 3) := by decide +kernel
theorem dX11_betweenOf_103 : decode cX11_betweenOf 103 = .ok (.ifCond .eq 8, 3) := by decide +kernel
theorem dX11_betweenOf_106 : decode cX11_betweenOf 106 = .ok (.bipush 22, 2) := by decide +kernel
theorem dX11_betweenOf_108 : decode cX11_betweenOf 108 = .ok (.goto 4, 3) := by decide +kernel
theorem dX11_betweenOf_111 : decode cX11_betweenOf 111 = .ok (.iconst (-1), 1) := by decide +kernel
theorem dX11_betweenOf_112 : decode cX11_betweenOf 112 = .ok (.ireturn, 1) := by decide +kernel
theorem dX11_partOf_0 : decode cX11_partOf 0 = .ok (.iload_n 1, 1) := by decide +kernel
theorem dX11_partOf_1 : decode cX11_partOf 1 = .ok (.tableswitch 125 40 43 #[31, 46, 78, 103], 31) := by decide +kernel
theorem dX11_partOf_32 : decode cX11_partOf 32 = .ok (.aload_n 0, 1) := by decide +kernel
theorem dX11_partOf_33 : decode cX11_partOf 33 = .ok (.getfield 126, 3) := by decide +kernel
theorem dX11_partOf_36 : decode cX11_partOf 36 = .ok (.bipush 41, 2) := by decide +kernel
theorem dX11_partOf_38 : decode cX11_partOf 38 = .ok (.if_icmp .ne 7, 3) := by decide +kernel
theorem dX11_partOf_41 : decode cX11_partOf 41 = .ok (.iconst 0, 1) := by decide +kernel
theorem dX11_partOf_42 : decode cX11_partOf 42 = .ok (.goto 4, 3) := by decide +kernel
theorem dX11_partOf_45 : decode cX11_partOf 45 = .ok (.iconst (-1), 1) := by decide +kernel
theorem dX11_partOf_46 : decode cX11_partOf 46 = .ok (.ireturn, 1) := by decide +kernel
theorem dX11_partOf_47 : decode cX11_partOf 47 = .ok (.aload_n 0, 1) := by decide +kernel
theorem dX11_partOf_48 : decode cX11_partOf 48 = .ok (.bipush 116, 2) := by decide +kernel
theorem dX11_partOf_50 : decode cX11_partOf 50 = .ok (.bipush 104, 2) := by decide +kernel
theorem dX11_partOf_52 : decode cX11_partOf 52 = .ok (.bipush 101, 2) := by decide +kernel
theorem dX11_partOf_54 : decode cX11_partOf 54 = .ok (.bipush 110, 2) := by decide +kernel
theorem dX11_partOf_56 : decode cX11_partOf 56 = .ok (.invokestatic 156, 3) := by decide +kernel
theorem dX11_partOf_59 : decode cX11_partOf 59 = .ok (.invokevirtual 215, 3) := by decide +kernel
theorem dX11_partOf_62 : decode cX11_partOf 62 = .ok (.ifCond .eq 15, 3) := by decide +kernel
theorem dX11_partOf_65 : decode cX11_partOf 65 = .ok (.aload_n 0, 1) := by decide +kernel
theorem dX11_partOf_66 : decode cX11_partOf 66 = .ok (.invokevirtual 223, 3) := by decide +kernel
theorem dX11_partOf_69 : decode cX11_partOf 69 = .ok (.ifCond .eq 8, 3) := by decide +kernel
theorem dX11_partOf_72 : decode cX11_partOf 72 = .ok (.bipush 42, 2) := by decide +kernel
theorem dX11_partOf_74 : decode cX11_partOf 74 = .ok (.goto 4, 3) := by decide +kernel
theorem dX11_partOf_77 : decode cX11_partOf 77 = .ok (.iconst (-1), 1) := by decide +kernel
theorem dX11_partOf_78 : decode cX11_partOf 78 = .ok (.ireturn, 1) := by decide +kernel
theorem dX11_partOf_79 : decode cX11_partOf 79 = .ok (.aload_n 0, 1) := by decide +kernel
theorem dX11_partOf_80 : decode cX11_partOf 80 = .ok (.bipush 101, 2) := by decide +kernel
theorem dX11_partOf_82 : decode cX11_partOf 82 = .ok (.bipush 108, 2) := by decide +kernel
theorem dX11_partOf_84 : decode cX11_partOf 84 = .ok (.bipush 115, 2) := by decide +kernel
theorem dX11_partOf_86 : decode cX11_partOf 86 = .ok (.bipush 101, 2) := by decide +kernel
theorem dX11_partOf_88 : decode cX11_partOf 88 = .ok (.invokestatic 156, 3) := by decide +kernel
theorem dX11_partOf_91 : decode cX11_partOf 91 = .ok (.invokevirtual 215, 3) := by decide +kernel
theorem dX11_partOf_94 : decode cX11_partOf 94 = .ok (.ifCond .eq 8, 3) := by decide +kernel
theorem dX11_partOf_97 : decode cX11_partOf 97 = .ok (.bipush 43, 2) := by decide +kernel
theorem dX11_partOf_99 : decode cX11_partOf 99 = .ok (.goto 4, 3) := by decide +kernel
theorem dX11_partOf_102 : decode cX11_partOf 102 = .ok (.iconst (-1), 1) := by decide +kernel
theorem dX11_partOf_103 : decode cX11_partOf 103 = .ok (.ireturn, 1) := by decide +kernel
theorem dX11_partOf_104 : decode cX11_partOf 104 = .ok (.aload_n 0, 1) := by decide +kernel
theorem dX11_partOf_105 : decode cX11_partOf 105 = .ok (.bipush 101, 2) := by decide +kernel
theorem dX11_partOf_107 : decode cX11_partOf 107 = .ok (.bipush 110, 2) := by decide +kernel
theorem dX11_partOf_109 : decode cX11_partOf 109 = .ok (.bipush 100, 2) := by decide +kernel
theorem dX11_partOf_111 : decode cX11_partOf 111 = .ok (.invokestatic 152, 3) := by decide +kernel
theorem dX11_partOf_114 : decode cX11_partOf 114 = .ok (.invokevirtual 215, 3) := by decide +kernel
theorem dX11_partOf_117 : decode cX11_partOf 117 = .ok (.ifCond .eq 7, 3) := by decide +kernel
theorem dX11_partOf_120 : decode cX11_partOf 120 = .ok (.iconst 0, 1) := by decide +kernel
theorem dX11_partOf_121 : decode cX11_partOf 121 = .ok (.goto 4, 3) := by decide +kernel
theorem dX11_partOf_124 : decode cX11_partOf 124 = .ok (.iconst (-1), 1) := by decide +kernel
theorem dX11_partOf_125 : decode cX11_partOf 125 = .ok (.ireturn, 1) := by decide +kernel
theorem dX11_partOf_126 : decode cX11_partOf 126 = .ok (.iconst (-1), 1) := by decide +kernel
theorem dX11_partOf_127 : decode cX11_partOf 127 = .ok (.ireturn, 1) := by decide +kernel
theorem dX11_behindOne_0 : decode cX11_behindOne 0 = .ok (.aload_n 0, 1) := by decide +kernel
theorem dX11_behindOne_1 : decode cX11_behindOne 1 = .ok (.invokevirtual 229, 3) := by decide +kernel
theorem dX11_behindOne_4 : decode cX11_behindOne 4 = .ok (.istore_n 1, 1) := by decide +kernel
theorem dX11_behindOne_5 : decode cX11_behindOne 5 = .ok (.iload_n 1, 1) := by decide +kernel
theorem dX11_behindOne_6 : decode cX11_behindOne 6 = .ok (.ifCond .lt 54, 3) := by decide +kernel
theorem dX11_behindOne_9 : decode cX11_behindOne 9 = .ok (.aload_n 0, 1) := by decide +kernel
theorem dX11_behindOne_10 : decode cX11_behindOne 10 = .ok (.iload_n 1, 1) := by decide +kernel
theorem dX11_behindOne_11 : decode cX11_behindOne 11 = .ok (.invokestatic 176, 3) := by decide +kernel
theorem dX11_behindOne_14 : decode cX11_behindOne 14 = .ok (.iconst 4, 1) := by decide +kernel
theorem dX11_behindOne_15 : decode cX11_behindOne 15 = .ok (.if_icmp .ne 7, 3) := by decide +kernel
theorem dX11_behindOne_18 : decode cX11_behindOne 18 = .ok (.iconst 5, 1) := by decide +kernel
theorem dX11_behindOne_19 : decode cX11_behindOne 19 = .ok (.goto 7, 3) := by decide +kernel
theorem dX11_behindOne_22 : decode cX11_behindOne 22 = .ok (.iload_n 1, 1) := by decide +kernel
theorem dX11_behindOne_23 : decode cX11_behindOne 23 = .ok (.invokestatic 176, 3) := by decide +kernel
theorem dX11_behindOne_26 : decode cX11_behindOne 26 = .ok (.invokevirtual 205, 3) := by decide +kernel
theorem dX11_behindOne_29 : decode cX11_behindOne 29 = .ok (.aload_n 0, 1) := by decide +kernel
theorem dX11_behindOne_30 : decode cX11_behindOne 30 = .ok (.getfield 29, 3) := by decide +kernel
theorem dX11_behindOne_33 : decode cX11_behindOne 33 = .ok (.aload_n 0, 1) := by decide +kernel
theorem dX11_behindOne_34 : decode cX11_behindOne 34 = .ok (.getfield 173, 3) := by decide +kernel
theorem dX11_behindOne_37 : decode cX11_behindOne 37 = .ok (.iload_n 1, 1) := by decide +kernel
theorem dX11_behindOne_38 : decode cX11_behindOne 38 = .ok (.iastore, 1) := by decide +kernel
theorem dX11_behindOne_39 : decode cX11_behindOne 39 = .ok (.aload_n 0, 1) := by decide +kernel
theorem dX11_behindOne_40 : decode cX11_behindOne 40 = .ok (.dup, 1) := by decide +kernel
theorem dX11_behindOne_41 : decode cX11_behindOne 41 = .ok (.getfield 173, 3) := by decide +kernel
theorem dX11_behindOne_44 : decode cX11_behindOne 44 = .ok (.iconst 1, 1) := by decide +kernel
theorem dX11_behindOne_45 : decode cX11_behindOne 45 = .ok (.iadd, 1) := by decide +kernel
theorem dX11_behindOne_46 : decode cX11_behindOne 46 = .ok (.putfield 173, 3) := by decide +kernel
theorem dX11_behindOne_49 : decode cX11_behindOne 49 = .ok (.aload_n 0, 1) := by decide +kernel
theorem dX11_behindOne_50 : decode cX11_behindOne 50 = .ok (.iconst 0, 1) := by decide +kernel
theorem dX11_behindOne_51 : decode cX11_behindOne 51 = .ok (.putfield 202, 3) := by decide +kernel
theorem dX11_behindOne_54 : decode cX11_behindOne 54 = .ok (.aload_n 0, 1) := by decide +kernel
theorem dX11_behindOne_55 : decode cX11_behindOne 55 = .ok (.invokevirtual 193, 3) := by decide +kernel
theorem dX11_behindOne_58 : decode cX11_behindOne 58 = .ok (.iconst 1, 1) := by decide +kernel
theorem dX11_behindOne_59 : decode cX11_behindOne 59 = .ok (.ireturn, 1) := by decide +kernel
theorem dX11_behindOne_60 : decode cX11_behindOne 60 = .ok (.aload_n 0, 1) := by decide +kernel
theorem dX11_behindOne_61 : decode cX11_behindOne 61 = .ok (.invokevirtual 190, 3) := by decide +kernel
theorem dX11_behindOne_64 : decode cX11_behindOne 64 = .ok (.istore_n 2, 1) := by decide +kernel
theorem dX11_behindOne_65 : decode cX11_behindOne 65 = .ok (.aload_n 0, 1) := by decide +kernel
theorem dX11_behindOne_66 : decode cX11_behindOne 66 = .ok (.iload_n 2, 1) := by decide +kernel
theorem dX11_behindOne_67 : decode cX11_behindOne 67 = .ok (.invokevirtual 232, 3) := by decide +kernel
theorem dX11_behindOne_70 : decode cX11_behindOne 70 = .ok (.istore_n 3, 1) := by decide +kernel
theorem dX11_behindOne_71 : decode cX11_behindOne 71 = .ok (.iload_n 3, 1) := by decide +kernel
theorem dX11_behindOne_72 : decode cX11_behindOne 72 = .ok (.ifCond .ge 5, 3) := by decide +kernel
theorem dX11_behindOne_75 : decode cX11_behindOne 75 = .ok (.iconst 0, 1) := by decide +kernel
theorem dX11_behindOne_76 : decode cX11_behindOne 76 = .ok (.ireturn, 1) := by decide +kernel
theorem dX11_behindOne_77 : decode cX11_behindOne 77 = .ok (.aload_n 0, 1) := by decide +kernel
theorem dX11_behindOne_78 : decode cX11_behindOne 78 = .ok (.iconst 1, 1) := by decide +kernel
theorem dX11_behindOne_79 : decode cX11_behindOne 79 = .ok (.invokevirtual 205, 3) := by decide +kernel
theorem dX11_behindOne_82 : decode cX11_behindOne 82 = .ok (.aload_n 0, 1) := by decide +kernel
theorem dX11_behindOne_83 : decode cX11_behindOne 83 = .ok (.invokevirtual 193, 3) := by decide +kernel
theorem dX11_behindOne_86 : decode cX11_behindOne 86 = .ok (.iload_n 3, 1) := by decide +kernel
theorem dX11_behindOne_87 : decode cX11_behindOne 87 = .ok (.ifCond .le 20, 3) := by decide +kernel
theorem dX11_behindOne_90 : decode cX11_behindOne 90 = .ok (.aload_n 0, 1) := by decide +kernel
theorem dX11_behindOne_91 : decode cX11_behindOne 91 = .ok (.getfield 29, 3) := by decide +kernel
theorem dX11_behindOne_94 : decode cX11_behindOne 94 = .ok (.aload_n 0, 1) := by decide +kernel
theorem dX11_behindOne_95 : decode cX11_behindOne 95 = .ok (.invokevirtual 186, 3) := by decide +kernel
theorem dX11_behindOne_98 : decode cX11_behindOne 98 = .ok (.iload_n 3, 1) := by decide +kernel
theorem dX11_behindOne_99 : decode cX11_behindOne 99 = .ok (.iastore, 1) := by decide +kernel
theorem dX11_behindOne_100 : decode cX11_behindOne 100 = .ok (.aload_n 0, 1) := by decide +kernel
theorem dX11_behindOne_101 : decode cX11_behindOne 101 = .ok (.iconst 0, 1) := by decide +kernel
theorem dX11_behindOne_102 : decode cX11_behindOne 102 = .ok (.putfield 202, 3) := by decide +kernel
theorem dX11_behindOne_105 : decode cX11_behindOne 105 = .ok (.iconst 1, 1) := by decide +kernel
theorem dX11_behindOne_106 : decode cX11_behindOne 106 = .ok (.ireturn, 1) := by decide +kernel
theorem dX11_behindOne_107 : decode cX11_behindOne 107 = .ok (.aload_n 0, 1) := by decide +kernel
theorem dX11_behindOne_108 : decode cX11_behindOne 108 = .ok (.dup, 1) := by decide +kernel
theorem dX11_behindOne_109 : decode cX11_behindOne 109 = .ok (.getfield 183, 3) := by decide +kernel
theorem dX11_behindOne_112 : decode cX11_behindOne 112 = .ok (.iconst 1, 1) := by decide +kernel
theorem dX11_behindOne_113 : decode cX11_behindOne 113 = .ok (.isub, 1) := by decide +kernel
theorem dX11_behindOne_114 : decode cX11_behindOne 114 = .ok (.putfield 183, 3) := by decide +kernel
theorem dX11_behindOne_117 : decode cX11_behindOne 117 = .ok (.aload_n 0, 1) := by decide +kernel
theorem dX11_behindOne_118 : decode cX11_behindOne 118 = .ok (.dup, 1) := by decide +kernel
theorem dX11_behindOne_119 : decode cX11_behindOne 119 = .ok (.getfield 173, 3) := by decide +kernel
theorem dX11_behindOne_122 : decode cX11_behindOne 122 = .ok (.iconst 1, 1) := by decide +kernel
theorem dX11_behindOne_123 : decode cX11_behindOne 123 = .ok (.isub, 1) := by decide +kernel
theorem dX11_behindOne_124 : decode cX11_behindOne 124 = .ok (.putfield 173, 3) := by decide +kernel
theorem dX11_behindOne_127 : decode cX11_behindOne 127 = .ok (.iload_n 2, 1) := by decide +kernel
theorem dX11_behindOne_128 : decode cX11_behindOne 128 = .ok (.bipush 43, 2) := by decide +kernel
theorem dX11_behindOne_130 : decode cX11_behindOne 130 = .ok (.if_icmp .ne 9, 3) := by decide +kernel
theorem dX11_behindOne_133 : decode cX11_behindOne 133 = .ok (.aload_n 0, 1) := by decide +kernel
theorem dX11_behindOne_134 : decode cX11_behindOne 134 = .ok (.iconst 4, 1) := by decide +kernel
theorem dX11_behindOne_135 : decode cX11_behindOne 135 = .ok (.iconst 0, 1) := by decide +kernel
theorem dX11_behindOne_136 : decode cX11_behindOne 136 = .ok (.invokevirtual 179, 3) := by decide +kernel
theorem dX11_behindOne_139 : decode cX11_behindOne 139 = .ok (.aload_n 0, 1) := by decide +kernel
theorem dX11_behindOne_140 : decode cX11_behindOne 140 = .ok (.bipush 7, 2) := by decide +kernel
theorem dX11_behindOne_142 : decode cX11_behindOne 142 = .ok (.invokevirtual 205, 3) := by decide +kernel
theorem dX11_behindOne_145 : decode cX11_behindOne 145 = .ok (.iconst 1, 1) := by decide +kernel
theorem dX11_behindOne_146 : decode cX11_behindOne 146 = .ok (.ireturn, 1) := by decide +kernel
theorem dX11_summed_0 : decode cX11_summed 0 = .ok (.aload_n 0, 1) := by decide +kernel
theorem dX11_summed_1 : decode cX11_summed 1 = .ok (.iconst 0, 1) := by decide +kernel
theorem dX11_summed_2 : decode cX11_summed 2 = .ok (.putfield 173, 3) := by decide +kernel
theorem dX11_summed_5 : decode cX11_summed 5 = .ok (.aload_n 0, 1) := by decide +kernel
theorem dX11_summed_6 : decode cX11_summed 6 = .ok (.iconst 0, 1) := by decide +kernel
theorem dX11_summed_7 : decode cX11_summed 7 = .ok (.putfield 183, 3) := by decide +kernel
theorem dX11_summed_10 : decode cX11_summed 10 = .ok (.aload_n 0, 1) := by decide +kernel
theorem dX11_summed_11 : decode cX11_summed 11 = .ok (.iconst 0, 1) := by decide +kernel
theorem dX11_summed_12 : decode cX11_summed 12 = .ok (.putfield 202, 3) := by decide +kernel
theorem dX11_summed_15 : decode cX11_summed 15 = .ok (.aload_n 0, 1) := by decide +kernel
theorem dX11_summed_16 : decode cX11_summed 16 = .ok (.getfield 202, 3) := by decide +kernel
theorem dX11_summed_19 : decode cX11_summed 19 = .ok (.ifCond .eq 29, 3) := by decide +kernel
theorem dX11_summed_22 : decode cX11_summed 22 = .ok (.aload_n 0, 1) := by decide +kernel
theorem dX11_summed_23 : decode cX11_summed 23 = .ok (.invokevirtual 235, 3) := by decide +kernel
theorem dX11_summed_26 : decode cX11_summed 26 = .ok (.ifCond .eq 6, 3) := by decide +kernel
theorem dX11_summed_29 : decode cX11_summed 29 = .ok (.goto (-14), 3) := by decide +kernel
theorem dX11_summed_32 : decode cX11_summed 32 = .ok (.aload_n 0, 1) := by decide +kernel
theorem dX11_summed_33 : decode cX11_summed 33 = .ok (.invokevirtual 190, 3) := by decide +kernel
theorem dX11_summed_36 : decode cX11_summed 36 = .ok (.ifCond .lt 5, 3) := by decide +kernel
theorem dX11_summed_39 : decode cX11_summed 39 = .ok (.iconst 1, 1) := by decide +kernel
theorem dX11_summed_40 : decode cX11_summed 40 = .ok (.ireturn, 1) := by decide +kernel
theorem dX11_summed_41 : decode cX11_summed 41 = .ok (.aload_n 0, 1) := by decide +kernel
theorem dX11_summed_42 : decode cX11_summed 42 = .ok (.iconst 1, 1) := by decide +kernel
theorem dX11_summed_43 : decode cX11_summed 43 = .ok (.invokevirtual 205, 3) := by decide +kernel
theorem dX11_summed_46 : decode cX11_summed 46 = .ok (.iconst 0, 1) := by decide +kernel
theorem dX11_summed_47 : decode cX11_summed 47 = .ok (.ireturn, 1) := by decide +kernel
theorem dX11_summed_48 : decode cX11_summed 48 = .ok (.aload_n 0, 1) := by decide +kernel
theorem dX11_summed_49 : decode cX11_summed 49 = .ok (.invokevirtual 238, 3) := by decide +kernel
theorem dX11_summed_52 : decode cX11_summed 52 = .ok (.istore_n 1, 1) := by decide +kernel
theorem dX11_summed_53 : decode cX11_summed 53 = .ok (.iload_n 1, 1) := by decide +kernel
theorem dX11_summed_54 : decode cX11_summed 54 = .ok (.ifCond .eq 5, 3) := by decide +kernel
theorem dX11_summed_57 : decode cX11_summed 57 = .ok (.iload_n 1, 1) := by decide +kernel
theorem dX11_summed_58 : decode cX11_summed 58 = .ok (.ireturn, 1) := by decide +kernel
theorem dX11_summed_59 : decode cX11_summed 59 = .ok (.goto (-44), 3) := by decide +kernel
theorem dX11_figure_0 : decode cX11_figure 0 = .ok (.aload_n 0, 1) := by decide +kernel
theorem dX11_figure_1 : decode cX11_figure 1 = .ok (.getfield 126, 3) := by decide +kernel
theorem dX11_figure_4 : decode cX11_figure 4 = .ok (.iconst 1, 1) := by decide +kernel
theorem dX11_figure_5 : decode cX11_figure 5 = .ok (.if_icmp .eq 5, 3) := by decide +kernel
theorem dX11_figure_8 : decode cX11_figure 8 = .ok (.iconst 1, 1) := by decide +kernel
theorem dX11_figure_9 : decode cX11_figure 9 = .ok (.ireturn, 1) := by decide +kernel
theorem dX11_figure_10 : decode cX11_figure 10 = .ok (.aload_n 0, 1) := by decide +kernel
theorem dX11_figure_11 : decode cX11_figure 11 = .ok (.getfield 132, 3) := by decide +kernel
theorem dX11_figure_14 : decode cX11_figure 14 = .ok (.iload_n 2, 1) := by decide +kernel
theorem dX11_figure_15 : decode cX11_figure 15 = .ok (.iload_n 3, 1) := by decide +kernel
theorem dX11_figure_16 : decode cX11_figure 16 = .ok (.invokestatic 87, 3) := by decide +kernel
theorem dX11_figure_19 : decode cX11_figure 19 = .ok (.ifCond .ne 5, 3) := by decide +kernel
theorem dX11_figure_22 : decode cX11_figure 22 = .ok (.iconst 2, 1) := by decide +kernel
theorem dX11_figure_23 : decode cX11_figure 23 = .ok (.ireturn, 1) := by decide +kernel
theorem dX11_figure_24 : decode cX11_figure 24 = .ok (.aload_n 0, 1) := by decide +kernel
theorem dX11_figure_25 : decode cX11_figure 25 = .ok (.getfield 16, 3) := by decide +kernel
theorem dX11_figure_28 : decode cX11_figure 28 = .ok (.iload_n 1, 1) := by decide +kernel
theorem dX11_figure_29 : decode cX11_figure 29 = .ok (.aload_n 0, 1) := by decide +kernel
theorem dX11_figure_30 : decode cX11_figure 30 = .ok (.getfield 132, 3) := by decide +kernel
theorem dX11_figure_33 : decode cX11_figure 33 = .ok (.iastore, 1) := by decide +kernel
theorem dX11_figure_34 : decode cX11_figure 34 = .ok (.aload_n 0, 1) := by decide +kernel
theorem dX11_figure_35 : decode cX11_figure 35 = .ok (.invokevirtual 193, 3) := by decide +kernel
theorem dX11_figure_38 : decode cX11_figure 38 = .ok (.iconst 0, 1) := by decide +kernel
theorem dX11_figure_39 : decode cX11_figure 39 = .ok (.ireturn, 1) := by decide +kernel
theorem dX11_worded_0 : decode cX11_worded 0 = .ok (.aload_n 0, 1) := by decide +kernel
theorem dX11_worded_1 : decode cX11_worded 1 = .ok (.lload_n 1, 1) := by decide +kernel
theorem dX11_worded_2 : decode cX11_worded 2 = .ok (.invokevirtual 215, 3) := by decide +kernel
theorem dX11_worded_5 : decode cX11_worded 5 = .ok (.ifCond .ne 5, 3) := by decide +kernel
theorem dX11_worded_8 : decode cX11_worded 8 = .ok (.iconst 1, 1) := by decide +kernel
theorem dX11_worded_9 : decode cX11_worded 9 = .ok (.ireturn, 1) := by decide +kernel
theorem dX11_worded_10 : decode cX11_worded 10 = .ok (.aload_n 0, 1) := by decide +kernel
theorem dX11_worded_11 : decode cX11_worded 11 = .ok (.invokevirtual 193, 3) := by decide +kernel
theorem dX11_worded_14 : decode cX11_worded 14 = .ok (.aload_n 0, 1) := by decide +kernel
theorem dX11_worded_15 : decode cX11_worded 15 = .ok (.iload_n 3, 1) := by decide +kernel
theorem dX11_worded_16 : decode cX11_worded 16 = .ok (.iconst 0, 1) := by decide +kernel
theorem dX11_worded_17 : decode cX11_worded 17 = .ok (.iload 4, 2) := by decide +kernel
theorem dX11_worded_19 : decode cX11_worded 19 = .ok (.invokevirtual 241, 3) := by decide +kernel
theorem dX11_worded_22 : decode cX11_worded 22 = .ok (.ireturn, 1) := by decide +kernel
theorem dX11_lawClause_0 : decode cX11_lawClause 0 = .ok (.aload_n 0, 1) := by decide +kernel
theorem dX11_lawClause_1 : decode cX11_lawClause 1 = .ok (.getfield 16, 3) := by decide +kernel
theorem dX11_lawClause_4 : decode cX11_lawClause 4 = .ok (.iload_n 1, 1) := by decide +kernel
theorem dX11_lawClause_5 : decode cX11_lawClause 5 = .ok (.iconst 1, 1) := by decide +kernel
theorem dX11_lawClause_6 : decode cX11_lawClause 6 = .ok (.iadd, 1) := by decide +kernel
theorem dX11_lawClause_7 : decode cX11_lawClause 7 = .ok (.aload_n 0, 1) := by decide +kernel
theorem dX11_lawClause_8 : decode cX11_lawClause 8 = .ok (.getfield 167, 3) := by decide +kernel
theorem dX11_lawClause_11 : decode cX11_lawClause 11 = .ok (.iastore, 1) := by decide +kernel
theorem dX11_lawClause_12 : decode cX11_lawClause 12 = .ok (.aload_n 0, 1) := by decide +kernel
theorem dX11_lawClause_13 : decode cX11_lawClause 13 = .ok (.invokevirtual 245, 3) := by decide +kernel
theorem dX11_lawClause_16 : decode cX11_lawClause 16 = .ok (.istore_n 2, 1) := by decide +kernel
theorem dX11_lawClause_17 : decode cX11_lawClause 17 = .ok (.aload_n 0, 1) := by decide +kernel
theorem dX11_lawClause_18 : decode cX11_lawClause 18 = .ok (.getfield 16, 3) := by decide +kernel
theorem dX11_lawClause_21 : decode cX11_lawClause 21 = .ok (.iload_n 1, 1) := by decide +kernel
theorem dX11_lawClause_22 : decode cX11_lawClause 22 = .ok (.iconst 2, 1) := by decide +kernel
theorem dX11_lawClause_23 : decode cX11_lawClause 23 = .ok (.iadd, 1) := by decide +kernel
theorem dX11_lawClause_24 : decode cX11_lawClause 24 = .ok (.aload_n 0, 1) := by decide +kernel
theorem dX11_lawClause_25 : decode cX11_lawClause 25 = .ok (.getfield 167, 3) := by decide +kernel
theorem dX11_lawClause_28 : decode cX11_lawClause 28 = .ok (.iastore, 1) := by decide +kernel
theorem dX11_lawClause_29 : decode cX11_lawClause 29 = .ok (.iload_n 2, 1) := by decide +kernel
theorem dX11_lawClause_30 : decode cX11_lawClause 30 = .ok (.ireturn, 1) := by decide +kernel
theorem dX11_pair_0 : decode cX11_pair 0 = .ok (.aload_n 0, 1) := by decide +kernel
theorem dX11_pair_1 : decode cX11_pair 1 = .ok (.iload_n 1, 1) := by decide +kernel
theorem dX11_pair_2 : decode cX11_pair 2 = .ok (.iconst 1, 1) := by decide +kernel
theorem dX11_pair_3 : decode cX11_pair 3 = .ok (.iadd, 1) := by decide +kernel
theorem dX11_pair_4 : decode cX11_pair 4 = .ok (.iconst 0, 1) := by decide +kernel
theorem dX11_pair_5 : decode cX11_pair 5 = .ok (.iload_n 2, 1) := by decide +kernel
theorem dX11_pair_6 : decode cX11_pair 6 = .ok (.invokevirtual 241, 3) := by decide +kernel
theorem dX11_pair_9 : decode cX11_pair 9 = .ok (.istore 6, 2) := by decide +kernel
theorem dX11_pair_11 : decode cX11_pair 11 = .ok (.iload 6, 2) := by decide +kernel
theorem dX11_pair_13 : decode cX11_pair 13 = .ok (.ifCond .eq 8, 3) := by decide +kernel
theorem dX11_pair_16 : decode cX11_pair 16 = .ok (.iload 6, 2) := by decide +kernel
theorem dX11_pair_18 : decode cX11_pair 18 = .ok (.goto 13, 3) := by decide +kernel
theorem dX11_pair_21 : decode cX11_pair 21 = .ok (.aload_n 0, 1) := by decide +kernel
theorem dX11_pair_22 : decode cX11_pair 22 = .ok (.lload_n 3, 1) := by decide +kernel
theorem dX11_pair_23 : decode cX11_pair 23 = .ok (.iload_n 1, 1) := by decide +kernel
theorem dX11_pair_24 : decode cX11_pair 24 = .ok (.iconst 2, 1) := by decide +kernel
theorem dX11_pair_25 : decode cX11_pair 25 = .ok (.iadd, 1) := by decide +kernel
theorem dX11_pair_26 : decode cX11_pair 26 = .ok (.iload 5, 2) := by decide +kernel
theorem dX11_pair_28 : decode cX11_pair 28 = .ok (.invokevirtual 248, 3) := by decide +kernel
theorem dX11_pair_31 : decode cX11_pair 31 = .ok (.ireturn, 1) := by decide +kernel
theorem dX11_body_0 : decode cX11_body 0 = .ok (.iload_n 1, 1) := by decide +kernel
theorem dX11_body_1 : decode cX11_body 1 = .ok (.tableswitch 152 3 9 #[43, 64, 81, 98, 115, 131, 141], 43) := by decide +kernel
theorem dX11_body_44 : decode cX11_body 44 = .ok (.aload_n 0, 1) := by decide +kernel
theorem dX11_body_45 : decode cX11_body 45 = .ok (.iload_n 2, 1) := by decide +kernel
theorem dX11_body_46 : decode cX11_body 46 = .ok (.bipush 9, 2) := by decide +kernel
theorem dX11_body_48 : decode cX11_body 48 = .ok (.bipush 119, 2) := by decide +kernel
theorem dX11_body_50 : decode cX11_body 50 = .ok (.bipush 101, 2) := by decide +kernel
theorem dX11_body_52 : decode cX11_body 52 = .ok (.bipush 97, 2) := by decide +kernel
theorem dX11_body_54 : decode cX11_body 54 = .ok (.bipush 114, 2) := by decide +kernel
theorem dX11_body_56 : decode cX11_body 56 = .ok (.invokestatic 156, 3) := by decide +kernel
theorem dX11_body_59 : decode cX11_body 59 = .ok (.bipush 99, 2) := by decide +kernel
theorem dX11_body_61 : decode cX11_body 61 = .ok (.invokevirtual 252, 3) := by decide +kernel
theorem dX11_body_64 : decode cX11_body 64 = .ok (.ireturn, 1) := by decide +kernel
theorem dX11_body_65 : decode cX11_body 65 = .ok (.aload_n 0, 1) := by decide +kernel
theorem dX11_body_66 : decode cX11_body 66 = .ok (.iload_n 2, 1) := by decide +kernel
theorem dX11_body_67 : decode cX11_body 67 = .ok (.bipush 9, 2) := by decide +kernel
theorem dX11_body_69 : decode cX11_body 69 = .ok (.bipush 116, 2) := by decide +kernel
theorem dX11_body_71 : decode cX11_body 71 = .ok (.bipush 111, 2) := by decide +kernel
theorem dX11_body_73 : decode cX11_body 73 = .ok (.invokestatic 148, 3) := by decide +kernel
theorem dX11_body_76 : decode cX11_body 76 = .ok (.bipush 110, 2) := by decide +kernel
theorem dX11_body_78 : decode cX11_body 78 = .ok (.invokevirtual 252, 3) := by decide +kernel
theorem dX11_body_81 : decode cX11_body 81 = .ok (.ireturn, 1) := by decide +kernel
theorem dX11_body_82 : decode cX11_body 82 = .ok (.aload_n 0, 1) := by decide +kernel
theorem dX11_body_83 : decode cX11_body 83 = .ok (.iload_n 2, 1) := by decide +kernel
theorem dX11_body_84 : decode cX11_body 84 = .ok (.bipush 9, 2) := by decide +kernel
theorem dX11_body_86 : decode cX11_body 86 = .ok (.bipush 116, 2) := by decide +kernel
theorem dX11_body_88 : decode cX11_body 88 = .ok (.bipush 111, 2) := by decide +kernel
theorem dX11_body_90 : decode cX11_body 90 = .ok (.invokestatic 148, 3) := by decide +kernel
theorem dX11_body_93 : decode cX11_body 93 = .ok (.bipush 110, 2) := by decide +kernel
theorem dX11_body_95 : decode cX11_body 95 = .ok (.invokevirtual 252, 3) := by decide +kernel
theorem dX11_body_98 : decode cX11_body 98 = .ok (.ireturn, 1) := by decide +kernel
theorem dX11_body_99 : decode cX11_body 99 = .ok (.aload_n 0, 1) := by decide +kernel
theorem dX11_body_100 : decode cX11_body 100 = .ok (.iload_n 2, 1) := by decide +kernel
theorem dX11_body_101 : decode cX11_body 101 = .ok (.sipush 9999, 3) := by decide +kernel
theorem dX11_body_104 : decode cX11_body 104 = .ok (.bipush 98, 2) := by decide +kernel
theorem dX11_body_106 : decode cX11_body 106 = .ok (.bipush 121, 2) := by decide +kernel
theorem dX11_body_108 : decode cX11_body 108 = .ok (.invokestatic 148, 3) := by decide +kernel
theorem dX11_body_111 : decode cX11_body 111 = .ok (.iconst 4, 1) := by decide +kernel
theorem dX11_body_112 : decode cX11_body 112 = .ok (.invokevirtual 252, 3) := by decide +kernel
theorem dX11_body_115 : decode cX11_body 115 = .ok (.ireturn, 1) := by decide +kernel
theorem dX11_body_116 : decode cX11_body 116 = .ok (.aload_n 0, 1) := by decide +kernel
theorem dX11_body_117 : decode cX11_body 117 = .ok (.iload_n 2, 1) := by decide +kernel
theorem dX11_body_118 : decode cX11_body 118 = .ok (.iconst 4, 1) := by decide +kernel
theorem dX11_body_119 : decode cX11_body 119 = .ok (.bipush 98, 2) := by decide +kernel
theorem dX11_body_121 : decode cX11_body 121 = .ok (.bipush 121, 2) := by decide +kernel
theorem dX11_body_123 : decode cX11_body 123 = .ok (.invokestatic 148, 3) := by decide +kernel
theorem dX11_body_126 : decode cX11_body 126 = .ok (.bipush 9, 2) := by decide +kernel
theorem dX11_body_128 : decode cX11_body 128 = .ok (.invokevirtual 252, 3) := by decide +kernel
theorem dX11_body_131 : decode cX11_body 131 = .ok (.ireturn, 1) := by decide +kernel
theorem dX11_body_132 : decode cX11_body 132 = .ok (.aload_n 0, 1) := by decide +kernel
theorem dX11_body_133 : decode cX11_body 133 = .ok (.iload_n 2, 1) := by decide +kernel
theorem dX11_body_134 : decode cX11_body 134 = .ok (.iconst 1, 1) := by decide +kernel
theorem dX11_body_135 : decode cX11_body 135 = .ok (.iadd, 1) := by decide +kernel
theorem dX11_body_136 : decode cX11_body 136 = .ok (.iconst 0, 1) := by decide +kernel
theorem dX11_body_137 : decode cX11_body 137 = .ok (.iconst 4, 1) := by decide +kernel
theorem dX11_body_138 : decode cX11_body 138 = .ok (.invokevirtual 241, 3) := by decide +kernel
theorem dX11_body_141 : decode cX11_body 141 = .ok (.ireturn, 1) := by decide +kernel
theorem dX11_body_142 : decode cX11_body 142 = .ok (.aload_n 0, 1) := by decide +kernel
theorem dX11_body_143 : decode cX11_body 143 = .ok (.iload_n 2, 1) := by decide +kernel
theorem dX11_body_144 : decode cX11_body 144 = .ok (.iconst 1, 1) := by decide +kernel
theorem dX11_body_145 : decode cX11_body 145 = .ok (.iadd, 1) := by decide +kernel
theorem dX11_body_146 : decode cX11_body 146 = .ok (.iconst 1, 1) := by decide +kernel
theorem dX11_body_147 : decode cX11_body 147 = .ok (.bipush 60, 2) := by decide +kernel
theorem dX11_body_149 : decode cX11_body 149 = .ok (.invokevirtual 241, 3) := by decide +kernel
theorem dX11_body_152 : decode cX11_body 152 = .ok (.ireturn, 1) := by decide +kernel
theorem dX11_body_153 : decode cX11_body 153 = .ok (.aload_n 0, 1) := by decide +kernel
theorem dX11_body_154 : decode cX11_body 154 = .ok (.iload_n 2, 1) := by decide +kernel
theorem dX11_body_155 : decode cX11_body 155 = .ok (.invokevirtual 256, 3) := by decide +kernel
theorem dX11_body_158 : decode cX11_body 158 = .ok (.ireturn, 1) := by decide +kernel
theorem dX11_sortOf_0 : decode cX11_sortOf 0 = .ok (.aload_n 0, 1) := by decide +kernel
theorem dX11_sortOf_1 : decode cX11_sortOf 1 = .ok (.bipush 108, 2) := by decide +kernel
theorem dX11_sortOf_3 : decode cX11_sortOf 3 = .ok (.bipush 111, 2) := by decide +kernel
theorem dX11_sortOf_5 : decode cX11_sortOf 5 = .ok (.bipush 111, 2) := by decide +kernel
theorem dX11_sortOf_7 : decode cX11_sortOf 7 = .ok (.bipush 115, 2) := by decide +kernel
theorem dX11_sortOf_9 : decode cX11_sortOf 9 = .ok (.bipush 101, 2) := by decide +kernel
theorem dX11_sortOf_11 : decode cX11_sortOf 11 = .ok (.invokestatic 160, 3) := by decide +kernel
theorem dX11_sortOf_14 : decode cX11_sortOf 14 = .ok (.invokevirtual 215, 3) := by decide +kernel
theorem dX11_sortOf_17 : decode cX11_sortOf 17 = .ok (.ifCond .eq 5, 3) := by decide +kernel
theorem dX11_sortOf_20 : decode cX11_sortOf 20 = .ok (.iconst 0, 1) := by decide +kernel
theorem dX11_sortOf_21 : decode cX11_sortOf 21 = .ok (.ireturn, 1) := by decide +kernel
theorem dX11_sortOf_22 : decode cX11_sortOf 22 = .ok (.aload_n 0, 1) := by decide +kernel
theorem dX11_sortOf_23 : decode cX11_sortOf 23 = .ok (.bipush 98, 2) := by decide +kernel
theorem dX11_sortOf_25 : decode cX11_sortOf 25 = .ok (.bipush 101, 2) := by decide +kernel
theorem dX11_sortOf_27 : decode cX11_sortOf 27 = .ok (.bipush 108, 2) := by decide +kernel
theorem dX11_sortOf_29 : decode cX11_sortOf 29 = .ok (.bipush 105, 2) := by decide +kernel
theorem dX11_sortOf_31 : decode cX11_sortOf 31 = .ok (.invokestatic 156, 3) := by decide +kernel
theorem dX11_sortOf_34 : decode cX11_sortOf 34 = .ok (.bipush 101, 2) := by decide +kernel
theorem dX11_sortOf_36 : decode cX11_sortOf 36 = .ok (.bipush 118, 2) := by decide +kernel
theorem dX11_sortOf_38 : decode cX11_sortOf 38 = .ok (.bipush 101, 2) := by decide +kernel
theorem dX11_sortOf_40 : decode cX11_sortOf 40 = .ok (.bipush 115, 2) := by decide +kernel
theorem dX11_sortOf_42 : decode cX11_sortOf 42 = .ok (.invokestatic 156, 3) := by decide +kernel
theorem dX11_sortOf_45 : decode cX11_sortOf 45 = .ok (.bipush 8, 2) := by decide +kernel
theorem dX11_sortOf_47 : decode cX11_sortOf 47 = .ok (.invokevirtual 259, 3) := by decide +kernel
theorem dX11_sortOf_50 : decode cX11_sortOf 50 = .ok (.ifCond .eq 5, 3) := by decide +kernel
theorem dX11_sortOf_53 : decode cX11_sortOf 53 = .ok (.iconst 1, 1) := by decide +kernel
theorem dX11_sortOf_54 : decode cX11_sortOf 54 = .ok (.ireturn, 1) := by decide +kernel
theorem dX11_sortOf_55 : decode cX11_sortOf 55 = .ok (.aload_n 0, 1) := by decide +kernel
theorem dX11_sortOf_56 : decode cX11_sortOf 56 = .ok (.bipush 119, 2) := by decide +kernel
theorem dX11_sortOf_58 : decode cX11_sortOf 58 = .ok (.bipush 101, 2) := by decide +kernel
theorem dX11_sortOf_60 : decode cX11_sortOf 60 = .ok (.bipush 97, 2) := by decide +kernel
theorem dX11_sortOf_62 : decode cX11_sortOf 62 = .ok (.bipush 114, 2) := by decide +kernel
theorem dX11_sortOf_64 : decode cX11_sortOf 64 = .ok (.bipush 115, 2) := by decide +kernel
theorem dX11_sortOf_66 : decode cX11_sortOf 66 = .ok (.invokestatic 160, 3) := by decide +kernel
theorem dX11_sortOf_69 : decode cX11_sortOf 69 = .ok (.invokevirtual 215, 3) := by decide +kernel
theorem dX11_sortOf_72 : decode cX11_sortOf 72 = .ok (.ifCond .eq 5, 3) := by decide +kernel
theorem dX11_sortOf_75 : decode cX11_sortOf 75 = .ok (.iconst 2, 1) := by decide +kernel
theorem dX11_sortOf_76 : decode cX11_sortOf 76 = .ok (.ireturn, 1) := by decide +kernel
theorem dX11_sortOf_77 : decode cX11_sortOf 77 = .ok (.aload_n 0, 1) := by decide +kernel
theorem dX11_sortOf_78 : decode cX11_sortOf 78 = .ok (.bipush 109, 2) := by decide +kernel
theorem dX11_sortOf_80 : decode cX11_sortOf 80 = .ok (.bipush 97, 2) := by decide +kernel
theorem dX11_sortOf_82 : decode cX11_sortOf 82 = .ok (.bipush 99, 2) := by decide +kernel
theorem dX11_sortOf_84 : decode cX11_sortOf 84 = .ok (.bipush 104, 2) := by decide +kernel
theorem dX11_sortOf_86 : decode cX11_sortOf 86 = .ok (.invokestatic 156, 3) := by decide +kernel
theorem dX11_sortOf_89 : decode cX11_sortOf 89 = .ok (.bipush 105, 2) := by decide +kernel
theorem dX11_sortOf_91 : decode cX11_sortOf 91 = .ok (.bipush 110, 2) := by decide +kernel
theorem dX11_sortOf_93 : decode cX11_sortOf 93 = .ok (.bipush 101, 2) := by decide +kernel
theorem dX11_sortOf_95 : decode cX11_sortOf 95 = .ok (.invokestatic 152, 3) := by decide +kernel
theorem dX11_sortOf_98 : decode cX11_sortOf 98 = .ok (.bipush 7, 2) := by decide +kernel
theorem dX11_sortOf_100 : decode cX11_sortOf 100 = .ok (.invokevirtual 259, 3) := by decide +kernel
theorem dX11_sortOf_103 : decode cX11_sortOf 103 = .ok (.ifCond .eq 5, 3) := by decide +kernel
theorem dX11_sortOf_106 : decode cX11_sortOf 106 = .ok (.iconst 3, 1) := by decide +kernel
theorem dX11_sortOf_107 : decode cX11_sortOf 107 = .ok (.ireturn, 1) := by decide +kernel
theorem dX11_sortOf_108 : decode cX11_sortOf 108 = .ok (.aload_n 0, 1) := by decide +kernel
theorem dX11_sortOf_109 : decode cX11_sortOf 109 = .ok (.bipush 115, 2) := by decide +kernel
theorem dX11_sortOf_111 : decode cX11_sortOf 111 = .ok (.bipush 116, 2) := by decide +kernel
theorem dX11_sortOf_113 : decode cX11_sortOf 113 = .ok (.bipush 114, 2) := by decide +kernel
theorem dX11_sortOf_115 : decode cX11_sortOf 115 = .ok (.bipush 105, 2) := by decide +kernel
theorem dX11_sortOf_117 : decode cX11_sortOf 117 = .ok (.bipush 99, 2) := by decide +kernel
theorem dX11_sortOf_119 : decode cX11_sortOf 119 = .ok (.bipush 116, 2) := by decide +kernel
theorem dX11_sortOf_121 : decode cX11_sortOf 121 = .ok (.invokestatic 211, 3) := by decide +kernel
theorem dX11_sortOf_124 : decode cX11_sortOf 124 = .ok (.invokevirtual 215, 3) := by decide +kernel
theorem dX11_sortOf_127 : decode cX11_sortOf 127 = .ok (.ifCond .eq 5, 3) := by decide +kernel
theorem dX11_sortOf_130 : decode cX11_sortOf 130 = .ok (.iconst 4, 1) := by decide +kernel
theorem dX11_sortOf_131 : decode cX11_sortOf 131 = .ok (.ireturn, 1) := by decide +kernel
theorem dX11_sortOf_132 : decode cX11_sortOf 132 = .ok (.aload_n 0, 1) := by decide +kernel
theorem dX11_sortOf_133 : decode cX11_sortOf 133 = .ok (.bipush 115, 2) := by decide +kernel
theorem dX11_sortOf_135 : decode cX11_sortOf 135 = .ok (.bipush 108, 2) := by decide +kernel
theorem dX11_sortOf_137 : decode cX11_sortOf 137 = .ok (.bipush 97, 2) := by decide +kernel
theorem dX11_sortOf_139 : decode cX11_sortOf 139 = .ok (.bipush 99, 2) := by decide +kernel
theorem dX11_sortOf_141 : decode cX11_sortOf 141 = .ok (.bipush 107, 2) := by decide +kernel
theorem dX11_sortOf_143 : decode cX11_sortOf 143 = .ok (.invokestatic 160, 3) := by decide +kernel
theorem dX11_sortOf_146 : decode cX11_sortOf 146 = .ok (.invokevirtual 215, 3) := by decide +kernel
theorem dX11_sortOf_149 : decode cX11_sortOf 149 = .ok (.ifCond .eq 5, 3) := by decide +kernel
theorem dX11_sortOf_152 : decode cX11_sortOf 152 = .ok (.iconst 5, 1) := by decide +kernel
theorem dX11_sortOf_153 : decode cX11_sortOf 153 = .ok (.ireturn, 1) := by decide +kernel
theorem dX11_sortOf_154 : decode cX11_sortOf 154 = .ok (.aload_n 0, 1) := by decide +kernel
theorem dX11_sortOf_155 : decode cX11_sortOf 155 = .ok (.bipush 99, 2) := by decide +kernel
theorem dX11_sortOf_157 : decode cX11_sortOf 157 = .ok (.bipush 114, 2) := by decide +kernel
theorem dX11_sortOf_159 : decode cX11_sortOf 159 = .ok (.bipush 97, 2) := by decide +kernel
theorem dX11_sortOf_161 : decode cX11_sortOf 161 = .ok (.bipush 110, 2) := by decide +kernel
theorem dX11_sortOf_163 : decode cX11_sortOf 163 = .ok (.bipush 107, 2) := by decide +kernel
theorem dX11_sortOf_165 : decode cX11_sortOf 165 = .ok (.invokestatic 160, 3) := by decide +kernel
theorem dX11_sortOf_168 : decode cX11_sortOf 168 = .ok (.invokevirtual 215, 3) := by decide +kernel
theorem dX11_sortOf_171 : decode cX11_sortOf 171 = .ok (.ifCond .eq 6, 3) := by decide +kernel
theorem dX11_sortOf_174 : decode cX11_sortOf 174 = .ok (.bipush 6, 2) := by decide +kernel
theorem dX11_sortOf_176 : decode cX11_sortOf 176 = .ok (.ireturn, 1) := by decide +kernel
theorem dX11_sortOf_177 : decode cX11_sortOf 177 = .ok (.aload_n 0, 1) := by decide +kernel
theorem dX11_sortOf_178 : decode cX11_sortOf 178 = .ok (.bipush 111, 2) := by decide +kernel
theorem dX11_sortOf_180 : decode cX11_sortOf 180 = .ok (.bipush 105, 2) := by decide +kernel
theorem dX11_sortOf_182 : decode cX11_sortOf 182 = .ok (.bipush 108, 2) := by decide +kernel
theorem dX11_sortOf_184 : decode cX11_sortOf 184 = .ok (.invokestatic 152, 3) := by decide +kernel
theorem dX11_sortOf_187 : decode cX11_sortOf 187 = .ok (.invokevirtual 215, 3) := by decide +kernel
theorem dX11_sortOf_190 : decode cX11_sortOf 190 = .ok (.ifCond .eq 6, 3) := by decide +kernel
theorem dX11_sortOf_193 : decode cX11_sortOf 193 = .ok (.bipush 7, 2) := by decide +kernel
theorem dX11_sortOf_195 : decode cX11_sortOf 195 = .ok (.ireturn, 1) := by decide +kernel
theorem dX11_sortOf_196 : decode cX11_sortOf 196 = .ok (.aload_n 0, 1) := by decide +kernel
theorem dX11_sortOf_197 : decode cX11_sortOf 197 = .ok (.bipush 108, 2) := by decide +kernel
theorem dX11_sortOf_199 : decode cX11_sortOf 199 = .ok (.bipush 105, 2) := by decide +kernel
theorem dX11_sortOf_201 : decode cX11_sortOf 201 = .ok (.bipush 102, 2) := by decide +kernel
theorem dX11_sortOf_203 : decode cX11_sortOf 203 = .ok (.bipush 116, 2) := by decide +kernel
theorem dX11_sortOf_205 : decode cX11_sortOf 205 = .ok (.invokestatic 156, 3) := by decide +kernel
theorem dX11_sortOf_208 : decode cX11_sortOf 208 = .ok (.invokevirtual 215, 3) := by decide +kernel
theorem dX11_sortOf_211 : decode cX11_sortOf 211 = .ok (.ifCond .eq 8, 3) := by decide +kernel
theorem dX11_sortOf_214 : decode cX11_sortOf 214 = .ok (.bipush 8, 2) := by decide +kernel
theorem dX11_sortOf_216 : decode cX11_sortOf 216 = .ok (.goto 29, 3) := by decide +kernel
theorem dX11_sortOf_219 : decode cX11_sortOf 219 = .ok (.aload_n 0, 1) := by decide +kernel
theorem dX11_sortOf_220 : decode cX11_sortOf 220 = .ok (.bipush 110, 2) := by decide +kernel
theorem dX11_sortOf_222 : decode cX11_sortOf 222 = .ok (.bipush 105, 2) := by decide +kernel
theorem dX11_sortOf_224 : decode cX11_sortOf 224 = .ok (.bipush 103, 2) := by decide +kernel
theorem dX11_sortOf_226 : decode cX11_sortOf 226 = .ok (.bipush 104, 2) := by decide +kernel
theorem dX11_sortOf_228 : decode cX11_sortOf 228 = .ok (.bipush 116, 2) := by decide +kernel
theorem dX11_sortOf_230 : decode cX11_sortOf 230 = .ok (.invokestatic 160, 3) := by decide +kernel
theorem dX11_sortOf_233 : decode cX11_sortOf 233 = .ok (.invokevirtual 215, 3) := by decide +kernel
theorem dX11_sortOf_236 : decode cX11_sortOf 236 = .ok (.ifCond .eq 8, 3) := by decide +kernel
theorem dX11_sortOf_239 : decode cX11_sortOf 239 = .ok (.bipush 9, 2) := by decide +kernel
theorem dX11_sortOf_241 : decode cX11_sortOf 241 = .ok (.goto 4, 3) := by decide +kernel
theorem dX11_sortOf_244 : decode cX11_sortOf 244 = .ok (.iconst (-1), 1) := by decide +kernel
theorem dX11_sortOf_245 : decode cX11_sortOf 245 = .ok (.ireturn, 1) := by decide +kernel
theorem dX11_clause_0 : decode cX11_clause 0 = .ok (.aload_n 0, 1) := by decide +kernel
theorem dX11_clause_1 : decode cX11_clause 1 = .ok (.invokevirtual 263, 3) := by decide +kernel
theorem dX11_clause_4 : decode cX11_clause 4 = .ok (.istore_n 1, 1) := by decide +kernel
theorem dX11_clause_5 : decode cX11_clause 5 = .ok (.iload_n 1, 1) := by decide +kernel
theorem dX11_clause_6 : decode cX11_clause 6 = .ok (.ifCond .ge 5, 3) := by decide +kernel
theorem dX11_clause_9 : decode cX11_clause 9 = .ok (.iconst 1, 1) := by decide +kernel
theorem dX11_clause_10 : decode cX11_clause 10 = .ok (.ireturn, 1) := by decide +kernel
theorem dX11_clause_11 : decode cX11_clause 11 = .ok (.iload_n 1, 1) := by decide +kernel
theorem dX11_clause_12 : decode cX11_clause 12 = .ok (.iconst 2, 1) := by decide +kernel
theorem dX11_clause_13 : decode cX11_clause 13 = .ok (.if_icmp .gt 16, 3) := by decide +kernel
theorem dX11_clause_16 : decode cX11_clause 16 = .ok (.aload_n 0, 1) := by decide +kernel
theorem dX11_clause_17 : decode cX11_clause 17 = .ok (.getfield 266, 3) := by decide +kernel
theorem dX11_clause_20 : decode cX11_clause 20 = .ok (.iload_n 1, 1) := by decide +kernel
theorem dX11_clause_21 : decode cX11_clause 21 = .ok (.invokestatic 269, 3) := by decide +kernel
theorem dX11_clause_24 : decode cX11_clause 24 = .ok (.ifCond .eq 5, 3) := by decide +kernel
theorem dX11_clause_27 : decode cX11_clause 27 = .ok (.iconst 4, 1) := by decide +kernel
theorem dX11_clause_28 : decode cX11_clause 28 = .ok (.ireturn, 1) := by decide +kernel
theorem dX11_clause_29 : decode cX11_clause 29 = .ok (.aload_n 0, 1) := by decide +kernel
theorem dX11_clause_30 : decode cX11_clause 30 = .ok (.getfield 16, 3) := by decide +kernel
theorem dX11_clause_33 : decode cX11_clause 33 = .ok (.aload_n 0, 1) := by decide +kernel
theorem dX11_clause_34 : decode cX11_clause 34 = .ok (.getfield 164, 3) := by decide +kernel
theorem dX11_clause_37 : decode cX11_clause 37 = .ok (.iaload, 1) := by decide +kernel
theorem dX11_clause_38 : decode cX11_clause 38 = .ok (.istore_n 2, 1) := by decide +kernel
theorem dX11_clause_39 : decode cX11_clause 39 = .ok (.iload_n 2, 1) := by decide +kernel
theorem dX11_clause_40 : decode cX11_clause 40 = .ok (.bipush 24, 2) := by decide +kernel
theorem dX11_clause_42 : decode cX11_clause 42 = .ok (.if_icmp .ne 6, 3) := by decide +kernel
theorem dX11_clause_45 : decode cX11_clause 45 = .ok (.bipush 6, 2) := by decide +kernel
theorem dX11_clause_47 : decode cX11_clause 47 = .ok (.ireturn, 1) := by decide +kernel
theorem dX11_clause_48 : decode cX11_clause 48 = .ok (.iload_n 1, 1) := by decide +kernel
theorem dX11_clause_49 : decode cX11_clause 49 = .ok (.iconst 2, 1) := by decide +kernel
theorem dX11_clause_50 : decode cX11_clause 50 = .ok (.if_icmp .gt 15, 3) := by decide +kernel
theorem dX11_clause_53 : decode cX11_clause 53 = .ok (.aload_n 0, 1) := by decide +kernel
theorem dX11_clause_54 : decode cX11_clause 54 = .ok (.dup, 1) := by decide +kernel
theorem dX11_clause_55 : decode cX11_clause 55 = .ok (.getfield 266, 3) := by decide +kernel
theorem dX11_clause_58 : decode cX11_clause 58 = .ok (.iconst 1, 1) := by decide +kernel
theorem dX11_clause_59 : decode cX11_clause 59 = .ok (.iload_n 1, 1) := by decide +kernel
theorem dX11_clause_60 : decode cX11_clause 60 = .ok (.ishl, 1) := by decide +kernel
theorem dX11_clause_61 : decode cX11_clause 61 = .ok (.ior, 1) := by decide +kernel
theorem dX11_clause_62 : decode cX11_clause 62 = .ok (.putfield 266, 3) := by decide +kernel
theorem dX11_clause_65 : decode cX11_clause 65 = .ok (.aload_n 0, 1) := by decide +kernel
theorem dX11_clause_66 : decode cX11_clause 66 = .ok (.iload_n 1, 1) := by decide +kernel
theorem dX11_clause_67 : decode cX11_clause 67 = .ok (.putfield 170, 3) := by decide +kernel
theorem dX11_clause_70 : decode cX11_clause 70 = .ok (.aload_n 0, 1) := by decide +kernel
theorem dX11_clause_71 : decode cX11_clause 71 = .ok (.invokevirtual 193, 3) := by decide +kernel
theorem dX11_clause_74 : decode cX11_clause 74 = .ok (.aload_n 0, 1) := by decide +kernel
theorem dX11_clause_75 : decode cX11_clause 75 = .ok (.getfield 164, 3) := by decide +kernel
theorem dX11_clause_78 : decode cX11_clause 78 = .ok (.iconst 1, 1) := by decide +kernel
theorem dX11_clause_79 : decode cX11_clause 79 = .ok (.iadd, 1) := by decide +kernel
theorem dX11_clause_80 : decode cX11_clause 80 = .ok (.iconst 4, 1) := by decide +kernel
theorem dX11_clause_81 : decode cX11_clause 81 = .ok (.iload_n 2, 1) := by decide +kernel
theorem dX11_clause_82 : decode cX11_clause 82 = .ok (.imul, 1) := by decide +kernel
theorem dX11_clause_83 : decode cX11_clause 83 = .ok (.iadd, 1) := by decide +kernel
theorem dX11_clause_84 : decode cX11_clause 84 = .ok (.istore_n 3, 1) := by decide +kernel
theorem dX11_clause_85 : decode cX11_clause 85 = .ok (.aload_n 0, 1) := by decide +kernel
theorem dX11_clause_86 : decode cX11_clause 86 = .ok (.getfield 16, 3) := by decide +kernel
theorem dX11_clause_89 : decode cX11_clause 89 = .ok (.iload_n 3, 1) := by decide +kernel
theorem dX11_clause_90 : decode cX11_clause 90 = .ok (.iload_n 1, 1) := by decide +kernel
theorem dX11_clause_91 : decode cX11_clause 91 = .ok (.iastore, 1) := by decide +kernel
theorem dX11_clause_92 : decode cX11_clause 92 = .ok (.aload_n 0, 1) := by decide +kernel
theorem dX11_clause_93 : decode cX11_clause 93 = .ok (.iload_n 1, 1) := by decide +kernel
theorem dX11_clause_94 : decode cX11_clause 94 = .ok (.iload_n 3, 1) := by decide +kernel
theorem dX11_clause_95 : decode cX11_clause 95 = .ok (.invokevirtual 273, 3) := by decide +kernel
theorem dX11_clause_98 : decode cX11_clause 98 = .ok (.istore 4, 2) := by decide +kernel
theorem dX11_clause_100 : decode cX11_clause 100 = .ok (.iload 4, 2) := by decide +kernel
theorem dX11_clause_102 : decode cX11_clause 102 = .ok (.ifCond .eq 6, 3) := by decide +kernel
theorem dX11_clause_105 : decode cX11_clause 105 = .ok (.iload 4, 2) := by decide +kernel
theorem dX11_clause_107 : decode cX11_clause 107 = .ok (.ireturn, 1) := by decide +kernel
theorem dX11_clause_108 : decode cX11_clause 108 = .ok (.aload_n 0, 1) := by decide +kernel
theorem dX11_clause_109 : decode cX11_clause 109 = .ok (.getfield 16, 3) := by decide +kernel
theorem dX11_clause_112 : decode cX11_clause 112 = .ok (.aload_n 0, 1) := by decide +kernel
theorem dX11_clause_113 : decode cX11_clause 113 = .ok (.getfield 164, 3) := by decide +kernel
theorem dX11_clause_116 : decode cX11_clause 116 = .ok (.dup2, 1) := by decide +kernel
theorem dX11_clause_117 : decode cX11_clause 117 = .ok (.iaload, 1) := by decide +kernel
theorem dX11_clause_118 : decode cX11_clause 118 = .ok (.iconst 1, 1) := by decide +kernel
theorem dX11_clause_119 : decode cX11_clause 119 = .ok (.iadd, 1) := by decide +kernel
theorem dX11_clause_120 : decode cX11_clause 120 = .ok (.iastore, 1) := by decide +kernel
theorem dX11_clause_121 : decode cX11_clause 121 = .ok (.aload_n 0, 1) := by decide +kernel
theorem dX11_clause_122 : decode cX11_clause 122 = .ok (.getfield 126, 3) := by decide +kernel
theorem dX11_clause_125 : decode cX11_clause 125 = .ok (.bipush 59, 2) := by decide +kernel
theorem dX11_clause_127 : decode cX11_clause 127 = .ok (.if_icmp .eq 5, 3) := by decide +kernel
theorem dX11_clause_130 : decode cX11_clause 130 = .ok (.iconst 1, 1) := by decide +kernel
theorem dX11_clause_131 : decode cX11_clause 131 = .ok (.ireturn, 1) := by decide +kernel
theorem dX11_clause_132 : decode cX11_clause 132 = .ok (.aload_n 0, 1) := by decide +kernel
theorem dX11_clause_133 : decode cX11_clause 133 = .ok (.invokevirtual 193, 3) := by decide +kernel
theorem dX11_clause_136 : decode cX11_clause 136 = .ok (.iconst 0, 1) := by decide +kernel
theorem dX11_clause_137 : decode cX11_clause 137 = .ok (.ireturn, 1) := by decide +kernel
theorem dX11_readText_0 : decode cX11_readText 0 = .ok (.aload_n 0, 1) := by decide +kernel
theorem dX11_readText_1 : decode cX11_readText 1 = .ok (.sipush 705, 3) := by decide +kernel
theorem dX11_readText_4 : decode cX11_readText 4 = .ok (.aload_n 0, 1) := by decide +kernel
theorem dX11_readText_5 : decode cX11_readText 5 = .ok (.getfield 7, 3) := by decide +kernel
theorem dX11_readText_8 : decode cX11_readText 8 = .ok (.iconst 1, 1) := by decide +kernel
theorem dX11_readText_9 : decode cX11_readText 9 = .ok (.iaload, 1) := by decide +kernel
theorem dX11_readText_10 : decode cX11_readText 10 = .ok (.imul, 1) := by decide +kernel
theorem dX11_readText_11 : decode cX11_readText 11 = .ok (.putfield 164, 3) := by decide +kernel
theorem dX11_readText_14 : decode cX11_readText 14 = .ok (.aload_n 0, 1) := by decide +kernel
theorem dX11_readText_15 : decode cX11_readText 15 = .ok (.getfield 16, 3) := by decide +kernel
theorem dX11_readText_18 : decode cX11_readText 18 = .ok (.aload_n 0, 1) := by decide +kernel
theorem dX11_readText_19 : decode cX11_readText 19 = .ok (.getfield 164, 3) := by decide +kernel
theorem dX11_readText_22 : decode cX11_readText 22 = .ok (.iconst 0, 1) := by decide +kernel
theorem dX11_readText_23 : decode cX11_readText 23 = .ok (.iastore, 1) := by decide +kernel
theorem dX11_readText_24 : decode cX11_readText 24 = .ok (.aload_n 0, 1) := by decide +kernel
theorem dX11_readText_25 : decode cX11_readText 25 = .ok (.iconst 0, 1) := by decide +kernel
theorem dX11_readText_26 : decode cX11_readText 26 = .ok (.putfield 167, 3) := by decide +kernel
theorem dX11_readText_29 : decode cX11_readText 29 = .ok (.aload_n 0, 1) := by decide +kernel
theorem dX11_readText_30 : decode cX11_readText 30 = .ok (.iconst 0, 1) := by decide +kernel
theorem dX11_readText_31 : decode cX11_readText 31 = .ok (.putfield 266, 3) := by decide +kernel
theorem dX11_readText_34 : decode cX11_readText 34 = .ok (.aload_n 0, 1) := by decide +kernel
theorem dX11_readText_35 : decode cX11_readText 35 = .ok (.iconst 0, 1) := by decide +kernel
theorem dX11_readText_36 : decode cX11_readText 36 = .ok (.putfield 117, 3) := by decide +kernel
theorem dX11_readText_39 : decode cX11_readText 39 = .ok (.aload_n 0, 1) := by decide +kernel
theorem dX11_readText_40 : decode cX11_readText 40 = .ok (.invokevirtual 193, 3) := by decide +kernel
theorem dX11_readText_43 : decode cX11_readText 43 = .ok (.aload_n 0, 1) := by decide +kernel
theorem dX11_readText_44 : decode cX11_readText 44 = .ok (.getfield 126, 3) := by decide +kernel
theorem dX11_readText_47 : decode cX11_readText 47 = .ok (.ifCond .eq 17, 3) := by decide +kernel
theorem dX11_readText_50 : decode cX11_readText 50 = .ok (.aload_n 0, 1) := by decide +kernel
theorem dX11_readText_51 : decode cX11_readText 51 = .ok (.invokevirtual 276, 3) := by decide +kernel
theorem dX11_readText_54 : decode cX11_readText 54 = .ok (.istore_n 1, 1) := by decide +kernel
theorem dX11_readText_55 : decode cX11_readText 55 = .ok (.iload_n 1, 1) := by decide +kernel
theorem dX11_readText_56 : decode cX11_readText 56 = .ok (.ifCond .eq 5, 3) := by decide +kernel
theorem dX11_readText_59 : decode cX11_readText 59 = .ok (.iload_n 1, 1) := by decide +kernel
theorem dX11_readText_60 : decode cX11_readText 60 = .ok (.ireturn, 1) := by decide +kernel
theorem dX11_readText_61 : decode cX11_readText 61 = .ok (.goto (-18), 3) := by decide +kernel
theorem dX11_readText_64 : decode cX11_readText 64 = .ok (.iconst 0, 1) := by decide +kernel
theorem dX11_readText_65 : decode cX11_readText 65 = .ok (.ireturn, 1) := by decide +kernel
theorem dX11_text_0 : decode cX11_text 0 = .ok (.aload_n 0, 1) := by decide +kernel
theorem dX11_text_1 : decode cX11_text 1 = .ok (.getfield 7, 3) := by decide +kernel
theorem dX11_text_4 : decode cX11_text 4 = .ok (.iconst 1, 1) := by decide +kernel
theorem dX11_text_5 : decode cX11_text 5 = .ok (.iaload, 1) := by decide +kernel
theorem dX11_text_6 : decode cX11_text 6 = .ok (.iconst 4, 1) := by decide +kernel
theorem dX11_text_7 : decode cX11_text 7 = .ok (.if_icmp .ne 5, 3) := by decide +kernel
theorem dX11_text_10 : decode cX11_text 10 = .ok (.iconst (-1), 1) := by decide +kernel
theorem dX11_text_11 : decode cX11_text 11 = .ok (.ireturn, 1) := by decide +kernel
theorem dX11_text_12 : decode cX11_text 12 = .ok (.aload_n 0, 1) := by decide +kernel
theorem dX11_text_13 : decode cX11_text 13 = .ok (.aload_n 0, 1) := by decide +kernel
theorem dX11_text_14 : decode cX11_text 14 = .ok (.invokevirtual 279, 3) := by decide +kernel
theorem dX11_text_17 : decode cX11_text 17 = .ok (.putfield 22, 3) := by decide +kernel
theorem dX11_text_20 : decode cX11_text 20 = .ok (.aload_n 0, 1) := by decide +kernel
theorem dX11_text_21 : decode cX11_text 21 = .ok (.aload_n 0, 1) := by decide +kernel
theorem dX11_text_22 : decode cX11_text 22 = .ok (.getfield 22, 3) := by decide +kernel
theorem dX11_text_25 : decode cX11_text 25 = .ok (.ifCond .ne 7, 3) := by decide +kernel
theorem dX11_text_28 : decode cX11_text 28 = .ok (.iconst (-1), 1) := by decide +kernel
theorem dX11_text_29 : decode cX11_text 29 = .ok (.goto 7, 3) := by decide +kernel
theorem dX11_text_32 : decode cX11_text 32 = .ok (.aload_n 0, 1) := by decide +kernel
theorem dX11_text_33 : decode cX11_text 33 = .ok (.getfield 123, 3) := by decide +kernel
theorem dX11_text_36 : decode cX11_text 36 = .ok (.putfield 26, 3) := by decide +kernel
