theorem dX11_behind_6 : decode cX11_behind 6 = .ok (.getfield 7, 3) := by decide +kernel
theorem dX11_behind_9 : decode cX11_behind 9 = .ok (.iload_n 2, 1) := by decide +kernel
theorem dX11_behind_10 : decode cX11_behind 10 = .ok (.iconst 0, 1) := by decide +kernel
theorem dX11_behind_11 : decode cX11_behind 11 = .ok (.iastore, 1) := by decide +kernel
theorem dX11_behind_12 : decode cX11_behind 12 = .ok (.iconst 0, 1) := by decide +kernel
theorem dX11_behind_13 : decode cX11_behind 13 = .ok (.ireturn, 1) := by decide +kernel
theorem dX11_behind_14 : decode cX11_behind 14 = .ok (.iload_n 3, 1) := by decide +kernel
theorem dX11_behind_15 : decode cX11_behind 15 = .ok (.invokestatic 95, 3) := by decide +kernel
theorem dX11_behind_18 : decode cX11_behind 18 = .ok (.ifCond .eq 14, 3) := by decide +kernel
theorem dX11_behind_21 : decode cX11_behind 21 = .ok (.aload_n 0, 1) := by decide +kernel
theorem dX11_behind_22 : decode cX11_behind 22 = .ok (.getfield 7, 3) := by decide +kernel
theorem dX11_behind_25 : decode cX11_behind 25 = .ok (.iload_n 2, 1) := by decide +kernel
theorem dX11_behind_26 : decode cX11_behind 26 = .ok (.iaload, 1) := by decide +kernel
theorem dX11_behind_27 : decode cX11_behind 27 = .ok (.bipush 12, 2) := by decide +kernel
theorem dX11_behind_29 : decode cX11_behind 29 = .ok (.if_icmp .ne 6, 3) := by decide +kernel
theorem dX11_behind_32 : decode cX11_behind 32 = .ok (.bipush (-2), 2) := by decide +kernel
theorem dX11_behind_34 : decode cX11_behind 34 = .ok (.ireturn, 1) := by decide +kernel
theorem dX11_behind_35 : decode cX11_behind 35 = .ok (.aload_n 0, 1) := by decide +kernel
theorem dX11_behind_36 : decode cX11_behind 36 = .ok (.getfield 7, 3) := by decide +kernel
theorem dX11_behind_39 : decode cX11_behind 39 = .ok (.iload_n 1, 1) := by decide +kernel
theorem dX11_behind_40 : decode cX11_behind 40 = .ok (.aload_n 0, 1) := by decide +kernel
theorem dX11_behind_41 : decode cX11_behind 41 = .ok (.getfield 7, 3) := by decide +kernel
theorem dX11_behind_44 : decode cX11_behind 44 = .ok (.iload_n 2, 1) := by decide +kernel
theorem dX11_behind_45 : decode cX11_behind 45 = .ok (.iaload, 1) := by decide +kernel
theorem dX11_behind_46 : decode cX11_behind 46 = .ok (.iadd, 1) := by decide +kernel
theorem dX11_behind_47 : decode cX11_behind 47 = .ok (.iload_n 3, 1) := by decide +kernel
theorem dX11_behind_48 : decode cX11_behind 48 = .ok (.iastore, 1) := by decide +kernel
theorem dX11_behind_49 : decode cX11_behind 49 = .ok (.aload_n 0, 1) := by decide +kernel
theorem dX11_behind_50 : decode cX11_behind 50 = .ok (.getfield 7, 3) := by decide +kernel
theorem dX11_behind_53 : decode cX11_behind 53 = .ok (.iload_n 2, 1) := by decide +kernel
theorem dX11_behind_54 : decode cX11_behind 54 = .ok (.dup2, 1) := by decide +kernel
theorem dX11_behind_55 : decode cX11_behind 55 = .ok (.iaload, 1) := by decide +kernel
theorem dX11_behind_56 : decode cX11_behind 56 = .ok (.iconst 1, 1) := by decide +kernel
theorem dX11_behind_57 : decode cX11_behind 57 = .ok (.iadd, 1) := by decide +kernel
theorem dX11_behind_58 : decode cX11_behind 58 = .ok (.iastore, 1) := by decide +kernel
theorem dX11_behind_59 : decode cX11_behind 59 = .ok (.aload_n 0, 1) := by decide +kernel
theorem dX11_behind_60 : decode cX11_behind 60 = .ok (.getfield 7, 3) := by decide +kernel
theorem dX11_behind_63 : decode cX11_behind 63 = .ok (.iload_n 2, 1) := by decide +kernel
theorem dX11_behind_64 : decode cX11_behind 64 = .ok (.iaload, 1) := by decide +kernel
theorem dX11_behind_65 : decode cX11_behind 65 = .ok (.ireturn, 1) := by decide +kernel
theorem dX11_put_0 : decode cX11_put 0 = .ok (.aload_n 0, 1) := by decide +kernel
theorem dX11_put_1 : decode cX11_put 1 = .ok (.bipush 121, 2) := by decide +kernel
theorem dX11_put_3 : decode cX11_put 3 = .ok (.iconst 4, 1) := by decide +kernel
theorem dX11_put_4 : decode cX11_put 4 = .ok (.iload_n 1, 1) := by decide +kernel
theorem dX11_put_5 : decode cX11_put 5 = .ok (.invokevirtual 435, 3) := by decide +kernel
theorem dX11_put_8 : decode cX11_put 8 = .ok (.ireturn, 1) := by decide +kernel
theorem dX11_second_0 : decode cX11_second 0 = .ok (.aload_n 0, 1) := by decide +kernel
theorem dX11_second_1 : decode cX11_second 1 = .ok (.sipush 133, 3) := by decide +kernel
theorem dX11_second_4 : decode cX11_second 4 = .ok (.iconst 5, 1) := by decide +kernel
theorem dX11_second_5 : decode cX11_second 5 = .ok (.iload_n 1, 1) := by decide +kernel
theorem dX11_second_6 : decode cX11_second 6 = .ok (.invokevirtual 435, 3) := by decide +kernel
theorem dX11_second_9 : decode cX11_second 9 = .ok (.ireturn, 1) := by decide +kernel
theorem dX11_goesOn_0 : decode cX11_goesOn 0 = .ok (.iload_n 1, 1) := by decide +kernel
theorem dX11_goesOn_1 : decode cX11_goesOn 1 = .ok (.iload_n 2, 1) := by decide +kernel
theorem dX11_goesOn_2 : decode cX11_goesOn 2 = .ok (.invokestatic 332, 3) := by decide +kernel
theorem dX11_goesOn_5 : decode cX11_goesOn 5 = .ok (.iadd, 1) := by decide +kernel
theorem dX11_goesOn_6 : decode cX11_goesOn 6 = .ok (.aload_n 0, 1) := by decide +kernel
theorem dX11_goesOn_7 : decode cX11_goesOn 7 = .ok (.getfield 7, 3) := by decide +kernel
theorem dX11_goesOn_10 : decode cX11_goesOn 10 = .ok (.iconst 4, 1) := by decide +kernel
theorem dX11_goesOn_11 : decode cX11_goesOn 11 = .ok (.iaload, 1) := by decide +kernel
theorem dX11_goesOn_12 : decode cX11_goesOn 12 = .ok (.if_icmp .le 5, 3) := by decide +kernel
theorem dX11_goesOn_15 : decode cX11_goesOn 15 = .ok (.iconst (-1), 1) := by decide +kernel
theorem dX11_goesOn_16 : decode cX11_goesOn 16 = .ok (.ireturn, 1) := by decide +kernel
theorem dX11_goesOn_17 : decode cX11_goesOn 17 = .ok (.iconst 0, 1) := by decide +kernel
theorem dX11_goesOn_18 : decode cX11_goesOn 18 = .ok (.istore_n 3, 1) := by decide +kernel
theorem dX11_goesOn_19 : decode cX11_goesOn 19 = .ok (.iload_n 3, 1) := by decide +kernel
theorem dX11_goesOn_20 : decode cX11_goesOn 20 = .ok (.iload_n 2, 1) := by decide +kernel
theorem dX11_goesOn_21 : decode cX11_goesOn 21 = .ok (.invokestatic 332, 3) := by decide +kernel
theorem dX11_goesOn_24 : decode cX11_goesOn 24 = .ok (.if_icmp .ge 30, 3) := by decide +kernel
theorem dX11_goesOn_27 : decode cX11_goesOn 27 = .ok (.aload_n 0, 1) := by decide +kernel
theorem dX11_goesOn_28 : decode cX11_goesOn 28 = .ok (.getfield 7, 3) := by decide +kernel
theorem dX11_goesOn_31 : decode cX11_goesOn 31 = .ok (.bipush 121, 2) := by decide +kernel
theorem dX11_goesOn_33 : decode cX11_goesOn 33 = .ok (.iload_n 1, 1) := by decide +kernel
theorem dX11_goesOn_34 : decode cX11_goesOn 34 = .ok (.iadd, 1) := by decide +kernel
theorem dX11_goesOn_35 : decode cX11_goesOn 35 = .ok (.iload_n 3, 1) := by decide +kernel
theorem dX11_goesOn_36 : decode cX11_goesOn 36 = .ok (.iadd, 1) := by decide +kernel
theorem dX11_goesOn_37 : decode cX11_goesOn 37 = .ok (.iaload, 1) := by decide +kernel
theorem dX11_goesOn_38 : decode cX11_goesOn 38 = .ok (.iload_n 2, 1) := by decide +kernel
theorem dX11_goesOn_39 : decode cX11_goesOn 39 = .ok (.iload_n 3, 1) := by decide +kernel
theorem dX11_goesOn_40 : decode cX11_goesOn 40 = .ok (.invokestatic 335, 3) := by decide +kernel
theorem dX11_goesOn_43 : decode cX11_goesOn 43 = .ok (.if_icmp .eq 5, 3) := by decide +kernel
theorem dX11_goesOn_46 : decode cX11_goesOn 46 = .ok (.iconst (-1), 1) := by decide +kernel
theorem dX11_goesOn_47 : decode cX11_goesOn 47 = .ok (.ireturn, 1) := by decide +kernel
theorem dX11_goesOn_48 : decode cX11_goesOn 48 = .ok (.iinc 3 1, 3) := by decide +kernel
theorem dX11_goesOn_51 : decode cX11_goesOn 51 = .ok (.goto (-32), 3) := by decide +kernel
theorem dX11_goesOn_54 : decode cX11_goesOn 54 = .ok (.iload_n 1, 1) := by decide +kernel
theorem dX11_goesOn_55 : decode cX11_goesOn 55 = .ok (.iload_n 2, 1) := by decide +kernel
theorem dX11_goesOn_56 : decode cX11_goesOn 56 = .ok (.invokestatic 332, 3) := by decide +kernel
theorem dX11_goesOn_59 : decode cX11_goesOn 59 = .ok (.iadd, 1) := by decide +kernel
theorem dX11_goesOn_60 : decode cX11_goesOn 60 = .ok (.ireturn, 1) := by decide +kernel
theorem dX11_waysOf_0 : decode cX11_waysOf 0 = .ok (.iconst 0, 1) := by decide +kernel
theorem dX11_waysOf_1 : decode cX11_waysOf 1 = .ok (.istore 4, 2) := by decide +kernel
theorem dX11_waysOf_3 : decode cX11_waysOf 3 = .ok (.iload 4, 2) := by decide +kernel
theorem dX11_waysOf_5 : decode cX11_waysOf 5 = .ok (.bipush 12, 2) := by decide +kernel
theorem dX11_waysOf_7 : decode cX11_waysOf 7 = .ok (.if_icmp .gt 26, 3) := by decide +kernel
theorem dX11_waysOf_10 : decode cX11_waysOf 10 = .ok (.aload_n 0, 1) := by decide +kernel
theorem dX11_waysOf_11 : decode cX11_waysOf 11 = .ok (.getfield 50, 3) := by decide +kernel
theorem dX11_waysOf_14 : decode cX11_waysOf 14 = .ok (.iload 4, 2) := by decide +kernel
theorem dX11_waysOf_16 : decode cX11_waysOf 16 = .ok (.iload 4, 2) := by decide +kernel
theorem dX11_waysOf_18 : decode cX11_waysOf 18 = .ok (.ifCond .ne 7, 3) := by decide +kernel
theorem dX11_waysOf_21 : decode cX11_waysOf 21 = .ok (.lconst 1, 1) := by decide +kernel
theorem dX11_waysOf_22 : decode cX11_waysOf 22 = .ok (.goto 4, 3) := by decide +kernel
theorem dX11_waysOf_25 : decode cX11_waysOf 25 = .ok (.lconst 0, 1) := by decide +kernel
theorem dX11_waysOf_26 : decode cX11_waysOf 26 = .ok (.lastore, 1) := by decide +kernel
theorem dX11_waysOf_27 : decode cX11_waysOf 27 = .ok (.iinc 4 1, 3) := by decide +kernel
theorem dX11_waysOf_30 : decode cX11_waysOf 30 = .ok (.goto (-27), 3) := by decide +kernel
theorem dX11_waysOf_33 : decode cX11_waysOf 33 = .ok (.iconst 0, 1) := by decide +kernel
theorem dX11_waysOf_34 : decode cX11_waysOf 34 = .ok (.istore 4, 2) := by decide +kernel
theorem dX11_waysOf_36 : decode cX11_waysOf 36 = .ok (.iload 4, 2) := by decide +kernel
theorem dX11_waysOf_38 : decode cX11_waysOf 38 = .ok (.iload_n 1, 1) := by decide +kernel
theorem dX11_waysOf_39 : decode cX11_waysOf 39 = .ok (.invokestatic 91, 3) := by decide +kernel
theorem dX11_waysOf_42 : decode cX11_waysOf 42 = .ok (.if_icmp .ge 173, 3) := by decide +kernel
theorem dX11_waysOf_45 : decode cX11_waysOf 45 = .ok (.iconst 0, 1) := by decide +kernel
theorem dX11_waysOf_46 : decode cX11_waysOf 46 = .ok (.istore 5, 2) := by decide +kernel
theorem dX11_waysOf_48 : decode cX11_waysOf 48 = .ok (.iload 5, 2) := by decide +kernel
theorem dX11_waysOf_50 : decode cX11_waysOf 50 = .ok (.bipush 12, 2) := by decide +kernel
theorem dX11_waysOf_52 : decode cX11_waysOf 52 = .ok (.if_icmp .gt 17, 3) := by decide +kernel
theorem dX11_waysOf_55 : decode cX11_waysOf 55 = .ok (.aload_n 0, 1) := by decide +kernel
theorem dX11_waysOf_56 : decode cX11_waysOf 56 = .ok (.getfield 53, 3) := by decide +kernel
theorem dX11_waysOf_59 : decode cX11_waysOf 59 = .ok (.iload 5, 2) := by decide +kernel
theorem dX11_waysOf_61 : decode cX11_waysOf 61 = .ok (.lconst 0, 1) := by decide +kernel
theorem dX11_waysOf_62 : decode cX11_waysOf 62 = .ok (.lastore, 1) := by decide +kernel
theorem dX11_waysOf_63 : decode cX11_waysOf 63 = .ok (.iinc 5 1, 3) := by decide +kernel
theorem dX11_waysOf_66 : decode cX11_waysOf 66 = .ok (.goto (-18), 3) := by decide +kernel
theorem dX11_waysOf_69 : decode cX11_waysOf 69 = .ok (.iconst 0, 1) := by decide +kernel
theorem dX11_waysOf_70 : decode cX11_waysOf 70 = .ok (.istore 5, 2) := by decide +kernel
theorem dX11_waysOf_72 : decode cX11_waysOf 72 = .ok (.iload 5, 2) := by decide +kernel
theorem dX11_waysOf_74 : decode cX11_waysOf 74 = .ok (.aload_n 0, 1) := by decide +kernel
theorem dX11_waysOf_75 : decode cX11_waysOf 75 = .ok (.getfield 7, 3) := by decide +kernel
theorem dX11_waysOf_78 : decode cX11_waysOf 78 = .ok (.iconst 4, 1) := by decide +kernel
theorem dX11_waysOf_79 : decode cX11_waysOf 79 = .ok (.iaload, 1) := by decide +kernel
theorem dX11_waysOf_80 : decode cX11_waysOf 80 = .ok (.if_icmp .gt 99, 3) := by decide +kernel
theorem dX11_waysOf_83 : decode cX11_waysOf 83 = .ok (.aload_n 0, 1) := by decide +kernel
theorem dX11_waysOf_84 : decode cX11_waysOf 84 = .ok (.iload 5, 2) := by decide +kernel
theorem dX11_waysOf_86 : decode cX11_waysOf 86 = .ok (.aload_n 0, 1) := by decide +kernel
theorem dX11_waysOf_87 : decode cX11_waysOf 87 = .ok (.iload_n 1, 1) := by decide +kernel
theorem dX11_waysOf_88 : decode cX11_waysOf 88 = .ok (.iload 4, 2) := by decide +kernel
theorem dX11_waysOf_90 : decode cX11_waysOf 90 = .ok (.invokestatic 344, 3) := by decide +kernel
theorem dX11_waysOf_93 : decode cX11_waysOf 93 = .ok (.iconst 0, 1) := by decide +kernel
theorem dX11_waysOf_94 : decode cX11_waysOf 94 = .ok (.invokevirtual 350, 3) := by decide +kernel
theorem dX11_waysOf_97 : decode cX11_waysOf 97 = .ok (.invokevirtual 438, 3) := by decide +kernel
theorem dX11_waysOf_100 : decode cX11_waysOf 100 = .ok (.istore 6, 2) := by decide +kernel
theorem dX11_waysOf_102 : decode cX11_waysOf 102 = .ok (.aload_n 0, 1) := by decide +kernel
theorem dX11_waysOf_103 : decode cX11_waysOf 103 = .ok (.iload 5, 2) := by decide +kernel
theorem dX11_waysOf_105 : decode cX11_waysOf 105 = .ok (.aload_n 0, 1) := by decide +kernel
theorem dX11_waysOf_106 : decode cX11_waysOf 106 = .ok (.iload_n 1, 1) := by decide +kernel
theorem dX11_waysOf_107 : decode cX11_waysOf 107 = .ok (.iload 4, 2) := by decide +kernel
theorem dX11_waysOf_109 : decode cX11_waysOf 109 = .ok (.invokestatic 344, 3) := by decide +kernel
theorem dX11_waysOf_112 : decode cX11_waysOf 112 = .ok (.iconst 1, 1) := by decide +kernel
theorem dX11_waysOf_113 : decode cX11_waysOf 113 = .ok (.invokevirtual 350, 3) := by decide +kernel
theorem dX11_waysOf_116 : decode cX11_waysOf 116 = .ok (.invokevirtual 438, 3) := by decide +kernel
theorem dX11_waysOf_119 : decode cX11_waysOf 119 = .ok (.istore 7, 2) := by decide +kernel
theorem dX11_waysOf_121 : decode cX11_waysOf 121 = .ok (.iload 6, 2) := by decide +kernel
theorem dX11_waysOf_123 : decode cX11_waysOf 123 = .ok (.iconst (-1), 1) := by decide +kernel
theorem dX11_waysOf_124 : decode cX11_waysOf 124 = .ok (.if_icmp .eq 23, 3) := by decide +kernel
theorem dX11_waysOf_127 : decode cX11_waysOf 127 = .ok (.aload_n 0, 1) := by decide +kernel
theorem dX11_waysOf_128 : decode cX11_waysOf 128 = .ok (.getfield 53, 3) := by decide +kernel
theorem dX11_waysOf_131 : decode cX11_waysOf 131 = .ok (.iload 6, 2) := by decide +kernel
theorem dX11_waysOf_133 : decode cX11_waysOf 133 = .ok (.dup2, 1) := by decide +kernel
theorem dX11_waysOf_134 : decode cX11_waysOf 134 = .ok (.laload, 1) := by decide +kernel
theorem dX11_waysOf_135 : decode cX11_waysOf 135 = .ok (.iload_n 2, 1) := by decide +kernel
theorem dX11_waysOf_136 : decode cX11_waysOf 136 = .ok (.i2l, 1) := by decide +kernel
theorem dX11_waysOf_137 : decode cX11_waysOf 137 = .ok (.aload_n 0, 1) := by decide +kernel
theorem dX11_waysOf_138 : decode cX11_waysOf 138 = .ok (.getfield 50, 3) := by decide +kernel
theorem dX11_waysOf_141 : decode cX11_waysOf 141 = .ok (.iload 5, 2) := by decide +kernel
theorem dX11_waysOf_143 : decode cX11_waysOf 143 = .ok (.laload, 1) := by decide +kernel
theorem dX11_waysOf_144 : decode cX11_waysOf 144 = .ok (.lmul, 1) := by decide +kernel
theorem dX11_waysOf_145 : decode cX11_waysOf 145 = .ok (.ladd, 1) := by decide +kernel
theorem dX11_waysOf_146 : decode cX11_waysOf 146 = .ok (.lastore, 1) := by decide +kernel
theorem dX11_waysOf_147 : decode cX11_waysOf 147 = .ok (.iload 7, 2) := by decide +kernel
theorem dX11_waysOf_149 : decode cX11_waysOf 149 = .ok (.iconst (-1), 1) := by decide +kernel
theorem dX11_waysOf_150 : decode cX11_waysOf 150 = .ok (.if_icmp .eq 23, 3) := by decide +kernel
theorem dX11_waysOf_153 : decode cX11_waysOf 153 = .ok (.aload_n 0, 1) := by decide +kernel
theorem dX11_waysOf_154 : decode cX11_waysOf 154 = .ok (.getfield 53, 3) := by decide +kernel
theorem dX11_waysOf_157 : decode cX11_waysOf 157 = .ok (.iload 7, 2) := by decide +kernel
theorem dX11_waysOf_159 : decode cX11_waysOf 159 = .ok (.dup2, 1) := by decide +kernel
theorem dX11_waysOf_160 : decode cX11_waysOf 160 = .ok (.laload, 1) := by decide +kernel
theorem dX11_waysOf_161 : decode cX11_waysOf 161 = .ok (.iload_n 3, 1) := by decide +kernel
theorem dX11_waysOf_162 : decode cX11_waysOf 162 = .ok (.i2l, 1) := by decide +kernel
theorem dX11_waysOf_163 : decode cX11_waysOf 163 = .ok (.aload_n 0, 1) := by decide +kernel
theorem dX11_waysOf_164 : decode cX11_waysOf 164 = .ok (.getfield 50, 3) := by decide +kernel
theorem dX11_waysOf_167 : decode cX11_waysOf 167 = .ok (.iload 5, 2) := by decide +kernel
theorem dX11_waysOf_169 : decode cX11_waysOf 169 = .ok (.laload, 1) := by decide +kernel
theorem dX11_waysOf_170 : decode cX11_waysOf 170 = .ok (.lmul, 1) := by decide +kernel
theorem dX11_waysOf_171 : decode cX11_waysOf 171 = .ok (.ladd, 1) := by decide +kernel
theorem dX11_waysOf_172 : decode cX11_waysOf 172 = .ok (.lastore, 1) := by decide +kernel
theorem dX11_waysOf_173 : decode cX11_waysOf 173 = .ok (.iinc 5 1, 3) := by decide +kernel
theorem dX11_waysOf_176 : decode cX11_waysOf 176 = .ok (.goto (-104), 3) := by decide +kernel
theorem dX11_waysOf_179 : decode cX11_waysOf 179 = .ok (.iconst 0, 1) := by decide +kernel
theorem dX11_waysOf_180 : decode cX11_waysOf 180 = .ok (.istore 5, 2) := by decide +kernel
theorem dX11_waysOf_182 : decode cX11_waysOf 182 = .ok (.iload 5, 2) := by decide +kernel
theorem dX11_waysOf_184 : decode cX11_waysOf 184 = .ok (.bipush 12, 2) := by decide +kernel
theorem dX11_waysOf_186 : decode cX11_waysOf 186 = .ok (.if_icmp .gt 23, 3) := by decide +kernel
theorem dX11_waysOf_189 : decode cX11_waysOf 189 = .ok (.aload_n 0, 1) := by decide +kernel
theorem dX11_waysOf_190 : decode cX11_waysOf 190 = .ok (.getfield 50, 3) := by decide +kernel
theorem dX11_waysOf_193 : decode cX11_waysOf 193 = .ok (.iload 5, 2) := by decide +kernel
theorem dX11_waysOf_195 : decode cX11_waysOf 195 = .ok (.aload_n 0, 1) := by decide +kernel
theorem dX11_waysOf_196 : decode cX11_waysOf 196 = .ok (.getfield 53, 3) := by decide +kernel
theorem dX11_waysOf_199 : decode cX11_waysOf 199 = .ok (.iload 5, 2) := by decide +kernel
theorem dX11_waysOf_201 : decode cX11_waysOf 201 = .ok (.laload, 1) := by decide +kernel
theorem dX11_waysOf_202 : decode cX11_waysOf 202 = .ok (.lastore, 1) := by decide +kernel
theorem dX11_waysOf_203 : decode cX11_waysOf 203 = .ok (.iinc 5 1, 3) := by decide +kernel
theorem dX11_waysOf_206 : decode cX11_waysOf 206 = .ok (.goto (-24), 3) := by decide +kernel
theorem dX11_waysOf_209 : decode cX11_waysOf 209 = .ok (.iinc 4 1, 3) := by decide +kernel
theorem dX11_waysOf_212 : decode cX11_waysOf 212 = .ok (.goto (-176), 3) := by decide +kernel
theorem dX11_waysOf_215 : decode cX11_waysOf 215 = .ok (.aload_n 0, 1) := by decide +kernel
theorem dX11_waysOf_216 : decode cX11_waysOf 216 = .ok (.getfield 50, 3) := by decide +kernel
theorem dX11_waysOf_219 : decode cX11_waysOf 219 = .ok (.aload_n 0, 1) := by decide +kernel
theorem dX11_waysOf_220 : decode cX11_waysOf 220 = .ok (.getfield 7, 3) := by decide +kernel
theorem dX11_waysOf_223 : decode cX11_waysOf 223 = .ok (.iconst 4, 1) := by decide +kernel
theorem dX11_waysOf_224 : decode cX11_waysOf 224 = .ok (.iaload, 1) := by decide +kernel
theorem dX11_waysOf_225 : decode cX11_waysOf 225 = .ok (.laload, 1) := by decide +kernel
theorem dX11_waysOf_226 : decode cX11_waysOf 226 = .ok (.lreturn, 1) := by decide +kernel
theorem dX11_may_0 : decode cX11_may 0 = .ok (.iload_n 1, 1) := by decide +kernel
theorem dX11_may_1 : decode cX11_may 1 = .ok (.invokestatic 380, 3) := by decide +kernel
theorem dX11_may_4 : decode cX11_may 4 = .ok (.ifCond .eq 13, 3) := by decide +kernel
theorem dX11_may_7 : decode cX11_may 7 = .ok (.aload_n 0, 1) := by decide +kernel
theorem dX11_may_8 : decode cX11_may 8 = .ok (.iload_n 1, 1) := by decide +kernel
theorem dX11_may_9 : decode cX11_may 9 = .ok (.iconst 1, 1) := by decide +kernel
theorem dX11_may_10 : decode cX11_may 10 = .ok (.iconst 1, 1) := by decide +kernel
theorem dX11_may_11 : decode cX11_may 11 = .ok (.invokevirtual 441, 3) := by decide +kernel
theorem dX11_may_14 : decode cX11_may 14 = .ok (.goto 6, 3) := by decide +kernel
theorem dX11_may_17 : decode cX11_may 17 = .ok (.ldc2_w 444, 3) := by decide +kernel
theorem dX11_may_20 : decode cX11_may 20 = .ok (.lreturn, 1) := by decide +kernel
theorem dX11_divisor_0 : decode cX11_divisor 0 = .ok (.lload_n 0, 1) := by decide +kernel
theorem dX11_divisor_1 : decode cX11_divisor 1 = .ok (.lstore 4, 2) := by decide +kernel
theorem dX11_divisor_3 : decode cX11_divisor 3 = .ok (.lload_n 2, 1) := by decide +kernel
theorem dX11_divisor_4 : decode cX11_divisor 4 = .ok (.lstore 6, 2) := by decide +kernel
theorem dX11_divisor_6 : decode cX11_divisor 6 = .ok (.lload 6, 2) := by decide +kernel
theorem dX11_divisor_8 : decode cX11_divisor 8 = .ok (.lconst 0, 1) := by decide +kernel
theorem dX11_divisor_9 : decode cX11_divisor 9 = .ok (.lcmp, 1) := by decide +kernel
theorem dX11_divisor_10 : decode cX11_divisor 10 = .ok (.ifCond .eq 21, 3) := by decide +kernel
theorem dX11_divisor_13 : decode cX11_divisor 13 = .ok (.lload 4, 2) := by decide +kernel
theorem dX11_divisor_15 : decode cX11_divisor 15 = .ok (.lload 6, 2) := by decide +kernel
theorem dX11_divisor_17 : decode cX11_divisor 17 = .ok (.lrem, 1) := by decide +kernel
theorem dX11_divisor_18 : decode cX11_divisor 18 = .ok (.lstore 8, 2) := by decide +kernel
theorem dX11_divisor_20 : decode cX11_divisor 20 = .ok (.lload 6, 2) := by decide +kernel
theorem dX11_divisor_22 : decode cX11_divisor 22 = .ok (.lstore 4, 2) := by decide +kernel
theorem dX11_divisor_24 : decode cX11_divisor 24 = .ok (.lload 8, 2) := by decide +kernel
theorem dX11_divisor_26 : decode cX11_divisor 26 = .ok (.lstore 6, 2) := by decide +kernel
theorem dX11_divisor_28 : decode cX11_divisor 28 = .ok (.goto (-22), 3) := by decide +kernel
theorem dX11_divisor_31 : decode cX11_divisor 31 = .ok (.lload 4, 2) := by decide +kernel
theorem dX11_divisor_33 : decode cX11_divisor 33 = .ok (.lreturn, 1) := by decide +kernel
theorem dX11_tens_0 : decode cX11_tens 0 = .ok (.lconst 1, 1) := by decide +kernel
theorem dX11_tens_1 : decode cX11_tens 1 = .ok (.lstore_n 1, 1) := by decide +kernel
theorem dX11_tens_2 : decode cX11_tens 2 = .ok (.iconst 0, 1) := by decide +kernel
theorem dX11_tens_3 : decode cX11_tens 3 = .ok (.istore_n 3, 1) := by decide +kernel
theorem dX11_tens_4 : decode cX11_tens 4 = .ok (.iload_n 3, 1) := by decide +kernel
theorem dX11_tens_5 : decode cX11_tens 5 = .ok (.iload_n 0, 1) := by decide +kernel
theorem dX11_tens_6 : decode cX11_tens 6 = .ok (.if_icmp .ge 15, 3) := by decide +kernel
theorem dX11_tens_9 : decode cX11_tens 9 = .ok (.lload_n 1, 1) := by decide +kernel
theorem dX11_tens_10 : decode cX11_tens 10 = .ok (.ldc2_w 290, 3) := by decide +kernel
theorem dX11_tens_13 : decode cX11_tens 13 = .ok (.lmul, 1) := by decide +kernel
theorem dX11_tens_14 : decode cX11_tens 14 = .ok (.lstore_n 1, 1) := by decide +kernel
theorem dX11_tens_15 : decode cX11_tens 15 = .ok (.iinc 3 1, 3) := by decide +kernel
theorem dX11_tens_18 : decode cX11_tens 18 = .ok (.goto (-14), 3) := by decide +kernel
theorem dX11_tens_21 : decode cX11_tens 21 = .ok (.lload_n 1, 1) := by decide +kernel
theorem dX11_tens_22 : decode cX11_tens 22 = .ok (.lreturn, 1) := by decide +kernel
theorem dX11_odds_0 : decode cX11_odds 0 = .ok (.iload_n 1, 1) := by decide +kernel
theorem dX11_odds_1 : decode cX11_odds 1 = .ok (.invokestatic 380, 3) := by decide +kernel
theorem dX11_odds_4 : decode cX11_odds 4 = .ok (.ifCond .eq 13, 3) := by decide +kernel
theorem dX11_odds_7 : decode cX11_odds 7 = .ok (.iload_n 2, 1) := by decide +kernel
theorem dX11_odds_8 : decode cX11_odds 8 = .ok (.iconst 0, 1) := by decide +kernel
theorem dX11_odds_9 : decode cX11_odds 9 = .ok (.bipush 10, 2) := by decide +kernel
theorem dX11_odds_11 : decode cX11_odds 11 = .ok (.invokestatic 87, 3) := by decide +kernel
theorem dX11_odds_14 : decode cX11_odds 14 = .ok (.ifCond .ne 7, 3) := by decide +kernel
theorem dX11_odds_17 : decode cX11_odds 17 = .ok (.ldc2_w 444, 3) := by decide +kernel
theorem dX11_odds_20 : decode cX11_odds 20 = .ok (.lreturn, 1) := by decide +kernel
theorem dX11_odds_21 : decode cX11_odds 21 = .ok (.aload_n 0, 1) := by decide +kernel
theorem dX11_odds_22 : decode cX11_odds 22 = .ok (.iload_n 1, 1) := by decide +kernel
theorem dX11_odds_23 : decode cX11_odds 23 = .ok (.bipush 10, 2) := by decide +kernel
theorem dX11_odds_25 : decode cX11_odds 25 = .ok (.iload_n 2, 1) := by decide +kernel
theorem dX11_odds_26 : decode cX11_odds 26 = .ok (.isub, 1) := by decide +kernel
theorem dX11_odds_27 : decode cX11_odds 27 = .ok (.iload_n 2, 1) := by decide +kernel
theorem dX11_odds_28 : decode cX11_odds 28 = .ok (.invokevirtual 441, 3) := by decide +kernel
theorem dX11_odds_31 : decode cX11_odds 31 = .ok (.lstore 4, 2) := by decide +kernel
theorem dX11_odds_33 : decode cX11_odds 33 = .ok (.iload_n 1, 1) := by decide +kernel
theorem dX11_odds_34 : decode cX11_odds 34 = .ok (.invokestatic 91, 3) := by decide +kernel
theorem dX11_odds_37 : decode cX11_odds 37 = .ok (.invokestatic 446, 3) := by decide +kernel
theorem dX11_odds_40 : decode cX11_odds 40 = .ok (.lstore 6, 2) := by decide +kernel
theorem dX11_odds_42 : decode cX11_odds 42 = .ok (.iload_n 3, 1) := by decide +kernel
theorem dX11_odds_43 : decode cX11_odds 43 = .ok (.ifCond .eq 8, 3) := by decide +kernel
theorem dX11_odds_46 : decode cX11_odds 46 = .ok (.lload 6, 2) := by decide +kernel
theorem dX11_odds_48 : decode cX11_odds 48 = .ok (.goto 5, 3) := by decide +kernel
theorem dX11_odds_51 : decode cX11_odds 51 = .ok (.lload 4, 2) := by decide +kernel
theorem dX11_odds_53 : decode cX11_odds 53 = .ok (.lload 4, 2) := by decide +kernel
theorem dX11_odds_55 : decode cX11_odds 55 = .ok (.lload 6, 2) := by decide +kernel
theorem dX11_odds_57 : decode cX11_odds 57 = .ok (.invokestatic 450, 3) := by decide +kernel
theorem dX11_odds_60 : decode cX11_odds 60 = .ok (.ldiv, 1) := by decide +kernel
theorem dX11_odds_61 : decode cX11_odds 61 = .ok (.lreturn, 1) := by decide +kernel
theorem dX11_day_0 : decode cX11_day 0 = .ok (.iload_n 1, 1) := by decide +kernel
theorem dX11_day_1 : decode cX11_day 1 = .ok (.iconst (-1), 1) := by decide +kernel
theorem dX11_day_2 : decode cX11_day 2 = .ok (.if_icmp .ne 13, 3) := by decide +kernel
theorem dX11_day_5 : decode cX11_day 5 = .ok (.aload_n 0, 1) := by decide +kernel
theorem dX11_day_6 : decode cX11_day 6 = .ok (.getfield 7, 3) := by decide +kernel
theorem dX11_day_9 : decode cX11_day 9 = .ok (.bipush 6, 2) := by decide +kernel
theorem dX11_day_11 : decode cX11_day 11 = .ok (.iconst 0, 1) := by decide +kernel
theorem dX11_day_12 : decode cX11_day 12 = .ok (.iastore, 1) := by decide +kernel
theorem dX11_day_13 : decode cX11_day 13 = .ok (.iconst 0, 1) := by decide +kernel
theorem dX11_day_14 : decode cX11_day 14 = .ok (.ireturn, 1) := by decide +kernel
theorem dX11_day_15 : decode cX11_day 15 = .ok (.iload_n 1, 1) := by decide +kernel
theorem dX11_day_16 : decode cX11_day 16 = .ok (.invokestatic 380, 3) := by decide +kernel
theorem dX11_day_19 : decode cX11_day 19 = .ok (.ifCond .eq 15, 3) := by decide +kernel
theorem dX11_day_22 : decode cX11_day 22 = .ok (.aload_n 0, 1) := by decide +kernel
theorem dX11_day_23 : decode cX11_day 23 = .ok (.getfield 7, 3) := by decide +kernel
theorem dX11_day_26 : decode cX11_day 26 = .ok (.bipush 6, 2) := by decide +kernel
theorem dX11_day_28 : decode cX11_day 28 = .ok (.iaload, 1) := by decide +kernel
theorem dX11_day_29 : decode cX11_day 29 = .ok (.bipush 8, 2) := by decide +kernel
theorem dX11_day_31 : decode cX11_day 31 = .ok (.if_icmp .ne 6, 3) := by decide +kernel
theorem dX11_day_34 : decode cX11_day 34 = .ok (.bipush (-2), 2) := by decide +kernel
theorem dX11_day_36 : decode cX11_day 36 = .ok (.ireturn, 1) := by decide +kernel
theorem dX11_day_37 : decode cX11_day 37 = .ok (.aload_n 0, 1) := by decide +kernel
theorem dX11_day_38 : decode cX11_day 38 = .ok (.getfield 7, 3) := by decide +kernel
theorem dX11_day_41 : decode cX11_day 41 = .ok (.sipush 145, 3) := by decide +kernel
theorem dX11_day_44 : decode cX11_day 44 = .ok (.aload_n 0, 1) := by decide +kernel
theorem dX11_day_45 : decode cX11_day 45 = .ok (.getfield 7, 3) := by decide +kernel
theorem dX11_day_48 : decode cX11_day 48 = .ok (.bipush 6, 2) := by decide +kernel
theorem dX11_day_50 : decode cX11_day 50 = .ok (.iaload, 1) := by decide +kernel
theorem dX11_day_51 : decode cX11_day 51 = .ok (.iadd, 1) := by decide +kernel
theorem dX11_day_52 : decode cX11_day 52 = .ok (.iload_n 1, 1) := by decide +kernel
theorem dX11_day_53 : decode cX11_day 53 = .ok (.iastore, 1) := by decide +kernel
theorem dX11_day_54 : decode cX11_day 54 = .ok (.aload_n 0, 1) := by decide +kernel
theorem dX11_day_55 : decode cX11_day 55 = .ok (.getfield 7, 3) := by decide +kernel
theorem dX11_day_58 : decode cX11_day 58 = .ok (.bipush 6, 2) := by decide +kernel
theorem dX11_day_60 : decode cX11_day 60 = .ok (.dup2, 1) := by decide +kernel
theorem dX11_day_61 : decode cX11_day 61 = .ok (.iaload, 1) := by decide +kernel
theorem dX11_day_62 : decode cX11_day 62 = .ok (.iconst 1, 1) := by decide +kernel
theorem dX11_day_63 : decode cX11_day 63 = .ok (.iadd, 1) := by decide +kernel
theorem dX11_day_64 : decode cX11_day 64 = .ok (.iastore, 1) := by decide +kernel
theorem dX11_day_65 : decode cX11_day 65 = .ok (.aload_n 0, 1) := by decide +kernel
theorem dX11_day_66 : decode cX11_day 66 = .ok (.getfield 7, 3) := by decide +kernel
theorem dX11_day_69 : decode cX11_day 69 = .ok (.bipush 6, 2) := by decide +kernel
theorem dX11_day_71 : decode cX11_day 71 = .ok (.iaload, 1) := by decide +kernel
theorem dX11_day_72 : decode cX11_day 72 = .ok (.ireturn, 1) := by decide +kernel
theorem dX11_fits_0 : decode cX11_fits 0 = .ok (.iconst 0, 1) := by decide +kernel
theorem dX11_fits_1 : decode cX11_fits 1 = .ok (.istore_n 1, 1) := by decide +kernel
theorem dX11_fits_2 : decode cX11_fits 2 = .ok (.iconst 0, 1) := by decide +kernel
theorem dX11_fits_3 : decode cX11_fits 3 = .ok (.istore_n 2, 1) := by decide +kernel
theorem dX11_fits_4 : decode cX11_fits 4 = .ok (.iload_n 2, 1) := by decide +kernel
theorem dX11_fits_5 : decode cX11_fits 5 = .ok (.aload_n 0, 1) := by decide +kernel
theorem dX11_fits_6 : decode cX11_fits 6 = .ok (.getfield 7, 3) := by decide +kernel
theorem dX11_fits_9 : decode cX11_fits 9 = .ok (.bipush 6, 2) := by decide +kernel
theorem dX11_fits_11 : decode cX11_fits 11 = .ok (.iaload, 1) := by decide +kernel
theorem dX11_fits_12 : decode cX11_fits 12 = .ok (.if_icmp .ge 40, 3) := by decide +kernel
theorem dX11_fits_15 : decode cX11_fits 15 = .ok (.iload_n 1, 1) := by decide +kernel
theorem dX11_fits_16 : decode cX11_fits 16 = .ok (.aload_n 0, 1) := by decide +kernel
theorem dX11_fits_17 : decode cX11_fits 17 = .ok (.aload_n 0, 1) := by decide +kernel
theorem dX11_fits_18 : decode cX11_fits 18 = .ok (.getfield 7, 3) := by decide +kernel
theorem dX11_fits_21 : decode cX11_fits 21 = .ok (.sipush 145, 3) := by decide +kernel
theorem dX11_fits_24 : decode cX11_fits 24 = .ok (.iload_n 2, 1) := by decide +kernel
theorem dX11_fits_25 : decode cX11_fits 25 = .ok (.iadd, 1) := by decide +kernel
theorem dX11_fits_26 : decode cX11_fits 26 = .ok (.iaload, 1) := by decide +kernel
theorem dX11_fits_27 : decode cX11_fits 27 = .ok (.iconst 1, 1) := by decide +kernel
theorem dX11_fits_28 : decode cX11_fits 28 = .ok (.iconst 1, 1) := by decide +kernel
theorem dX11_fits_29 : decode cX11_fits 29 = .ok (.invokevirtual 441, 3) := by decide +kernel
theorem dX11_fits_32 : decode cX11_fits 32 = .ok (.lconst 0, 1) := by decide +kernel
theorem dX11_fits_33 : decode cX11_fits 33 = .ok (.lcmp, 1) := by decide +kernel
theorem dX11_fits_34 : decode cX11_fits 34 = .ok (.ifCond .le 9, 3) := by decide +kernel
theorem dX11_fits_37 : decode cX11_fits 37 = .ok (.iconst 1, 1) := by decide +kernel
theorem dX11_fits_38 : decode cX11_fits 38 = .ok (.iload_n 2, 1) := by decide +kernel
theorem dX11_fits_39 : decode cX11_fits 39 = .ok (.ishl, 1) := by decide +kernel
theorem dX11_fits_40 : decode cX11_fits 40 = .ok (.goto 4, 3) := by decide +kernel
theorem dX11_fits_43 : decode cX11_fits 43 = .ok (.iconst 0, 1) := by decide +kernel
theorem dX11_fits_44 : decode cX11_fits 44 = .ok (.ior, 1) := by decide +kernel
theorem dX11_fits_45 : decode cX11_fits 45 = .ok (.istore_n 1, 1) := by decide +kernel
theorem dX11_fits_46 : decode cX11_fits 46 = .ok (.iinc 2 1, 3) := by decide +kernel
theorem dX11_fits_49 : decode cX11_fits 49 = .ok (.goto (-45), 3) := by decide +kernel
theorem dX11_fits_52 : decode cX11_fits 52 = .ok (.iload_n 1, 1) := by decide +kernel
theorem dX11_fits_53 : decode cX11_fits 53 = .ok (.ireturn, 1) := by decide +kernel
theorem dX11_likeliest_0 : decode cX11_likeliest 0 = .ok (.iload_n 1, 1) := by decide +kernel
theorem dX11_likeliest_1 : decode cX11_likeliest 1 = .ok (.iconst 0, 1) := by decide +kernel
theorem dX11_likeliest_2 : decode cX11_likeliest 2 = .ok (.bipush 10, 2) := by decide +kernel
theorem dX11_likeliest_4 : decode cX11_likeliest 4 = .ok (.invokestatic 87, 3) := by decide +kernel
theorem dX11_likeliest_7 : decode cX11_likeliest 7 = .ok (.ifCond .ne 5, 3) := by decide +kernel
theorem dX11_likeliest_10 : decode cX11_likeliest 10 = .ok (.iconst (-1), 1) := by decide +kernel
theorem dX11_likeliest_11 : decode cX11_likeliest 11 = .ok (.ireturn, 1) := by decide +kernel
theorem dX11_likeliest_12 : decode cX11_likeliest 12 = .ok (.iconst (-1), 1) := by decide +kernel
theorem dX11_likeliest_13 : decode cX11_likeliest 13 = .ok (.istore_n 2, 1) := by decide +kernel
theorem dX11_likeliest_14 : decode cX11_likeliest 14 = .ok (.lconst 0, 1) := by decide +kernel
theorem dX11_likeliest_15 : decode cX11_likeliest 15 = .ok (.lstore_n 3, 1) := by decide +kernel
theorem dX11_likeliest_16 : decode cX11_likeliest 16 = .ok (.iconst 0, 1) := by decide +kernel
theorem dX11_likeliest_17 : decode cX11_likeliest 17 = .ok (.istore 5, 2) := by decide +kernel
theorem dX11_likeliest_19 : decode cX11_likeliest 19 = .ok (.iload 5, 2) := by decide +kernel
theorem dX11_likeliest_21 : decode cX11_likeliest 21 = .ok (.aload_n 0, 1) := by decide +kernel
theorem dX11_likeliest_22 : decode cX11_likeliest 22 = .ok (.getfield 7, 3) := by decide +kernel
theorem dX11_likeliest_25 : decode cX11_likeliest 25 = .ok (.bipush 6, 2) := by decide +kernel
theorem dX11_likeliest_27 : decode cX11_likeliest 27 = .ok (.iaload, 1) := by decide +kernel
theorem dX11_likeliest_28 : decode cX11_likeliest 28 = .ok (.if_icmp .ge 67, 3) := by decide +kernel
theorem dX11_likeliest_31 : decode cX11_likeliest 31 = .ok (.aload_n 0, 1) := by decide +kernel
theorem dX11_likeliest_32 : decode cX11_likeliest 32 = .ok (.aload_n 0, 1) := by decide +kernel
theorem dX11_likeliest_33 : decode cX11_likeliest 33 = .ok (.getfield 7, 3) := by decide +kernel
theorem dX11_likeliest_36 : decode cX11_likeliest 36 = .ok (.sipush 145, 3) := by decide +kernel
theorem dX11_likeliest_39 : decode cX11_likeliest 39 = .ok (.iload 5, 2) := by decide +kernel
theorem dX11_likeliest_41 : decode cX11_likeliest 41 = .ok (.iadd, 1) := by decide +kernel
theorem dX11_likeliest_42 : decode cX11_likeliest 42 = .ok (.iaload, 1) := by decide +kernel
theorem dX11_likeliest_43 : decode cX11_likeliest 43 = .ok (.bipush 10, 2) := by decide +kernel
theorem dX11_likeliest_45 : decode cX11_likeliest 45 = .ok (.iload_n 1, 1) := by decide +kernel
theorem dX11_likeliest_46 : decode cX11_likeliest 46 = .ok (.isub, 1) := by decide +kernel
theorem dX11_likeliest_47 : decode cX11_likeliest 47 = .ok (.iload_n 1, 1) := by decide +kernel
theorem dX11_likeliest_48 : decode cX11_likeliest 48 = .ok (.invokevirtual 441, 3) := by decide +kernel
theorem dX11_likeliest_51 : decode cX11_likeliest 51 = .ok (.iconst 4, 1) := by decide +kernel
theorem dX11_likeliest_52 : decode cX11_likeliest 52 = .ok (.aload_n 0, 1) := by decide +kernel
theorem dX11_likeliest_53 : decode cX11_likeliest 53 = .ok (.getfield 7, 3) := by decide +kernel
theorem dX11_likeliest_56 : decode cX11_likeliest 56 = .ok (.sipush 145, 3) := by decide +kernel
theorem dX11_likeliest_59 : decode cX11_likeliest 59 = .ok (.iload 5, 2) := by decide +kernel
theorem dX11_likeliest_61 : decode cX11_likeliest 61 = .ok (.iadd, 1) := by decide +kernel
theorem dX11_likeliest_62 : decode cX11_likeliest 62 = .ok (.iaload, 1) := by decide +kernel
theorem dX11_likeliest_63 : decode cX11_likeliest 63 = .ok (.invokestatic 91, 3) := by decide +kernel
theorem dX11_likeliest_66 : decode cX11_likeliest 66 = .ok (.isub, 1) := by decide +kernel
theorem dX11_likeliest_67 : decode cX11_likeliest 67 = .ok (.invokestatic 446, 3) := by decide +kernel
theorem dX11_likeliest_70 : decode cX11_likeliest 70 = .ok (.lmul, 1) := by decide +kernel
theorem dX11_likeliest_71 : decode cX11_likeliest 71 = .ok (.lstore 6, 2) := by decide +kernel
theorem dX11_likeliest_73 : decode cX11_likeliest 73 = .ok (.lload 6, 2) := by decide +kernel
theorem dX11_likeliest_75 : decode cX11_likeliest 75 = .ok (.lload_n 3, 1) := by decide +kernel
theorem dX11_likeliest_76 : decode cX11_likeliest 76 = .ok (.lcmp, 1) := by decide +kernel
theorem dX11_likeliest_77 : decode cX11_likeliest 77 = .ok (.ifCond .gt 6, 3) := by decide +kernel
theorem dX11_likeliest_80 : decode cX11_likeliest 80 = .ok (.goto 9, 3) := by decide +kernel
theorem dX11_likeliest_83 : decode cX11_likeliest 83 = .ok (.lload 6, 2) := by decide +kernel
theorem dX11_likeliest_85 : decode cX11_likeliest 85 = .ok (.lstore_n 3, 1) := by decide +kernel
theorem dX11_likeliest_86 : decode cX11_likeliest 86 = .ok (.iload 5, 2) := by decide +kernel
theorem dX11_likeliest_88 : decode cX11_likeliest 88 = .ok (.istore_n 2, 1) := by decide +kernel
theorem dX11_likeliest_89 : decode cX11_likeliest 89 = .ok (.iinc 5 1, 3) := by decide +kernel
theorem dX11_likeliest_92 : decode cX11_likeliest 92 = .ok (.goto (-73), 3) := by decide +kernel
theorem dX11_likeliest_95 : decode cX11_likeliest 95 = .ok (.iload_n 2, 1) := by decide +kernel
theorem dX11_likeliest_96 : decode cX11_likeliest 96 = .ok (.ireturn, 1) := by decide +kernel
theorem dX11_takesBy_0 : decode cX11_takesBy 0 = .ok (.aload_n 0, 1) := by decide +kernel
theorem dX11_takesBy_1 : decode cX11_takesBy 1 = .ok (.iload_n 1, 1) := by decide +kernel
theorem dX11_takesBy_2 : decode cX11_takesBy 2 = .ok (.aload_n 0, 1) := by decide +kernel
theorem dX11_takesBy_3 : decode cX11_takesBy 3 = .ok (.iload_n 2, 1) := by decide +kernel
theorem dX11_takesBy_4 : decode cX11_takesBy 4 = .ok (.iload_n 3, 1) := by decide +kernel
theorem dX11_takesBy_5 : decode cX11_takesBy 5 = .ok (.invokevirtual 350, 3) := by decide +kernel
theorem dX11_takesBy_8 : decode cX11_takesBy 8 = .ok (.invokevirtual 438, 3) := by decide +kernel
theorem dX11_takesBy_11 : decode cX11_takesBy 11 = .ok (.istore 4, 2) := by decide +kernel
theorem dX11_takesBy_13 : decode cX11_takesBy 13 = .ok (.iload 4, 2) := by decide +kernel
theorem dX11_takesBy_15 : decode cX11_takesBy 15 = .ok (.iconst (-1), 1) := by decide +kernel
theorem dX11_takesBy_16 : decode cX11_takesBy 16 = .ok (.if_icmp .eq 9, 3) := by decide +kernel
theorem dX11_takesBy_19 : decode cX11_takesBy 19 = .ok (.iload 4, 2) := by decide +kernel
theorem dX11_takesBy_21 : decode cX11_takesBy 21 = .ok (.iload_n 1, 1) := by decide +kernel
theorem dX11_takesBy_22 : decode cX11_takesBy 22 = .ok (.if_icmp .ne 9, 3) := by decide +kernel
theorem dX11_takesBy_25 : decode cX11_takesBy 25 = .ok (.ldc_w 454, 3) := by decide +kernel
theorem dX11_takesBy_28 : decode cX11_takesBy 28 = .ok (.goto 12, 3) := by decide +kernel
theorem dX11_takesBy_31 : decode cX11_takesBy 31 = .ok (.iconst 1, 1) := by decide +kernel
theorem dX11_takesBy_32 : decode cX11_takesBy 32 = .ok (.aload_n 0, 1) := by decide +kernel
theorem dX11_takesBy_33 : decode cX11_takesBy 33 = .ok (.getfield 56, 3) := by decide +kernel
theorem dX11_takesBy_36 : decode cX11_takesBy 36 = .ok (.iload 4, 2) := by decide +kernel
theorem dX11_takesBy_38 : decode cX11_takesBy 38 = .ok (.iaload, 1) := by decide +kernel
theorem dX11_takesBy_39 : decode cX11_takesBy 39 = .ok (.iadd, 1) := by decide +kernel
theorem dX11_takesBy_40 : decode cX11_takesBy 40 = .ok (.ireturn, 1) := by decide +kernel
theorem dX11_layTakes_0 : decode cX11_layTakes 0 = .ok (.aload_n 0, 1) := by decide +kernel
theorem dX11_layTakes_1 : decode cX11_layTakes 1 = .ok (.getfield 56, 3) := by decide +kernel
theorem dX11_layTakes_4 : decode cX11_layTakes 4 = .ok (.aload_n 0, 1) := by decide +kernel
theorem dX11_layTakes_5 : decode cX11_layTakes 5 = .ok (.getfield 7, 3) := by decide +kernel
theorem dX11_layTakes_8 : decode cX11_layTakes 8 = .ok (.iconst 4, 1) := by decide +kernel
theorem dX11_layTakes_9 : decode cX11_layTakes 9 = .ok (.iaload, 1) := by decide +kernel
theorem dX11_layTakes_10 : decode cX11_layTakes 10 = .ok (.iconst 0, 1) := by decide +kernel
theorem dX11_layTakes_11 : decode cX11_layTakes 11 = .ok (.iastore, 1) := by decide +kernel
theorem dX11_layTakes_12 : decode cX11_layTakes 12 = .ok (.aload_n 0, 1) := by decide +kernel
theorem dX11_layTakes_13 : decode cX11_layTakes 13 = .ok (.getfield 7, 3) := by decide +kernel
theorem dX11_layTakes_16 : decode cX11_layTakes 16 = .ok (.iconst 4, 1) := by decide +kernel
theorem dX11_layTakes_17 : decode cX11_layTakes 17 = .ok (.iaload, 1) := by decide +kernel
theorem dX11_layTakes_18 : decode cX11_layTakes 18 = .ok (.iconst 1, 1) := by decide +kernel
theorem dX11_layTakes_19 : decode cX11_layTakes 19 = .ok (.isub, 1) := by decide +kernel
theorem dX11_layTakes_20 : decode cX11_layTakes 20 = .ok (.istore_n 1, 1) := by decide +kernel
theorem dX11_layTakes_21 : decode cX11_layTakes 21 = .ok (.iload_n 1, 1) := by decide +kernel
theorem dX11_layTakes_22 : decode cX11_layTakes 22 = .ok (.ifCond .lt 74, 3) := by decide +kernel
theorem dX11_layTakes_25 : decode cX11_layTakes 25 = .ok (.aload_n 0, 1) := by decide +kernel
theorem dX11_layTakes_26 : decode cX11_layTakes 26 = .ok (.getfield 56, 3) := by decide +kernel
theorem dX11_layTakes_29 : decode cX11_layTakes 29 = .ok (.iload_n 1, 1) := by decide +kernel
theorem dX11_layTakes_30 : decode cX11_layTakes 30 = .ok (.ldc_w 454, 3) := by decide +kernel
theorem dX11_layTakes_33 : decode cX11_layTakes 33 = .ok (.iastore, 1) := by decide +kernel
theorem dX11_layTakes_34 : decode cX11_layTakes 34 = .ok (.iconst 0, 1) := by decide +kernel
theorem dX11_layTakes_35 : decode cX11_layTakes 35 = .ok (.istore_n 2, 1) := by decide +kernel
theorem dX11_layTakes_36 : decode cX11_layTakes 36 = .ok (.iload_n 2, 1) := by decide +kernel
theorem dX11_layTakes_37 : decode cX11_layTakes 37 = .ok (.bipush 10, 2) := by decide +kernel
theorem dX11_layTakes_39 : decode cX11_layTakes 39 = .ok (.if_icmp .ge 51, 3) := by decide +kernel
theorem dX11_layTakes_42 : decode cX11_layTakes 42 = .ok (.iconst 0, 1) := by decide +kernel
theorem dX11_layTakes_43 : decode cX11_layTakes 43 = .ok (.istore_n 3, 1) := by decide +kernel
theorem dX11_layTakes_44 : decode cX11_layTakes 44 = .ok (.iload_n 3, 1) := by decide +kernel
theorem dX11_layTakes_45 : decode cX11_layTakes 45 = .ok (.iconst 2, 1) := by decide +kernel
theorem dX11_layTakes_46 : decode cX11_layTakes 46 = .ok (.if_icmp .ge 38, 3) := by decide +kernel
theorem dX11_layTakes_49 : decode cX11_layTakes 49 = .ok (.aload_n 0, 1) := by decide +kernel
theorem dX11_layTakes_50 : decode cX11_layTakes 50 = .ok (.iload_n 1, 1) := by decide +kernel
theorem dX11_layTakes_51 : decode cX11_layTakes 51 = .ok (.iload_n 2, 1) := by decide +kernel
theorem dX11_layTakes_52 : decode cX11_layTakes 52 = .ok (.iload_n 3, 1) := by decide +kernel
theorem dX11_layTakes_53 : decode cX11_layTakes 53 = .ok (.invokevirtual 455, 3) := by decide +kernel
theorem dX11_layTakes_56 : decode cX11_layTakes 56 = .ok (.aload_n 0, 1) := by decide +kernel
theorem dX11_layTakes_57 : decode cX11_layTakes 57 = .ok (.getfield 56, 3) := by decide +kernel
theorem dX11_layTakes_60 : decode cX11_layTakes 60 = .ok (.iload_n 1, 1) := by decide +kernel
theorem dX11_layTakes_61 : decode cX11_layTakes 61 = .ok (.iaload, 1) := by decide +kernel
theorem dX11_layTakes_62 : decode cX11_layTakes 62 = .ok (.if_icmp .ge 16, 3) := by decide +kernel
theorem dX11_layTakes_65 : decode cX11_layTakes 65 = .ok (.aload_n 0, 1) := by decide +kernel
theorem dX11_layTakes_66 : decode cX11_layTakes 66 = .ok (.getfield 56, 3) := by decide +kernel
theorem dX11_layTakes_69 : decode cX11_layTakes 69 = .ok (.iload_n 1, 1) := by decide +kernel
theorem dX11_layTakes_70 : decode cX11_layTakes 70 = .ok (.aload_n 0, 1) := by decide +kernel
theorem dX11_layTakes_71 : decode cX11_layTakes 71 = .ok (.iload_n 1, 1) := by decide +kernel
theorem dX11_layTakes_72 : decode cX11_layTakes 72 = .ok (.iload_n 2, 1) := by decide +kernel
theorem dX11_layTakes_73 : decode cX11_layTakes 73 = .ok (.iload_n 3, 1) := by decide +kernel
theorem dX11_layTakes_74 : decode cX11_layTakes 74 = .ok (.invokevirtual 455, 3) := by decide +kernel
theorem dX11_layTakes_77 : decode cX11_layTakes 77 = .ok (.iastore, 1) := by decide +kernel
theorem dX11_layTakes_78 : decode cX11_layTakes 78 = .ok (.iinc 3 1, 3) := by decide +kernel
theorem dX11_layTakes_81 : decode cX11_layTakes 81 = .ok (.goto (-37), 3) := by decide +kernel
theorem dX11_layTakes_84 : decode cX11_layTakes 84 = .ok (.iinc 2 1, 3) := by decide +kernel
theorem dX11_layTakes_87 : decode cX11_layTakes 87 = .ok (.goto (-51), 3) := by decide +kernel
theorem dX11_layTakes_90 : decode cX11_layTakes 90 = .ok (.iinc 1 (-1), 3) := by decide +kernel
theorem dX11_layTakes_93 : decode cX11_layTakes 93 = .ok (.goto (-72), 3) := by decide +kernel
theorem dX11_layTakes_96 : decode cX11_layTakes 96 = .ok (.return_, 1) := by decide +kernel
theorem dX11_placesBy_0 : decode cX11_placesBy 0 = .ok (.iconst 0, 1) := by decide +kernel
theorem dX11_placesBy_1 : decode cX11_placesBy 1 = .ok (.istore_n 3, 1) := by decide +kernel
theorem dX11_placesBy_2 : decode cX11_placesBy 2 = .ok (.iconst 0, 1) := by decide +kernel
theorem dX11_placesBy_3 : decode cX11_placesBy 3 = .ok (.istore 4, 2) := by decide +kernel
theorem dX11_placesBy_5 : decode cX11_placesBy 5 = .ok (.iload 4, 2) := by decide +kernel
theorem dX11_placesBy_7 : decode cX11_placesBy 7 = .ok (.aload_n 0, 1) := by decide +kernel
theorem dX11_placesBy_8 : decode cX11_placesBy 8 = .ok (.getfield 7, 3) := by decide +kernel
theorem dX11_placesBy_11 : decode cX11_placesBy 11 = .ok (.iconst 4, 1) := by decide +kernel
theorem dX11_placesBy_12 : decode cX11_placesBy 12 = .ok (.iaload, 1) := by decide +kernel
theorem dX11_placesBy_13 : decode cX11_placesBy 13 = .ok (.if_icmp .ge 70, 3) := by decide +kernel
theorem dX11_placesBy_16 : decode cX11_placesBy 16 = .ok (.iconst 0, 1) := by decide +kernel
theorem dX11_placesBy_17 : decode cX11_placesBy 17 = .ok (.istore 5, 2) := by decide +kernel
theorem dX11_placesBy_19 : decode cX11_placesBy 19 = .ok (.iload 5, 2) := by decide +kernel
theorem dX11_placesBy_21 : decode cX11_placesBy 21 = .ok (.iconst 2, 1) := by decide +kernel
theorem dX11_placesBy_22 : decode cX11_placesBy 22 = .ok (.if_icmp .ge 55, 3) := by decide +kernel
theorem dX11_placesBy_25 : decode cX11_placesBy 25 = .ok (.iload_n 1, 1) := by decide +kernel
theorem dX11_placesBy_26 : decode cX11_placesBy 26 = .ok (.iload 4, 2) := by decide +kernel
theorem dX11_placesBy_28 : decode cX11_placesBy 28 = .ok (.invokestatic 269, 3) := by decide +kernel
theorem dX11_placesBy_31 : decode cX11_placesBy 31 = .ok (.ifCond .eq 40, 3) := by decide +kernel
theorem dX11_placesBy_34 : decode cX11_placesBy 34 = .ok (.aload_n 0, 1) := by decide +kernel
theorem dX11_placesBy_35 : decode cX11_placesBy 35 = .ok (.iload 4, 2) := by decide +kernel
theorem dX11_placesBy_37 : decode cX11_placesBy 37 = .ok (.iload_n 2, 1) := by decide +kernel
theorem dX11_placesBy_38 : decode cX11_placesBy 38 = .ok (.iload 5, 2) := by decide +kernel
theorem dX11_placesBy_40 : decode cX11_placesBy 40 = .ok (.invokevirtual 455, 3) := by decide +kernel
theorem dX11_placesBy_43 : decode cX11_placesBy 43 = .ok (.aload_n 0, 1) := by decide +kernel
theorem dX11_placesBy_44 : decode cX11_placesBy 44 = .ok (.getfield 56, 3) := by decide +kernel
theorem dX11_placesBy_47 : decode cX11_placesBy 47 = .ok (.iload 4, 2) := by decide +kernel
theorem dX11_placesBy_49 : decode cX11_placesBy 49 = .ok (.iaload, 1) := by decide +kernel
theorem dX11_placesBy_50 : decode cX11_placesBy 50 = .ok (.if_icmp .ne 21, 3) := by decide +kernel
theorem dX11_placesBy_53 : decode cX11_placesBy 53 = .ok (.iload_n 3, 1) := by decide +kernel
theorem dX11_placesBy_54 : decode cX11_placesBy 54 = .ok (.iconst 1, 1) := by decide +kernel
theorem dX11_placesBy_55 : decode cX11_placesBy 55 = .ok (.aload_n 0, 1) := by decide +kernel
theorem dX11_placesBy_56 : decode cX11_placesBy 56 = .ok (.iload 4, 2) := by decide +kernel
theorem dX11_placesBy_58 : decode cX11_placesBy 58 = .ok (.aload_n 0, 1) := by decide +kernel
theorem dX11_placesBy_59 : decode cX11_placesBy 59 = .ok (.iload_n 2, 1) := by decide +kernel
theorem dX11_placesBy_60 : decode cX11_placesBy 60 = .ok (.iload 5, 2) := by decide +kernel
theorem dX11_placesBy_62 : decode cX11_placesBy 62 = .ok (.invokevirtual 350, 3) := by decide +kernel
theorem dX11_placesBy_65 : decode cX11_placesBy 65 = .ok (.invokevirtual 438, 3) := by decide +kernel
theorem dX11_placesBy_68 : decode cX11_placesBy 68 = .ok (.ishl, 1) := by decide +kernel
theorem dX11_placesBy_69 : decode cX11_placesBy 69 = .ok (.ior, 1) := by decide +kernel
theorem dX11_placesBy_70 : decode cX11_placesBy 70 = .ok (.istore_n 3, 1) := by decide +kernel
theorem dX11_placesBy_71 : decode cX11_placesBy 71 = .ok (.iinc 5 1, 3) := by decide +kernel
theorem dX11_placesBy_74 : decode cX11_placesBy 74 = .ok (.goto (-55), 3) := by decide +kernel
theorem dX11_placesBy_77 : decode cX11_placesBy 77 = .ok (.iinc 4 1, 3) := by decide +kernel
theorem dX11_placesBy_80 : decode cX11_placesBy 80 = .ok (.goto (-75), 3) := by decide +kernel
theorem dX11_placesBy_83 : decode cX11_placesBy 83 = .ok (.iload_n 3, 1) := by decide +kernel
theorem dX11_placesBy_84 : decode cX11_placesBy 84 = .ok (.ireturn, 1) := by decide +kernel
theorem dX11_layRow_0 : decode cX11_layRow 0 = .ok (.aload_n 0, 1) := by decide +kernel
theorem dX11_layRow_1 : decode cX11_layRow 1 = .ok (.getfield 7, 3) := by decide +kernel
theorem dX11_layRow_4 : decode cX11_layRow 4 = .ok (.iconst 4, 1) := by decide +kernel
theorem dX11_layRow_5 : decode cX11_layRow 5 = .ok (.iaload, 1) := by decide +kernel
theorem dX11_layRow_6 : decode cX11_layRow 6 = .ok (.ifCond .ne 79, 3) := by decide +kernel
theorem dX11_layRow_9 : decode cX11_layRow 9 = .ok (.aload_n 0, 1) := by decide +kernel
theorem dX11_layRow_10 : decode cX11_layRow 10 = .ok (.getfield 59, 3) := by decide +kernel
theorem dX11_layRow_13 : decode cX11_layRow 13 = .ok (.iconst 0, 1) := by decide +kernel
theorem dX11_layRow_14 : decode cX11_layRow 14 = .ok (.iconst 0, 1) := by decide +kernel
theorem dX11_layRow_15 : decode cX11_layRow 15 = .ok (.iastore, 1) := by decide +kernel
theorem dX11_layRow_16 : decode cX11_layRow 16 = .ok (.aload_n 0, 1) := by decide +kernel
theorem dX11_layRow_17 : decode cX11_layRow 17 = .ok (.getfield 59, 3) := by decide +kernel
theorem dX11_layRow_20 : decode cX11_layRow 20 = .ok (.iconst 0, 1) := by decide +kernel
theorem dX11_layRow_21 : decode cX11_layRow 21 = .ok (.iaload, 1) := by decide +kernel
theorem dX11_layRow_22 : decode cX11_layRow 22 = .ok (.bipush 10, 2) := by decide +kernel
theorem dX11_layRow_24 : decode cX11_layRow 24 = .ok (.if_icmp .ge 44, 3) := by decide +kernel
theorem dX11_layRow_27 : decode cX11_layRow 27 = .ok (.aload_n 0, 1) := by decide +kernel
theorem dX11_layRow_28 : decode cX11_layRow 28 = .ok (.aload_n 0, 1) := by decide +kernel
theorem dX11_layRow_29 : decode cX11_layRow 29 = .ok (.getfield 59, 3) := by decide +kernel
theorem dX11_layRow_32 : decode cX11_layRow 32 = .ok (.iconst 0, 1) := by decide +kernel
theorem dX11_layRow_33 : decode cX11_layRow 33 = .ok (.iaload, 1) := by decide +kernel
theorem dX11_layRow_34 : decode cX11_layRow 34 = .ok (.iconst 0, 1) := by decide +kernel
theorem dX11_layRow_35 : decode cX11_layRow 35 = .ok (.invokevirtual 350, 3) := by decide +kernel
theorem dX11_layRow_38 : decode cX11_layRow 38 = .ok (.ifCond .eq 30, 3) := by decide +kernel
theorem dX11_layRow_41 : decode cX11_layRow 41 = .ok (.aload_n 0, 1) := by decide +kernel
theorem dX11_layRow_42 : decode cX11_layRow 42 = .ok (.aload_n 0, 1) := by decide +kernel
theorem dX11_layRow_43 : decode cX11_layRow 43 = .ok (.getfield 59, 3) := by decide +kernel
theorem dX11_layRow_46 : decode cX11_layRow 46 = .ok (.iconst 0, 1) := by decide +kernel
theorem dX11_layRow_47 : decode cX11_layRow 47 = .ok (.iaload, 1) := by decide +kernel
theorem dX11_layRow_48 : decode cX11_layRow 48 = .ok (.iconst 1, 1) := by decide +kernel
theorem dX11_layRow_49 : decode cX11_layRow 49 = .ok (.invokevirtual 350, 3) := by decide +kernel
theorem dX11_layRow_52 : decode cX11_layRow 52 = .ok (.ifCond .eq 16, 3) := by decide +kernel
theorem dX11_layRow_55 : decode cX11_layRow 55 = .ok (.aload_n 0, 1) := by decide +kernel
theorem dX11_layRow_56 : decode cX11_layRow 56 = .ok (.getfield 59, 3) := by decide +kernel
theorem dX11_layRow_59 : decode cX11_layRow 59 = .ok (.iconst 0, 1) := by decide +kernel
theorem dX11_layRow_60 : decode cX11_layRow 60 = .ok (.dup2, 1) := by decide +kernel
theorem dX11_layRow_61 : decode cX11_layRow 61 = .ok (.iaload, 1) := by decide +kernel
theorem dX11_layRow_62 : decode cX11_layRow 62 = .ok (.iconst 1, 1) := by decide +kernel
theorem dX11_layRow_63 : decode cX11_layRow 63 = .ok (.iadd, 1) := by decide +kernel
theorem dX11_layRow_64 : decode cX11_layRow 64 = .ok (.iastore, 1) := by decide +kernel
theorem dX11_layRow_65 : decode cX11_layRow 65 = .ok (.goto (-49), 3) := by decide +kernel
theorem dX11_layRow_68 : decode cX11_layRow 68 = .ok (.aload_n 0, 1) := by decide +kernel
theorem dX11_layRow_69 : decode cX11_layRow 69 = .ok (.getfield 59, 3) := by decide +kernel
theorem dX11_layRow_72 : decode cX11_layRow 72 = .ok (.iconst 0, 1) := by decide +kernel
theorem dX11_layRow_73 : decode cX11_layRow 73 = .ok (.iaload, 1) := by decide +kernel
theorem dX11_layRow_74 : decode cX11_layRow 74 = .ok (.bipush 10, 2) := by decide +kernel
theorem dX11_layRow_76 : decode cX11_layRow 76 = .ok (.if_icmp .ge 7, 3) := by decide +kernel
theorem dX11_layRow_79 : decode cX11_layRow 79 = .ok (.iconst 1, 1) := by decide +kernel
theorem dX11_layRow_80 : decode cX11_layRow 80 = .ok (.goto 4, 3) := by decide +kernel
theorem dX11_layRow_83 : decode cX11_layRow 83 = .ok (.iconst (-1), 1) := by decide +kernel
theorem dX11_layRow_84 : decode cX11_layRow 84 = .ok (.ireturn, 1) := by decide +kernel
theorem dX11_layRow_85 : decode cX11_layRow 85 = .ok (.aload_n 0, 1) := by decide +kernel
theorem dX11_layRow_86 : decode cX11_layRow 86 = .ok (.invokevirtual 458, 3) := by decide +kernel
theorem dX11_layRow_89 : decode cX11_layRow 89 = .ok (.aload_n 0, 1) := by decide +kernel
theorem dX11_layRow_90 : decode cX11_layRow 90 = .ok (.getfield 56, 3) := by decide +kernel
theorem dX11_layRow_93 : decode cX11_layRow 93 = .ok (.iconst 0, 1) := by decide +kernel
theorem dX11_layRow_94 : decode cX11_layRow 94 = .ok (.iaload, 1) := by decide +kernel
theorem dX11_layRow_95 : decode cX11_layRow 95 = .ok (.ldc_w 454, 3) := by decide +kernel
theorem dX11_layRow_98 : decode cX11_layRow 98 = .ok (.if_icmp .lt 5, 3) := by decide +kernel
theorem dX11_layRow_101 : decode cX11_layRow 101 = .ok (.iconst (-1), 1) := by decide +kernel
theorem dX11_layRow_102 : decode cX11_layRow 102 = .ok (.ireturn, 1) := by decide +kernel
theorem dX11_layRow_103 : decode cX11_layRow 103 = .ok (.iconst 1, 1) := by decide +kernel
theorem dX11_layRow_104 : decode cX11_layRow 104 = .ok (.istore_n 1, 1) := by decide +kernel
theorem dX11_layRow_105 : decode cX11_layRow 105 = .ok (.iconst 0, 1) := by decide +kernel
theorem dX11_layRow_106 : decode cX11_layRow 106 = .ok (.istore_n 2, 1) := by decide +kernel
theorem dX11_layRow_107 : decode cX11_layRow 107 = .ok (.iload_n 2, 1) := by decide +kernel
theorem dX11_layRow_108 : decode cX11_layRow 108 = .ok (.aload_n 0, 1) := by decide +kernel
theorem dX11_layRow_109 : decode cX11_layRow 109 = .ok (.getfield 56, 3) := by decide +kernel
theorem dX11_layRow_112 : decode cX11_layRow 112 = .ok (.iconst 0, 1) := by decide +kernel
theorem dX11_layRow_113 : decode cX11_layRow 113 = .ok (.iaload, 1) := by decide +kernel
theorem dX11_layRow_114 : decode cX11_layRow 114 = .ok (.if_icmp .ge 40, 3) := by decide +kernel
theorem dX11_layRow_117 : decode cX11_layRow 117 = .ok (.iconst 0, 1) := by decide +kernel
theorem dX11_layRow_118 : decode cX11_layRow 118 = .ok (.istore_n 3, 1) := by decide +kernel
theorem dX11_layRow_119 : decode cX11_layRow 119 = .ok (.aload_n 0, 1) := by decide +kernel
theorem dX11_layRow_120 : decode cX11_layRow 120 = .ok (.iload_n 1, 1) := by decide +kernel
theorem dX11_layRow_121 : decode cX11_layRow 121 = .ok (.iload_n 3, 1) := by decide +kernel
theorem dX11_layRow_122 : decode cX11_layRow 122 = .ok (.invokevirtual 461, 3) := by decide +kernel
theorem dX11_layRow_125 : decode cX11_layRow 125 = .ok (.ifCond .ne 9, 3) := by decide +kernel
theorem dX11_layRow_128 : decode cX11_layRow 128 = .ok (.iinc 3 1, 3) := by decide +kernel
theorem dX11_layRow_131 : decode cX11_layRow 131 = .ok (.goto (-12), 3) := by decide +kernel
theorem dX11_layRow_134 : decode cX11_layRow 134 = .ok (.aload_n 0, 1) := by decide +kernel
theorem dX11_layRow_135 : decode cX11_layRow 135 = .ok (.getfield 59, 3) := by decide +kernel
theorem dX11_layRow_138 : decode cX11_layRow 138 = .ok (.iload_n 2, 1) := by decide +kernel
theorem dX11_layRow_139 : decode cX11_layRow 139 = .ok (.iload_n 3, 1) := by decide +kernel
theorem dX11_layRow_140 : decode cX11_layRow 140 = .ok (.iastore, 1) := by decide +kernel
theorem dX11_layRow_141 : decode cX11_layRow 141 = .ok (.aload_n 0, 1) := by decide +kernel
theorem dX11_layRow_142 : decode cX11_layRow 142 = .ok (.iload_n 1, 1) := by decide +kernel
theorem dX11_layRow_143 : decode cX11_layRow 143 = .ok (.iload_n 3, 1) := by decide +kernel
theorem dX11_layRow_144 : decode cX11_layRow 144 = .ok (.invokevirtual 461, 3) := by decide +kernel
theorem dX11_layRow_147 : decode cX11_layRow 147 = .ok (.istore_n 1, 1) := by decide +kernel
theorem dX11_layRow_148 : decode cX11_layRow 148 = .ok (.iinc 2 1, 3) := by decide +kernel
theorem dX11_layRow_151 : decode cX11_layRow 151 = .ok (.goto (-44), 3) := by decide +kernel
theorem dX11_layRow_154 : decode cX11_layRow 154 = .ok (.aload_n 0, 1) := by decide +kernel
theorem dX11_layRow_155 : decode cX11_layRow 155 = .ok (.getfield 56, 3) := by decide +kernel
theorem dX11_layRow_158 : decode cX11_layRow 158 = .ok (.iconst 0, 1) := by decide +kernel
theorem dX11_layRow_159 : decode cX11_layRow 159 = .ok (.iaload, 1) := by decide +kernel
theorem dX11_layRow_160 : decode cX11_layRow 160 = .ok (.ireturn, 1) := by decide +kernel
theorem dX11_add_0 : decode cX11_add 0 = .ok (.aload_n 0, 1) := by decide +kernel
theorem dX11_add_1 : decode cX11_add 1 = .ok (.invokevirtual 464, 3) := by decide +kernel
theorem dX11_add_4 : decode cX11_add 4 = .ok (.istore_n 2, 1) := by decide +kernel
theorem dX11_add_5 : decode cX11_add 5 = .ok (.iload_n 2, 1) := by decide +kernel
theorem dX11_add_6 : decode cX11_add 6 = .ok (.iconst (-1), 1) := by decide +kernel
theorem dX11_add_7 : decode cX11_add 7 = .ok (.if_icmp .eq 14, 3) := by decide +kernel
theorem dX11_add_10 : decode cX11_add 10 = .ok (.iload_n 1, 1) := by decide +kernel
theorem dX11_add_11 : decode cX11_add 11 = .ok (.iconst (-1), 1) := by decide +kernel
theorem dX11_add_12 : decode cX11_add 12 = .ok (.iload_n 2, 1) := by decide +kernel
theorem dX11_add_13 : decode cX11_add 13 = .ok (.iconst 1, 1) := by decide +kernel
theorem dX11_add_14 : decode cX11_add 14 = .ok (.isub, 1) := by decide +kernel
theorem dX11_add_15 : decode cX11_add 15 = .ok (.invokestatic 87, 3) := by decide +kernel
theorem dX11_add_18 : decode cX11_add 18 = .ok (.ifCond .ne 6, 3) := by decide +kernel
theorem dX11_add_21 : decode cX11_add 21 = .ok (.bipush (-2), 2) := by decide +kernel
theorem dX11_add_23 : decode cX11_add 23 = .ok (.ireturn, 1) := by decide +kernel
theorem dX11_add_24 : decode cX11_add 24 = .ok (.iload_n 1, 1) := by decide +kernel
theorem dX11_add_25 : decode cX11_add 25 = .ok (.iconst (-1), 1) := by decide +kernel
theorem dX11_add_26 : decode cX11_add 26 = .ok (.if_icmp .ne 7, 3) := by decide +kernel
theorem dX11_add_29 : decode cX11_add 29 = .ok (.iload_n 2, 1) := by decide +kernel
theorem dX11_add_30 : decode cX11_add 30 = .ok (.goto 9, 3) := by decide +kernel
theorem dX11_add_33 : decode cX11_add 33 = .ok (.aload_n 0, 1) := by decide +kernel
theorem dX11_add_34 : decode cX11_add 34 = .ok (.getfield 59, 3) := by decide +kernel
theorem dX11_add_37 : decode cX11_add 37 = .ok (.iload_n 1, 1) := by decide +kernel
theorem dX11_add_38 : decode cX11_add 38 = .ok (.iaload, 1) := by decide +kernel
theorem dX11_add_39 : decode cX11_add 39 = .ok (.ireturn, 1) := by decide +kernel
theorem dX11_duet_0 : decode cX11_duet 0 = .ok (.iload_n 1, 1) := by decide +kernel
theorem dX11_duet_1 : decode cX11_duet 1 = .ok (.invokestatic 380, 3) := by decide +kernel
theorem dX11_duet_4 : decode cX11_duet 4 = .ok (.ifCond .eq 10, 3) := by decide +kernel
theorem dX11_duet_7 : decode cX11_duet 7 = .ok (.iload_n 2, 1) := by decide +kernel
theorem dX11_duet_8 : decode cX11_duet 8 = .ok (.invokestatic 380, 3) := by decide +kernel
theorem dX11_duet_11 : decode cX11_duet 11 = .ok (.ifCond .ne 5, 3) := by decide +kernel
theorem dX11_duet_14 : decode cX11_duet 14 = .ok (.iconst (-1), 1) := by decide +kernel
theorem dX11_duet_15 : decode cX11_duet 15 = .ok (.ireturn, 1) := by decide +kernel
theorem dX11_duet_16 : decode cX11_duet 16 = .ok (.iload_n 1, 1) := by decide +kernel
theorem dX11_duet_17 : decode cX11_duet 17 = .ok (.invokestatic 91, 3) := by decide +kernel
theorem dX11_duet_20 : decode cX11_duet 20 = .ok (.iload_n 2, 1) := by decide +kernel
theorem dX11_duet_21 : decode cX11_duet 21 = .ok (.invokestatic 91, 3) := by decide +kernel
theorem dX11_duet_24 : decode cX11_duet 24 = .ok (.iadd, 1) := by decide +kernel
theorem dX11_duet_25 : decode cX11_duet 25 = .ok (.aload_n 0, 1) := by decide +kernel
theorem dX11_duet_26 : decode cX11_duet 26 = .ok (.getfield 7, 3) := by decide +kernel
theorem dX11_duet_29 : decode cX11_duet 29 = .ok (.iconst 4, 1) := by decide +kernel
theorem dX11_duet_30 : decode cX11_duet 30 = .ok (.iaload, 1) := by decide +kernel
theorem dX11_duet_31 : decode cX11_duet 31 = .ok (.if_icmp .eq 5, 3) := by decide +kernel
theorem dX11_duet_34 : decode cX11_duet 34 = .ok (.iconst 0, 1) := by decide +kernel
theorem dX11_duet_35 : decode cX11_duet 35 = .ok (.ireturn, 1) := by decide +kernel
theorem dX11_duet_36 : decode cX11_duet 36 = .ok (.iconst 0, 1) := by decide +kernel
theorem dX11_duet_37 : decode cX11_duet 37 = .ok (.istore_n 3, 1) := by decide +kernel
theorem dX11_duet_38 : decode cX11_duet 38 = .ok (.iload_n 3, 1) := by decide +kernel
theorem dX11_duet_39 : decode cX11_duet 39 = .ok (.iload_n 1, 1) := by decide +kernel
theorem dX11_duet_40 : decode cX11_duet 40 = .ok (.invokestatic 91, 3) := by decide +kernel
theorem dX11_duet_43 : decode cX11_duet 43 = .ok (.if_icmp .gt 153, 3) := by decide +kernel
theorem dX11_duet_46 : decode cX11_duet 46 = .ok (.iconst 0, 1) := by decide +kernel
theorem dX11_duet_47 : decode cX11_duet 47 = .ok (.istore 4, 2) := by decide +kernel
theorem dX11_duet_49 : decode cX11_duet 49 = .ok (.iload 4, 2) := by decide +kernel
theorem dX11_duet_51 : decode cX11_duet 51 = .ok (.iload_n 2, 1) := by decide +kernel
theorem dX11_duet_52 : decode cX11_duet 52 = .ok (.invokestatic 91, 3) := by decide +kernel
theorem dX11_duet_55 : decode cX11_duet 55 = .ok (.if_icmp .gt 135, 3) := by decide +kernel
theorem dX11_duet_58 : decode cX11_duet 58 = .ok (.iload_n 3, 1) := by decide +kernel
theorem dX11_duet_59 : decode cX11_duet 59 = .ok (.ifCond .ne 12, 3) := by decide +kernel
theorem dX11_duet_62 : decode cX11_duet 62 = .ok (.iload 4, 2) := by decide +kernel
theorem dX11_duet_64 : decode cX11_duet 64 = .ok (.ifCond .ne 7, 3) := by decide +kernel
theorem dX11_duet_67 : decode cX11_duet 67 = .ok (.iconst 1, 1) := by decide +kernel
theorem dX11_duet_68 : decode cX11_duet 68 = .ok (.goto 4, 3) := by decide +kernel
theorem dX11_duet_71 : decode cX11_duet 71 = .ok (.iconst 0, 1) := by decide +kernel
theorem dX11_duet_72 : decode cX11_duet 72 = .ok (.istore 5, 2) := by decide +kernel
theorem dX11_duet_74 : decode cX11_duet 74 = .ok (.iload_n 3, 1) := by decide +kernel
theorem dX11_duet_75 : decode cX11_duet 75 = .ok (.ifCond .le 46, 3) := by decide +kernel
theorem dX11_duet_78 : decode cX11_duet 78 = .ok (.iload_n 1, 1) := by decide +kernel
theorem dX11_duet_79 : decode cX11_duet 79 = .ok (.iload_n 3, 1) := by decide +kernel
theorem dX11_duet_80 : decode cX11_duet 80 = .ok (.iconst 1, 1) := by decide +kernel
theorem dX11_duet_81 : decode cX11_duet 81 = .ok (.isub, 1) := by decide +kernel
theorem dX11_duet_82 : decode cX11_duet 82 = .ok (.invokestatic 344, 3) := by decide +kernel
theorem dX11_duet_85 : decode cX11_duet 85 = .ok (.aload_n 0, 1) := by decide +kernel
theorem dX11_duet_86 : decode cX11_duet 86 = .ok (.getfield 7, 3) := by decide +kernel
theorem dX11_duet_89 : decode cX11_duet 89 = .ok (.bipush 121, 2) := by decide +kernel
theorem dX11_duet_91 : decode cX11_duet 91 = .ok (.iload_n 3, 1) := by decide +kernel
theorem dX11_duet_92 : decode cX11_duet 92 = .ok (.iadd, 1) := by decide +kernel
theorem dX11_duet_93 : decode cX11_duet 93 = .ok (.iload 4, 2) := by decide +kernel
theorem dX11_duet_95 : decode cX11_duet 95 = .ok (.iadd, 1) := by decide +kernel
theorem dX11_duet_96 : decode cX11_duet 96 = .ok (.iconst 1, 1) := by decide +kernel
theorem dX11_duet_97 : decode cX11_duet 97 = .ok (.isub, 1) := by decide +kernel
theorem dX11_duet_98 : decode cX11_duet 98 = .ok (.iaload, 1) := by decide +kernel
theorem dX11_duet_99 : decode cX11_duet 99 = .ok (.if_icmp .ne 22, 3) := by decide +kernel
theorem dX11_duet_102 : decode cX11_duet 102 = .ok (.iload 5, 2) := by decide +kernel
theorem dX11_duet_104 : decode cX11_duet 104 = .ok (.aload_n 0, 1) := by decide +kernel
theorem dX11_duet_105 : decode cX11_duet 105 = .ok (.getfield 62, 3) := by decide +kernel
theorem dX11_duet_108 : decode cX11_duet 108 = .ok (.bipush 13, 2) := by decide +kernel
theorem dX11_duet_110 : decode cX11_duet 110 = .ok (.iload_n 3, 1) := by decide +kernel
theorem dX11_duet_111 : decode cX11_duet 111 = .ok (.iconst 1, 1) := by decide +kernel
theorem dX11_duet_112 : decode cX11_duet 112 = .ok (.isub, 1) := by decide +kernel
theorem dX11_duet_113 : decode cX11_duet 113 = .ok (.imul, 1) := by decide +kernel
theorem dX11_duet_114 : decode cX11_duet 114 = .ok (.iload 4, 2) := by decide +kernel
theorem dX11_duet_116 : decode cX11_duet 116 = .ok (.iadd, 1) := by decide +kernel
theorem dX11_duet_117 : decode cX11_duet 117 = .ok (.iaload, 1) := by decide +kernel
theorem dX11_duet_118 : decode cX11_duet 118 = .ok (.iadd, 1) := by decide +kernel
theorem dX11_duet_119 : decode cX11_duet 119 = .ok (.istore 5, 2) := by decide +kernel
theorem dX11_duet_121 : decode cX11_duet 121 = .ok (.iload 4, 2) := by decide +kernel
theorem dX11_duet_123 : decode cX11_duet 123 = .ok (.ifCond .le 47, 3) := by decide +kernel
theorem dX11_duet_126 : decode cX11_duet 126 = .ok (.iload_n 2, 1) := by decide +kernel
theorem dX11_duet_127 : decode cX11_duet 127 = .ok (.iload 4, 2) := by decide +kernel
theorem dX11_duet_129 : decode cX11_duet 129 = .ok (.iconst 1, 1) := by decide +kernel
theorem dX11_duet_130 : decode cX11_duet 130 = .ok (.isub, 1) := by decide +kernel
theorem dX11_duet_131 : decode cX11_duet 131 = .ok (.invokestatic 344, 3) := by decide +kernel
theorem dX11_duet_134 : decode cX11_duet 134 = .ok (.aload_n 0, 1) := by decide +kernel
theorem dX11_duet_135 : decode cX11_duet 135 = .ok (.getfield 7, 3) := by decide +kernel
theorem dX11_duet_138 : decode cX11_duet 138 = .ok (.bipush 121, 2) := by decide +kernel
theorem dX11_duet_140 : decode cX11_duet 140 = .ok (.iload_n 3, 1) := by decide +kernel
theorem dX11_duet_141 : decode cX11_duet 141 = .ok (.iadd, 1) := by decide +kernel
theorem dX11_duet_142 : decode cX11_duet 142 = .ok (.iload 4, 2) := by decide +kernel
theorem dX11_duet_144 : decode cX11_duet 144 = .ok (.iadd, 1) := by decide +kernel
theorem dX11_duet_145 : decode cX11_duet 145 = .ok (.iconst 1, 1) := by decide +kernel
theorem dX11_duet_146 : decode cX11_duet 146 = .ok (.isub, 1) := by decide +kernel
theorem dX11_duet_147 : decode cX11_duet 147 = .ok (.iaload, 1) := by decide +kernel
theorem dX11_duet_148 : decode cX11_duet 148 = .ok (.if_icmp .ne 22, 3) := by decide +kernel
theorem dX11_duet_151 : decode cX11_duet 151 = .ok (.iload 5, 2) := by decide +kernel
theorem dX11_duet_153 : decode cX11_duet 153 = .ok (.aload_n 0, 1) := by decide +kernel
theorem dX11_duet_154 : decode cX11_duet 154 = .ok (.getfield 62, 3) := by decide +kernel
theorem dX11_duet_157 : decode cX11_duet 157 = .ok (.bipush 13, 2) := by decide +kernel
theorem dX11_duet_159 : decode cX11_duet 159 = .ok (.iload_n 3, 1) := by decide +kernel
theorem dX11_duet_160 : decode cX11_duet 160 = .ok (.imul, 1) := by decide +kernel
theorem dX11_duet_161 : decode cX11_duet 161 = .ok (.iload 4, 2) := by decide +kernel
theorem dX11_duet_163 : decode cX11_duet 163 = .ok (.iadd, 1) := by decide +kernel
theorem dX11_duet_164 : decode cX11_duet 164 = .ok (.iconst 1, 1) := by decide +kernel
theorem dX11_duet_165 : decode cX11_duet 165 = .ok (.isub, 1) := by decide +kernel
theorem dX11_duet_166 : decode cX11_duet 166 = .ok (.iaload, 1) := by decide +kernel
theorem dX11_duet_167 : decode cX11_duet 167 = .ok (.iadd, 1) := by decide +kernel
theorem dX11_duet_168 : decode cX11_duet 168 = .ok (.istore 5, 2) := by decide +kernel
theorem dX11_duet_170 : decode cX11_duet 170 = .ok (.aload_n 0, 1) := by decide +kernel
theorem dX11_duet_171 : decode cX11_duet 171 = .ok (.getfield 62, 3) := by decide +kernel
theorem dX11_duet_174 : decode cX11_duet 174 = .ok (.bipush 13, 2) := by decide +kernel
theorem dX11_duet_176 : decode cX11_duet 176 = .ok (.iload_n 3, 1) := by decide +kernel
theorem dX11_duet_177 : decode cX11_duet 177 = .ok (.imul, 1) := by decide +kernel
theorem dX11_duet_178 : decode cX11_duet 178 = .ok (.iload 4, 2) := by decide +kernel
theorem dX11_duet_180 : decode cX11_duet 180 = .ok (.iadd, 1) := by decide +kernel
theorem dX11_duet_181 : decode cX11_duet 181 = .ok (.iload 5, 2) := by decide +kernel
theorem dX11_duet_183 : decode cX11_duet 183 = .ok (.iastore, 1) := by decide +kernel
theorem dX11_duet_184 : decode cX11_duet 184 = .ok (.iinc 4 1, 3) := by decide +kernel
theorem dX11_duet_187 : decode cX11_duet 187 = .ok (.goto (-138), 3) := by decide +kernel
theorem dX11_duet_190 : decode cX11_duet 190 = .ok (.iinc 3 1, 3) := by decide +kernel
theorem dX11_duet_193 : decode cX11_duet 193 = .ok (.goto (-155), 3) := by decide +kernel
theorem dX11_duet_196 : decode cX11_duet 196 = .ok (.aload_n 0, 1) := by decide +kernel
theorem dX11_duet_197 : decode cX11_duet 197 = .ok (.getfield 62, 3) := by decide +kernel
theorem dX11_duet_200 : decode cX11_duet 200 = .ok (.bipush 13, 2) := by decide +kernel
theorem dX11_duet_202 : decode cX11_duet 202 = .ok (.iload_n 1, 1) := by decide +kernel
theorem dX11_duet_203 : decode cX11_duet 203 = .ok (.invokestatic 91, 3) := by decide +kernel
theorem dX11_duet_206 : decode cX11_duet 206 = .ok (.imul, 1) := by decide +kernel
theorem dX11_duet_207 : decode cX11_duet 207 = .ok (.iload_n 2, 1) := by decide +kernel
theorem dX11_duet_208 : decode cX11_duet 208 = .ok (.invokestatic 91, 3) := by decide +kernel
theorem dX11_duet_211 : decode cX11_duet 211 = .ok (.iadd, 1) := by decide +kernel
theorem dX11_duet_212 : decode cX11_duet 212 = .ok (.iaload, 1) := by decide +kernel
theorem dX11_duet_213 : decode cX11_duet 213 = .ok (.ireturn, 1) := by decide +kernel
theorem dX11_layCommon_0 : decode cX11_layCommon 0 = .ok (.aload_n 0, 1) := by decide +kernel
theorem dX11_layCommon_1 : decode cX11_layCommon 1 = .ok (.getfield 7, 3) := by decide +kernel
theorem dX11_layCommon_4 : decode cX11_layCommon 4 = .ok (.iconst 4, 1) := by decide +kernel
theorem dX11_layCommon_5 : decode cX11_layCommon 5 = .ok (.iaload, 1) := by decide +kernel
theorem dX11_layCommon_6 : decode cX11_layCommon 6 = .ok (.istore_n 1, 1) := by decide +kernel
theorem dX11_layCommon_7 : decode cX11_layCommon 7 = .ok (.iload_n 1, 1) := by decide +kernel
theorem dX11_layCommon_8 : decode cX11_layCommon 8 = .ok (.ifCond .lt 161, 3) := by decide +kernel
theorem dX11_layCommon_11 : decode cX11_layCommon 11 = .ok (.aload_n 0, 1) := by decide +kernel
theorem dX11_layCommon_12 : decode cX11_layCommon 12 = .ok (.getfield 7, 3) := by decide +kernel
theorem dX11_layCommon_15 : decode cX11_layCommon 15 = .ok (.iconst 5, 1) := by decide +kernel
theorem dX11_layCommon_16 : decode cX11_layCommon 16 = .ok (.iaload, 1) := by decide +kernel
theorem dX11_layCommon_17 : decode cX11_layCommon 17 = .ok (.istore_n 2, 1) := by decide +kernel
theorem dX11_layCommon_18 : decode cX11_layCommon 18 = .ok (.iload_n 2, 1) := by decide +kernel
theorem dX11_layCommon_19 : decode cX11_layCommon 19 = .ok (.ifCond .lt 144, 3) := by decide +kernel
theorem dX11_layCommon_22 : decode cX11_layCommon 22 = .ok (.iconst 0, 1) := by decide +kernel
theorem dX11_layCommon_23 : decode cX11_layCommon 23 = .ok (.istore_n 3, 1) := by decide +kernel
theorem dX11_layCommon_24 : decode cX11_layCommon 24 = .ok (.iload_n 1, 1) := by decide +kernel
theorem dX11_layCommon_25 : decode cX11_layCommon 25 = .ok (.aload_n 0, 1) := by decide +kernel
theorem dX11_layCommon_26 : decode cX11_layCommon 26 = .ok (.getfield 7, 3) := by decide +kernel
theorem dX11_layCommon_29 : decode cX11_layCommon 29 = .ok (.iconst 4, 1) := by decide +kernel
theorem dX11_layCommon_30 : decode cX11_layCommon 30 = .ok (.iaload, 1) := by decide +kernel
theorem dX11_layCommon_31 : decode cX11_layCommon 31 = .ok (.if_icmp .ge 114, 3) := by decide +kernel
theorem dX11_layCommon_34 : decode cX11_layCommon 34 = .ok (.iload_n 2, 1) := by decide +kernel
theorem dX11_layCommon_35 : decode cX11_layCommon 35 = .ok (.aload_n 0, 1) := by decide +kernel
theorem dX11_layCommon_36 : decode cX11_layCommon 36 = .ok (.getfield 7, 3) := by decide +kernel
theorem dX11_layCommon_39 : decode cX11_layCommon 39 = .ok (.iconst 5, 1) := by decide +kernel
theorem dX11_layCommon_40 : decode cX11_layCommon 40 = .ok (.iaload, 1) := by decide +kernel
theorem dX11_layCommon_41 : decode cX11_layCommon 41 = .ok (.if_icmp .ge 104, 3) := by decide +kernel
theorem dX11_layCommon_44 : decode cX11_layCommon 44 = .ok (.aload_n 0, 1) := by decide +kernel
theorem dX11_layCommon_45 : decode cX11_layCommon 45 = .ok (.getfield 7, 3) := by decide +kernel
theorem dX11_layCommon_48 : decode cX11_layCommon 48 = .ok (.bipush 121, 2) := by decide +kernel
theorem dX11_layCommon_50 : decode cX11_layCommon 50 = .ok (.iload_n 1, 1) := by decide +kernel
theorem dX11_layCommon_51 : decode cX11_layCommon 51 = .ok (.iadd, 1) := by decide +kernel
theorem dX11_layCommon_52 : decode cX11_layCommon 52 = .ok (.iaload, 1) := by decide +kernel
theorem dX11_layCommon_53 : decode cX11_layCommon 53 = .ok (.aload_n 0, 1) := by decide +kernel
theorem dX11_layCommon_54 : decode cX11_layCommon 54 = .ok (.getfield 7, 3) := by decide +kernel
theorem dX11_layCommon_57 : decode cX11_layCommon 57 = .ok (.sipush 133, 3) := by decide +kernel
theorem dX11_layCommon_60 : decode cX11_layCommon 60 = .ok (.iload_n 2, 1) := by decide +kernel
theorem dX11_layCommon_61 : decode cX11_layCommon 61 = .ok (.iadd, 1) := by decide +kernel
theorem dX11_layCommon_62 : decode cX11_layCommon 62 = .ok (.iaload, 1) := by decide +kernel
theorem dX11_layCommon_63 : decode cX11_layCommon 63 = .ok (.if_icmp .ne 23, 3) := by decide +kernel
theorem dX11_layCommon_66 : decode cX11_layCommon 66 = .ok (.iconst 1, 1) := by decide +kernel
theorem dX11_layCommon_67 : decode cX11_layCommon 67 = .ok (.aload_n 0, 1) := by decide +kernel
theorem dX11_layCommon_68 : decode cX11_layCommon 68 = .ok (.getfield 62, 3) := by decide +kernel
theorem dX11_layCommon_71 : decode cX11_layCommon 71 = .ok (.bipush 13, 2) := by decide +kernel
theorem dX11_layCommon_73 : decode cX11_layCommon 73 = .ok (.iload_n 1, 1) := by decide +kernel
theorem dX11_layCommon_74 : decode cX11_layCommon 74 = .ok (.iconst 1, 1) := by decide +kernel
theorem dX11_layCommon_75 : decode cX11_layCommon 75 = .ok (.iadd, 1) := by decide +kernel
theorem dX11_layCommon_76 : decode cX11_layCommon 76 = .ok (.imul, 1) := by decide +kernel
theorem dX11_layCommon_77 : decode cX11_layCommon 77 = .ok (.iload_n 2, 1) := by decide +kernel
theorem dX11_layCommon_78 : decode cX11_layCommon 78 = .ok (.iadd, 1) := by decide +kernel
theorem dX11_layCommon_79 : decode cX11_layCommon 79 = .ok (.iconst 1, 1) := by decide +kernel
theorem dX11_layCommon_80 : decode cX11_layCommon 80 = .ok (.iadd, 1) := by decide +kernel
theorem dX11_layCommon_81 : decode cX11_layCommon 81 = .ok (.iaload, 1) := by decide +kernel
theorem dX11_layCommon_82 : decode cX11_layCommon 82 = .ok (.iadd, 1) := by decide +kernel
theorem dX11_layCommon_83 : decode cX11_layCommon 83 = .ok (.goto 61, 3) := by decide +kernel
theorem dX11_layCommon_86 : decode cX11_layCommon 86 = .ok (.aload_n 0, 1) := by decide +kernel
theorem dX11_layCommon_87 : decode cX11_layCommon 87 = .ok (.getfield 62, 3) := by decide +kernel
theorem dX11_layCommon_90 : decode cX11_layCommon 90 = .ok (.bipush 13, 2) := by decide +kernel
theorem dX11_layCommon_92 : decode cX11_layCommon 92 = .ok (.iload_n 1, 1) := by decide +kernel
theorem dX11_layCommon_93 : decode cX11_layCommon 93 = .ok (.iconst 1, 1) := by decide +kernel
theorem dX11_layCommon_94 : decode cX11_layCommon 94 = .ok (.iadd, 1) := by decide +kernel
theorem dX11_layCommon_95 : decode cX11_layCommon 95 = .ok (.imul, 1) := by decide +kernel
theorem dX11_layCommon_96 : decode cX11_layCommon 96 = .ok (.iload_n 2, 1) := by decide +kernel
theorem dX11_layCommon_97 : decode cX11_layCommon 97 = .ok (.iadd, 1) := by decide +kernel
theorem dX11_layCommon_98 : decode cX11_layCommon 98 = .ok (.iaload, 1) := by decide +kernel
theorem dX11_layCommon_99 : decode cX11_layCommon 99 = .ok (.aload_n 0, 1) := by decide +kernel
theorem dX11_layCommon_100 : decode cX11_layCommon 100 = .ok (.getfield 62, 3) := by decide +kernel
theorem dX11_layCommon_103 : decode cX11_layCommon 103 = .ok (.bipush 13, 2) := by decide +kernel
theorem dX11_layCommon_105 : decode cX11_layCommon 105 = .ok (.iload_n 1, 1) := by decide +kernel
theorem dX11_layCommon_106 : decode cX11_layCommon 106 = .ok (.imul, 1) := by decide +kernel
theorem dX11_layCommon_107 : decode cX11_layCommon 107 = .ok (.iload_n 2, 1) := by decide +kernel
theorem dX11_layCommon_108 : decode cX11_layCommon 108 = .ok (.iadd, 1) := by decide +kernel
theorem dX11_layCommon_109 : decode cX11_layCommon 109 = .ok (.iconst 1, 1) := by decide +kernel
theorem dX11_layCommon_110 : decode cX11_layCommon 110 = .ok (.iadd, 1) := by decide +kernel
theorem dX11_layCommon_111 : decode cX11_layCommon 111 = .ok (.iaload, 1) := by decide +kernel
theorem dX11_layCommon_112 : decode cX11_layCommon 112 = .ok (.if_icmp .le 19, 3) := by decide +kernel
theorem dX11_layCommon_115 : decode cX11_layCommon 115 = .ok (.aload_n 0, 1) := by decide +kernel
theorem dX11_layCommon_116 : decode cX11_layCommon 116 = .ok (.getfield 62, 3) := by decide +kernel
theorem dX11_layCommon_119 : decode cX11_layCommon 119 = .ok (.bipush 13, 2) := by decide +kernel
theorem dX11_layCommon_121 : decode cX11_layCommon 121 = .ok (.iload_n 1, 1) := by decide +kernel
theorem dX11_layCommon_122 : decode cX11_layCommon 122 = .ok (.iconst 1, 1) := by decide +kernel
theorem dX11_layCommon_123 : decode cX11_layCommon 123 = .ok (.iadd, 1) := by decide +kernel
theorem dX11_layCommon_124 : decode cX11_layCommon 124 = .ok (.imul, 1) := by decide +kernel
theorem dX11_layCommon_125 : decode cX11_layCommon 125 = .ok (.iload_n 2, 1) := by decide +kernel
theorem dX11_layCommon_126 : decode cX11_layCommon 126 = .ok (.iadd, 1) := by decide +kernel
theorem dX11_layCommon_127 : decode cX11_layCommon 127 = .ok (.iaload, 1) := by decide +kernel
theorem dX11_layCommon_128 : decode cX11_layCommon 128 = .ok (.goto 16, 3) := by decide +kernel
theorem dX11_layCommon_131 : decode cX11_layCommon 131 = .ok (.aload_n 0, 1) := by decide +kernel
theorem dX11_layCommon_132 : decode cX11_layCommon 132 = .ok (.getfield 62, 3) := by decide +kernel
theorem dX11_layCommon_135 : decode cX11_layCommon 135 = .ok (.bipush 13, 2) := by decide +kernel
theorem dX11_layCommon_137 : decode cX11_layCommon 137 = .ok (.iload_n 1, 1) := by decide +kernel
theorem dX11_layCommon_138 : decode cX11_layCommon 138 = .ok (.imul, 1) := by decide +kernel
theorem dX11_layCommon_139 : decode cX11_layCommon 139 = .ok (.iload_n 2, 1) := by decide +kernel
theorem dX11_layCommon_140 : decode cX11_layCommon 140 = .ok (.iadd, 1) := by decide +kernel
theorem dX11_layCommon_141 : decode cX11_layCommon 141 = .ok (.iconst 1, 1) := by decide +kernel
theorem dX11_layCommon_142 : decode cX11_layCommon 142 = .ok (.iadd, 1) := by decide +kernel
theorem dX11_layCommon_143 : decode cX11_layCommon 143 = .ok (.iaload, 1) := by decide +kernel
theorem dX11_layCommon_144 : decode cX11_layCommon 144 = .ok (.istore_n 3, 1) := by decide +kernel
theorem dX11_layCommon_145 : decode cX11_layCommon 145 = .ok (.aload_n 0, 1) := by decide +kernel
theorem dX11_layCommon_146 : decode cX11_layCommon 146 = .ok (.getfield 62, 3) := by decide +kernel
theorem dX11_layCommon_149 : decode cX11_layCommon 149 = .ok (.bipush 13, 2) := by decide +kernel
theorem dX11_layCommon_151 : decode cX11_layCommon 151 = .ok (.iload_n 1, 1) := by decide +kernel
theorem dX11_layCommon_152 : decode cX11_layCommon 152 = .ok (.imul, 1) := by decide +kernel
theorem dX11_layCommon_153 : decode cX11_layCommon 153 = .ok (.iload_n 2, 1) := by decide +kernel
theorem dX11_layCommon_154 : decode cX11_layCommon 154 = .ok (.iadd, 1) := by decide +kernel
theorem dX11_layCommon_155 : decode cX11_layCommon 155 = .ok (.iload_n 3, 1) := by decide +kernel
theorem dX11_layCommon_156 : decode cX11_layCommon 156 = .ok (.iastore, 1) := by decide +kernel
theorem dX11_layCommon_157 : decode cX11_layCommon 157 = .ok (.iinc 2 (-1), 3) := by decide +kernel
theorem dX11_layCommon_160 : decode cX11_layCommon 160 = .ok (.goto (-142), 3) := by decide +kernel
theorem dX11_layCommon_163 : decode cX11_layCommon 163 = .ok (.iinc 1 (-1), 3) := by decide +kernel
theorem dX11_layCommon_166 : decode cX11_layCommon 166 = .ok (.goto (-159), 3) := by decide +kernel
theorem dX11_layCommon_169 : decode cX11_layCommon 169 = .ok (.return_, 1) := by decide +kernel
theorem dX11_firstOf_0 : decode cX11_firstOf 0 = .ok (.iload_n 3, 1) := by decide +kernel
theorem dX11_firstOf_1 : decode cX11_firstOf 1 = .ok (.istore 5, 2) := by decide +kernel
theorem dX11_firstOf_3 : decode cX11_firstOf 3 = .ok (.iload 5, 2) := by decide +kernel
theorem dX11_firstOf_5 : decode cX11_firstOf 5 = .ok (.aload_n 0, 1) := by decide +kernel
theorem dX11_firstOf_6 : decode cX11_firstOf 6 = .ok (.getfield 7, 3) := by decide +kernel
theorem dX11_firstOf_9 : decode cX11_firstOf 9 = .ok (.iload_n 2, 1) := by decide +kernel
theorem dX11_firstOf_10 : decode cX11_firstOf 10 = .ok (.iaload, 1) := by decide +kernel
theorem dX11_firstOf_11 : decode cX11_firstOf 11 = .ok (.if_icmp .ge 28, 3) := by decide +kernel
theorem dX11_firstOf_14 : decode cX11_firstOf 14 = .ok (.aload_n 0, 1) := by decide +kernel
theorem dX11_firstOf_15 : decode cX11_firstOf 15 = .ok (.getfield 7, 3) := by decide +kernel
theorem dX11_firstOf_18 : decode cX11_firstOf 18 = .ok (.iload_n 1, 1) := by decide +kernel
theorem dX11_firstOf_19 : decode cX11_firstOf 19 = .ok (.iload 5, 2) := by decide +kernel
theorem dX11_firstOf_21 : decode cX11_firstOf 21 = .ok (.iadd, 1) := by decide +kernel
theorem dX11_firstOf_22 : decode cX11_firstOf 22 = .ok (.iaload, 1) := by decide +kernel
theorem dX11_firstOf_23 : decode cX11_firstOf 23 = .ok (.iload 4, 2) := by decide +kernel
theorem dX11_firstOf_25 : decode cX11_firstOf 25 = .ok (.if_icmp .ne 8, 3) := by decide +kernel
theorem dX11_firstOf_28 : decode cX11_firstOf 28 = .ok (.iload 5, 2) := by decide +kernel
theorem dX11_firstOf_30 : decode cX11_firstOf 30 = .ok (.iconst 1, 1) := by decide +kernel
theorem dX11_firstOf_31 : decode cX11_firstOf 31 = .ok (.iadd, 1) := by decide +kernel
theorem dX11_firstOf_32 : decode cX11_firstOf 32 = .ok (.ireturn, 1) := by decide +kernel
theorem dX11_firstOf_33 : decode cX11_firstOf 33 = .ok (.iinc 5 1, 3) := by decide +kernel
theorem dX11_firstOf_36 : decode cX11_firstOf 36 = .ok (.goto (-33), 3) := by decide +kernel
theorem dX11_firstOf_39 : decode cX11_firstOf 39 = .ok (.iconst (-1), 1) := by decide +kernel
theorem dX11_firstOf_40 : decode cX11_firstOf 40 = .ok (.ireturn, 1) := by decide +kernel
theorem dX11_common_0 : decode cX11_common 0 = .ok (.aload_n 0, 1) := by decide +kernel
theorem dX11_common_1 : decode cX11_common 1 = .ok (.invokevirtual 467, 3) := by decide +kernel
theorem dX11_common_4 : decode cX11_common 4 = .ok (.aload_n 0, 1) := by decide +kernel
theorem dX11_common_5 : decode cX11_common 5 = .ok (.getfield 62, 3) := by decide +kernel
theorem dX11_common_8 : decode cX11_common 8 = .ok (.iconst 0, 1) := by decide +kernel
theorem dX11_common_9 : decode cX11_common 9 = .ok (.iaload, 1) := by decide +kernel
theorem dX11_common_10 : decode cX11_common 10 = .ok (.istore_n 2, 1) := by decide +kernel
theorem dX11_common_11 : decode cX11_common 11 = .ok (.iload_n 1, 1) := by decide +kernel
theorem dX11_common_12 : decode cX11_common 12 = .ok (.iconst (-1), 1) := by decide +kernel
theorem dX11_common_13 : decode cX11_common 13 = .ok (.iload_n 2, 1) := by decide +kernel
theorem dX11_common_14 : decode cX11_common 14 = .ok (.iconst 1, 1) := by decide +kernel
theorem dX11_common_15 : decode cX11_common 15 = .ok (.isub, 1) := by decide +kernel
theorem dX11_common_16 : decode cX11_common 16 = .ok (.invokestatic 87, 3) := by decide +kernel
theorem dX11_common_19 : decode cX11_common 19 = .ok (.ifCond .ne 6, 3) := by decide +kernel
theorem dX11_common_22 : decode cX11_common 22 = .ok (.bipush (-2), 2) := by decide +kernel
theorem dX11_common_24 : decode cX11_common 24 = .ok (.ireturn, 1) := by decide +kernel
theorem dX11_common_25 : decode cX11_common 25 = .ok (.iload_n 1, 1) := by decide +kernel
theorem dX11_common_26 : decode cX11_common 26 = .ok (.iconst (-1), 1) := by decide +kernel
theorem dX11_common_27 : decode cX11_common 27 = .ok (.if_icmp .ne 5, 3) := by decide +kernel
theorem dX11_common_30 : decode cX11_common 30 = .ok (.iload_n 2, 1) := by decide +kernel
theorem dX11_common_31 : decode cX11_common 31 = .ok (.ireturn, 1) := by decide +kernel
theorem dX11_common_32 : decode cX11_common 32 = .ok (.iconst 0, 1) := by decide +kernel
theorem dX11_common_33 : decode cX11_common 33 = .ok (.istore_n 3, 1) := by decide +kernel
theorem dX11_common_34 : decode cX11_common 34 = .ok (.iconst 0, 1) := by decide +kernel
theorem dX11_common_35 : decode cX11_common 35 = .ok (.istore 4, 2) := by decide +kernel
theorem dX11_common_37 : decode cX11_common 37 = .ok (.iconst 0, 1) := by decide +kernel
theorem dX11_common_38 : decode cX11_common 38 = .ok (.istore 5, 2) := by decide +kernel
theorem dX11_common_40 : decode cX11_common 40 = .ok (.iconst 0, 1) := by decide +kernel
theorem dX11_common_41 : decode cX11_common 41 = .ok (.istore 6, 2) := by decide +kernel
theorem dX11_common_43 : decode cX11_common 43 = .ok (.iload 6, 2) := by decide +kernel
theorem dX11_common_45 : decode cX11_common 45 = .ok (.iload_n 1, 1) := by decide +kernel
theorem dX11_common_46 : decode cX11_common 46 = .ok (.if_icmp .gt 59, 3) := by decide +kernel
theorem dX11_common_49 : decode cX11_common 49 = .ok (.iconst 0, 1) := by decide +kernel
theorem dX11_common_50 : decode cX11_common 50 = .ok (.istore 5, 2) := by decide +kernel
theorem dX11_common_52 : decode cX11_common 52 = .ok (.aload_n 0, 1) := by decide +kernel
theorem dX11_common_53 : decode cX11_common 53 = .ok (.iload_n 3, 1) := by decide +kernel
theorem dX11_common_54 : decode cX11_common 54 = .ok (.iload 4, 2) := by decide +kernel
theorem dX11_common_56 : decode cX11_common 56 = .ok (.iload 5, 2) := by decide +kernel
theorem dX11_common_58 : decode cX11_common 58 = .ok (.iload_n 2, 1) := by decide +kernel
theorem dX11_common_59 : decode cX11_common 59 = .ok (.invokevirtual 470, 3) := by decide +kernel
theorem dX11_common_62 : decode cX11_common 62 = .ok (.ifCond .ne 9, 3) := by decide +kernel
theorem dX11_common_65 : decode cX11_common 65 = .ok (.iinc 5 1, 3) := by decide +kernel
theorem dX11_common_68 : decode cX11_common 68 = .ok (.goto (-16), 3) := by decide +kernel
theorem dX11_common_71 : decode cX11_common 71 = .ok (.aload_n 0, 1) := by decide +kernel
theorem dX11_common_72 : decode cX11_common 72 = .ok (.bipush 121, 2) := by decide +kernel
theorem dX11_common_74 : decode cX11_common 74 = .ok (.iconst 4, 1) := by decide +kernel
theorem dX11_common_75 : decode cX11_common 75 = .ok (.iload_n 3, 1) := by decide +kernel
theorem dX11_common_76 : decode cX11_common 76 = .ok (.iload 5, 2) := by decide +kernel
theorem dX11_common_78 : decode cX11_common 78 = .ok (.invokevirtual 474, 3) := by decide +kernel
theorem dX11_common_81 : decode cX11_common 81 = .ok (.istore_n 3, 1) := by decide +kernel
theorem dX11_common_82 : decode cX11_common 82 = .ok (.aload_n 0, 1) := by decide +kernel
theorem dX11_common_83 : decode cX11_common 83 = .ok (.sipush 133, 3) := by decide +kernel
theorem dX11_common_86 : decode cX11_common 86 = .ok (.iconst 5, 1) := by decide +kernel
theorem dX11_common_87 : decode cX11_common 87 = .ok (.iload 4, 2) := by decide +kernel
theorem dX11_common_89 : decode cX11_common 89 = .ok (.iload 5, 2) := by decide +kernel
theorem dX11_common_91 : decode cX11_common 91 = .ok (.invokevirtual 474, 3) := by decide +kernel
theorem dX11_common_94 : decode cX11_common 94 = .ok (.istore 4, 2) := by decide +kernel
theorem dX11_common_96 : decode cX11_common 96 = .ok (.iinc 2 (-1), 3) := by decide +kernel
theorem dX11_common_99 : decode cX11_common 99 = .ok (.iinc 6 1, 3) := by decide +kernel
theorem dX11_common_102 : decode cX11_common 102 = .ok (.goto (-59), 3) := by decide +kernel
theorem dX11_common_105 : decode cX11_common 105 = .ok (.iload 5, 2) := by decide +kernel
theorem dX11_common_107 : decode cX11_common 107 = .ok (.ireturn, 1) := by decide +kernel
theorem dX11_isNextOf_0 : decode cX11_isNextOf 0 = .ok (.aload_n 0, 1) := by decide +kernel
theorem dX11_isNextOf_1 : decode cX11_isNextOf 1 = .ok (.bipush 121, 2) := by decide +kernel
theorem dX11_isNextOf_3 : decode cX11_isNextOf 3 = .ok (.iconst 4, 1) := by decide +kernel
theorem dX11_isNextOf_4 : decode cX11_isNextOf 4 = .ok (.iload_n 1, 1) := by decide +kernel
theorem dX11_isNextOf_5 : decode cX11_isNextOf 5 = .ok (.iload_n 3, 1) := by decide +kernel
theorem dX11_isNextOf_6 : decode cX11_isNextOf 6 = .ok (.invokevirtual 474, 3) := by decide +kernel
theorem dX11_isNextOf_9 : decode cX11_isNextOf 9 = .ok (.istore 5, 2) := by decide +kernel
theorem dX11_isNextOf_11 : decode cX11_isNextOf 11 = .ok (.aload_n 0, 1) := by decide +kernel
theorem dX11_isNextOf_12 : decode cX11_isNextOf 12 = .ok (.sipush 133, 3) := by decide +kernel
theorem dX11_isNextOf_15 : decode cX11_isNextOf 15 = .ok (.iconst 5, 1) := by decide +kernel
theorem dX11_isNextOf_16 : decode cX11_isNextOf 16 = .ok (.iload_n 2, 1) := by decide +kernel
theorem dX11_isNextOf_17 : decode cX11_isNextOf 17 = .ok (.iload_n 3, 1) := by decide +kernel
theorem dX11_isNextOf_18 : decode cX11_isNextOf 18 = .ok (.invokevirtual 474, 3) := by decide +kernel
theorem dX11_isNextOf_21 : decode cX11_isNextOf 21 = .ok (.istore 6, 2) := by decide +kernel
theorem dX11_isNextOf_23 : decode cX11_isNextOf 23 = .ok (.iload 5, 2) := by decide +kernel
theorem dX11_isNextOf_25 : decode cX11_isNextOf 25 = .ok (.iconst (-1), 1) := by decide +kernel
theorem dX11_isNextOf_26 : decode cX11_isNextOf 26 = .ok (.if_icmp .eq 33, 3) := by decide +kernel
theorem dX11_isNextOf_29 : decode cX11_isNextOf 29 = .ok (.iload 6, 2) := by decide +kernel
theorem dX11_isNextOf_31 : decode cX11_isNextOf 31 = .ok (.iconst (-1), 1) := by decide +kernel
theorem dX11_isNextOf_32 : decode cX11_isNextOf 32 = .ok (.if_icmp .eq 27, 3) := by decide +kernel
theorem dX11_isNextOf_35 : decode cX11_isNextOf 35 = .ok (.iconst 1, 1) := by decide +kernel
theorem dX11_isNextOf_36 : decode cX11_isNextOf 36 = .ok (.aload_n 0, 1) := by decide +kernel
theorem dX11_isNextOf_37 : decode cX11_isNextOf 37 = .ok (.getfield 62, 3) := by decide +kernel
theorem dX11_isNextOf_40 : decode cX11_isNextOf 40 = .ok (.bipush 13, 2) := by decide +kernel
theorem dX11_isNextOf_42 : decode cX11_isNextOf 42 = .ok (.iload 5, 2) := by decide +kernel
theorem dX11_isNextOf_44 : decode cX11_isNextOf 44 = .ok (.imul, 1) := by decide +kernel
theorem dX11_isNextOf_45 : decode cX11_isNextOf 45 = .ok (.iload 6, 2) := by decide +kernel
theorem dX11_isNextOf_47 : decode cX11_isNextOf 47 = .ok (.iadd, 1) := by decide +kernel
theorem dX11_isNextOf_48 : decode cX11_isNextOf 48 = .ok (.iaload, 1) := by decide +kernel
theorem dX11_isNextOf_49 : decode cX11_isNextOf 49 = .ok (.iadd, 1) := by decide +kernel
theorem dX11_isNextOf_50 : decode cX11_isNextOf 50 = .ok (.iload 4, 2) := by decide +kernel
theorem dX11_isNextOf_52 : decode cX11_isNextOf 52 = .ok (.if_icmp .ne 7, 3) := by decide +kernel
theorem dX11_isNextOf_55 : decode cX11_isNextOf 55 = .ok (.iconst 1, 1) := by decide +kernel
theorem dX11_isNextOf_56 : decode cX11_isNextOf 56 = .ok (.goto 4, 3) := by decide +kernel
theorem dX11_isNextOf_59 : decode cX11_isNextOf 59 = .ok (.iconst 0, 1) := by decide +kernel
theorem dX11_isNextOf_60 : decode cX11_isNextOf 60 = .ok (.ireturn, 1) := by decide +kernel
theorem dX11_apart_0 : decode cX11_apart 0 = .ok (.iconst 0, 1) := by decide +kernel
theorem dX11_apart_1 : decode cX11_apart 1 = .ok (.istore_n 1, 1) := by decide +kernel
theorem dX11_apart_2 : decode cX11_apart 2 = .ok (.iload_n 1, 1) := by decide +kernel
theorem dX11_apart_3 : decode cX11_apart 3 = .ok (.aload_n 0, 1) := by decide +kernel
theorem dX11_apart_4 : decode cX11_apart 4 = .ok (.getfield 7, 3) := by decide +kernel
theorem dX11_apart_7 : decode cX11_apart 7 = .ok (.iconst 4, 1) := by decide +kernel
theorem dX11_apart_8 : decode cX11_apart 8 = .ok (.iaload, 1) := by decide +kernel
theorem dX11_apart_9 : decode cX11_apart 9 = .ok (.if_icmp .gt 189, 3) := by decide +kernel
theorem dX11_apart_12 : decode cX11_apart 12 = .ok (.iconst 0, 1) := by decide +kernel
theorem dX11_apart_13 : decode cX11_apart 13 = .ok (.istore_n 2, 1) := by decide +kernel
theorem dX11_apart_14 : decode cX11_apart 14 = .ok (.iload_n 2, 1) := by decide +kernel
theorem dX11_apart_15 : decode cX11_apart 15 = .ok (.aload_n 0, 1) := by decide +kernel
theorem dX11_apart_16 : decode cX11_apart 16 = .ok (.getfield 7, 3) := by decide +kernel
theorem dX11_apart_19 : decode cX11_apart 19 = .ok (.iconst 5, 1) := by decide +kernel
theorem dX11_apart_20 : decode cX11_apart 20 = .ok (.iaload, 1) := by decide +kernel
theorem dX11_apart_21 : decode cX11_apart 21 = .ok (.if_icmp .gt 171, 3) := by decide +kernel
theorem dX11_apart_24 : decode cX11_apart 24 = .ok (.iload_n 1, 1) := by decide +kernel
theorem dX11_apart_25 : decode cX11_apart 25 = .ok (.ifCond .ne 7, 3) := by decide +kernel
theorem dX11_apart_28 : decode cX11_apart 28 = .ok (.iload_n 2, 1) := by decide +kernel
theorem dX11_apart_29 : decode cX11_apart 29 = .ok (.goto 58, 3) := by decide +kernel
theorem dX11_apart_32 : decode cX11_apart 32 = .ok (.iload_n 2, 1) := by decide +kernel
theorem dX11_apart_33 : decode cX11_apart 33 = .ok (.ifCond .ne 7, 3) := by decide +kernel
theorem dX11_apart_36 : decode cX11_apart 36 = .ok (.iload_n 1, 1) := by decide +kernel
theorem dX11_apart_37 : decode cX11_apart 37 = .ok (.goto 50, 3) := by decide +kernel
theorem dX11_apart_40 : decode cX11_apart 40 = .ok (.aload_n 0, 1) := by decide +kernel
theorem dX11_apart_41 : decode cX11_apart 41 = .ok (.getfield 62, 3) := by decide +kernel
theorem dX11_apart_44 : decode cX11_apart 44 = .ok (.bipush 13, 2) := by decide +kernel
theorem dX11_apart_46 : decode cX11_apart 46 = .ok (.iload_n 1, 1) := by decide +kernel
theorem dX11_apart_47 : decode cX11_apart 47 = .ok (.iconst 1, 1) := by decide +kernel
theorem dX11_apart_48 : decode cX11_apart 48 = .ok (.isub, 1) := by decide +kernel
theorem dX11_apart_49 : decode cX11_apart 49 = .ok (.imul, 1) := by decide +kernel
theorem dX11_apart_50 : decode cX11_apart 50 = .ok (.iload_n 2, 1) := by decide +kernel
theorem dX11_apart_51 : decode cX11_apart 51 = .ok (.iadd, 1) := by decide +kernel
theorem dX11_apart_52 : decode cX11_apart 52 = .ok (.iconst 1, 1) := by decide +kernel
theorem dX11_apart_53 : decode cX11_apart 53 = .ok (.isub, 1) := by decide +kernel
theorem dX11_apart_54 : decode cX11_apart 54 = .ok (.iaload, 1) := by decide +kernel
theorem dX11_apart_55 : decode cX11_apart 55 = .ok (.aload_n 0, 1) := by decide +kernel
theorem dX11_apart_56 : decode cX11_apart 56 = .ok (.getfield 7, 3) := by decide +kernel
theorem dX11_apart_59 : decode cX11_apart 59 = .ok (.bipush 121, 2) := by decide +kernel
theorem dX11_apart_61 : decode cX11_apart 61 = .ok (.iload_n 1, 1) := by decide +kernel
theorem dX11_apart_62 : decode cX11_apart 62 = .ok (.iadd, 1) := by decide +kernel
theorem dX11_apart_63 : decode cX11_apart 63 = .ok (.iconst 1, 1) := by decide +kernel
theorem dX11_apart_64 : decode cX11_apart 64 = .ok (.isub, 1) := by decide +kernel
theorem dX11_apart_65 : decode cX11_apart 65 = .ok (.iaload, 1) := by decide +kernel
theorem dX11_apart_66 : decode cX11_apart 66 = .ok (.aload_n 0, 1) := by decide +kernel
theorem dX11_apart_67 : decode cX11_apart 67 = .ok (.getfield 7, 3) := by decide +kernel
theorem dX11_apart_70 : decode cX11_apart 70 = .ok (.sipush 133, 3) := by decide +kernel
theorem dX11_apart_73 : decode cX11_apart 73 = .ok (.iload_n 2, 1) := by decide +kernel
theorem dX11_apart_74 : decode cX11_apart 74 = .ok (.iadd, 1) := by decide +kernel
theorem dX11_apart_75 : decode cX11_apart 75 = .ok (.iconst 1, 1) := by decide +kernel
theorem dX11_apart_76 : decode cX11_apart 76 = .ok (.isub, 1) := by decide +kernel
theorem dX11_apart_77 : decode cX11_apart 77 = .ok (.iaload, 1) := by decide +kernel
theorem dX11_apart_78 : decode cX11_apart 78 = .ok (.if_icmp .ne 7, 3) := by decide +kernel
theorem dX11_apart_81 : decode cX11_apart 81 = .ok (.iconst 0, 1) := by decide +kernel
theorem dX11_apart_82 : decode cX11_apart 82 = .ok (.goto 4, 3) := by decide +kernel
theorem dX11_apart_85 : decode cX11_apart 85 = .ok (.iconst 1, 1) := by decide +kernel
theorem dX11_apart_86 : decode cX11_apart 86 = .ok (.iadd, 1) := by decide +kernel
theorem dX11_apart_87 : decode cX11_apart 87 = .ok (.istore_n 3, 1) := by decide +kernel
theorem dX11_apart_88 : decode cX11_apart 88 = .ok (.iload_n 1, 1) := by decide +kernel
theorem dX11_apart_89 : decode cX11_apart 89 = .ok (.ifCond .le 42, 3) := by decide +kernel
theorem dX11_apart_92 : decode cX11_apart 92 = .ok (.iload_n 2, 1) := by decide +kernel
theorem dX11_apart_93 : decode cX11_apart 93 = .ok (.ifCond .le 38, 3) := by decide +kernel
theorem dX11_apart_96 : decode cX11_apart 96 = .ok (.aload_n 0, 1) := by decide +kernel
theorem dX11_apart_97 : decode cX11_apart 97 = .ok (.getfield 62, 3) := by decide +kernel
theorem dX11_apart_100 : decode cX11_apart 100 = .ok (.bipush 13, 2) := by decide +kernel
theorem dX11_apart_102 : decode cX11_apart 102 = .ok (.iload_n 1, 1) := by decide +kernel
theorem dX11_apart_103 : decode cX11_apart 103 = .ok (.iconst 1, 1) := by decide +kernel
theorem dX11_apart_104 : decode cX11_apart 104 = .ok (.isub, 1) := by decide +kernel
theorem dX11_apart_105 : decode cX11_apart 105 = .ok (.imul, 1) := by decide +kernel
theorem dX11_apart_106 : decode cX11_apart 106 = .ok (.iload_n 2, 1) := by decide +kernel
theorem dX11_apart_107 : decode cX11_apart 107 = .ok (.iadd, 1) := by decide +kernel
theorem dX11_apart_108 : decode cX11_apart 108 = .ok (.iaload, 1) := by decide +kernel
theorem dX11_apart_109 : decode cX11_apart 109 = .ok (.iconst 1, 1) := by decide +kernel
theorem dX11_apart_110 : decode cX11_apart 110 = .ok (.iadd, 1) := by decide +kernel
theorem dX11_apart_111 : decode cX11_apart 111 = .ok (.iload_n 3, 1) := by decide +kernel
theorem dX11_apart_112 : decode cX11_apart 112 = .ok (.if_icmp .ge 19, 3) := by decide +kernel
theorem dX11_apart_115 : decode cX11_apart 115 = .ok (.aload_n 0, 1) := by decide +kernel
theorem dX11_apart_116 : decode cX11_apart 116 = .ok (.getfield 62, 3) := by decide +kernel
theorem dX11_apart_119 : decode cX11_apart 119 = .ok (.bipush 13, 2) := by decide +kernel
theorem dX11_apart_121 : decode cX11_apart 121 = .ok (.iload_n 1, 1) := by decide +kernel
theorem dX11_apart_122 : decode cX11_apart 122 = .ok (.iconst 1, 1) := by decide +kernel
theorem dX11_apart_123 : decode cX11_apart 123 = .ok (.isub, 1) := by decide +kernel
theorem dX11_apart_124 : decode cX11_apart 124 = .ok (.imul, 1) := by decide +kernel
theorem dX11_apart_125 : decode cX11_apart 125 = .ok (.iload_n 2, 1) := by decide +kernel
theorem dX11_apart_126 : decode cX11_apart 126 = .ok (.iadd, 1) := by decide +kernel
theorem dX11_apart_127 : decode cX11_apart 127 = .ok (.iaload, 1) := by decide +kernel
theorem dX11_apart_128 : decode cX11_apart 128 = .ok (.iconst 1, 1) := by decide +kernel
theorem dX11_apart_129 : decode cX11_apart 129 = .ok (.iadd, 1) := by decide +kernel
theorem dX11_apart_130 : decode cX11_apart 130 = .ok (.istore_n 3, 1) := by decide +kernel
theorem dX11_apart_131 : decode cX11_apart 131 = .ok (.iload_n 1, 1) := by decide +kernel
theorem dX11_apart_132 : decode cX11_apart 132 = .ok (.ifCond .le 42, 3) := by decide +kernel
theorem dX11_apart_135 : decode cX11_apart 135 = .ok (.iload_n 2, 1) := by decide +kernel
theorem dX11_apart_136 : decode cX11_apart 136 = .ok (.ifCond .le 38, 3) := by decide +kernel
theorem dX11_apart_139 : decode cX11_apart 139 = .ok (.aload_n 0, 1) := by decide +kernel
theorem dX11_apart_140 : decode cX11_apart 140 = .ok (.getfield 62, 3) := by decide +kernel
theorem dX11_apart_143 : decode cX11_apart 143 = .ok (.bipush 13, 2) := by decide +kernel
theorem dX11_apart_145 : decode cX11_apart 145 = .ok (.iload_n 1, 1) := by decide +kernel
theorem dX11_apart_146 : decode cX11_apart 146 = .ok (.imul, 1) := by decide +kernel
theorem dX11_apart_147 : decode cX11_apart 147 = .ok (.iload_n 2, 1) := by decide +kernel
theorem dX11_apart_148 : decode cX11_apart 148 = .ok (.iadd, 1) := by decide +kernel
theorem dX11_apart_149 : decode cX11_apart 149 = .ok (.iconst 1, 1) := by decide +kernel
theorem dX11_apart_150 : decode cX11_apart 150 = .ok (.isub, 1) := by decide +kernel
theorem dX11_apart_151 : decode cX11_apart 151 = .ok (.iaload, 1) := by decide +kernel
theorem dX11_apart_152 : decode cX11_apart 152 = .ok (.iconst 1, 1) := by decide +kernel
theorem dX11_apart_153 : decode cX11_apart 153 = .ok (.iadd, 1) := by decide +kernel
theorem dX11_apart_154 : decode cX11_apart 154 = .ok (.iload_n 3, 1) := by decide +kernel
theorem dX11_apart_155 : decode cX11_apart 155 = .ok (.if_icmp .ge 19, 3) := by decide +kernel
theorem dX11_apart_158 : decode cX11_apart 158 = .ok (.aload_n 0, 1) := by decide +kernel
theorem dX11_apart_159 : decode cX11_apart 159 = .ok (.getfield 62, 3) := by decide +kernel
theorem dX11_apart_162 : decode cX11_apart 162 = .ok (.bipush 13, 2) := by decide +kernel
theorem dX11_apart_164 : decode cX11_apart 164 = .ok (.iload_n 1, 1) := by decide +kernel
theorem dX11_apart_165 : decode cX11_apart 165 = .ok (.imul, 1) := by decide +kernel
theorem dX11_apart_166 : decode cX11_apart 166 = .ok (.iload_n 2, 1) := by decide +kernel
theorem dX11_apart_167 : decode cX11_apart 167 = .ok (.iadd, 1) := by decide +kernel
theorem dX11_apart_168 : decode cX11_apart 168 = .ok (.iconst 1, 1) := by decide +kernel
theorem dX11_apart_169 : decode cX11_apart 169 = .ok (.isub, 1) := by decide +kernel
theorem dX11_apart_170 : decode cX11_apart 170 = .ok (.iaload, 1) := by decide +kernel
theorem dX11_apart_171 : decode cX11_apart 171 = .ok (.iconst 1, 1) := by decide +kernel
theorem dX11_apart_172 : decode cX11_apart 172 = .ok (.iadd, 1) := by decide +kernel
theorem dX11_apart_173 : decode cX11_apart 173 = .ok (.istore_n 3, 1) := by decide +kernel
theorem dX11_apart_174 : decode cX11_apart 174 = .ok (.aload_n 0, 1) := by decide +kernel
theorem dX11_apart_175 : decode cX11_apart 175 = .ok (.getfield 62, 3) := by decide +kernel
theorem dX11_apart_178 : decode cX11_apart 178 = .ok (.bipush 13, 2) := by decide +kernel
theorem dX11_apart_180 : decode cX11_apart 180 = .ok (.iload_n 1, 1) := by decide +kernel
theorem dX11_apart_181 : decode cX11_apart 181 = .ok (.imul, 1) := by decide +kernel
theorem dX11_apart_182 : decode cX11_apart 182 = .ok (.iload_n 2, 1) := by decide +kernel
theorem dX11_apart_183 : decode cX11_apart 183 = .ok (.iadd, 1) := by decide +kernel
theorem dX11_apart_184 : decode cX11_apart 184 = .ok (.iload_n 3, 1) := by decide +kernel
theorem dX11_apart_185 : decode cX11_apart 185 = .ok (.iastore, 1) := by decide +kernel
theorem dX11_apart_186 : decode cX11_apart 186 = .ok (.iinc 2 1, 3) := by decide +kernel
theorem dX11_apart_189 : decode cX11_apart 189 = .ok (.goto (-175), 3) := by decide +kernel
theorem dX11_apart_192 : decode cX11_apart 192 = .ok (.iinc 1 1, 3) := by decide +kernel
theorem dX11_apart_195 : decode cX11_apart 195 = .ok (.goto (-193), 3) := by decide +kernel
theorem dX11_apart_198 : decode cX11_apart 198 = .ok (.aload_n 0, 1) := by decide +kernel
theorem dX11_apart_199 : decode cX11_apart 199 = .ok (.getfield 62, 3) := by decide +kernel
theorem dX11_apart_202 : decode cX11_apart 202 = .ok (.bipush 13, 2) := by decide +kernel
theorem dX11_apart_204 : decode cX11_apart 204 = .ok (.aload_n 0, 1) := by decide +kernel
theorem dX11_apart_205 : decode cX11_apart 205 = .ok (.getfield 7, 3) := by decide +kernel
theorem dX11_apart_208 : decode cX11_apart 208 = .ok (.iconst 4, 1) := by decide +kernel
theorem dX11_apart_209 : decode cX11_apart 209 = .ok (.iaload, 1) := by decide +kernel
theorem dX11_apart_210 : decode cX11_apart 210 = .ok (.imul, 1) := by decide +kernel
theorem dX11_apart_211 : decode cX11_apart 211 = .ok (.aload_n 0, 1) := by decide +kernel
theorem dX11_apart_212 : decode cX11_apart 212 = .ok (.getfield 7, 3) := by decide +kernel
theorem dX11_apart_215 : decode cX11_apart 215 = .ok (.iconst 5, 1) := by decide +kernel
theorem dX11_apart_216 : decode cX11_apart 216 = .ok (.iaload, 1) := by decide +kernel
theorem dX11_apart_217 : decode cX11_apart 217 = .ok (.iadd, 1) := by decide +kernel
theorem dX11_apart_218 : decode cX11_apart 218 = .ok (.iaload, 1) := by decide +kernel
theorem dX11_apart_219 : decode cX11_apart 219 = .ok (.ireturn, 1) := by decide +kernel
theorem dX11_grows_0 : decode cX11_grows 0 = .ok (.iload_n 1, 1) := by decide +kernel
theorem dX11_grows_1 : decode cX11_grows 1 = .ok (.invokestatic 380, 3) := by decide +kernel
theorem dX11_grows_4 : decode cX11_grows 4 = .ok (.ifCond .eq 13, 3) := by decide +kernel
theorem dX11_grows_7 : decode cX11_grows 7 = .ok (.iload_n 2, 1) := by decide +kernel
theorem dX11_grows_8 : decode cX11_grows 8 = .ok (.iconst 0, 1) := by decide +kernel
theorem dX11_grows_9 : decode cX11_grows 9 = .ok (.bipush 12, 2) := by decide +kernel
theorem dX11_grows_11 : decode cX11_grows 11 = .ok (.invokestatic 87, 3) := by decide +kernel
theorem dX11_grows_14 : decode cX11_grows 14 = .ok (.ifCond .ne 5, 3) := by decide +kernel
theorem dX11_grows_17 : decode cX11_grows 17 = .ok (.iconst (-1), 1) := by decide +kernel
theorem dX11_grows_18 : decode cX11_grows 18 = .ok (.ireturn, 1) := by decide +kernel
theorem dX11_grows_19 : decode cX11_grows 19 = .ok (.iconst 0, 1) := by decide +kernel
theorem dX11_grows_20 : decode cX11_grows 20 = .ok (.istore_n 3, 1) := by decide +kernel
theorem dX11_grows_21 : decode cX11_grows 21 = .ok (.iload_n 3, 1) := by decide +kernel
theorem dX11_grows_22 : decode cX11_grows 22 = .ok (.bipush 10, 2) := by decide +kernel
theorem dX11_grows_24 : decode cX11_grows 24 = .ok (.if_icmp .ge 16, 3) := by decide +kernel
theorem dX11_grows_27 : decode cX11_grows 27 = .ok (.aload_n 0, 1) := by decide +kernel
theorem dX11_grows_28 : decode cX11_grows 28 = .ok (.getfield 65, 3) := by decide +kernel
theorem dX11_grows_31 : decode cX11_grows 31 = .ok (.iload_n 3, 1) := by decide +kernel
theorem dX11_grows_32 : decode cX11_grows 32 = .ok (.iconst 0, 1) := by decide +kernel
theorem dX11_grows_33 : decode cX11_grows 33 = .ok (.iastore, 1) := by decide +kernel
theorem dX11_grows_34 : decode cX11_grows 34 = .ok (.iinc 3 1, 3) := by decide +kernel
theorem dX11_grows_37 : decode cX11_grows 37 = .ok (.goto (-16), 3) := by decide +kernel
theorem dX11_grows_40 : decode cX11_grows 40 = .ok (.iconst 0, 1) := by decide +kernel
theorem dX11_grows_41 : decode cX11_grows 41 = .ok (.istore_n 3, 1) := by decide +kernel
theorem dX11_grows_42 : decode cX11_grows 42 = .ok (.iload_n 3, 1) := by decide +kernel
theorem dX11_grows_43 : decode cX11_grows 43 = .ok (.iload_n 1, 1) := by decide +kernel
theorem dX11_grows_44 : decode cX11_grows 44 = .ok (.invokestatic 91, 3) := by decide +kernel
theorem dX11_grows_47 : decode cX11_grows 47 = .ok (.if_icmp .ge 23, 3) := by decide +kernel
theorem dX11_grows_50 : decode cX11_grows 50 = .ok (.aload_n 0, 1) := by decide +kernel
theorem dX11_grows_51 : decode cX11_grows 51 = .ok (.getfield 65, 3) := by decide +kernel
theorem dX11_grows_54 : decode cX11_grows 54 = .ok (.iload_n 1, 1) := by decide +kernel
theorem dX11_grows_55 : decode cX11_grows 55 = .ok (.iload_n 3, 1) := by decide +kernel
theorem dX11_grows_56 : decode cX11_grows 56 = .ok (.invokestatic 344, 3) := by decide +kernel
theorem dX11_grows_59 : decode cX11_grows 59 = .ok (.dup2, 1) := by decide +kernel
theorem dX11_grows_60 : decode cX11_grows 60 = .ok (.iaload, 1) := by decide +kernel
theorem dX11_grows_61 : decode cX11_grows 61 = .ok (.iconst 1, 1) := by decide +kernel
theorem dX11_grows_62 : decode cX11_grows 62 = .ok (.iadd, 1) := by decide +kernel
theorem dX11_grows_63 : decode cX11_grows 63 = .ok (.iastore, 1) := by decide +kernel
theorem dX11_grows_64 : decode cX11_grows 64 = .ok (.iinc 3 1, 3) := by decide +kernel
theorem dX11_grows_67 : decode cX11_grows 67 = .ok (.goto (-25), 3) := by decide +kernel
theorem dX11_grows_70 : decode cX11_grows 70 = .ok (.iconst 0, 1) := by decide +kernel
theorem dX11_grows_71 : decode cX11_grows 71 = .ok (.istore_n 3, 1) := by decide +kernel
theorem dX11_grows_72 : decode cX11_grows 72 = .ok (.iload_n 3, 1) := by decide +kernel
theorem dX11_grows_73 : decode cX11_grows 73 = .ok (.iload_n 2, 1) := by decide +kernel
theorem dX11_grows_74 : decode cX11_grows 74 = .ok (.if_icmp .ge 130, 3) := by decide +kernel
theorem dX11_grows_77 : decode cX11_grows 77 = .ok (.iconst 0, 1) := by decide +kernel
theorem dX11_grows_78 : decode cX11_grows 78 = .ok (.istore 4, 2) := by decide +kernel
theorem dX11_grows_80 : decode cX11_grows 80 = .ok (.iload 4, 2) := by decide +kernel
theorem dX11_grows_82 : decode cX11_grows 82 = .ok (.bipush 10, 2) := by decide +kernel
theorem dX11_grows_84 : decode cX11_grows 84 = .ok (.if_icmp .ge 17, 3) := by decide +kernel
theorem dX11_grows_87 : decode cX11_grows 87 = .ok (.aload_n 0, 1) := by decide +kernel
theorem dX11_grows_88 : decode cX11_grows 88 = .ok (.getfield 68, 3) := by decide +kernel
theorem dX11_grows_91 : decode cX11_grows 91 = .ok (.iload 4, 2) := by decide +kernel
theorem dX11_grows_93 : decode cX11_grows 93 = .ok (.iconst 0, 1) := by decide +kernel
theorem dX11_grows_94 : decode cX11_grows 94 = .ok (.iastore, 1) := by decide +kernel
theorem dX11_grows_95 : decode cX11_grows 95 = .ok (.iinc 4 1, 3) := by decide +kernel
theorem dX11_grows_98 : decode cX11_grows 98 = .ok (.goto (-18), 3) := by decide +kernel
theorem dX11_grows_101 : decode cX11_grows 101 = .ok (.iconst 0, 1) := by decide +kernel
theorem dX11_grows_102 : decode cX11_grows 102 = .ok (.istore 4, 2) := by decide +kernel
theorem dX11_grows_104 : decode cX11_grows 104 = .ok (.iload 4, 2) := by decide +kernel
theorem dX11_grows_106 : decode cX11_grows 106 = .ok (.bipush 10, 2) := by decide +kernel
theorem dX11_grows_108 : decode cX11_grows 108 = .ok (.if_icmp .ge 60, 3) := by decide +kernel
theorem dX11_grows_111 : decode cX11_grows 111 = .ok (.iconst 0, 1) := by decide +kernel
theorem dX11_grows_112 : decode cX11_grows 112 = .ok (.istore 5, 2) := by decide +kernel
theorem dX11_grows_114 : decode cX11_grows 114 = .ok (.iload 5, 2) := by decide +kernel
theorem dX11_grows_116 : decode cX11_grows 116 = .ok (.aload_n 0, 1) := by decide +kernel
theorem dX11_grows_117 : decode cX11_grows 117 = .ok (.iload 4, 2) := by decide +kernel
theorem dX11_grows_119 : decode cX11_grows 119 = .ok (.iconst 0, 1) := by decide +kernel
theorem dX11_grows_120 : decode cX11_grows 120 = .ok (.invokevirtual 350, 3) := by decide +kernel
theorem dX11_grows_123 : decode cX11_grows 123 = .ok (.invokestatic 332, 3) := by decide +kernel
theorem dX11_grows_126 : decode cX11_grows 126 = .ok (.if_icmp .ge 36, 3) := by decide +kernel
theorem dX11_grows_129 : decode cX11_grows 129 = .ok (.aload_n 0, 1) := by decide +kernel
theorem dX11_grows_130 : decode cX11_grows 130 = .ok (.getfield 68, 3) := by decide +kernel
theorem dX11_grows_133 : decode cX11_grows 133 = .ok (.aload_n 0, 1) := by decide +kernel
theorem dX11_grows_134 : decode cX11_grows 134 = .ok (.iload 4, 2) := by decide +kernel
theorem dX11_grows_136 : decode cX11_grows 136 = .ok (.iconst 0, 1) := by decide +kernel
theorem dX11_grows_137 : decode cX11_grows 137 = .ok (.invokevirtual 350, 3) := by decide +kernel
theorem dX11_grows_140 : decode cX11_grows 140 = .ok (.iload 5, 2) := by decide +kernel
theorem dX11_grows_142 : decode cX11_grows 142 = .ok (.invokestatic 335, 3) := by decide +kernel
theorem dX11_grows_145 : decode cX11_grows 145 = .ok (.dup2, 1) := by decide +kernel
theorem dX11_grows_146 : decode cX11_grows 146 = .ok (.iaload, 1) := by decide +kernel
theorem dX11_grows_147 : decode cX11_grows 147 = .ok (.aload_n 0, 1) := by decide +kernel
theorem dX11_grows_148 : decode cX11_grows 148 = .ok (.getfield 65, 3) := by decide +kernel
theorem dX11_grows_151 : decode cX11_grows 151 = .ok (.iload 4, 2) := by decide +kernel
theorem dX11_grows_153 : decode cX11_grows 153 = .ok (.iaload, 1) := by decide +kernel
theorem dX11_grows_154 : decode cX11_grows 154 = .ok (.iadd, 1) := by decide +kernel
theorem dX11_grows_155 : decode cX11_grows 155 = .ok (.iastore, 1) := by decide +kernel
theorem dX11_grows_156 : decode cX11_grows 156 = .ok (.iinc 5 1, 3) := by decide +kernel
theorem dX11_grows_159 : decode cX11_grows 159 = .ok (.goto (-45), 3) := by decide +kernel
theorem dX11_grows_162 : decode cX11_grows 162 = .ok (.iinc 4 1, 3) := by decide +kernel
theorem dX11_grows_165 : decode cX11_grows 165 = .ok (.goto (-61), 3) := by decide +kernel
theorem dX11_grows_168 : decode cX11_grows 168 = .ok (.iconst 0, 1) := by decide +kernel
theorem dX11_grows_169 : decode cX11_grows 169 = .ok (.istore 4, 2) := by decide +kernel
theorem dX11_grows_171 : decode cX11_grows 171 = .ok (.iload 4, 2) := by decide +kernel
theorem dX11_grows_173 : decode cX11_grows 173 = .ok (.bipush 10, 2) := by decide +kernel
theorem dX11_grows_175 : decode cX11_grows 175 = .ok (.if_icmp .ge 23, 3) := by decide +kernel
theorem dX11_grows_178 : decode cX11_grows 178 = .ok (.aload_n 0, 1) := by decide +kernel
theorem dX11_grows_179 : decode cX11_grows 179 = .ok (.getfield 65, 3) := by decide +kernel
theorem dX11_grows_182 : decode cX11_grows 182 = .ok (.iload 4, 2) := by decide +kernel
theorem dX11_grows_184 : decode cX11_grows 184 = .ok (.aload_n 0, 1) := by decide +kernel
theorem dX11_grows_185 : decode cX11_grows 185 = .ok (.getfield 68, 3) := by decide +kernel
theorem dX11_grows_188 : decode cX11_grows 188 = .ok (.iload 4, 2) := by decide +kernel
theorem dX11_grows_190 : decode cX11_grows 190 = .ok (.iaload, 1) := by decide +kernel
theorem dX11_grows_191 : decode cX11_grows 191 = .ok (.iastore, 1) := by decide +kernel
theorem dX11_grows_192 : decode cX11_grows 192 = .ok (.iinc 4 1, 3) := by decide +kernel
theorem dX11_grows_195 : decode cX11_grows 195 = .ok (.goto (-24), 3) := by decide +kernel
theorem dX11_grows_198 : decode cX11_grows 198 = .ok (.iinc 3 1, 3) := by decide +kernel
theorem dX11_grows_201 : decode cX11_grows 201 = .ok (.goto (-129), 3) := by decide +kernel
theorem dX11_grows_204 : decode cX11_grows 204 = .ok (.iconst 0, 1) := by decide +kernel
theorem dX11_grows_205 : decode cX11_grows 205 = .ok (.istore_n 3, 1) := by decide +kernel
theorem dX11_grows_206 : decode cX11_grows 206 = .ok (.iconst 0, 1) := by decide +kernel
theorem dX11_grows_207 : decode cX11_grows 207 = .ok (.istore 4, 2) := by decide +kernel
theorem dX11_grows_209 : decode cX11_grows 209 = .ok (.iload 4, 2) := by decide +kernel
theorem dX11_grows_211 : decode cX11_grows 211 = .ok (.bipush 10, 2) := by decide +kernel
theorem dX11_grows_213 : decode cX11_grows 213 = .ok (.if_icmp .ge 19, 3) := by decide +kernel
theorem dX11_grows_216 : decode cX11_grows 216 = .ok (.iload_n 3, 1) := by decide +kernel
theorem dX11_grows_217 : decode cX11_grows 217 = .ok (.aload_n 0, 1) := by decide +kernel
theorem dX11_grows_218 : decode cX11_grows 218 = .ok (.getfield 65, 3) := by decide +kernel
theorem dX11_grows_221 : decode cX11_grows 221 = .ok (.iload 4, 2) := by decide +kernel
theorem dX11_grows_223 : decode cX11_grows 223 = .ok (.iaload, 1) := by decide +kernel
theorem dX11_grows_224 : decode cX11_grows 224 = .ok (.iadd, 1) := by decide +kernel
theorem dX11_grows_225 : decode cX11_grows 225 = .ok (.istore_n 3, 1) := by decide +kernel
theorem dX11_grows_226 : decode cX11_grows 226 = .ok (.iinc 4 1, 3) := by decide +kernel
theorem dX11_grows_229 : decode cX11_grows 229 = .ok (.goto (-20), 3) := by decide +kernel
theorem dX11_grows_232 : decode cX11_grows 232 = .ok (.iload_n 3, 1) := by decide +kernel
theorem dX11_grows_233 : decode cX11_grows 233 = .ok (.sipush 9999, 3) := by decide +kernel
theorem dX11_grows_236 : decode cX11_grows 236 = .ok (.if_icmp .le 9, 3) := by decide +kernel
theorem dX11_grows_239 : decode cX11_grows 239 = .ok (.sipush 9999, 3) := by decide +kernel
theorem dX11_grows_242 : decode cX11_grows 242 = .ok (.goto 4, 3) := by decide +kernel
theorem dX11_grows_245 : decode cX11_grows 245 = .ok (.iload_n 3, 1) := by decide +kernel
theorem dX11_grows_246 : decode cX11_grows 246 = .ok (.ireturn, 1) := by decide +kernel
theorem dX11_stays_0 : decode cX11_stays 0 = .ok (.iconst 0, 1) := by decide +kernel
theorem dX11_stays_1 : decode cX11_stays 1 = .ok (.istore_n 2, 1) := by decide +kernel
theorem dX11_stays_2 : decode cX11_stays 2 = .ok (.iconst 0, 1) := by decide +kernel
theorem dX11_stays_3 : decode cX11_stays 3 = .ok (.istore_n 3, 1) := by decide +kernel
theorem dX11_stays_4 : decode cX11_stays 4 = .ok (.iload_n 3, 1) := by decide +kernel
theorem dX11_stays_5 : decode cX11_stays 5 = .ok (.bipush 10, 2) := by decide +kernel
theorem dX11_stays_7 : decode cX11_stays 7 = .ok (.if_icmp .ge 84, 3) := by decide +kernel
theorem dX11_stays_10 : decode cX11_stays 10 = .ok (.iload_n 3, 1) := by decide +kernel
theorem dX11_stays_11 : decode cX11_stays 11 = .ok (.istore 4, 2) := by decide +kernel
theorem dX11_stays_13 : decode cX11_stays 13 = .ok (.iconst 1, 1) := by decide +kernel
theorem dX11_stays_14 : decode cX11_stays 14 = .ok (.istore 5, 2) := by decide +kernel
theorem dX11_stays_16 : decode cX11_stays 16 = .ok (.iload 5, 2) := by decide +kernel
theorem dX11_stays_18 : decode cX11_stays 18 = .ok (.bipush 10, 2) := by decide +kernel
theorem dX11_stays_20 : decode cX11_stays 20 = .ok (.if_icmp .ge 65, 3) := by decide +kernel
theorem dX11_stays_23 : decode cX11_stays 23 = .ok (.iload 4, 2) := by decide +kernel
theorem dX11_stays_25 : decode cX11_stays 25 = .ok (.iconst (-1), 1) := by decide +kernel
theorem dX11_stays_26 : decode cX11_stays 26 = .ok (.if_icmp .eq 59, 3) := by decide +kernel
theorem dX11_stays_29 : decode cX11_stays 29 = .ok (.aload_n 0, 1) := by decide +kernel
theorem dX11_stays_30 : decode cX11_stays 30 = .ok (.iload 4, 2) := by decide +kernel
theorem dX11_stays_32 : decode cX11_stays 32 = .ok (.iload_n 1, 1) := by decide +kernel
theorem dX11_stays_33 : decode cX11_stays 33 = .ok (.ifCond .eq 7, 3) := by decide +kernel
theorem dX11_stays_36 : decode cX11_stays 36 = .ok (.iconst 1, 1) := by decide +kernel
theorem dX11_stays_37 : decode cX11_stays 37 = .ok (.goto 4, 3) := by decide +kernel
theorem dX11_stays_40 : decode cX11_stays 40 = .ok (.iconst 0, 1) := by decide +kernel
theorem dX11_stays_41 : decode cX11_stays 41 = .ok (.invokevirtual 350, 3) := by decide +kernel
theorem dX11_stays_44 : decode cX11_stays 44 = .ok (.istore 6, 2) := by decide +kernel
theorem dX11_stays_46 : decode cX11_stays 46 = .ok (.iload 6, 2) := by decide +kernel
theorem dX11_stays_48 : decode cX11_stays 48 = .ok (.invokestatic 332, 3) := by decide +kernel
theorem dX11_stays_51 : decode cX11_stays 51 = .ok (.iconst 1, 1) := by decide +kernel
theorem dX11_stays_52 : decode cX11_stays 52 = .ok (.if_icmp .ne 12, 3) := by decide +kernel
theorem dX11_stays_55 : decode cX11_stays 55 = .ok (.iload 6, 2) := by decide +kernel
theorem dX11_stays_57 : decode cX11_stays 57 = .ok (.iconst 0, 1) := by decide +kernel
theorem dX11_stays_58 : decode cX11_stays 58 = .ok (.invokestatic 335, 3) := by decide +kernel
theorem dX11_stays_61 : decode cX11_stays 61 = .ok (.goto 4, 3) := by decide +kernel
theorem dX11_stays_64 : decode cX11_stays 64 = .ok (.iconst (-1), 1) := by decide +kernel
theorem dX11_stays_65 : decode cX11_stays 65 = .ok (.istore 4, 2) := by decide +kernel
theorem dX11_stays_67 : decode cX11_stays 67 = .ok (.iload 4, 2) := by decide +kernel
theorem dX11_stays_69 : decode cX11_stays 69 = .ok (.iload_n 3, 1) := by decide +kernel
theorem dX11_stays_70 : decode cX11_stays 70 = .ok (.if_icmp .ne 9, 3) := by decide +kernel
theorem dX11_stays_73 : decode cX11_stays 73 = .ok (.iload_n 2, 1) := by decide +kernel
theorem dX11_stays_74 : decode cX11_stays 74 = .ok (.iconst 1, 1) := by decide +kernel
theorem dX11_stays_75 : decode cX11_stays 75 = .ok (.iload_n 3, 1) := by decide +kernel
theorem dX11_stays_76 : decode cX11_stays 76 = .ok (.ishl, 1) := by decide +kernel
theorem dX11_stays_77 : decode cX11_stays 77 = .ok (.ior, 1) := by decide +kernel
theorem dX11_stays_78 : decode cX11_stays 78 = .ok (.istore_n 2, 1) := by decide +kernel
theorem dX11_stays_79 : decode cX11_stays 79 = .ok (.iinc 5 1, 3) := by decide +kernel
theorem dX11_stays_82 : decode cX11_stays 82 = .ok (.goto (-66), 3) := by decide +kernel
theorem dX11_stays_85 : decode cX11_stays 85 = .ok (.iinc 3 1, 3) := by decide +kernel
theorem dX11_stays_88 : decode cX11_stays 88 = .ok (.goto (-84), 3) := by decide +kernel
theorem dX11_stays_91 : decode cX11_stays 91 = .ok (.iload_n 2, 1) := by decide +kernel
theorem dX11_stays_92 : decode cX11_stays 92 = .ok (.ireturn, 1) := by decide +kernel
theorem dX11_likes_0 : decode cX11_likes 0 = .ok (.iload_n 2, 1) := by decide +kernel
theorem dX11_likes_1 : decode cX11_likes 1 = .ok (.iconst 0, 1) := by decide +kernel
theorem dX11_likes_2 : decode cX11_likes 2 = .ok (.iconst 4, 1) := by decide +kernel
theorem dX11_likes_3 : decode cX11_likes 3 = .ok (.invokestatic 87, 3) := by decide +kernel
theorem dX11_likes_6 : decode cX11_likes 6 = .ok (.ifCond .eq 20, 3) := by decide +kernel
theorem dX11_likes_9 : decode cX11_likes 9 = .ok (.iload_n 3, 1) := by decide +kernel
theorem dX11_likes_10 : decode cX11_likes 10 = .ok (.iconst 0, 1) := by decide +kernel
theorem dX11_likes_11 : decode cX11_likes 11 = .ok (.iconst 4, 1) := by decide +kernel
theorem dX11_likes_12 : decode cX11_likes 12 = .ok (.invokestatic 87, 3) := by decide +kernel
theorem dX11_likes_15 : decode cX11_likes 15 = .ok (.ifCond .eq 11, 3) := by decide +kernel
theorem dX11_likes_18 : decode cX11_likes 18 = .ok (.iload 4, 2) := by decide +kernel
theorem dX11_likes_20 : decode cX11_likes 20 = .ok (.invokestatic 95, 3) := by decide +kernel
theorem dX11_likes_23 : decode cX11_likes 23 = .ok (.ifCond .ne 5, 3) := by decide +kernel
theorem dX11_likes_26 : decode cX11_likes 26 = .ok (.iconst 0, 1) := by decide +kernel
theorem dX11_likes_27 : decode cX11_likes 27 = .ok (.ireturn, 1) := by decide +kernel
theorem dX11_likes_28 : decode cX11_likes 28 = .ok (.aload_n 0, 1) := by decide +kernel
theorem dX11_likes_29 : decode cX11_likes 29 = .ok (.getfield 7, 3) := by decide +kernel
theorem dX11_likes_32 : decode cX11_likes 32 = .ok (.sipush 153, 3) := by decide +kernel
theorem dX11_likes_35 : decode cX11_likes 35 = .ok (.iload_n 1, 1) := by decide +kernel
theorem dX11_likes_36 : decode cX11_likes 36 = .ok (.ifCond .eq 7, 3) := by decide +kernel
theorem dX11_likes_39 : decode cX11_likes 39 = .ok (.iconst 0, 1) := by decide +kernel
theorem dX11_likes_40 : decode cX11_likes 40 = .ok (.goto 5, 3) := by decide +kernel
theorem dX11_likes_43 : decode cX11_likes 43 = .ok (.bipush 25, 2) := by decide +kernel
theorem dX11_likes_45 : decode cX11_likes 45 = .ok (.iadd, 1) := by decide +kernel
theorem dX11_likes_46 : decode cX11_likes 46 = .ok (.iconst 5, 1) := by decide +kernel
theorem dX11_likes_47 : decode cX11_likes 47 = .ok (.iload_n 2, 1) := by decide +kernel
theorem dX11_likes_48 : decode cX11_likes 48 = .ok (.imul, 1) := by decide +kernel
theorem dX11_likes_49 : decode cX11_likes 49 = .ok (.iadd, 1) := by decide +kernel
theorem dX11_likes_50 : decode cX11_likes 50 = .ok (.iload_n 3, 1) := by decide +kernel
theorem dX11_likes_51 : decode cX11_likes 51 = .ok (.iadd, 1) := by decide +kernel
theorem dX11_likes_52 : decode cX11_likes 52 = .ok (.iload 4, 2) := by decide +kernel
theorem dX11_likes_54 : decode cX11_likes 54 = .ok (.iastore, 1) := by decide +kernel
theorem dX11_likes_55 : decode cX11_likes 55 = .ok (.iconst 1, 1) := by decide +kernel
theorem dX11_likes_56 : decode cX11_likes 56 = .ok (.ireturn, 1) := by decide +kernel
theorem dX11_isBetter_0 : decode cX11_isBetter 0 = .ok (.aload_n 0, 1) := by decide +kernel
theorem dX11_isBetter_1 : decode cX11_isBetter 1 = .ok (.getfield 7, 3) := by decide +kernel
theorem dX11_isBetter_4 : decode cX11_isBetter 4 = .ok (.sipush 153, 3) := by decide +kernel
theorem dX11_isBetter_7 : decode cX11_isBetter 7 = .ok (.iload_n 1, 1) := by decide +kernel
theorem dX11_isBetter_8 : decode cX11_isBetter 8 = .ok (.iadd, 1) := by decide +kernel
theorem dX11_isBetter_9 : decode cX11_isBetter 9 = .ok (.iconst 5, 1) := by decide +kernel
theorem dX11_isBetter_10 : decode cX11_isBetter 10 = .ok (.iload_n 2, 1) := by decide +kernel
theorem dX11_isBetter_11 : decode cX11_isBetter 11 = .ok (.imul, 1) := by decide +kernel
theorem dX11_isBetter_12 : decode cX11_isBetter 12 = .ok (.iadd, 1) := by decide +kernel
theorem dX11_isBetter_13 : decode cX11_isBetter 13 = .ok (.iload_n 3, 1) := by decide +kernel
theorem dX11_isBetter_14 : decode cX11_isBetter 14 = .ok (.iadd, 1) := by decide +kernel
theorem dX11_isBetter_15 : decode cX11_isBetter 15 = .ok (.iaload, 1) := by decide +kernel
theorem dX11_isBetter_16 : decode cX11_isBetter 16 = .ok (.aload_n 0, 1) := by decide +kernel
theorem dX11_isBetter_17 : decode cX11_isBetter 17 = .ok (.getfield 7, 3) := by decide +kernel
theorem dX11_isBetter_20 : decode cX11_isBetter 20 = .ok (.sipush 153, 3) := by decide +kernel
theorem dX11_isBetter_23 : decode cX11_isBetter 23 = .ok (.iload_n 1, 1) := by decide +kernel
theorem dX11_isBetter_24 : decode cX11_isBetter 24 = .ok (.iadd, 1) := by decide +kernel
theorem dX11_isBetter_25 : decode cX11_isBetter 25 = .ok (.iconst 5, 1) := by decide +kernel
theorem dX11_isBetter_26 : decode cX11_isBetter 26 = .ok (.iload_n 2, 1) := by decide +kernel
theorem dX11_isBetter_27 : decode cX11_isBetter 27 = .ok (.imul, 1) := by decide +kernel
theorem dX11_isBetter_28 : decode cX11_isBetter 28 = .ok (.iadd, 1) := by decide +kernel
theorem dX11_isBetter_29 : decode cX11_isBetter 29 = .ok (.iload 4, 2) := by decide +kernel
theorem dX11_isBetter_31 : decode cX11_isBetter 31 = .ok (.iadd, 1) := by decide +kernel
theorem dX11_isBetter_32 : decode cX11_isBetter 32 = .ok (.iaload, 1) := by decide +kernel
theorem dX11_isBetter_33 : decode cX11_isBetter 33 = .ok (.isub, 1) := by decide +kernel
theorem dX11_isBetter_34 : decode cX11_isBetter 34 = .ok (.istore 5, 2) := by decide +kernel
theorem dX11_isBetter_36 : decode cX11_isBetter 36 = .ok (.iload 5, 2) := by decide +kernel
theorem dX11_isBetter_38 : decode cX11_isBetter 38 = .ok (.ifCond .lt 14, 3) := by decide +kernel
theorem dX11_isBetter_41 : decode cX11_isBetter 41 = .ok (.iload 5, 2) := by decide +kernel
theorem dX11_isBetter_43 : decode cX11_isBetter 43 = .ok (.ifCond .ne 13, 3) := by decide +kernel
theorem dX11_isBetter_46 : decode cX11_isBetter 46 = .ok (.iload_n 3, 1) := by decide +kernel
theorem dX11_isBetter_47 : decode cX11_isBetter 47 = .ok (.iload 4, 2) := by decide +kernel
theorem dX11_isBetter_49 : decode cX11_isBetter 49 = .ok (.if_icmp .ge 7, 3) := by decide +kernel
theorem dX11_isBetter_52 : decode cX11_isBetter 52 = .ok (.iconst 1, 1) := by decide +kernel
theorem dX11_isBetter_53 : decode cX11_isBetter 53 = .ok (.goto 4, 3) := by decide +kernel
theorem dX11_isBetter_56 : decode cX11_isBetter 56 = .ok (.iconst 0, 1) := by decide +kernel
theorem dX11_isBetter_57 : decode cX11_isBetter 57 = .ok (.ireturn, 1) := by decide +kernel
theorem dX11_bestOf_0 : decode cX11_bestOf 0 = .ok (.iconst (-1), 1) := by decide +kernel
theorem dX11_bestOf_1 : decode cX11_bestOf 1 = .ok (.istore_n 2, 1) := by decide +kernel
theorem dX11_bestOf_2 : decode cX11_bestOf 2 = .ok (.iconst 0, 1) := by decide +kernel
theorem dX11_bestOf_3 : decode cX11_bestOf 3 = .ok (.istore_n 3, 1) := by decide +kernel
theorem dX11_bestOf_4 : decode cX11_bestOf 4 = .ok (.iload_n 3, 1) := by decide +kernel
theorem dX11_bestOf_5 : decode cX11_bestOf 5 = .ok (.iconst 5, 1) := by decide +kernel
theorem dX11_bestOf_6 : decode cX11_bestOf 6 = .ok (.if_icmp .ge 40, 3) := by decide +kernel
theorem dX11_bestOf_9 : decode cX11_bestOf 9 = .ok (.aload_n 0, 1) := by decide +kernel
theorem dX11_bestOf_10 : decode cX11_bestOf 10 = .ok (.getfield 74, 3) := by decide +kernel
theorem dX11_bestOf_13 : decode cX11_bestOf 13 = .ok (.iload_n 1, 1) := by decide +kernel
theorem dX11_bestOf_14 : decode cX11_bestOf 14 = .ok (.iaload, 1) := by decide +kernel
theorem dX11_bestOf_15 : decode cX11_bestOf 15 = .ok (.iload_n 3, 1) := by decide +kernel
theorem dX11_bestOf_16 : decode cX11_bestOf 16 = .ok (.invokestatic 269, 3) := by decide +kernel
theorem dX11_bestOf_19 : decode cX11_bestOf 19 = .ok (.ifCond .ne 21, 3) := by decide +kernel
theorem dX11_bestOf_22 : decode cX11_bestOf 22 = .ok (.iload_n 2, 1) := by decide +kernel
theorem dX11_bestOf_23 : decode cX11_bestOf 23 = .ok (.iconst (-1), 1) := by decide +kernel
theorem dX11_bestOf_24 : decode cX11_bestOf 24 = .ok (.if_icmp .eq 14, 3) := by decide +kernel
theorem dX11_bestOf_27 : decode cX11_bestOf 27 = .ok (.aload_n 0, 1) := by decide +kernel
theorem dX11_bestOf_28 : decode cX11_bestOf 28 = .ok (.iconst 0, 1) := by decide +kernel
theorem dX11_bestOf_29 : decode cX11_bestOf 29 = .ok (.iload_n 1, 1) := by decide +kernel
theorem dX11_bestOf_30 : decode cX11_bestOf 30 = .ok (.iload_n 3, 1) := by decide +kernel
theorem dX11_bestOf_31 : decode cX11_bestOf 31 = .ok (.iload_n 2, 1) := by decide +kernel
theorem dX11_bestOf_32 : decode cX11_bestOf 32 = .ok (.invokevirtual 477, 3) := by decide +kernel
theorem dX11_bestOf_35 : decode cX11_bestOf 35 = .ok (.ifCond .eq 5, 3) := by decide +kernel
theorem dX11_bestOf_38 : decode cX11_bestOf 38 = .ok (.iload_n 3, 1) := by decide +kernel
theorem dX11_bestOf_39 : decode cX11_bestOf 39 = .ok (.istore_n 2, 1) := by decide +kernel
theorem dX11_bestOf_40 : decode cX11_bestOf 40 = .ok (.iinc 3 1, 3) := by decide +kernel
theorem dX11_bestOf_43 : decode cX11_bestOf 43 = .ok (.goto (-39), 3) := by decide +kernel
theorem dX11_bestOf_46 : decode cX11_bestOf 46 = .ok (.iload_n 2, 1) := by decide +kernel
theorem dX11_bestOf_47 : decode cX11_bestOf 47 = .ok (.ireturn, 1) := by decide +kernel
theorem dX11_layPairs_0 : decode cX11_layPairs 0 = .ok (.iconst 0, 1) := by decide +kernel
theorem dX11_layPairs_1 : decode cX11_layPairs 1 = .ok (.istore_n 1, 1) := by decide +kernel
theorem dX11_layPairs_2 : decode cX11_layPairs 2 = .ok (.iload_n 1, 1) := by decide +kernel
theorem dX11_layPairs_3 : decode cX11_layPairs 3 = .ok (.iconst 5, 1) := by decide +kernel
theorem dX11_layPairs_4 : decode cX11_layPairs 4 = .ok (.if_icmp .ge 23, 3) := by decide +kernel
theorem dX11_layPairs_7 : decode cX11_layPairs 7 = .ok (.aload_n 0, 1) := by decide +kernel
theorem dX11_layPairs_8 : decode cX11_layPairs 8 = .ok (.getfield 71, 3) := by decide +kernel
theorem dX11_layPairs_11 : decode cX11_layPairs 11 = .ok (.iload_n 1, 1) := by decide +kernel
theorem dX11_layPairs_12 : decode cX11_layPairs 12 = .ok (.iconst (-1), 1) := by decide +kernel
theorem dX11_layPairs_13 : decode cX11_layPairs 13 = .ok (.iastore, 1) := by decide +kernel
theorem dX11_layPairs_14 : decode cX11_layPairs 14 = .ok (.aload_n 0, 1) := by decide +kernel
theorem dX11_layPairs_15 : decode cX11_layPairs 15 = .ok (.getfield 74, 3) := by decide +kernel
theorem dX11_layPairs_18 : decode cX11_layPairs 18 = .ok (.iload_n 1, 1) := by decide +kernel
theorem dX11_layPairs_19 : decode cX11_layPairs 19 = .ok (.iconst 0, 1) := by decide +kernel
theorem dX11_layPairs_20 : decode cX11_layPairs 20 = .ok (.iastore, 1) := by decide +kernel
theorem dX11_layPairs_21 : decode cX11_layPairs 21 = .ok (.iinc 1 1, 3) := by decide +kernel
theorem dX11_layPairs_24 : decode cX11_layPairs 24 = .ok (.goto (-22), 3) := by decide +kernel
theorem dX11_layPairs_27 : decode cX11_layPairs 27 = .ok (.iconst 0, 1) := by decide +kernel
theorem dX11_layPairs_28 : decode cX11_layPairs 28 = .ok (.istore_n 1, 1) := by decide +kernel
theorem dX11_layPairs_29 : decode cX11_layPairs 29 = .ok (.iload_n 1, 1) := by decide +kernel
theorem dX11_layPairs_30 : decode cX11_layPairs 30 = .ok (.iconst 5, 1) := by decide +kernel
theorem dX11_layPairs_31 : decode cX11_layPairs 31 = .ok (.if_icmp .ge 74, 3) := by decide +kernel
theorem dX11_layPairs_34 : decode cX11_layPairs 34 = .ok (.iload_n 1, 1) := by decide +kernel
theorem dX11_layPairs_35 : decode cX11_layPairs 35 = .ok (.istore_n 2, 1) := by decide +kernel
theorem dX11_layPairs_36 : decode cX11_layPairs 36 = .ok (.iload_n 2, 1) := by decide +kernel
theorem dX11_layPairs_37 : decode cX11_layPairs 37 = .ok (.iconst (-1), 1) := by decide +kernel
theorem dX11_layPairs_38 : decode cX11_layPairs 38 = .ok (.if_icmp .eq 61, 3) := by decide +kernel
theorem dX11_layPairs_41 : decode cX11_layPairs 41 = .ok (.aload_n 0, 1) := by decide +kernel
theorem dX11_layPairs_42 : decode cX11_layPairs 42 = .ok (.iload_n 2, 1) := by decide +kernel
theorem dX11_layPairs_43 : decode cX11_layPairs 43 = .ok (.invokevirtual 480, 3) := by decide +kernel
theorem dX11_layPairs_46 : decode cX11_layPairs 46 = .ok (.istore_n 3, 1) := by decide +kernel
theorem dX11_layPairs_47 : decode cX11_layPairs 47 = .ok (.aload_n 0, 1) := by decide +kernel
theorem dX11_layPairs_48 : decode cX11_layPairs 48 = .ok (.getfield 74, 3) := by decide +kernel
theorem dX11_layPairs_51 : decode cX11_layPairs 51 = .ok (.iload_n 2, 1) := by decide +kernel
theorem dX11_layPairs_52 : decode cX11_layPairs 52 = .ok (.dup2, 1) := by decide +kernel
theorem dX11_layPairs_53 : decode cX11_layPairs 53 = .ok (.iaload, 1) := by decide +kernel
theorem dX11_layPairs_54 : decode cX11_layPairs 54 = .ok (.iconst 1, 1) := by decide +kernel
theorem dX11_layPairs_55 : decode cX11_layPairs 55 = .ok (.iload_n 3, 1) := by decide +kernel
theorem dX11_layPairs_56 : decode cX11_layPairs 56 = .ok (.ishl, 1) := by decide +kernel
theorem dX11_layPairs_57 : decode cX11_layPairs 57 = .ok (.ior, 1) := by decide +kernel
theorem dX11_layPairs_58 : decode cX11_layPairs 58 = .ok (.iastore, 1) := by decide +kernel
theorem dX11_layPairs_59 : decode cX11_layPairs 59 = .ok (.aload_n 0, 1) := by decide +kernel
theorem dX11_layPairs_60 : decode cX11_layPairs 60 = .ok (.getfield 71, 3) := by decide +kernel
theorem dX11_layPairs_63 : decode cX11_layPairs 63 = .ok (.iload_n 3, 1) := by decide +kernel
theorem dX11_layPairs_64 : decode cX11_layPairs 64 = .ok (.iaload, 1) := by decide +kernel
theorem dX11_layPairs_65 : decode cX11_layPairs 65 = .ok (.istore 4, 2) := by decide +kernel
theorem dX11_layPairs_67 : decode cX11_layPairs 67 = .ok (.iload 4, 2) := by decide +kernel
theorem dX11_layPairs_69 : decode cX11_layPairs 69 = .ok (.iconst (-1), 1) := by decide +kernel
theorem dX11_layPairs_70 : decode cX11_layPairs 70 = .ok (.if_icmp .eq 16, 3) := by decide +kernel
theorem dX11_layPairs_73 : decode cX11_layPairs 73 = .ok (.aload_n 0, 1) := by decide +kernel
theorem dX11_layPairs_74 : decode cX11_layPairs 74 = .ok (.bipush 25, 2) := by decide +kernel
theorem dX11_layPairs_76 : decode cX11_layPairs 76 = .ok (.iload_n 3, 1) := by decide +kernel
theorem dX11_layPairs_77 : decode cX11_layPairs 77 = .ok (.iload_n 2, 1) := by decide +kernel
theorem dX11_layPairs_78 : decode cX11_layPairs 78 = .ok (.iload 4, 2) := by decide +kernel
theorem dX11_layPairs_80 : decode cX11_layPairs 80 = .ok (.invokevirtual 477, 3) := by decide +kernel
theorem dX11_layPairs_83 : decode cX11_layPairs 83 = .ok (.ifCond .eq 13, 3) := by decide +kernel
theorem dX11_layPairs_86 : decode cX11_layPairs 86 = .ok (.aload_n 0, 1) := by decide +kernel
theorem dX11_layPairs_87 : decode cX11_layPairs 87 = .ok (.getfield 71, 3) := by decide +kernel
theorem dX11_layPairs_90 : decode cX11_layPairs 90 = .ok (.iload_n 3, 1) := by decide +kernel
theorem dX11_layPairs_91 : decode cX11_layPairs 91 = .ok (.iload_n 2, 1) := by decide +kernel
theorem dX11_layPairs_92 : decode cX11_layPairs 92 = .ok (.iastore, 1) := by decide +kernel
theorem dX11_layPairs_93 : decode cX11_layPairs 93 = .ok (.iload 4, 2) := by decide +kernel
theorem dX11_layPairs_95 : decode cX11_layPairs 95 = .ok (.istore_n 2, 1) := by decide +kernel
theorem dX11_layPairs_96 : decode cX11_layPairs 96 = .ok (.goto (-60), 3) := by decide +kernel
theorem dX11_layPairs_99 : decode cX11_layPairs 99 = .ok (.iinc 1 1, 3) := by decide +kernel
theorem dX11_layPairs_102 : decode cX11_layPairs 102 = .ok (.goto (-73), 3) := by decide +kernel
theorem dX11_layPairs_105 : decode cX11_layPairs 105 = .ok (.return_, 1) := by decide +kernel
theorem dX11_paired_0 : decode cX11_paired 0 = .ok (.iload_n 1, 1) := by decide +kernel
theorem dX11_paired_1 : decode cX11_paired 1 = .ok (.iconst 0, 1) := by decide +kernel
theorem dX11_paired_2 : decode cX11_paired 2 = .ok (.iconst 4, 1) := by decide +kernel
theorem dX11_paired_3 : decode cX11_paired 3 = .ok (.invokestatic 87, 3) := by decide +kernel
theorem dX11_paired_6 : decode cX11_paired 6 = .ok (.ifCond .ne 5, 3) := by decide +kernel
theorem dX11_paired_9 : decode cX11_paired 9 = .ok (.iconst (-1), 1) := by decide +kernel
theorem dX11_paired_10 : decode cX11_paired 10 = .ok (.ireturn, 1) := by decide +kernel
theorem dX11_paired_11 : decode cX11_paired 11 = .ok (.aload_n 0, 1) := by decide +kernel
theorem dX11_paired_12 : decode cX11_paired 12 = .ok (.invokevirtual 483, 3) := by decide +kernel
theorem dX11_paired_15 : decode cX11_paired 15 = .ok (.iconst 0, 1) := by decide +kernel
theorem dX11_paired_16 : decode cX11_paired 16 = .ok (.istore_n 2, 1) := by decide +kernel
theorem dX11_paired_17 : decode cX11_paired 17 = .ok (.aload_n 0, 1) := by decide +kernel
theorem dX11_paired_18 : decode cX11_paired 18 = .ok (.getfield 71, 3) := by decide +kernel
theorem dX11_paired_21 : decode cX11_paired 21 = .ok (.iload_n 2, 1) := by decide +kernel
theorem dX11_paired_22 : decode cX11_paired 22 = .ok (.iaload, 1) := by decide +kernel
theorem dX11_paired_23 : decode cX11_paired 23 = .ok (.iload_n 1, 1) := by decide +kernel
theorem dX11_paired_24 : decode cX11_paired 24 = .ok (.if_icmp .eq 9, 3) := by decide +kernel
theorem dX11_paired_27 : decode cX11_paired 27 = .ok (.iinc 2 1, 3) := by decide +kernel
theorem dX11_paired_30 : decode cX11_paired 30 = .ok (.goto (-13), 3) := by decide +kernel
theorem dX11_paired_33 : decode cX11_paired 33 = .ok (.iload_n 2, 1) := by decide +kernel
theorem dX11_paired_34 : decode cX11_paired 34 = .ok (.ireturn, 1) := by decide +kernel
theorem dX11_blocks_0 : decode cX11_blocks 0 = .ok (.iload_n 1, 1) := by decide +kernel
theorem dX11_blocks_1 : decode cX11_blocks 1 = .ok (.iconst 0, 1) := by decide +kernel
theorem dX11_blocks_2 : decode cX11_blocks 2 = .ok (.iconst 4, 1) := by decide +kernel
theorem dX11_blocks_3 : decode cX11_blocks 3 = .ok (.invokestatic 87, 3) := by decide +kernel
theorem dX11_blocks_6 : decode cX11_blocks 6 = .ok (.ifCond .eq 12, 3) := by decide +kernel
theorem dX11_blocks_9 : decode cX11_blocks 9 = .ok (.iload_n 2, 1) := by decide +kernel
theorem dX11_blocks_10 : decode cX11_blocks 10 = .ok (.iconst 0, 1) := by decide +kernel
theorem dX11_blocks_11 : decode cX11_blocks 11 = .ok (.iconst 4, 1) := by decide +kernel
theorem dX11_blocks_12 : decode cX11_blocks 12 = .ok (.invokestatic 87, 3) := by decide +kernel
theorem dX11_blocks_15 : decode cX11_blocks 15 = .ok (.ifCond .ne 5, 3) := by decide +kernel
theorem dX11_blocks_18 : decode cX11_blocks 18 = .ok (.iconst (-1), 1) := by decide +kernel
theorem dX11_blocks_19 : decode cX11_blocks 19 = .ok (.ireturn, 1) := by decide +kernel
theorem dX11_blocks_20 : decode cX11_blocks 20 = .ok (.aload_n 0, 1) := by decide +kernel
theorem dX11_blocks_21 : decode cX11_blocks 21 = .ok (.iconst 0, 1) := by decide +kernel
theorem dX11_blocks_22 : decode cX11_blocks 22 = .ok (.iload_n 1, 1) := by decide +kernel
theorem dX11_blocks_23 : decode cX11_blocks 23 = .ok (.iload_n 2, 1) := by decide +kernel
theorem dX11_blocks_24 : decode cX11_blocks 24 = .ok (.iload_n 1, 1) := by decide +kernel
theorem dX11_blocks_25 : decode cX11_blocks 25 = .ok (.invokevirtual 477, 3) := by decide +kernel
theorem dX11_blocks_28 : decode cX11_blocks 28 = .ok (.ifCond .eq 19, 3) := by decide +kernel
theorem dX11_blocks_31 : decode cX11_blocks 31 = .ok (.aload_n 0, 1) := by decide +kernel
theorem dX11_blocks_32 : decode cX11_blocks 32 = .ok (.bipush 25, 2) := by decide +kernel
theorem dX11_blocks_34 : decode cX11_blocks 34 = .ok (.iload_n 2, 1) := by decide +kernel
theorem dX11_blocks_35 : decode cX11_blocks 35 = .ok (.iload_n 1, 1) := by decide +kernel
theorem dX11_blocks_36 : decode cX11_blocks 36 = .ok (.iload_n 2, 1) := by decide +kernel
theorem dX11_blocks_37 : decode cX11_blocks 37 = .ok (.invokevirtual 477, 3) := by decide +kernel
theorem dX11_blocks_40 : decode cX11_blocks 40 = .ok (.ifCond .eq 7, 3) := by decide +kernel
theorem dX11_blocks_43 : decode cX11_blocks 43 = .ok (.iconst 1, 1) := by decide +kernel
theorem dX11_blocks_44 : decode cX11_blocks 44 = .ok (.goto 4, 3) := by decide +kernel
theorem dX11_blocks_47 : decode cX11_blocks 47 = .ok (.iconst 0, 1) := by decide +kernel
theorem dX11_blocks_48 : decode cX11_blocks 48 = .ok (.ireturn, 1) := by decide +kernel
theorem dX11_needs_0 : decode cX11_needs 0 = .ok (.iload_n 1, 1) := by decide +kernel
theorem dX11_needs_1 : decode cX11_needs 1 = .ok (.iconst 0, 1) := by decide +kernel
theorem dX11_needs_2 : decode cX11_needs 2 = .ok (.bipush 7, 2) := by decide +kernel
theorem dX11_needs_4 : decode cX11_needs 4 = .ok (.invokestatic 87, 3) := by decide +kernel
theorem dX11_needs_7 : decode cX11_needs 7 = .ok (.ifCond .eq 13, 3) := by decide +kernel
theorem dX11_needs_10 : decode cX11_needs 10 = .ok (.iload_n 2, 1) := by decide +kernel
theorem dX11_needs_11 : decode cX11_needs 11 = .ok (.iconst 0, 1) := by decide +kernel
theorem dX11_needs_12 : decode cX11_needs 12 = .ok (.bipush 99, 2) := by decide +kernel
theorem dX11_needs_14 : decode cX11_needs 14 = .ok (.invokestatic 87, 3) := by decide +kernel
theorem dX11_needs_17 : decode cX11_needs 17 = .ok (.ifCond .ne 5, 3) := by decide +kernel
theorem dX11_needs_20 : decode cX11_needs 20 = .ok (.iconst 0, 1) := by decide +kernel
theorem dX11_needs_21 : decode cX11_needs 21 = .ok (.ireturn, 1) := by decide +kernel
theorem dX11_needs_22 : decode cX11_needs 22 = .ok (.aload_n 0, 1) := by decide +kernel
theorem dX11_needs_23 : decode cX11_needs 23 = .ok (.getfield 7, 3) := by decide +kernel
theorem dX11_needs_26 : decode cX11_needs 26 = .ok (.sipush 203, 3) := by decide +kernel
theorem dX11_needs_29 : decode cX11_needs 29 = .ok (.iload_n 1, 1) := by decide +kernel
theorem dX11_needs_30 : decode cX11_needs 30 = .ok (.iadd, 1) := by decide +kernel
theorem dX11_needs_31 : decode cX11_needs 31 = .ok (.iload_n 2, 1) := by decide +kernel
theorem dX11_needs_32 : decode cX11_needs 32 = .ok (.iastore, 1) := by decide +kernel
theorem dX11_needs_33 : decode cX11_needs 33 = .ok (.iconst 1, 1) := by decide +kernel
theorem dX11_needs_34 : decode cX11_needs 34 = .ok (.ireturn, 1) := by decide +kernel
theorem dX11_costBy_0 : decode cX11_costBy 0 = .ok (.iconst 0, 1) := by decide +kernel
theorem dX11_costBy_1 : decode cX11_costBy 1 = .ok (.istore 4, 2) := by decide +kernel
theorem dX11_costBy_3 : decode cX11_costBy 3 = .ok (.iconst 0, 1) := by decide +kernel
theorem dX11_costBy_4 : decode cX11_costBy 4 = .ok (.istore 5, 2) := by decide +kernel
theorem dX11_costBy_6 : decode cX11_costBy 6 = .ok (.iconst 0, 1) := by decide +kernel
theorem dX11_costBy_7 : decode cX11_costBy 7 = .ok (.istore 6, 2) := by decide +kernel
theorem dX11_costBy_9 : decode cX11_costBy 9 = .ok (.iload 6, 2) := by decide +kernel
theorem dX11_costBy_11 : decode cX11_costBy 11 = .ok (.bipush 8, 2) := by decide +kernel
theorem dX11_costBy_13 : decode cX11_costBy 13 = .ok (.if_icmp .ge 75, 3) := by decide +kernel
theorem dX11_costBy_16 : decode cX11_costBy 16 = .ok (.iload_n 1, 1) := by decide +kernel
theorem dX11_costBy_17 : decode cX11_costBy 17 = .ok (.iload 6, 2) := by decide +kernel
theorem dX11_costBy_19 : decode cX11_costBy 19 = .ok (.invokestatic 269, 3) := by decide +kernel
theorem dX11_costBy_22 : decode cX11_costBy 22 = .ok (.ifCond .eq 7, 3) := by decide +kernel
theorem dX11_costBy_25 : decode cX11_costBy 25 = .ok (.iload 6, 2) := by decide +kernel
theorem dX11_costBy_27 : decode cX11_costBy 27 = .ok (.istore 5, 2) := by decide +kernel
theorem dX11_costBy_29 : decode cX11_costBy 29 = .ok (.aload_n 0, 1) := by decide +kernel
theorem dX11_costBy_30 : decode cX11_costBy 30 = .ok (.getfield 77, 3) := by decide +kernel
theorem dX11_costBy_33 : decode cX11_costBy 33 = .ok (.iload 6, 2) := by decide +kernel
theorem dX11_costBy_35 : decode cX11_costBy 35 = .ok (.iconst 0, 1) := by decide +kernel
theorem dX11_costBy_36 : decode cX11_costBy 36 = .ok (.iastore, 1) := by decide +kernel
theorem dX11_costBy_37 : decode cX11_costBy 37 = .ok (.aload_n 0, 1) := by decide +kernel
theorem dX11_costBy_38 : decode cX11_costBy 38 = .ok (.getfield 77, 3) := by decide +kernel
theorem dX11_costBy_41 : decode cX11_costBy 41 = .ok (.iload 5, 2) := by decide +kernel
theorem dX11_costBy_43 : decode cX11_costBy 43 = .ok (.dup2, 1) := by decide +kernel
theorem dX11_costBy_44 : decode cX11_costBy 44 = .ok (.iaload, 1) := by decide +kernel
theorem dX11_costBy_45 : decode cX11_costBy 45 = .ok (.aload_n 0, 1) := by decide +kernel
theorem dX11_costBy_46 : decode cX11_costBy 46 = .ok (.getfield 7, 3) := by decide +kernel
theorem dX11_costBy_49 : decode cX11_costBy 49 = .ok (.sipush 203, 3) := by decide +kernel
theorem dX11_costBy_52 : decode cX11_costBy 52 = .ok (.iload 6, 2) := by decide +kernel
theorem dX11_costBy_54 : decode cX11_costBy 54 = .ok (.iadd, 1) := by decide +kernel
theorem dX11_costBy_55 : decode cX11_costBy 55 = .ok (.iaload, 1) := by decide +kernel
theorem dX11_costBy_56 : decode cX11_costBy 56 = .ok (.iadd, 1) := by decide +kernel
theorem dX11_costBy_57 : decode cX11_costBy 57 = .ok (.iastore, 1) := by decide +kernel
theorem dX11_costBy_58 : decode cX11_costBy 58 = .ok (.iload 4, 2) := by decide +kernel
theorem dX11_costBy_60 : decode cX11_costBy 60 = .ok (.iload_n 3, 1) := by decide +kernel
theorem dX11_costBy_61 : decode cX11_costBy 61 = .ok (.iload 6, 2) := by decide +kernel
theorem dX11_costBy_63 : decode cX11_costBy 63 = .ok (.iload 5, 2) := by decide +kernel
theorem dX11_costBy_65 : decode cX11_costBy 65 = .ok (.isub, 1) := by decide +kernel
theorem dX11_costBy_66 : decode cX11_costBy 66 = .ok (.imul, 1) := by decide +kernel
theorem dX11_costBy_67 : decode cX11_costBy 67 = .ok (.aload_n 0, 1) := by decide +kernel
theorem dX11_costBy_68 : decode cX11_costBy 68 = .ok (.getfield 7, 3) := by decide +kernel
theorem dX11_costBy_71 : decode cX11_costBy 71 = .ok (.sipush 203, 3) := by decide +kernel
theorem dX11_costBy_74 : decode cX11_costBy 74 = .ok (.iload 6, 2) := by decide +kernel
theorem dX11_costBy_76 : decode cX11_costBy 76 = .ok (.iadd, 1) := by decide +kernel
theorem dX11_costBy_77 : decode cX11_costBy 77 = .ok (.iaload, 1) := by decide +kernel
theorem dX11_costBy_78 : decode cX11_costBy 78 = .ok (.imul, 1) := by decide +kernel
theorem dX11_costBy_79 : decode cX11_costBy 79 = .ok (.iadd, 1) := by decide +kernel
theorem dX11_costBy_80 : decode cX11_costBy 80 = .ok (.istore 4, 2) := by decide +kernel
theorem dX11_costBy_82 : decode cX11_costBy 82 = .ok (.iinc 6 1, 3) := by decide +kernel
theorem dX11_costBy_85 : decode cX11_costBy 85 = .ok (.goto (-76), 3) := by decide +kernel
theorem dX11_costBy_88 : decode cX11_costBy 88 = .ok (.iconst 0, 1) := by decide +kernel
theorem dX11_costBy_89 : decode cX11_costBy 89 = .ok (.istore 6, 2) := by decide +kernel
theorem dX11_costBy_91 : decode cX11_costBy 91 = .ok (.iload 6, 2) := by decide +kernel
theorem dX11_costBy_93 : decode cX11_costBy 93 = .ok (.bipush 8, 2) := by decide +kernel
theorem dX11_costBy_95 : decode cX11_costBy 95 = .ok (.if_icmp .ge 29, 3) := by decide +kernel
theorem dX11_costBy_98 : decode cX11_costBy 98 = .ok (.iload 4, 2) := by decide +kernel
theorem dX11_costBy_100 : decode cX11_costBy 100 = .ok (.aload_n 0, 1) := by decide +kernel
theorem dX11_costBy_101 : decode cX11_costBy 101 = .ok (.getfield 77, 3) := by decide +kernel
theorem dX11_costBy_104 : decode cX11_costBy 104 = .ok (.iload 6, 2) := by decide +kernel
theorem dX11_costBy_106 : decode cX11_costBy 106 = .ok (.iaload, 1) := by decide +kernel
theorem dX11_costBy_107 : decode cX11_costBy 107 = .ok (.ifCond .le 7, 3) := by decide +kernel
theorem dX11_costBy_110 : decode cX11_costBy 110 = .ok (.iload_n 2, 1) := by decide +kernel
theorem dX11_costBy_111 : decode cX11_costBy 111 = .ok (.goto 4, 3) := by decide +kernel
theorem dX11_costBy_114 : decode cX11_costBy 114 = .ok (.iconst 0, 1) := by decide +kernel
theorem dX11_costBy_115 : decode cX11_costBy 115 = .ok (.iadd, 1) := by decide +kernel
theorem dX11_costBy_116 : decode cX11_costBy 116 = .ok (.istore 4, 2) := by decide +kernel
theorem dX11_costBy_118 : decode cX11_costBy 118 = .ok (.iinc 6 1, 3) := by decide +kernel
theorem dX11_costBy_121 : decode cX11_costBy 121 = .ok (.goto (-30), 3) := by decide +kernel
theorem dX11_costBy_124 : decode cX11_costBy 124 = .ok (.iload 4, 2) := by decide +kernel
theorem dX11_costBy_126 : decode cX11_costBy 126 = .ok (.ireturn, 1) := by decide +kernel
theorem dX11_isMore_0 : decode cX11_isMore 0 = .ok (.iconst 0, 1) := by decide +kernel
theorem dX11_isMore_1 : decode cX11_isMore 1 = .ok (.istore_n 1, 1) := by decide +kernel
theorem dX11_isMore_2 : decode cX11_isMore 2 = .ok (.iload_n 1, 1) := by decide +kernel
theorem dX11_isMore_3 : decode cX11_isMore 3 = .ok (.bipush 8, 2) := by decide +kernel
theorem dX11_isMore_5 : decode cX11_isMore 5 = .ok (.if_icmp .ge 45, 3) := by decide +kernel
theorem dX11_isMore_8 : decode cX11_isMore 8 = .ok (.aload_n 0, 1) := by decide +kernel
theorem dX11_isMore_9 : decode cX11_isMore 9 = .ok (.getfield 77, 3) := by decide +kernel
theorem dX11_isMore_12 : decode cX11_isMore 12 = .ok (.iload_n 1, 1) := by decide +kernel
theorem dX11_isMore_13 : decode cX11_isMore 13 = .ok (.iaload, 1) := by decide +kernel
theorem dX11_isMore_14 : decode cX11_isMore 14 = .ok (.aload_n 0, 1) := by decide +kernel
theorem dX11_isMore_15 : decode cX11_isMore 15 = .ok (.getfield 80, 3) := by decide +kernel
theorem dX11_isMore_18 : decode cX11_isMore 18 = .ok (.iload_n 1, 1) := by decide +kernel
theorem dX11_isMore_19 : decode cX11_isMore 19 = .ok (.iaload, 1) := by decide +kernel
theorem dX11_isMore_20 : decode cX11_isMore 20 = .ok (.if_icmp .eq 24, 3) := by decide +kernel
theorem dX11_isMore_23 : decode cX11_isMore 23 = .ok (.aload_n 0, 1) := by decide +kernel
theorem dX11_isMore_24 : decode cX11_isMore 24 = .ok (.getfield 77, 3) := by decide +kernel
theorem dX11_isMore_27 : decode cX11_isMore 27 = .ok (.iload_n 1, 1) := by decide +kernel
theorem dX11_isMore_28 : decode cX11_isMore 28 = .ok (.iaload, 1) := by decide +kernel
theorem dX11_isMore_29 : decode cX11_isMore 29 = .ok (.aload_n 0, 1) := by decide +kernel
theorem dX11_isMore_30 : decode cX11_isMore 30 = .ok (.getfield 80, 3) := by decide +kernel
theorem dX11_isMore_33 : decode cX11_isMore 33 = .ok (.iload_n 1, 1) := by decide +kernel
theorem dX11_isMore_34 : decode cX11_isMore 34 = .ok (.iaload, 1) := by decide +kernel
theorem dX11_isMore_35 : decode cX11_isMore 35 = .ok (.if_icmp .le 7, 3) := by decide +kernel
theorem dX11_isMore_38 : decode cX11_isMore 38 = .ok (.iconst 1, 1) := by decide +kernel
theorem dX11_isMore_39 : decode cX11_isMore 39 = .ok (.goto 4, 3) := by decide +kernel
theorem dX11_isMore_42 : decode cX11_isMore 42 = .ok (.iconst 0, 1) := by decide +kernel
theorem dX11_isMore_43 : decode cX11_isMore 43 = .ok (.ireturn, 1) := by decide +kernel
theorem dX11_isMore_44 : decode cX11_isMore 44 = .ok (.iinc 1 1, 3) := by decide +kernel
theorem dX11_isMore_47 : decode cX11_isMore 47 = .ok (.goto (-45), 3) := by decide +kernel
theorem dX11_isMore_50 : decode cX11_isMore 50 = .ok (.iconst 0, 1) := by decide +kernel
theorem dX11_isMore_51 : decode cX11_isMore 51 = .ok (.ireturn, 1) := by decide +kernel
theorem dX11_stock_0 : decode cX11_stock 0 = .ok (.iload_n 1, 1) := by decide +kernel
theorem dX11_stock_1 : decode cX11_stock 1 = .ok (.iconst 0, 1) := by decide +kernel
theorem dX11_stock_2 : decode cX11_stock 2 = .ok (.sipush 999, 3) := by decide +kernel
theorem dX11_stock_5 : decode cX11_stock 5 = .ok (.invokestatic 87, 3) := by decide +kernel
theorem dX11_stock_8 : decode cX11_stock 8 = .ok (.ifCond .eq 23, 3) := by decide +kernel
theorem dX11_stock_11 : decode cX11_stock 11 = .ok (.iload_n 2, 1) := by decide +kernel
theorem dX11_stock_12 : decode cX11_stock 12 = .ok (.iconst 0, 1) := by decide +kernel
theorem dX11_stock_13 : decode cX11_stock 13 = .ok (.bipush 99, 2) := by decide +kernel
theorem dX11_stock_15 : decode cX11_stock 15 = .ok (.invokestatic 87, 3) := by decide +kernel
theorem dX11_stock_18 : decode cX11_stock 18 = .ok (.ifCond .eq 13, 3) := by decide +kernel
theorem dX11_stock_21 : decode cX11_stock 21 = .ok (.iload_n 3, 1) := by decide +kernel
theorem dX11_stock_22 : decode cX11_stock 22 = .ok (.iconst (-1), 1) := by decide +kernel
theorem dX11_stock_23 : decode cX11_stock 23 = .ok (.bipush 7, 2) := by decide +kernel
theorem dX11_stock_25 : decode cX11_stock 25 = .ok (.invokestatic 87, 3) := by decide +kernel
theorem dX11_stock_28 : decode cX11_stock 28 = .ok (.ifCond .ne 5, 3) := by decide +kernel
theorem dX11_stock_31 : decode cX11_stock 31 = .ok (.iconst (-1), 1) := by decide +kernel
theorem dX11_stock_32 : decode cX11_stock 32 = .ok (.ireturn, 1) := by decide +kernel
theorem dX11_stock_33 : decode cX11_stock 33 = .ok (.ldc_w 454, 3) := by decide +kernel
theorem dX11_stock_36 : decode cX11_stock 36 = .ok (.istore 4, 2) := by decide +kernel
theorem dX11_stock_38 : decode cX11_stock 38 = .ok (.iconst 1, 1) := by decide +kernel
theorem dX11_stock_39 : decode cX11_stock 39 = .ok (.istore 5, 2) := by decide +kernel
theorem dX11_stock_41 : decode cX11_stock 41 = .ok (.iload 5, 2) := by decide +kernel
theorem dX11_stock_43 : decode cX11_stock 43 = .ok (.sipush 256, 3) := by decide +kernel
theorem dX11_stock_46 : decode cX11_stock 46 = .ok (.if_icmp .ge 77, 3) := by decide +kernel
theorem dX11_stock_49 : decode cX11_stock 49 = .ok (.aload_n 0, 1) := by decide +kernel
theorem dX11_stock_50 : decode cX11_stock 50 = .ok (.iload 5, 2) := by decide +kernel
theorem dX11_stock_52 : decode cX11_stock 52 = .ok (.iload_n 1, 1) := by decide +kernel
theorem dX11_stock_53 : decode cX11_stock 53 = .ok (.iload_n 2, 1) := by decide +kernel
theorem dX11_stock_54 : decode cX11_stock 54 = .ok (.invokevirtual 486, 3) := by decide +kernel
theorem dX11_stock_57 : decode cX11_stock 57 = .ok (.istore 6, 2) := by decide +kernel
theorem dX11_stock_59 : decode cX11_stock 59 = .ok (.iload 6, 2) := by decide +kernel
theorem dX11_stock_61 : decode cX11_stock 61 = .ok (.iload 4, 2) := by decide +kernel
theorem dX11_stock_63 : decode cX11_stock 63 = .ok (.if_icmp .gt 54, 3) := by decide +kernel
theorem dX11_stock_66 : decode cX11_stock 66 = .ok (.iload 6, 2) := by decide +kernel
theorem dX11_stock_68 : decode cX11_stock 68 = .ok (.iload 4, 2) := by decide +kernel
theorem dX11_stock_70 : decode cX11_stock 70 = .ok (.if_icmp .ne 13, 3) := by decide +kernel
theorem dX11_stock_73 : decode cX11_stock 73 = .ok (.aload_n 0, 1) := by decide +kernel
theorem dX11_stock_74 : decode cX11_stock 74 = .ok (.invokevirtual 489, 3) := by decide +kernel
theorem dX11_stock_77 : decode cX11_stock 77 = .ok (.ifCond .ne 6, 3) := by decide +kernel
theorem dX11_stock_80 : decode cX11_stock 80 = .ok (.goto 37, 3) := by decide +kernel
theorem dX11_stock_83 : decode cX11_stock 83 = .ok (.iload 6, 2) := by decide +kernel
theorem dX11_stock_85 : decode cX11_stock 85 = .ok (.istore 4, 2) := by decide +kernel
theorem dX11_stock_87 : decode cX11_stock 87 = .ok (.iconst 0, 1) := by decide +kernel
theorem dX11_stock_88 : decode cX11_stock 88 = .ok (.istore 7, 2) := by decide +kernel
theorem dX11_stock_90 : decode cX11_stock 90 = .ok (.iload 7, 2) := by decide +kernel
theorem dX11_stock_92 : decode cX11_stock 92 = .ok (.bipush 8, 2) := by decide +kernel
theorem dX11_stock_94 : decode cX11_stock 94 = .ok (.if_icmp .ge 23, 3) := by decide +kernel
theorem dX11_stock_97 : decode cX11_stock 97 = .ok (.aload_n 0, 1) := by decide +kernel
theorem dX11_stock_98 : decode cX11_stock 98 = .ok (.getfield 80, 3) := by decide +kernel
theorem dX11_stock_101 : decode cX11_stock 101 = .ok (.iload 7, 2) := by decide +kernel
theorem dX11_stock_103 : decode cX11_stock 103 = .ok (.aload_n 0, 1) := by decide +kernel
theorem dX11_stock_104 : decode cX11_stock 104 = .ok (.getfield 77, 3) := by decide +kernel
theorem dX11_stock_107 : decode cX11_stock 107 = .ok (.iload 7, 2) := by decide +kernel
theorem dX11_stock_109 : decode cX11_stock 109 = .ok (.iaload, 1) := by decide +kernel
theorem dX11_stock_110 : decode cX11_stock 110 = .ok (.iastore, 1) := by decide +kernel
theorem dX11_stock_111 : decode cX11_stock 111 = .ok (.iinc 7 1, 3) := by decide +kernel
theorem dX11_stock_114 : decode cX11_stock 114 = .ok (.goto (-24), 3) := by decide +kernel
theorem dX11_stock_117 : decode cX11_stock 117 = .ok (.iinc 5 2, 3) := by decide +kernel
theorem dX11_stock_120 : decode cX11_stock 120 = .ok (.goto (-79), 3) := by decide +kernel
theorem dX11_stock_123 : decode cX11_stock 123 = .ok (.iload_n 3, 1) := by decide +kernel
theorem dX11_stock_124 : decode cX11_stock 124 = .ok (.iconst (-1), 1) := by decide +kernel
theorem dX11_stock_125 : decode cX11_stock 125 = .ok (.if_icmp .ne 8, 3) := by decide +kernel
theorem dX11_stock_128 : decode cX11_stock 128 = .ok (.iload 4, 2) := by decide +kernel
theorem dX11_stock_130 : decode cX11_stock 130 = .ok (.goto 9, 3) := by decide +kernel
theorem dX11_stock_133 : decode cX11_stock 133 = .ok (.aload_n 0, 1) := by decide +kernel
theorem dX11_stock_134 : decode cX11_stock 134 = .ok (.getfield 80, 3) := by decide +kernel
theorem dX11_stock_137 : decode cX11_stock 137 = .ok (.iload_n 3, 1) := by decide +kernel
theorem dX11_stock_138 : decode cX11_stock 138 = .ok (.iaload, 1) := by decide +kernel
theorem dX11_stock_139 : decode cX11_stock 139 = .ok (.ireturn, 1) := by decide +kernel
theorem dX11_looser_0 : decode cX11_looser 0 = .ok (.iload_n 1, 1) := by decide +kernel
theorem dX11_looser_1 : decode cX11_looser 1 = .ok (.iconst (-1), 1) := by decide +kernel
theorem dX11_looser_2 : decode cX11_looser 2 = .ok (.if_icmp .ne 13, 3) := by decide +kernel
theorem dX11_looser_5 : decode cX11_looser 5 = .ok (.aload_n 0, 1) := by decide +kernel
theorem dX11_looser_6 : decode cX11_looser 6 = .ok (.getfield 7, 3) := by decide +kernel
theorem dX11_looser_9 : decode cX11_looser 9 = .ok (.bipush 7, 2) := by decide +kernel
theorem dX11_looser_11 : decode cX11_looser 11 = .ok (.iconst 0, 1) := by decide +kernel
theorem dX11_looser_12 : decode cX11_looser 12 = .ok (.iastore, 1) := by decide +kernel
theorem dX11_looser_13 : decode cX11_looser 13 = .ok (.iconst 0, 1) := by decide +kernel
theorem dX11_looser_14 : decode cX11_looser 14 = .ok (.ireturn, 1) := by decide +kernel
theorem dX11_looser_15 : decode cX11_looser 15 = .ok (.aload_n 0, 1) := by decide +kernel
theorem dX11_looser_16 : decode cX11_looser 16 = .ok (.iload_n 1, 1) := by decide +kernel
theorem dX11_looser_17 : decode cX11_looser 17 = .ok (.invokevirtual 374, 3) := by decide +kernel
theorem dX11_looser_20 : decode cX11_looser 20 = .ok (.ifCond .eq 25, 3) := by decide +kernel
theorem dX11_looser_23 : decode cX11_looser 23 = .ok (.iload_n 2, 1) := by decide +kernel
theorem dX11_looser_24 : decode cX11_looser 24 = .ok (.iconst 0, 1) := by decide +kernel
theorem dX11_looser_25 : decode cX11_looser 25 = .ok (.bipush 10, 2) := by decide +kernel
theorem dX11_looser_27 : decode cX11_looser 27 = .ok (.invokestatic 87, 3) := by decide +kernel
theorem dX11_looser_30 : decode cX11_looser 30 = .ok (.ifCond .eq 15, 3) := by decide +kernel
theorem dX11_looser_33 : decode cX11_looser 33 = .ok (.aload_n 0, 1) := by decide +kernel
theorem dX11_looser_34 : decode cX11_looser 34 = .ok (.getfield 7, 3) := by decide +kernel
theorem dX11_looser_37 : decode cX11_looser 37 = .ok (.bipush 7, 2) := by decide +kernel
theorem dX11_looser_39 : decode cX11_looser 39 = .ok (.iaload, 1) := by decide +kernel
theorem dX11_looser_40 : decode cX11_looser 40 = .ok (.bipush 8, 2) := by decide +kernel
theorem dX11_looser_42 : decode cX11_looser 42 = .ok (.if_icmp .ne 6, 3) := by decide +kernel
theorem dX11_looser_45 : decode cX11_looser 45 = .ok (.bipush (-2), 2) := by decide +kernel
theorem dX11_looser_47 : decode cX11_looser 47 = .ok (.ireturn, 1) := by decide +kernel
theorem dX11_looser_48 : decode cX11_looser 48 = .ok (.aload_n 0, 1) := by decide +kernel
theorem dX11_looser_49 : decode cX11_looser 49 = .ok (.getfield 7, 3) := by decide +kernel
theorem dX11_looser_52 : decode cX11_looser 52 = .ok (.sipush 211, 3) := by decide +kernel
theorem dX11_looser_55 : decode cX11_looser 55 = .ok (.iconst 2, 1) := by decide +kernel
theorem dX11_looser_56 : decode cX11_looser 56 = .ok (.aload_n 0, 1) := by decide +kernel
theorem dX11_looser_57 : decode cX11_looser 57 = .ok (.getfield 7, 3) := by decide +kernel
theorem dX11_looser_60 : decode cX11_looser 60 = .ok (.bipush 7, 2) := by decide +kernel
theorem dX11_looser_62 : decode cX11_looser 62 = .ok (.iaload, 1) := by decide +kernel
theorem dX11_looser_63 : decode cX11_looser 63 = .ok (.imul, 1) := by decide +kernel
theorem dX11_looser_64 : decode cX11_looser 64 = .ok (.iadd, 1) := by decide +kernel
theorem dX11_looser_65 : decode cX11_looser 65 = .ok (.iload_n 1, 1) := by decide +kernel
theorem dX11_looser_66 : decode cX11_looser 66 = .ok (.iastore, 1) := by decide +kernel
theorem dX11_looser_67 : decode cX11_looser 67 = .ok (.aload_n 0, 1) := by decide +kernel
theorem dX11_looser_68 : decode cX11_looser 68 = .ok (.getfield 7, 3) := by decide +kernel
theorem dX11_looser_71 : decode cX11_looser 71 = .ok (.sipush 211, 3) := by decide +kernel
theorem dX11_looser_74 : decode cX11_looser 74 = .ok (.iconst 2, 1) := by decide +kernel
theorem dX11_looser_75 : decode cX11_looser 75 = .ok (.aload_n 0, 1) := by decide +kernel
theorem dX11_looser_76 : decode cX11_looser 76 = .ok (.getfield 7, 3) := by decide +kernel
theorem dX11_looser_79 : decode cX11_looser 79 = .ok (.bipush 7, 2) := by decide +kernel
theorem dX11_looser_81 : decode cX11_looser 81 = .ok (.iaload, 1) := by decide +kernel
theorem dX11_looser_82 : decode cX11_looser 82 = .ok (.imul, 1) := by decide +kernel
theorem dX11_looser_83 : decode cX11_looser 83 = .ok (.iadd, 1) := by decide +kernel
theorem dX11_looser_84 : decode cX11_looser 84 = .ok (.iconst 1, 1) := by decide +kernel
theorem dX11_looser_85 : decode cX11_looser 85 = .ok (.iadd, 1) := by decide +kernel
theorem dX11_looser_86 : decode cX11_looser 86 = .ok (.iload_n 2, 1) := by decide +kernel
theorem dX11_looser_87 : decode cX11_looser 87 = .ok (.iastore, 1) := by decide +kernel
theorem dX11_looser_88 : decode cX11_looser 88 = .ok (.aload_n 0, 1) := by decide +kernel
theorem dX11_looser_89 : decode cX11_looser 89 = .ok (.getfield 7, 3) := by decide +kernel
theorem dX11_looser_92 : decode cX11_looser 92 = .ok (.bipush 7, 2) := by decide +kernel
theorem dX11_looser_94 : decode cX11_looser 94 = .ok (.dup2, 1) := by decide +kernel
theorem dX11_looser_95 : decode cX11_looser 95 = .ok (.iaload, 1) := by decide +kernel
theorem dX11_looser_96 : decode cX11_looser 96 = .ok (.iconst 1, 1) := by decide +kernel
theorem dX11_looser_97 : decode cX11_looser 97 = .ok (.iadd, 1) := by decide +kernel
theorem dX11_looser_98 : decode cX11_looser 98 = .ok (.iastore, 1) := by decide +kernel
theorem dX11_looser_99 : decode cX11_looser 99 = .ok (.aload_n 0, 1) := by decide +kernel
theorem dX11_looser_100 : decode cX11_looser 100 = .ok (.getfield 7, 3) := by decide +kernel
theorem dX11_looser_103 : decode cX11_looser 103 = .ok (.bipush 7, 2) := by decide +kernel
theorem dX11_looser_105 : decode cX11_looser 105 = .ok (.iaload, 1) := by decide +kernel
theorem dX11_looser_106 : decode cX11_looser 106 = .ok (.ireturn, 1) := by decide +kernel
theorem dX11_whose_0 : decode cX11_whose 0 = .ok (.iconst 0, 1) := by decide +kernel
theorem dX11_whose_1 : decode cX11_whose 1 = .ok (.istore_n 1, 1) := by decide +kernel
theorem dX11_whose_2 : decode cX11_whose 2 = .ok (.iconst 0, 1) := by decide +kernel
theorem dX11_whose_3 : decode cX11_whose 3 = .ok (.istore_n 2, 1) := by decide +kernel
theorem dX11_whose_4 : decode cX11_whose 4 = .ok (.iload_n 2, 1) := by decide +kernel
theorem dX11_whose_5 : decode cX11_whose 5 = .ok (.aload_n 0, 1) := by decide +kernel
theorem dX11_whose_6 : decode cX11_whose 6 = .ok (.getfield 7, 3) := by decide +kernel
theorem dX11_whose_9 : decode cX11_whose 9 = .ok (.iconst 1, 1) := by decide +kernel
theorem dX11_whose_10 : decode cX11_whose 10 = .ok (.iaload, 1) := by decide +kernel
theorem dX11_whose_11 : decode cX11_whose 11 = .ok (.if_icmp .ge 92, 3) := by decide +kernel
theorem dX11_whose_14 : decode cX11_whose 14 = .ok (.iconst 1, 1) := by decide +kernel
theorem dX11_whose_15 : decode cX11_whose 15 = .ok (.istore_n 3, 1) := by decide +kernel
theorem dX11_whose_16 : decode cX11_whose 16 = .ok (.iconst 0, 1) := by decide +kernel
theorem dX11_whose_17 : decode cX11_whose 17 = .ok (.istore 4, 2) := by decide +kernel
theorem dX11_whose_19 : decode cX11_whose 19 = .ok (.iload 4, 2) := by decide +kernel
theorem dX11_whose_21 : decode cX11_whose 21 = .ok (.aload_n 0, 1) := by decide +kernel
theorem dX11_whose_22 : decode cX11_whose 22 = .ok (.getfield 7, 3) := by decide +kernel
theorem dX11_whose_25 : decode cX11_whose 25 = .ok (.bipush 7, 2) := by decide +kernel
theorem dX11_whose_27 : decode cX11_whose 27 = .ok (.iaload, 1) := by decide +kernel
theorem dX11_whose_28 : decode cX11_whose 28 = .ok (.if_icmp .ge 55, 3) := by decide +kernel
theorem dX11_whose_31 : decode cX11_whose 31 = .ok (.iload_n 3, 1) := by decide +kernel
theorem dX11_whose_32 : decode cX11_whose 32 = .ok (.ifCond .eq 43, 3) := by decide +kernel
theorem dX11_whose_35 : decode cX11_whose 35 = .ok (.aload_n 0, 1) := by decide +kernel
theorem dX11_whose_36 : decode cX11_whose 36 = .ok (.iload_n 2, 1) := by decide +kernel
theorem dX11_whose_37 : decode cX11_whose 37 = .ok (.aload_n 0, 1) := by decide +kernel
theorem dX11_whose_38 : decode cX11_whose 38 = .ok (.getfield 7, 3) := by decide +kernel
theorem dX11_whose_41 : decode cX11_whose 41 = .ok (.sipush 211, 3) := by decide +kernel
theorem dX11_whose_44 : decode cX11_whose 44 = .ok (.iconst 2, 1) := by decide +kernel
theorem dX11_whose_45 : decode cX11_whose 45 = .ok (.iload 4, 2) := by decide +kernel
theorem dX11_whose_47 : decode cX11_whose 47 = .ok (.imul, 1) := by decide +kernel
theorem dX11_whose_48 : decode cX11_whose 48 = .ok (.iadd, 1) := by decide +kernel
theorem dX11_whose_49 : decode cX11_whose 49 = .ok (.iaload, 1) := by decide +kernel
theorem dX11_whose_50 : decode cX11_whose 50 = .ok (.invokevirtual 338, 3) := by decide +kernel
theorem dX11_whose_53 : decode cX11_whose 53 = .ok (.aload_n 0, 1) := by decide +kernel
theorem dX11_whose_54 : decode cX11_whose 54 = .ok (.getfield 7, 3) := by decide +kernel
theorem dX11_whose_57 : decode cX11_whose 57 = .ok (.sipush 211, 3) := by decide +kernel
theorem dX11_whose_60 : decode cX11_whose 60 = .ok (.iconst 2, 1) := by decide +kernel
theorem dX11_whose_61 : decode cX11_whose 61 = .ok (.iload 4, 2) := by decide +kernel
theorem dX11_whose_63 : decode cX11_whose 63 = .ok (.imul, 1) := by decide +kernel
theorem dX11_whose_64 : decode cX11_whose 64 = .ok (.iadd, 1) := by decide +kernel
theorem dX11_whose_65 : decode cX11_whose 65 = .ok (.iconst 1, 1) := by decide +kernel
theorem dX11_whose_66 : decode cX11_whose 66 = .ok (.iadd, 1) := by decide +kernel
theorem dX11_whose_67 : decode cX11_whose 67 = .ok (.iaload, 1) := by decide +kernel
theorem dX11_whose_68 : decode cX11_whose 68 = .ok (.if_icmp .ne 7, 3) := by decide +kernel
theorem dX11_whose_71 : decode cX11_whose 71 = .ok (.iconst 1, 1) := by decide +kernel
theorem dX11_whose_72 : decode cX11_whose 72 = .ok (.goto 4, 3) := by decide +kernel
theorem dX11_whose_75 : decode cX11_whose 75 = .ok (.iconst 0, 1) := by decide +kernel
theorem dX11_whose_76 : decode cX11_whose 76 = .ok (.istore_n 3, 1) := by decide +kernel
theorem dX11_whose_77 : decode cX11_whose 77 = .ok (.iinc 4 1, 3) := by decide +kernel
theorem dX11_whose_80 : decode cX11_whose 80 = .ok (.goto (-61), 3) := by decide +kernel
theorem dX11_whose_83 : decode cX11_whose 83 = .ok (.iload_n 1, 1) := by decide +kernel
theorem dX11_whose_84 : decode cX11_whose 84 = .ok (.iload_n 3, 1) := by decide +kernel
theorem dX11_whose_85 : decode cX11_whose 85 = .ok (.ifCond .eq 9, 3) := by decide +kernel
theorem dX11_whose_88 : decode cX11_whose 88 = .ok (.iconst 1, 1) := by decide +kernel
theorem dX11_whose_89 : decode cX11_whose 89 = .ok (.iload_n 2, 1) := by decide +kernel
theorem dX11_whose_90 : decode cX11_whose 90 = .ok (.ishl, 1) := by decide +kernel
theorem dX11_whose_91 : decode cX11_whose 91 = .ok (.goto 4, 3) := by decide +kernel
theorem dX11_whose_94 : decode cX11_whose 94 = .ok (.iconst 0, 1) := by decide +kernel
theorem dX11_whose_95 : decode cX11_whose 95 = .ok (.ior, 1) := by decide +kernel
theorem dX11_whose_96 : decode cX11_whose 96 = .ok (.istore_n 1, 1) := by decide +kernel
theorem dX11_whose_97 : decode cX11_whose 97 = .ok (.iinc 2 1, 3) := by decide +kernel
theorem dX11_whose_100 : decode cX11_whose 100 = .ok (.goto (-96), 3) := by decide +kernel
theorem dX11_whose_103 : decode cX11_whose 103 = .ok (.iload_n 1, 1) := by decide +kernel
theorem dX11_whose_104 : decode cX11_whose 104 = .ok (.ireturn, 1) := by decide +kernel
theorem dX11_image_0 : decode cX11_image 0 = .ok (.aload_n 0, 1) := by decide +kernel
theorem dX11_image_1 : decode cX11_image 1 = .ok (.getfield 7, 3) := by decide +kernel
theorem dX11_image_4 : decode cX11_image 4 = .ok (.aload_n 0, 1) := by decide +kernel
theorem dX11_image_5 : decode cX11_image 5 = .ok (.getfield 13, 3) := by decide +kernel
theorem dX11_image_8 : decode cX11_image 8 = .ok (.invokestatic 83, 3) := by decide +kernel
theorem dX11_image_11 : decode cX11_image 11 = .ok (.aload_n 0, 1) := by decide +kernel
theorem dX11_image_12 : decode cX11_image 12 = .ok (.getfield 7, 3) := by decide +kernel
theorem dX11_image_15 : decode cX11_image 15 = .ok (.bipush 8, 2) := by decide +kernel
theorem dX11_image_17 : decode cX11_image 17 = .ok (.iaload, 1) := by decide +kernel
theorem dX11_image_18 : decode cX11_image 18 = .ok (.ireturn, 1) := by decide +kernel
theorem dX11_back_0 : decode cX11_back 0 = .ok (.aload_n 0, 1) := by decide +kernel
theorem dX11_back_1 : decode cX11_back 1 = .ok (.getfield 13, 3) := by decide +kernel
theorem dX11_back_4 : decode cX11_back 4 = .ok (.aload_n 0, 1) := by decide +kernel
theorem dX11_back_5 : decode cX11_back 5 = .ok (.getfield 7, 3) := by decide +kernel
theorem dX11_back_8 : decode cX11_back 8 = .ok (.invokestatic 83, 3) := by decide +kernel
theorem dX11_back_11 : decode cX11_back 11 = .ok (.aload_n 0, 1) := by decide +kernel
theorem dX11_back_12 : decode cX11_back 12 = .ok (.getfield 7, 3) := by decide +kernel
theorem dX11_back_15 : decode cX11_back 15 = .ok (.bipush 8, 2) := by decide +kernel
theorem dX11_back_17 : decode cX11_back 17 = .ok (.iaload, 1) := by decide +kernel
theorem dX11_back_18 : decode cX11_back 18 = .ok (.ireturn, 1) := by decide +kernel
theorem dX11_about_0 : decode cX11_about 0 = .ok (.iload_n 1, 1) := by decide +kernel
theorem dX11_about_1 : decode cX11_about 1 = .ok (.iconst 0, 1) := by decide +kernel
theorem dX11_about_2 : decode cX11_about 2 = .ok (.bipush 7, 2) := by decide +kernel
theorem dX11_about_4 : decode cX11_about 4 = .ok (.invokestatic 87, 3) := by decide +kernel
theorem dX11_about_7 : decode cX11_about 7 = .ok (.ifCond .eq 12, 3) := by decide +kernel
theorem dX11_about_10 : decode cX11_about 10 = .ok (.aload_n 0, 1) := by decide +kernel
theorem dX11_about_11 : decode cX11_about 11 = .ok (.getfield 7, 3) := by decide +kernel
theorem dX11_about_14 : decode cX11_about 14 = .ok (.iload_n 1, 1) := by decide +kernel
theorem dX11_about_15 : decode cX11_about 15 = .ok (.iaload, 1) := by decide +kernel
theorem dX11_about_16 : decode cX11_about 16 = .ok (.goto 18, 3) := by decide +kernel
theorem dX11_about_19 : decode cX11_about 19 = .ok (.iload_n 1, 1) := by decide +kernel
theorem dX11_about_20 : decode cX11_about 20 = .ok (.bipush 8, 2) := by decide +kernel
theorem dX11_about_22 : decode cX11_about 22 = .ok (.if_icmp .ne 10, 3) := by decide +kernel
theorem dX11_about_25 : decode cX11_about 25 = .ok (.aload_n 0, 1) := by decide +kernel
theorem dX11_about_26 : decode cX11_about 26 = .ok (.getfield 111, 3) := by decide +kernel
theorem dX11_about_29 : decode cX11_about 29 = .ok (.goto 5, 3) := by decide +kernel
theorem dX11_about_32 : decode cX11_about 32 = .ok (.bipush (-2), 2) := by decide +kernel
theorem dX11_about_34 : decode cX11_about 34 = .ok (.ireturn, 1) := by decide +kernel
