theorem dX0_init_0 : decode cX0_init 0 = .ok (.aload_n 0, 1) := by decide +kernel
theorem dX0_init_1 : decode cX0_init 1 = .ok (.invokespecial 3, 3) := by decide +kernel
theorem dX0_init_4 : decode cX0_init 4 = .ok (.aload_n 0, 1) := by decide +kernel
theorem dX0_init_5 : decode cX0_init 5 = .ok (.sipush 300, 3) := by decide +kernel
theorem dX0_init_8 : decode cX0_init 8 = .ok (.newarray .int, 2) := by decide +kernel
theorem dX0_init_10 : decode cX0_init 10 = .ok (.putfield 9, 3) := by decide +kernel
theorem dX0_init_13 : decode cX0_init 13 = .ok (.return_, 1) := by decide +kernel
theorem dX0_loose_0 : decode cX0_loose 0 = .ok (.aload_n 2, 1) := by decide +kernel
theorem dX0_loose_1 : decode cX0_loose 1 = .ok (.getfield 15, 3) := by decide +kernel
theorem dX0_loose_4 : decode cX0_loose 4 = .ok (.iload_n 3, 1) := by decide +kernel
theorem dX0_loose_5 : decode cX0_loose 5 = .ok (.iaload, 1) := by decide +kernel
theorem dX0_loose_6 : decode cX0_loose 6 = .ok (.aload_n 2, 1) := by decide +kernel
theorem dX0_loose_7 : decode cX0_loose 7 = .ok (.getfield 20, 3) := by decide +kernel
theorem dX0_loose_10 : decode cX0_loose 10 = .ok (.iload_n 3, 1) := by decide +kernel
theorem dX0_loose_11 : decode cX0_loose 11 = .ok (.iaload, 1) := by decide +kernel
theorem dX0_loose_12 : decode cX0_loose 12 = .ok (.iconst 3, 1) := by decide +kernel
theorem dX0_loose_13 : decode cX0_loose 13 = .ok (.idiv, 1) := by decide +kernel
theorem dX0_loose_14 : decode cX0_loose 14 = .ok (.isub, 1) := by decide +kernel
theorem dX0_loose_15 : decode cX0_loose 15 = .ok (.istore 4, 2) := by decide +kernel
theorem dX0_loose_17 : decode cX0_loose 17 = .ok (.aload_n 1, 1) := by decide +kernel
theorem dX0_loose_18 : decode cX0_loose 18 = .ok (.ifnull 21, 3) := by decide +kernel
theorem dX0_loose_21 : decode cX0_loose 21 = .ok (.aload_n 1, 1) := by decide +kernel
theorem dX0_loose_22 : decode cX0_loose 22 = .ok (.iconst 0, 1) := by decide +kernel
theorem dX0_loose_23 : decode cX0_loose 23 = .ok (.invokevirtual 23, 3) := by decide +kernel
theorem dX0_loose_26 : decode cX0_loose 26 = .ok (.ifCond .eq 13, 3) := by decide +kernel
theorem dX0_loose_29 : decode cX0_loose 29 = .ok (.aload_n 0, 1) := by decide +kernel
theorem dX0_loose_30 : decode cX0_loose 30 = .ok (.aload_n 1, 1) := by decide +kernel
theorem dX0_loose_31 : decode cX0_loose 31 = .ok (.iconst 0, 1) := by decide +kernel
theorem dX0_loose_32 : decode cX0_loose 32 = .ok (.aload_n 2, 1) := by decide +kernel
theorem dX0_loose_33 : decode cX0_loose 33 = .ok (.iload_n 3, 1) := by decide +kernel
theorem dX0_loose_34 : decode cX0_loose 34 = .ok (.invokevirtual 29, 3) := by decide +kernel
theorem dX0_loose_37 : decode cX0_loose 37 = .ok (.istore 4, 2) := by decide +kernel
theorem dX0_loose_39 : decode cX0_loose 39 = .ok (.iconst 0, 1) := by decide +kernel
theorem dX0_loose_40 : decode cX0_loose 40 = .ok (.bipush 10, 2) := by decide +kernel
theorem dX0_loose_42 : decode cX0_loose 42 = .ok (.iload 4, 2) := by decide +kernel
theorem dX0_loose_44 : decode cX0_loose 44 = .ok (.invokestatic 33, 3) := by decide +kernel
theorem dX0_loose_47 : decode cX0_loose 47 = .ok (.invokestatic 39, 3) := by decide +kernel
theorem dX0_loose_50 : decode cX0_loose 50 = .ok (.ireturn, 1) := by decide +kernel
theorem dX0_believes_0 : decode cX0_believes 0 = .ok (.iconst 2, 1) := by decide +kernel
theorem dX0_believes_1 : decode cX0_believes 1 = .ok (.istore 4, 2) := by decide +kernel
theorem dX0_believes_3 : decode cX0_believes 3 = .ok (.aload_n 1, 1) := by decide +kernel
theorem dX0_believes_4 : decode cX0_believes 4 = .ok (.ifnull 21, 3) := by decide +kernel
theorem dX0_believes_7 : decode cX0_believes 7 = .ok (.aload_n 1, 1) := by decide +kernel
theorem dX0_believes_8 : decode cX0_believes 8 = .ok (.iconst 1, 1) := by decide +kernel
theorem dX0_believes_9 : decode cX0_believes 9 = .ok (.invokevirtual 23, 3) := by decide +kernel
theorem dX0_believes_12 : decode cX0_believes 12 = .ok (.ifCond .eq 13, 3) := by decide +kernel
theorem dX0_believes_15 : decode cX0_believes 15 = .ok (.aload_n 0, 1) := by decide +kernel
theorem dX0_believes_16 : decode cX0_believes 16 = .ok (.aload_n 1, 1) := by decide +kernel
theorem dX0_believes_17 : decode cX0_believes 17 = .ok (.iconst 1, 1) := by decide +kernel
theorem dX0_believes_18 : decode cX0_believes 18 = .ok (.aload_n 2, 1) := by decide +kernel
theorem dX0_believes_19 : decode cX0_believes 19 = .ok (.iload_n 3, 1) := by decide +kernel
theorem dX0_believes_20 : decode cX0_believes 20 = .ok (.invokevirtual 29, 3) := by decide +kernel
theorem dX0_believes_23 : decode cX0_believes 23 = .ok (.istore 4, 2) := by decide +kernel
theorem dX0_believes_25 : decode cX0_believes 25 = .ok (.iconst 0, 1) := by decide +kernel
theorem dX0_believes_26 : decode cX0_believes 26 = .ok (.bipush 10, 2) := by decide +kernel
theorem dX0_believes_28 : decode cX0_believes 28 = .ok (.iload 4, 2) := by decide +kernel
theorem dX0_believes_30 : decode cX0_believes 30 = .ok (.invokestatic 33, 3) := by decide +kernel
theorem dX0_believes_33 : decode cX0_believes 33 = .ok (.invokestatic 39, 3) := by decide +kernel
theorem dX0_believes_36 : decode cX0_believes 36 = .ok (.ireturn, 1) := by decide +kernel
theorem dX0_wears_0 : decode cX0_wears 0 = .ok (.aload_n 2, 1) := by decide +kernel
theorem dX0_wears_1 : decode cX0_wears 1 = .ok (.getfield 15, 3) := by decide +kernel
theorem dX0_wears_4 : decode cX0_wears 4 = .ok (.iload_n 3, 1) := by decide +kernel
theorem dX0_wears_5 : decode cX0_wears 5 = .ok (.iaload, 1) := by decide +kernel
theorem dX0_wears_6 : decode cX0_wears 6 = .ok (.ifCond .ne 7, 3) := by decide +kernel
theorem dX0_wears_9 : decode cX0_wears 9 = .ok (.iconst 1, 1) := by decide +kernel
theorem dX0_wears_10 : decode cX0_wears 10 = .ok (.goto 4, 3) := by decide +kernel
theorem dX0_wears_13 : decode cX0_wears 13 = .ok (.iconst 0, 1) := by decide +kernel
theorem dX0_wears_14 : decode cX0_wears 14 = .ok (.istore 4, 2) := by decide +kernel
theorem dX0_wears_16 : decode cX0_wears 16 = .ok (.aload_n 1, 1) := by decide +kernel
theorem dX0_wears_17 : decode cX0_wears 17 = .ok (.ifnull 21, 3) := by decide +kernel
theorem dX0_wears_20 : decode cX0_wears 20 = .ok (.aload_n 1, 1) := by decide +kernel
theorem dX0_wears_21 : decode cX0_wears 21 = .ok (.iconst 2, 1) := by decide +kernel
theorem dX0_wears_22 : decode cX0_wears 22 = .ok (.invokevirtual 23, 3) := by decide +kernel
theorem dX0_wears_25 : decode cX0_wears 25 = .ok (.ifCond .eq 13, 3) := by decide +kernel
theorem dX0_wears_28 : decode cX0_wears 28 = .ok (.aload_n 0, 1) := by decide +kernel
theorem dX0_wears_29 : decode cX0_wears 29 = .ok (.aload_n 1, 1) := by decide +kernel
theorem dX0_wears_30 : decode cX0_wears 30 = .ok (.iconst 2, 1) := by decide +kernel
theorem dX0_wears_31 : decode cX0_wears 31 = .ok (.aload_n 2, 1) := by decide +kernel
theorem dX0_wears_32 : decode cX0_wears 32 = .ok (.iload_n 3, 1) := by decide +kernel
theorem dX0_wears_33 : decode cX0_wears 33 = .ok (.invokevirtual 29, 3) := by decide +kernel
theorem dX0_wears_36 : decode cX0_wears 36 = .ok (.istore 4, 2) := by decide +kernel
theorem dX0_wears_38 : decode cX0_wears 38 = .ok (.iconst 0, 1) := by decide +kernel
theorem dX0_wears_39 : decode cX0_wears 39 = .ok (.bipush 9, 2) := by decide +kernel
theorem dX0_wears_41 : decode cX0_wears 41 = .ok (.iload 4, 2) := by decide +kernel
theorem dX0_wears_43 : decode cX0_wears 43 = .ok (.invokestatic 33, 3) := by decide +kernel
theorem dX0_wears_46 : decode cX0_wears 46 = .ok (.invokestatic 39, 3) := by decide +kernel
theorem dX0_wears_49 : decode cX0_wears 49 = .ok (.ireturn, 1) := by decide +kernel
theorem dX0_pass_0 : decode cX0_pass 0 = .ok (.iconst 0, 1) := by decide +kernel
theorem dX0_pass_1 : decode cX0_pass 1 = .ok (.istore 4, 2) := by decide +kernel
theorem dX0_pass_3 : decode cX0_pass 3 = .ok (.iconst 0, 1) := by decide +kernel
theorem dX0_pass_4 : decode cX0_pass 4 = .ok (.istore 5, 2) := by decide +kernel
theorem dX0_pass_6 : decode cX0_pass 6 = .ok (.iload 5, 2) := by decide +kernel
theorem dX0_pass_8 : decode cX0_pass 8 = .ok (.aload_n 1, 1) := by decide +kernel
theorem dX0_pass_9 : decode cX0_pass 9 = .ok (.getfield 42, 3) := by decide +kernel
theorem dX0_pass_12 : decode cX0_pass 12 = .ok (.if_icmp .ge 102, 3) := by decide +kernel
theorem dX0_pass_15 : decode cX0_pass 15 = .ok (.iload 5, 2) := by decide +kernel
theorem dX0_pass_17 : decode cX0_pass 17 = .ok (.iconst 5, 1) := by decide +kernel
theorem dX0_pass_18 : decode cX0_pass 18 = .ok (.if_icmp .ge 96, 3) := by decide +kernel
theorem dX0_pass_21 : decode cX0_pass 21 = .ok (.aload_n 1, 1) := by decide +kernel
theorem dX0_pass_22 : decode cX0_pass 22 = .ok (.iload 5, 2) := by decide +kernel
theorem dX0_pass_24 : decode cX0_pass 24 = .ok (.aload_n 2, 1) := by decide +kernel
theorem dX0_pass_25 : decode cX0_pass 25 = .ok (.aload_n 0, 1) := by decide +kernel
theorem dX0_pass_26 : decode cX0_pass 26 = .ok (.aload_n 3, 1) := by decide +kernel
theorem dX0_pass_27 : decode cX0_pass 27 = .ok (.aload_n 1, 1) := by decide +kernel
theorem dX0_pass_28 : decode cX0_pass 28 = .ok (.iload 5, 2) := by decide +kernel
theorem dX0_pass_30 : decode cX0_pass 30 = .ok (.invokevirtual 46, 3) := by decide +kernel
theorem dX0_pass_33 : decode cX0_pass 33 = .ok (.invokestatic 50, 3) := by decide +kernel
theorem dX0_pass_36 : decode cX0_pass 36 = .ok (.aload_n 1, 1) := by decide +kernel
theorem dX0_pass_37 : decode cX0_pass 37 = .ok (.invokevirtual 54, 3) := by decide +kernel
theorem dX0_pass_40 : decode cX0_pass 40 = .ok (.aload_n 0, 1) := by decide +kernel
theorem dX0_pass_41 : decode cX0_pass 41 = .ok (.aload_n 3, 1) := by decide +kernel
theorem dX0_pass_42 : decode cX0_pass 42 = .ok (.aload_n 1, 1) := by decide +kernel
theorem dX0_pass_43 : decode cX0_pass 43 = .ok (.iload 5, 2) := by decide +kernel
theorem dX0_pass_45 : decode cX0_pass 45 = .ok (.invokevirtual 58, 3) := by decide +kernel
theorem dX0_pass_48 : decode cX0_pass 48 = .ok (.if_icmp .ge 12, 3) := by decide +kernel
theorem dX0_pass_51 : decode cX0_pass 51 = .ok (.aload_n 1, 1) := by decide +kernel
theorem dX0_pass_52 : decode cX0_pass 52 = .ok (.iload 5, 2) := by decide +kernel
theorem dX0_pass_54 : decode cX0_pass 54 = .ok (.invokevirtual 61, 3) := by decide +kernel
theorem dX0_pass_57 : decode cX0_pass 57 = .ok (.iinc 4 1, 3) := by decide +kernel
theorem dX0_pass_60 : decode cX0_pass 60 = .ok (.aload_n 1, 1) := by decide +kernel
theorem dX0_pass_61 : decode cX0_pass 61 = .ok (.getfield 65, 3) := by decide +kernel
theorem dX0_pass_64 : decode cX0_pass 64 = .ok (.iload 5, 2) := by decide +kernel
theorem dX0_pass_66 : decode cX0_pass 66 = .ok (.bipush 99, 2) := by decide +kernel
theorem dX0_pass_68 : decode cX0_pass 68 = .ok (.aload_n 1, 1) := by decide +kernel
theorem dX0_pass_69 : decode cX0_pass 69 = .ok (.getfield 65, 3) := by decide +kernel
theorem dX0_pass_72 : decode cX0_pass 72 = .ok (.iload 5, 2) := by decide +kernel
theorem dX0_pass_74 : decode cX0_pass 74 = .ok (.iaload, 1) := by decide +kernel
theorem dX0_pass_75 : decode cX0_pass 75 = .ok (.aload_n 0, 1) := by decide +kernel
theorem dX0_pass_76 : decode cX0_pass 76 = .ok (.aload_n 3, 1) := by decide +kernel
theorem dX0_pass_77 : decode cX0_pass 77 = .ok (.aload_n 1, 1) := by decide +kernel
theorem dX0_pass_78 : decode cX0_pass 78 = .ok (.iload 5, 2) := by decide +kernel
theorem dX0_pass_80 : decode cX0_pass 80 = .ok (.invokevirtual 68, 3) := by decide +kernel
theorem dX0_pass_83 : decode cX0_pass 83 = .ok (.iadd, 1) := by decide +kernel
theorem dX0_pass_84 : decode cX0_pass 84 = .ok (.invokestatic 33, 3) := by decide +kernel
theorem dX0_pass_87 : decode cX0_pass 87 = .ok (.iastore, 1) := by decide +kernel
theorem dX0_pass_88 : decode cX0_pass 88 = .ok (.aload_n 1, 1) := by decide +kernel
theorem dX0_pass_89 : decode cX0_pass 89 = .ok (.getfield 15, 3) := by decide +kernel
theorem dX0_pass_92 : decode cX0_pass 92 = .ok (.iload 5, 2) := by decide +kernel
theorem dX0_pass_94 : decode cX0_pass 94 = .ok (.iconst 0, 1) := by decide +kernel
theorem dX0_pass_95 : decode cX0_pass 95 = .ok (.aload_n 1, 1) := by decide +kernel
theorem dX0_pass_96 : decode cX0_pass 96 = .ok (.getfield 15, 3) := by decide +kernel
theorem dX0_pass_99 : decode cX0_pass 99 = .ok (.iload 5, 2) := by decide +kernel
theorem dX0_pass_101 : decode cX0_pass 101 = .ok (.iaload, 1) := by decide +kernel
theorem dX0_pass_102 : decode cX0_pass 102 = .ok (.iconst 1, 1) := by decide +kernel
theorem dX0_pass_103 : decode cX0_pass 103 = .ok (.isub, 1) := by decide +kernel
theorem dX0_pass_104 : decode cX0_pass 104 = .ok (.invokestatic 39, 3) := by decide +kernel
theorem dX0_pass_107 : decode cX0_pass 107 = .ok (.iastore, 1) := by decide +kernel
theorem dX0_pass_108 : decode cX0_pass 108 = .ok (.iinc 5 1, 3) := by decide +kernel
theorem dX0_pass_111 : decode cX0_pass 111 = .ok (.goto (-105), 3) := by decide +kernel
theorem dX0_pass_114 : decode cX0_pass 114 = .ok (.aload_n 1, 1) := by decide +kernel
theorem dX0_pass_115 : decode cX0_pass 115 = .ok (.dup, 1) := by decide +kernel
theorem dX0_pass_116 : decode cX0_pass 116 = .ok (.getfield 71, 3) := by decide +kernel
theorem dX0_pass_119 : decode cX0_pass 119 = .ok (.iconst 1, 1) := by decide +kernel
theorem dX0_pass_120 : decode cX0_pass 120 = .ok (.iadd, 1) := by decide +kernel
theorem dX0_pass_121 : decode cX0_pass 121 = .ok (.putfield 71, 3) := by decide +kernel
theorem dX0_pass_124 : decode cX0_pass 124 = .ok (.iload 4, 2) := by decide +kernel
theorem dX0_pass_126 : decode cX0_pass 126 = .ok (.ireturn, 1) := by decide +kernel
theorem dX0_printRoll_0 : decode cX0_printRoll 0 = .ok (.aload_n 0, 1) := by decide +kernel
theorem dX0_printRoll_1 : decode cX0_printRoll 1 = .ok (.getfield 74, 3) := by decide +kernel
theorem dX0_printRoll_4 : decode cX0_printRoll 4 = .ok (.iload_n 1, 1) := by decide +kernel
theorem dX0_printRoll_5 : decode cX0_printRoll 5 = .ok (.iconst 0, 1) := by decide +kernel
theorem dX0_printRoll_6 : decode cX0_printRoll 6 = .ok (.iastore, 1) := by decide +kernel
theorem dX0_printRoll_7 : decode cX0_printRoll 7 = .ok (.aload_n 0, 1) := by decide +kernel
theorem dX0_printRoll_8 : decode cX0_printRoll 8 = .ok (.getfield 77, 3) := by decide +kernel
theorem dX0_printRoll_11 : decode cX0_printRoll 11 = .ok (.iload_n 1, 1) := by decide +kernel
theorem dX0_printRoll_12 : decode cX0_printRoll 12 = .ok (.iaload, 1) := by decide +kernel
theorem dX0_printRoll_13 : decode cX0_printRoll 13 = .ok (.istore 4, 2) := by decide +kernel
theorem dX0_printRoll_15 : decode cX0_printRoll 15 = .ok (.iload 4, 2) := by decide +kernel
theorem dX0_printRoll_17 : decode cX0_printRoll 17 = .ok (.invokestatic 80, 3) := by decide +kernel
theorem dX0_printRoll_20 : decode cX0_printRoll 20 = .ok (.istore 5, 2) := by decide +kernel
theorem dX0_printRoll_22 : decode cX0_printRoll 22 = .ok (.iconst 0, 1) := by decide +kernel
theorem dX0_printRoll_23 : decode cX0_printRoll 23 = .ok (.istore 6, 2) := by decide +kernel
theorem dX0_printRoll_25 : decode cX0_printRoll 25 = .ok (.iload 6, 2) := by decide +kernel
theorem dX0_printRoll_27 : decode cX0_printRoll 27 = .ok (.iload 5, 2) := by decide +kernel
theorem dX0_printRoll_29 : decode cX0_printRoll 29 = .ok (.if_icmp .ge 56, 3) := by decide +kernel
theorem dX0_printRoll_32 : decode cX0_printRoll 32 = .ok (.iload 4, 2) := by decide +kernel
theorem dX0_printRoll_34 : decode cX0_printRoll 34 = .ok (.iload 6, 2) := by decide +kernel
theorem dX0_printRoll_36 : decode cX0_printRoll 36 = .ok (.invokestatic 84, 3) := by decide +kernel
theorem dX0_printRoll_39 : decode cX0_printRoll 39 = .ok (.aload_n 0, 1) := by decide +kernel
theorem dX0_printRoll_40 : decode cX0_printRoll 40 = .ok (.invokevirtual 54, 3) := by decide +kernel
theorem dX0_printRoll_43 : decode cX0_printRoll 43 = .ok (.iload_n 3, 1) := by decide +kernel
theorem dX0_printRoll_44 : decode cX0_printRoll 44 = .ok (.if_icmp .ge 7, 3) := by decide +kernel
theorem dX0_printRoll_47 : decode cX0_printRoll 47 = .ok (.iconst 1, 1) := by decide +kernel
theorem dX0_printRoll_48 : decode cX0_printRoll 48 = .ok (.goto 4, 3) := by decide +kernel
theorem dX0_printRoll_51 : decode cX0_printRoll 51 = .ok (.iconst 0, 1) := by decide +kernel
theorem dX0_printRoll_52 : decode cX0_printRoll 52 = .ok (.invokestatic 87, 3) := by decide +kernel
theorem dX0_printRoll_55 : decode cX0_printRoll 55 = .ok (.istore 7, 2) := by decide +kernel
theorem dX0_printRoll_57 : decode cX0_printRoll 57 = .ok (.iload 7, 2) := by decide +kernel
theorem dX0_printRoll_59 : decode cX0_printRoll 59 = .ok (.iconst 0, 1) := by decide +kernel
theorem dX0_printRoll_60 : decode cX0_printRoll 60 = .ok (.aload_n 2, 1) := by decide +kernel
theorem dX0_printRoll_61 : decode cX0_printRoll 61 = .ok (.arraylength, 1) := by decide +kernel
theorem dX0_printRoll_62 : decode cX0_printRoll 62 = .ok (.iconst 1, 1) := by decide +kernel
theorem dX0_printRoll_63 : decode cX0_printRoll 63 = .ok (.isub, 1) := by decide +kernel
theorem dX0_printRoll_64 : decode cX0_printRoll 64 = .ok (.invokestatic 91, 3) := by decide +kernel
theorem dX0_printRoll_67 : decode cX0_printRoll 67 = .ok (.ifCond .eq 12, 3) := by decide +kernel
theorem dX0_printRoll_70 : decode cX0_printRoll 70 = .ok (.aload_n 0, 1) := by decide +kernel
theorem dX0_printRoll_71 : decode cX0_printRoll 71 = .ok (.iload_n 1, 1) := by decide +kernel
theorem dX0_printRoll_72 : decode cX0_printRoll 72 = .ok (.aload_n 2, 1) := by decide +kernel
theorem dX0_printRoll_73 : decode cX0_printRoll 73 = .ok (.iload 7, 2) := by decide +kernel
theorem dX0_printRoll_75 : decode cX0_printRoll 75 = .ok (.iaload, 1) := by decide +kernel
theorem dX0_printRoll_76 : decode cX0_printRoll 76 = .ok (.invokevirtual 95, 3) := by decide +kernel
theorem dX0_printRoll_79 : decode cX0_printRoll 79 = .ok (.iinc 6 1, 3) := by decide +kernel
theorem dX0_printRoll_82 : decode cX0_printRoll 82 = .ok (.goto (-57), 3) := by decide +kernel
theorem dX0_printRoll_85 : decode cX0_printRoll 85 = .ok (.return_, 1) := by decide +kernel
theorem dX0_asked_0 : decode cX0_asked 0 = .ok (.aload_n 0, 1) := by decide +kernel
theorem dX0_asked_1 : decode cX0_asked 1 = .ok (.iconst 0, 1) := by decide +kernel
theorem dX0_asked_2 : decode cX0_asked 2 = .ok (.putfield 99, 3) := by decide +kernel
theorem dX0_asked_5 : decode cX0_asked 5 = .ok (.aload_n 1, 1) := by decide +kernel
theorem dX0_asked_6 : decode cX0_asked 6 = .ok (.getfield 102, 3) := by decide +kernel
theorem dX0_asked_9 : decode cX0_asked 9 = .ok (.iload_n 2, 1) := by decide +kernel
theorem dX0_asked_10 : decode cX0_asked 10 = .ok (.iaload, 1) := by decide +kernel
theorem dX0_asked_11 : decode cX0_asked 11 = .ok (.aload_n 1, 1) := by decide +kernel
theorem dX0_asked_12 : decode cX0_asked 12 = .ok (.getfield 105, 3) := by decide +kernel
theorem dX0_asked_15 : decode cX0_asked 15 = .ok (.arraylength, 1) := by decide +kernel
theorem dX0_asked_16 : decode cX0_asked 16 = .ok (.invokestatic 33, 3) := by decide +kernel
theorem dX0_asked_19 : decode cX0_asked 19 = .ok (.istore 5, 2) := by decide +kernel
theorem dX0_asked_21 : decode cX0_asked 21 = .ok (.iconst 0, 1) := by decide +kernel
theorem dX0_asked_22 : decode cX0_asked 22 = .ok (.aload_n 1, 1) := by decide +kernel
theorem dX0_asked_23 : decode cX0_asked 23 = .ok (.getfield 108, 3) := by decide +kernel
theorem dX0_asked_26 : decode cX0_asked 26 = .ok (.iload_n 2, 1) := by decide +kernel
theorem dX0_asked_27 : decode cX0_asked 27 = .ok (.iaload, 1) := by decide +kernel
theorem dX0_asked_28 : decode cX0_asked 28 = .ok (.invokestatic 39, 3) := by decide +kernel
theorem dX0_asked_31 : decode cX0_asked 31 = .ok (.istore 6, 2) := by decide +kernel
theorem dX0_asked_33 : decode cX0_asked 33 = .ok (.iload 6, 2) := by decide +kernel
theorem dX0_asked_35 : decode cX0_asked 35 = .ok (.iload 5, 2) := by decide +kernel
theorem dX0_asked_37 : decode cX0_asked 37 = .ok (.if_icmp .ge 185, 3) := by decide +kernel
theorem dX0_asked_40 : decode cX0_asked 40 = .ok (.aload_n 1, 1) := by decide +kernel
theorem dX0_asked_41 : decode cX0_asked 41 = .ok (.getfield 105, 3) := by decide +kernel
theorem dX0_asked_44 : decode cX0_asked 44 = .ok (.iload 6, 2) := by decide +kernel
theorem dX0_asked_46 : decode cX0_asked 46 = .ok (.iaload, 1) := by decide +kernel
theorem dX0_asked_47 : decode cX0_asked 47 = .ok (.istore 7, 2) := by decide +kernel
theorem dX0_asked_49 : decode cX0_asked 49 = .ok (.aload_n 1, 1) := by decide +kernel
theorem dX0_asked_50 : decode cX0_asked 50 = .ok (.getfield 111, 3) := by decide +kernel
theorem dX0_asked_53 : decode cX0_asked 53 = .ok (.iload 6, 2) := by decide +kernel
theorem dX0_asked_55 : decode cX0_asked 55 = .ok (.iaload, 1) := by decide +kernel
theorem dX0_asked_56 : decode cX0_asked 56 = .ok (.istore 8, 2) := by decide +kernel
theorem dX0_asked_58 : decode cX0_asked 58 = .ok (.iload 7, 2) := by decide +kernel
theorem dX0_asked_60 : decode cX0_asked 60 = .ok (.bipush 21, 2) := by decide +kernel
theorem dX0_asked_62 : decode cX0_asked 62 = .ok (.if_icmp .ne 29, 3) := by decide +kernel
theorem dX0_asked_65 : decode cX0_asked 65 = .ok (.aload_n 0, 1) := by decide +kernel
theorem dX0_asked_66 : decode cX0_asked 66 = .ok (.invokevirtual 114, 3) := by decide +kernel
theorem dX0_asked_69 : decode cX0_asked 69 = .ok (.ifCond .ne 15, 3) := by decide +kernel
theorem dX0_asked_72 : decode cX0_asked 72 = .ok (.iload 6, 2) := by decide +kernel
theorem dX0_asked_74 : decode cX0_asked 74 = .ok (.iload 8, 2) := by decide +kernel
theorem dX0_asked_76 : decode cX0_asked 76 = .ok (.iconst 1, 1) := by decide +kernel
theorem dX0_asked_77 : decode cX0_asked 77 = .ok (.isub, 1) := by decide +kernel
theorem dX0_asked_78 : decode cX0_asked 78 = .ok (.invokestatic 39, 3) := by decide +kernel
theorem dX0_asked_81 : decode cX0_asked 81 = .ok (.goto 5, 3) := by decide +kernel
theorem dX0_asked_84 : decode cX0_asked 84 = .ok (.iload 6, 2) := by decide +kernel
theorem dX0_asked_86 : decode cX0_asked 86 = .ok (.istore 6, 2) := by decide +kernel
theorem dX0_asked_88 : decode cX0_asked 88 = .ok (.goto 128, 3) := by decide +kernel
theorem dX0_asked_91 : decode cX0_asked 91 = .ok (.iload 7, 2) := by decide +kernel
theorem dX0_asked_93 : decode cX0_asked 93 = .ok (.bipush 22, 2) := by decide +kernel
theorem dX0_asked_95 : decode cX0_asked 95 = .ok (.if_icmp .ne 17, 3) := by decide +kernel
theorem dX0_asked_98 : decode cX0_asked 98 = .ok (.iload 6, 2) := by decide +kernel
theorem dX0_asked_100 : decode cX0_asked 100 = .ok (.iload 8, 2) := by decide +kernel
theorem dX0_asked_102 : decode cX0_asked 102 = .ok (.iconst 1, 1) := by decide +kernel
theorem dX0_asked_103 : decode cX0_asked 103 = .ok (.isub, 1) := by decide +kernel
theorem dX0_asked_104 : decode cX0_asked 104 = .ok (.invokestatic 39, 3) := by decide +kernel
theorem dX0_asked_107 : decode cX0_asked 107 = .ok (.istore 6, 2) := by decide +kernel
theorem dX0_asked_109 : decode cX0_asked 109 = .ok (.goto 107, 3) := by decide +kernel
theorem dX0_asked_112 : decode cX0_asked 112 = .ok (.iload 7, 2) := by decide +kernel
theorem dX0_asked_114 : decode cX0_asked 114 = .ok (.bipush 27, 2) := by decide +kernel
theorem dX0_asked_116 : decode cX0_asked 116 = .ok (.if_icmp .ne 12, 3) := by decide +kernel
theorem dX0_asked_119 : decode cX0_asked 119 = .ok (.aload_n 0, 1) := by decide +kernel
theorem dX0_asked_120 : decode cX0_asked 120 = .ok (.iload 8, 2) := by decide +kernel
theorem dX0_asked_122 : decode cX0_asked 122 = .ok (.invokevirtual 117, 3) := by decide +kernel
theorem dX0_asked_125 : decode cX0_asked 125 = .ok (.goto 91, 3) := by decide +kernel
theorem dX0_asked_128 : decode cX0_asked 128 = .ok (.iload 7, 2) := by decide +kernel
theorem dX0_asked_130 : decode cX0_asked 130 = .ok (.bipush 15, 2) := by decide +kernel
theorem dX0_asked_132 : decode cX0_asked 132 = .ok (.if_icmp .gt 18, 3) := by decide +kernel
theorem dX0_asked_135 : decode cX0_asked 135 = .ok (.aload_n 0, 1) := by decide +kernel
theorem dX0_asked_136 : decode cX0_asked 136 = .ok (.iload 7, 2) := by decide +kernel
theorem dX0_asked_138 : decode cX0_asked 138 = .ok (.aload_n 3, 1) := by decide +kernel
theorem dX0_asked_139 : decode cX0_asked 139 = .ok (.iload 4, 2) := by decide +kernel
theorem dX0_asked_141 : decode cX0_asked 141 = .ok (.invokestatic 120, 3) := by decide +kernel
theorem dX0_asked_144 : decode cX0_asked 144 = .ok (.invokevirtual 117, 3) := by decide +kernel
theorem dX0_asked_147 : decode cX0_asked 147 = .ok (.goto 69, 3) := by decide +kernel
theorem dX0_asked_150 : decode cX0_asked 150 = .ok (.iload 7, 2) := by decide +kernel
theorem dX0_asked_152 : decode cX0_asked 152 = .ok (.bipush 18, 2) := by decide +kernel
theorem dX0_asked_154 : decode cX0_asked 154 = .ok (.if_icmp .eq 24, 3) := by decide +kernel
theorem dX0_asked_157 : decode cX0_asked 157 = .ok (.iload 7, 2) := by decide +kernel
theorem dX0_asked_159 : decode cX0_asked 159 = .ok (.bipush 19, 2) := by decide +kernel
theorem dX0_asked_161 : decode cX0_asked 161 = .ok (.if_icmp .eq 17, 3) := by decide +kernel
theorem dX0_asked_164 : decode cX0_asked 164 = .ok (.iload 7, 2) := by decide +kernel
theorem dX0_asked_166 : decode cX0_asked 166 = .ok (.bipush 26, 2) := by decide +kernel
theorem dX0_asked_168 : decode cX0_asked 168 = .ok (.if_icmp .eq 10, 3) := by decide +kernel
theorem dX0_asked_171 : decode cX0_asked 171 = .ok (.iload 7, 2) := by decide +kernel
theorem dX0_asked_173 : decode cX0_asked 173 = .ok (.bipush 43, 2) := by decide +kernel
theorem dX0_asked_175 : decode cX0_asked 175 = .ok (.if_icmp .ne 20, 3) := by decide +kernel
theorem dX0_asked_178 : decode cX0_asked 178 = .ok (.aload_n 0, 1) := by decide +kernel
theorem dX0_asked_179 : decode cX0_asked 179 = .ok (.iload 7, 2) := by decide +kernel
theorem dX0_asked_181 : decode cX0_asked 181 = .ok (.aload_n 0, 1) := by decide +kernel
theorem dX0_asked_182 : decode cX0_asked 182 = .ok (.invokevirtual 114, 3) := by decide +kernel
theorem dX0_asked_185 : decode cX0_asked 185 = .ok (.aload_n 3, 1) := by decide +kernel
theorem dX0_asked_186 : decode cX0_asked 186 = .ok (.invokestatic 124, 3) := by decide +kernel
theorem dX0_asked_189 : decode cX0_asked 189 = .ok (.invokevirtual 117, 3) := by decide +kernel
theorem dX0_asked_192 : decode cX0_asked 192 = .ok (.goto 24, 3) := by decide +kernel
theorem dX0_asked_195 : decode cX0_asked 195 = .ok (.aload_n 0, 1) := by decide +kernel
theorem dX0_asked_196 : decode cX0_asked 196 = .ok (.invokevirtual 114, 3) := by decide +kernel
theorem dX0_asked_199 : decode cX0_asked 199 = .ok (.istore 9, 2) := by decide +kernel
theorem dX0_asked_201 : decode cX0_asked 201 = .ok (.aload_n 0, 1) := by decide +kernel
theorem dX0_asked_202 : decode cX0_asked 202 = .ok (.iload 7, 2) := by decide +kernel
theorem dX0_asked_204 : decode cX0_asked 204 = .ok (.aload_n 0, 1) := by decide +kernel
theorem dX0_asked_205 : decode cX0_asked 205 = .ok (.invokevirtual 114, 3) := by decide +kernel
theorem dX0_asked_208 : decode cX0_asked 208 = .ok (.iload 9, 2) := by decide +kernel
theorem dX0_asked_210 : decode cX0_asked 210 = .ok (.invokestatic 128, 3) := by decide +kernel
theorem dX0_asked_213 : decode cX0_asked 213 = .ok (.invokevirtual 117, 3) := by decide +kernel
theorem dX0_asked_216 : decode cX0_asked 216 = .ok (.iinc 6 1, 3) := by decide +kernel
theorem dX0_asked_219 : decode cX0_asked 219 = .ok (.goto (-186), 3) := by decide +kernel
theorem dX0_asked_222 : decode cX0_asked 222 = .ok (.aload_n 0, 1) := by decide +kernel
theorem dX0_asked_223 : decode cX0_asked 223 = .ok (.invokevirtual 114, 3) := by decide +kernel
theorem dX0_asked_226 : decode cX0_asked 226 = .ok (.ireturn, 1) := by decide +kernel
theorem dX0_push_0 : decode cX0_push 0 = .ok (.aload_n 0, 1) := by decide +kernel
theorem dX0_push_1 : decode cX0_push 1 = .ok (.getfield 99, 3) := by decide +kernel
theorem dX0_push_4 : decode cX0_push 4 = .ok (.iconst 0, 1) := by decide +kernel
theorem dX0_push_5 : decode cX0_push 5 = .ok (.aload_n 0, 1) := by decide +kernel
theorem dX0_push_6 : decode cX0_push 6 = .ok (.getfield 9, 3) := by decide +kernel
theorem dX0_push_9 : decode cX0_push 9 = .ok (.arraylength, 1) := by decide +kernel
theorem dX0_push_10 : decode cX0_push 10 = .ok (.iconst 1, 1) := by decide +kernel
theorem dX0_push_11 : decode cX0_push 11 = .ok (.isub, 1) := by decide +kernel
theorem dX0_push_12 : decode cX0_push 12 = .ok (.invokestatic 91, 3) := by decide +kernel
theorem dX0_push_15 : decode cX0_push 15 = .ok (.ifCond .eq 23, 3) := by decide +kernel
theorem dX0_push_18 : decode cX0_push 18 = .ok (.aload_n 0, 1) := by decide +kernel
theorem dX0_push_19 : decode cX0_push 19 = .ok (.getfield 9, 3) := by decide +kernel
theorem dX0_push_22 : decode cX0_push 22 = .ok (.aload_n 0, 1) := by decide +kernel
theorem dX0_push_23 : decode cX0_push 23 = .ok (.getfield 99, 3) := by decide +kernel
theorem dX0_push_26 : decode cX0_push 26 = .ok (.iload_n 1, 1) := by decide +kernel
theorem dX0_push_27 : decode cX0_push 27 = .ok (.iastore, 1) := by decide +kernel
theorem dX0_push_28 : decode cX0_push 28 = .ok (.aload_n 0, 1) := by decide +kernel
theorem dX0_push_29 : decode cX0_push 29 = .ok (.dup, 1) := by decide +kernel
theorem dX0_push_30 : decode cX0_push 30 = .ok (.getfield 99, 3) := by decide +kernel
theorem dX0_push_33 : decode cX0_push 33 = .ok (.iconst 1, 1) := by decide +kernel
theorem dX0_push_34 : decode cX0_push 34 = .ok (.iadd, 1) := by decide +kernel
theorem dX0_push_35 : decode cX0_push 35 = .ok (.putfield 99, 3) := by decide +kernel
theorem dX0_push_38 : decode cX0_push 38 = .ok (.return_, 1) := by decide +kernel
theorem dX0_pop_0 : decode cX0_pop 0 = .ok (.aload_n 0, 1) := by decide +kernel
theorem dX0_pop_1 : decode cX0_pop 1 = .ok (.getfield 99, 3) := by decide +kernel
theorem dX0_pop_4 : decode cX0_pop 4 = .ok (.iconst 1, 1) := by decide +kernel
theorem dX0_pop_5 : decode cX0_pop 5 = .ok (.aload_n 0, 1) := by decide +kernel
theorem dX0_pop_6 : decode cX0_pop 6 = .ok (.getfield 9, 3) := by decide +kernel
theorem dX0_pop_9 : decode cX0_pop 9 = .ok (.arraylength, 1) := by decide +kernel
theorem dX0_pop_10 : decode cX0_pop 10 = .ok (.invokestatic 91, 3) := by decide +kernel
theorem dX0_pop_13 : decode cX0_pop 13 = .ok (.ifCond .ne 5, 3) := by decide +kernel
theorem dX0_pop_16 : decode cX0_pop 16 = .ok (.iconst 0, 1) := by decide +kernel
theorem dX0_pop_17 : decode cX0_pop 17 = .ok (.ireturn, 1) := by decide +kernel
theorem dX0_pop_18 : decode cX0_pop 18 = .ok (.aload_n 0, 1) := by decide +kernel
theorem dX0_pop_19 : decode cX0_pop 19 = .ok (.dup, 1) := by decide +kernel
theorem dX0_pop_20 : decode cX0_pop 20 = .ok (.getfield 99, 3) := by decide +kernel
theorem dX0_pop_23 : decode cX0_pop 23 = .ok (.iconst 1, 1) := by decide +kernel
theorem dX0_pop_24 : decode cX0_pop 24 = .ok (.isub, 1) := by decide +kernel
theorem dX0_pop_25 : decode cX0_pop 25 = .ok (.putfield 99, 3) := by decide +kernel
theorem dX0_pop_28 : decode cX0_pop 28 = .ok (.aload_n 0, 1) := by decide +kernel
theorem dX0_pop_29 : decode cX0_pop 29 = .ok (.getfield 9, 3) := by decide +kernel
theorem dX0_pop_32 : decode cX0_pop 32 = .ok (.aload_n 0, 1) := by decide +kernel
theorem dX0_pop_33 : decode cX0_pop 33 = .ok (.getfield 99, 3) := by decide +kernel
theorem dX0_pop_36 : decode cX0_pop 36 = .ok (.iaload, 1) := by decide +kernel
theorem dX0_pop_37 : decode cX0_pop 37 = .ok (.ireturn, 1) := by decide +kernel
theorem dX0_named_0 : decode cX0_named 0 = .ok (.iload_n 0, 1) := by decide +kernel
theorem dX0_named_1 : decode cX0_named 1 = .ok (.tableswitch 113 8 15 #[66, 47, 52, 59, 73, 80, 82, 89], 47) := by decide +kernel
theorem dX0_named_48 : decode cX0_named 48 = .ok (.aload_n 1, 1) := by decide +kernel
theorem dX0_named_49 : decode cX0_named 49 = .ok (.getfield 71, 3) := by decide +kernel
theorem dX0_named_52 : decode cX0_named 52 = .ok (.ireturn, 1) := by decide +kernel
theorem dX0_named_53 : decode cX0_named 53 = .ok (.aload_n 1, 1) := by decide +kernel
theorem dX0_named_54 : decode cX0_named 54 = .ok (.getfield 20, 3) := by decide +kernel
theorem dX0_named_57 : decode cX0_named 57 = .ok (.iload_n 2, 1) := by decide +kernel
theorem dX0_named_58 : decode cX0_named 58 = .ok (.iaload, 1) := by decide +kernel
theorem dX0_named_59 : decode cX0_named 59 = .ok (.ireturn, 1) := by decide +kernel
theorem dX0_named_60 : decode cX0_named 60 = .ok (.aload_n 1, 1) := by decide +kernel
theorem dX0_named_61 : decode cX0_named 61 = .ok (.getfield 65, 3) := by decide +kernel
theorem dX0_named_64 : decode cX0_named 64 = .ok (.iload_n 2, 1) := by decide +kernel
theorem dX0_named_65 : decode cX0_named 65 = .ok (.iaload, 1) := by decide +kernel
theorem dX0_named_66 : decode cX0_named 66 = .ok (.ireturn, 1) := by decide +kernel
theorem dX0_named_67 : decode cX0_named 67 = .ok (.aload_n 1, 1) := by decide +kernel
theorem dX0_named_68 : decode cX0_named 68 = .ok (.getfield 15, 3) := by decide +kernel
theorem dX0_named_71 : decode cX0_named 71 = .ok (.iload_n 2, 1) := by decide +kernel
theorem dX0_named_72 : decode cX0_named 72 = .ok (.iaload, 1) := by decide +kernel
theorem dX0_named_73 : decode cX0_named 73 = .ok (.ireturn, 1) := by decide +kernel
theorem dX0_named_74 : decode cX0_named 74 = .ok (.aload_n 1, 1) := by decide +kernel
theorem dX0_named_75 : decode cX0_named 75 = .ok (.getfield 77, 3) := by decide +kernel
theorem dX0_named_78 : decode cX0_named 78 = .ok (.iload_n 2, 1) := by decide +kernel
theorem dX0_named_79 : decode cX0_named 79 = .ok (.iaload, 1) := by decide +kernel
theorem dX0_named_80 : decode cX0_named 80 = .ok (.ireturn, 1) := by decide +kernel
theorem dX0_named_81 : decode cX0_named 81 = .ok (.iload_n 2, 1) := by decide +kernel
theorem dX0_named_82 : decode cX0_named 82 = .ok (.ireturn, 1) := by decide +kernel
theorem dX0_named_83 : decode cX0_named 83 = .ok (.aload_n 1, 1) := by decide +kernel
theorem dX0_named_84 : decode cX0_named 84 = .ok (.getfield 74, 3) := by decide +kernel
theorem dX0_named_87 : decode cX0_named 87 = .ok (.iload_n 2, 1) := by decide +kernel
theorem dX0_named_88 : decode cX0_named 88 = .ok (.iaload, 1) := by decide +kernel
theorem dX0_named_89 : decode cX0_named 89 = .ok (.ireturn, 1) := by decide +kernel
theorem dX0_named_90 : decode cX0_named 90 = .ok (.aload_n 1, 1) := by decide +kernel
theorem dX0_named_91 : decode cX0_named 91 = .ok (.getfield 74, 3) := by decide +kernel
theorem dX0_named_94 : decode cX0_named 94 = .ok (.iload_n 2, 1) := by decide +kernel
theorem dX0_named_95 : decode cX0_named 95 = .ok (.iaload, 1) := by decide +kernel
theorem dX0_named_96 : decode cX0_named 96 = .ok (.aload_n 1, 1) := by decide +kernel
theorem dX0_named_97 : decode cX0_named 97 = .ok (.getfield 77, 3) := by decide +kernel
theorem dX0_named_100 : decode cX0_named 100 = .ok (.iload_n 2, 1) := by decide +kernel
theorem dX0_named_101 : decode cX0_named 101 = .ok (.iaload, 1) := by decide +kernel
theorem dX0_named_102 : decode cX0_named 102 = .ok (.invokestatic 80, 3) := by decide +kernel
theorem dX0_named_105 : decode cX0_named 105 = .ok (.if_icmp .ne 7, 3) := by decide +kernel
theorem dX0_named_108 : decode cX0_named 108 = .ok (.iconst 1, 1) := by decide +kernel
theorem dX0_named_109 : decode cX0_named 109 = .ok (.goto 4, 3) := by decide +kernel
theorem dX0_named_112 : decode cX0_named 112 = .ok (.iconst 0, 1) := by decide +kernel
theorem dX0_named_113 : decode cX0_named 113 = .ok (.ireturn, 1) := by decide +kernel
theorem dX0_named_114 : decode cX0_named 114 = .ok (.iconst 0, 1) := by decide +kernel
theorem dX0_named_115 : decode cX0_named 115 = .ok (.ireturn, 1) := by decide +kernel
theorem dX0_ofOne_0 : decode cX0_ofOne 0 = .ok (.iload_n 0, 1) := by decide +kernel
theorem dX0_ofOne_1 : decode cX0_ofOne 1 = .ok (.lookupswitch 67 #[(19, 48), (26, 38), (43, 35)], 35) := by decide +kernel
theorem dX0_ofOne_36 : decode cX0_ofOne 36 = .ok (.iload_n 1, 1) := by decide +kernel
theorem dX0_ofOne_37 : decode cX0_ofOne 37 = .ok (.ineg, 1) := by decide +kernel
theorem dX0_ofOne_38 : decode cX0_ofOne 38 = .ok (.ireturn, 1) := by decide +kernel
theorem dX0_ofOne_39 : decode cX0_ofOne 39 = .ok (.iload_n 1, 1) := by decide +kernel
theorem dX0_ofOne_40 : decode cX0_ofOne 40 = .ok (.ifCond .ne 7, 3) := by decide +kernel
theorem dX0_ofOne_43 : decode cX0_ofOne 43 = .ok (.iconst 1, 1) := by decide +kernel
theorem dX0_ofOne_44 : decode cX0_ofOne 44 = .ok (.goto 4, 3) := by decide +kernel
theorem dX0_ofOne_47 : decode cX0_ofOne 47 = .ok (.iconst 0, 1) := by decide +kernel
theorem dX0_ofOne_48 : decode cX0_ofOne 48 = .ok (.ireturn, 1) := by decide +kernel
theorem dX0_ofOne_49 : decode cX0_ofOne 49 = .ok (.aload_n 2, 1) := by decide +kernel
theorem dX0_ofOne_50 : decode cX0_ofOne 50 = .ok (.iload_n 1, 1) := by decide +kernel
theorem dX0_ofOne_51 : decode cX0_ofOne 51 = .ok (.invokevirtual 132, 3) := by decide +kernel
theorem dX0_ofOne_54 : decode cX0_ofOne 54 = .ok (.ifCond .eq 12, 3) := by decide +kernel
theorem dX0_ofOne_57 : decode cX0_ofOne 57 = .ok (.aload_n 2, 1) := by decide +kernel
theorem dX0_ofOne_58 : decode cX0_ofOne 58 = .ok (.getfield 77, 3) := by decide +kernel
theorem dX0_ofOne_61 : decode cX0_ofOne 61 = .ok (.iload_n 1, 1) := by decide +kernel
theorem dX0_ofOne_62 : decode cX0_ofOne 62 = .ok (.iaload, 1) := by decide +kernel
theorem dX0_ofOne_63 : decode cX0_ofOne 63 = .ok (.goto 4, 3) := by decide +kernel
theorem dX0_ofOne_66 : decode cX0_ofOne 66 = .ok (.iconst 0, 1) := by decide +kernel
theorem dX0_ofOne_67 : decode cX0_ofOne 67 = .ok (.ireturn, 1) := by decide +kernel
theorem dX0_ofOne_68 : decode cX0_ofOne 68 = .ok (.iload_n 1, 1) := by decide +kernel
theorem dX0_ofOne_69 : decode cX0_ofOne 69 = .ok (.invokestatic 135, 3) := by decide +kernel
theorem dX0_ofOne_72 : decode cX0_ofOne 72 = .ok (.invokestatic 138, 3) := by decide +kernel
theorem dX0_ofOne_75 : decode cX0_ofOne 75 = .ok (.ireturn, 1) := by decide +kernel
theorem dX0_crossSum_0 : decode cX0_crossSum 0 = .ok (.iconst 0, 1) := by decide +kernel
theorem dX0_crossSum_1 : decode cX0_crossSum 1 = .ok (.istore_n 1, 1) := by decide +kernel
theorem dX0_crossSum_2 : decode cX0_crossSum 2 = .ok (.iload_n 0, 1) := by decide +kernel
theorem dX0_crossSum_3 : decode cX0_crossSum 3 = .ok (.istore_n 2, 1) := by decide +kernel
theorem dX0_crossSum_4 : decode cX0_crossSum 4 = .ok (.iconst 0, 1) := by decide +kernel
theorem dX0_crossSum_5 : decode cX0_crossSum 5 = .ok (.istore_n 3, 1) := by decide +kernel
theorem dX0_crossSum_6 : decode cX0_crossSum 6 = .ok (.iload_n 3, 1) := by decide +kernel
theorem dX0_crossSum_7 : decode cX0_crossSum 7 = .ok (.bipush 10, 2) := by decide +kernel
theorem dX0_crossSum_9 : decode cX0_crossSum 9 = .ok (.if_icmp .ge 21, 3) := by decide +kernel
theorem dX0_crossSum_12 : decode cX0_crossSum 12 = .ok (.iload_n 1, 1) := by decide +kernel
theorem dX0_crossSum_13 : decode cX0_crossSum 13 = .ok (.iload_n 2, 1) := by decide +kernel
theorem dX0_crossSum_14 : decode cX0_crossSum 14 = .ok (.bipush 10, 2) := by decide +kernel
theorem dX0_crossSum_16 : decode cX0_crossSum 16 = .ok (.irem, 1) := by decide +kernel
theorem dX0_crossSum_17 : decode cX0_crossSum 17 = .ok (.iadd, 1) := by decide +kernel
theorem dX0_crossSum_18 : decode cX0_crossSum 18 = .ok (.istore_n 1, 1) := by decide +kernel
theorem dX0_crossSum_19 : decode cX0_crossSum 19 = .ok (.iload_n 2, 1) := by decide +kernel
theorem dX0_crossSum_20 : decode cX0_crossSum 20 = .ok (.bipush 10, 2) := by decide +kernel
theorem dX0_crossSum_22 : decode cX0_crossSum 22 = .ok (.idiv, 1) := by decide +kernel
theorem dX0_crossSum_23 : decode cX0_crossSum 23 = .ok (.istore_n 2, 1) := by decide +kernel
theorem dX0_crossSum_24 : decode cX0_crossSum 24 = .ok (.iinc 3 1, 3) := by decide +kernel
theorem dX0_crossSum_27 : decode cX0_crossSum 27 = .ok (.goto (-21), 3) := by decide +kernel
theorem dX0_crossSum_30 : decode cX0_crossSum 30 = .ok (.iload_n 1, 1) := by decide +kernel
theorem dX0_crossSum_31 : decode cX0_crossSum 31 = .ok (.ireturn, 1) := by decide +kernel
theorem dX0_ofTwo_0 : decode cX0_ofTwo 0 = .ok (.iload_n 0, 1) := by decide +kernel
theorem dX0_ofTwo_1 : decode cX0_ofTwo 1 = .ok (.tableswitch 194 24 40 #[190, 186, 194, 194, 120, 131, 142, 153, 83, 91, 99, 108, 194, 194, 194, 164, 175], 83) := by decide +kernel
theorem dX0_ofTwo_84 : decode cX0_ofTwo 84 = .ok (.iload_n 1, 1) := by decide +kernel
theorem dX0_ofTwo_85 : decode cX0_ofTwo 85 = .ok (.iload_n 2, 1) := by decide +kernel
theorem dX0_ofTwo_86 : decode cX0_ofTwo 86 = .ok (.iadd, 1) := by decide +kernel
theorem dX0_ofTwo_87 : decode cX0_ofTwo 87 = .ok (.i2l, 1) := by decide +kernel
theorem dX0_ofTwo_88 : decode cX0_ofTwo 88 = .ok (.invokestatic 141, 3) := by decide +kernel
theorem dX0_ofTwo_91 : decode cX0_ofTwo 91 = .ok (.ireturn, 1) := by decide +kernel
theorem dX0_ofTwo_92 : decode cX0_ofTwo 92 = .ok (.iload_n 1, 1) := by decide +kernel
theorem dX0_ofTwo_93 : decode cX0_ofTwo 93 = .ok (.iload_n 2, 1) := by decide +kernel
theorem dX0_ofTwo_94 : decode cX0_ofTwo 94 = .ok (.isub, 1) := by decide +kernel
theorem dX0_ofTwo_95 : decode cX0_ofTwo 95 = .ok (.i2l, 1) := by decide +kernel
theorem dX0_ofTwo_96 : decode cX0_ofTwo 96 = .ok (.invokestatic 141, 3) := by decide +kernel
theorem dX0_ofTwo_99 : decode cX0_ofTwo 99 = .ok (.ireturn, 1) := by decide +kernel
theorem dX0_ofTwo_100 : decode cX0_ofTwo 100 = .ok (.iload_n 1, 1) := by decide +kernel
theorem dX0_ofTwo_101 : decode cX0_ofTwo 101 = .ok (.i2l, 1) := by decide +kernel
theorem dX0_ofTwo_102 : decode cX0_ofTwo 102 = .ok (.iload_n 2, 1) := by decide +kernel
theorem dX0_ofTwo_103 : decode cX0_ofTwo 103 = .ok (.i2l, 1) := by decide +kernel
theorem dX0_ofTwo_104 : decode cX0_ofTwo 104 = .ok (.lmul, 1) := by decide +kernel
theorem dX0_ofTwo_105 : decode cX0_ofTwo 105 = .ok (.invokestatic 141, 3) := by decide +kernel
theorem dX0_ofTwo_108 : decode cX0_ofTwo 108 = .ok (.ireturn, 1) := by decide +kernel
theorem dX0_ofTwo_109 : decode cX0_ofTwo 109 = .ok (.iload_n 2, 1) := by decide +kernel
theorem dX0_ofTwo_110 : decode cX0_ofTwo 110 = .ok (.ifCond .ne 7, 3) := by decide +kernel
theorem dX0_ofTwo_113 : decode cX0_ofTwo 113 = .ok (.iconst 0, 1) := by decide +kernel
theorem dX0_ofTwo_114 : decode cX0_ofTwo 114 = .ok (.goto 6, 3) := by decide +kernel
theorem dX0_ofTwo_117 : decode cX0_ofTwo 117 = .ok (.iload_n 1, 1) := by decide +kernel
theorem dX0_ofTwo_118 : decode cX0_ofTwo 118 = .ok (.iload_n 2, 1) := by decide +kernel
theorem dX0_ofTwo_119 : decode cX0_ofTwo 119 = .ok (.idiv, 1) := by decide +kernel
theorem dX0_ofTwo_120 : decode cX0_ofTwo 120 = .ok (.ireturn, 1) := by decide +kernel
theorem dX0_ofTwo_121 : decode cX0_ofTwo 121 = .ok (.iload_n 1, 1) := by decide +kernel
theorem dX0_ofTwo_122 : decode cX0_ofTwo 122 = .ok (.iload_n 2, 1) := by decide +kernel
theorem dX0_ofTwo_123 : decode cX0_ofTwo 123 = .ok (.if_icmp .ge 7, 3) := by decide +kernel
theorem dX0_ofTwo_126 : decode cX0_ofTwo 126 = .ok (.iconst 1, 1) := by decide +kernel
theorem dX0_ofTwo_127 : decode cX0_ofTwo 127 = .ok (.goto 4, 3) := by decide +kernel
theorem dX0_ofTwo_130 : decode cX0_ofTwo 130 = .ok (.iconst 0, 1) := by decide +kernel
theorem dX0_ofTwo_131 : decode cX0_ofTwo 131 = .ok (.ireturn, 1) := by decide +kernel
theorem dX0_ofTwo_132 : decode cX0_ofTwo 132 = .ok (.iload_n 1, 1) := by decide +kernel
theorem dX0_ofTwo_133 : decode cX0_ofTwo 133 = .ok (.iload_n 2, 1) := by decide +kernel
theorem dX0_ofTwo_134 : decode cX0_ofTwo 134 = .ok (.if_icmp .le 7, 3) := by decide +kernel
theorem dX0_ofTwo_137 : decode cX0_ofTwo 137 = .ok (.iconst 1, 1) := by decide +kernel
theorem dX0_ofTwo_138 : decode cX0_ofTwo 138 = .ok (.goto 4, 3) := by decide +kernel
theorem dX0_ofTwo_141 : decode cX0_ofTwo 141 = .ok (.iconst 0, 1) := by decide +kernel
theorem dX0_ofTwo_142 : decode cX0_ofTwo 142 = .ok (.ireturn, 1) := by decide +kernel
theorem dX0_ofTwo_143 : decode cX0_ofTwo 143 = .ok (.iload_n 1, 1) := by decide +kernel
theorem dX0_ofTwo_144 : decode cX0_ofTwo 144 = .ok (.iload_n 2, 1) := by decide +kernel
theorem dX0_ofTwo_145 : decode cX0_ofTwo 145 = .ok (.if_icmp .ne 7, 3) := by decide +kernel
theorem dX0_ofTwo_148 : decode cX0_ofTwo 148 = .ok (.iconst 1, 1) := by decide +kernel
theorem dX0_ofTwo_149 : decode cX0_ofTwo 149 = .ok (.goto 4, 3) := by decide +kernel
theorem dX0_ofTwo_152 : decode cX0_ofTwo 152 = .ok (.iconst 0, 1) := by decide +kernel
theorem dX0_ofTwo_153 : decode cX0_ofTwo 153 = .ok (.ireturn, 1) := by decide +kernel
theorem dX0_ofTwo_154 : decode cX0_ofTwo 154 = .ok (.iload_n 1, 1) := by decide +kernel
theorem dX0_ofTwo_155 : decode cX0_ofTwo 155 = .ok (.iload_n 2, 1) := by decide +kernel
theorem dX0_ofTwo_156 : decode cX0_ofTwo 156 = .ok (.if_icmp .eq 7, 3) := by decide +kernel
theorem dX0_ofTwo_159 : decode cX0_ofTwo 159 = .ok (.iconst 1, 1) := by decide +kernel
theorem dX0_ofTwo_160 : decode cX0_ofTwo 160 = .ok (.goto 4, 3) := by decide +kernel
theorem dX0_ofTwo_163 : decode cX0_ofTwo 163 = .ok (.iconst 0, 1) := by decide +kernel
theorem dX0_ofTwo_164 : decode cX0_ofTwo 164 = .ok (.ireturn, 1) := by decide +kernel
theorem dX0_ofTwo_165 : decode cX0_ofTwo 165 = .ok (.iload_n 1, 1) := by decide +kernel
theorem dX0_ofTwo_166 : decode cX0_ofTwo 166 = .ok (.iload_n 2, 1) := by decide +kernel
theorem dX0_ofTwo_167 : decode cX0_ofTwo 167 = .ok (.if_icmp .gt 7, 3) := by decide +kernel
theorem dX0_ofTwo_170 : decode cX0_ofTwo 170 = .ok (.iconst 1, 1) := by decide +kernel
theorem dX0_ofTwo_171 : decode cX0_ofTwo 171 = .ok (.goto 4, 3) := by decide +kernel
theorem dX0_ofTwo_174 : decode cX0_ofTwo 174 = .ok (.iconst 0, 1) := by decide +kernel
theorem dX0_ofTwo_175 : decode cX0_ofTwo 175 = .ok (.ireturn, 1) := by decide +kernel
theorem dX0_ofTwo_176 : decode cX0_ofTwo 176 = .ok (.iload_n 1, 1) := by decide +kernel
theorem dX0_ofTwo_177 : decode cX0_ofTwo 177 = .ok (.iload_n 2, 1) := by decide +kernel
theorem dX0_ofTwo_178 : decode cX0_ofTwo 178 = .ok (.if_icmp .lt 7, 3) := by decide +kernel
theorem dX0_ofTwo_181 : decode cX0_ofTwo 181 = .ok (.iconst 1, 1) := by decide +kernel
theorem dX0_ofTwo_182 : decode cX0_ofTwo 182 = .ok (.goto 4, 3) := by decide +kernel
theorem dX0_ofTwo_185 : decode cX0_ofTwo 185 = .ok (.iconst 0, 1) := by decide +kernel
theorem dX0_ofTwo_186 : decode cX0_ofTwo 186 = .ok (.ireturn, 1) := by decide +kernel
theorem dX0_ofTwo_187 : decode cX0_ofTwo 187 = .ok (.iload_n 1, 1) := by decide +kernel
theorem dX0_ofTwo_188 : decode cX0_ofTwo 188 = .ok (.iload_n 2, 1) := by decide +kernel
theorem dX0_ofTwo_189 : decode cX0_ofTwo 189 = .ok (.iand, 1) := by decide +kernel
theorem dX0_ofTwo_190 : decode cX0_ofTwo 190 = .ok (.ireturn, 1) := by decide +kernel
theorem dX0_ofTwo_191 : decode cX0_ofTwo 191 = .ok (.iload_n 1, 1) := by decide +kernel
theorem dX0_ofTwo_192 : decode cX0_ofTwo 192 = .ok (.iload_n 2, 1) := by decide +kernel
theorem dX0_ofTwo_193 : decode cX0_ofTwo 193 = .ok (.ior, 1) := by decide +kernel
theorem dX0_ofTwo_194 : decode cX0_ofTwo 194 = .ok (.ireturn, 1) := by decide +kernel
theorem dX0_ofTwo_195 : decode cX0_ofTwo 195 = .ok (.iconst 0, 1) := by decide +kernel
theorem dX0_ofTwo_196 : decode cX0_ofTwo 196 = .ok (.ireturn, 1) := by decide +kernel
theorem dX0_held_0 : decode cX0_held 0 = .ok (.lload_n 0, 1) := by decide +kernel
theorem dX0_held_1 : decode cX0_held 1 = .ok (.ldc2_w 145, 3) := by decide +kernel
theorem dX0_held_4 : decode cX0_held 4 = .ok (.lcmp, 1) := by decide +kernel
theorem dX0_held_5 : decode cX0_held 5 = .ok (.ifCond .le 6, 3) := by decide +kernel
theorem dX0_held_8 : decode cX0_held 8 = .ok (.ldc 147, 2) := by decide +kernel
theorem dX0_held_10 : decode cX0_held 10 = .ok (.ireturn, 1) := by decide +kernel
theorem dX0_held_11 : decode cX0_held 11 = .ok (.lload_n 0, 1) := by decide +kernel
theorem dX0_held_12 : decode cX0_held 12 = .ok (.ldc2_w 148, 3) := by decide +kernel
theorem dX0_held_15 : decode cX0_held 15 = .ok (.lcmp, 1) := by decide +kernel
theorem dX0_held_16 : decode cX0_held 16 = .ok (.ifCond .ge 8, 3) := by decide +kernel
theorem dX0_held_19 : decode cX0_held 19 = .ok (.ldc 150, 2) := by decide +kernel
theorem dX0_held_21 : decode cX0_held 21 = .ok (.goto 5, 3) := by decide +kernel
theorem dX0_held_24 : decode cX0_held 24 = .ok (.lload_n 0, 1) := by decide +kernel
theorem dX0_held_25 : decode cX0_held 25 = .ok (.l2i, 1) := by decide +kernel
theorem dX0_held_26 : decode cX0_held 26 = .ok (.ireturn, 1) := by decide +kernel
theorem dX1_init_0 : decode cX1_init 0 = .ok (.aload_n 0, 1) := by decide +kernel
theorem dX1_init_1 : decode cX1_init 1 = .ok (.invokespecial 3, 3) := by decide +kernel
theorem dX1_init_4 : decode cX1_init 4 = .ok (.aload_n 0, 1) := by decide +kernel
theorem dX1_init_5 : decode cX1_init 5 = .ok (.iconst 5, 1) := by decide +kernel
theorem dX1_init_6 : decode cX1_init 6 = .ok (.newarray .int, 2) := by decide +kernel
theorem dX1_init_8 : decode cX1_init 8 = .ok (.putfield 9, 3) := by decide +kernel
theorem dX1_init_11 : decode cX1_init 11 = .ok (.aload_n 0, 1) := by decide +kernel
theorem dX1_init_12 : decode cX1_init 12 = .ok (.iconst 5, 1) := by decide +kernel
theorem dX1_init_13 : decode cX1_init 13 = .ok (.newarray .int, 2) := by decide +kernel
theorem dX1_init_15 : decode cX1_init 15 = .ok (.putfield 15, 3) := by decide +kernel
theorem dX1_init_18 : decode cX1_init 18 = .ok (.aload_n 0, 1) := by decide +kernel
theorem dX1_init_19 : decode cX1_init 19 = .ok (.iconst 5, 1) := by decide +kernel
theorem dX1_init_20 : decode cX1_init 20 = .ok (.newarray .int, 2) := by decide +kernel
theorem dX1_init_22 : decode cX1_init 22 = .ok (.putfield 18, 3) := by decide +kernel
theorem dX1_init_25 : decode cX1_init 25 = .ok (.return_, 1) := by decide +kernel
theorem dX1_prefers_0 : decode cX1_prefers 0 = .ok (.aload_n 0, 1) := by decide +kernel
theorem dX1_prefers_1 : decode cX1_prefers 1 = .ok (.iload_n 1, 1) := by decide +kernel
theorem dX1_prefers_2 : decode cX1_prefers 2 = .ok (.iconst 5, 1) := by decide +kernel
theorem dX1_prefers_3 : decode cX1_prefers 3 = .ok (.imul, 1) := by decide +kernel
theorem dX1_prefers_4 : decode cX1_prefers 4 = .ok (.iload_n 2, 1) := by decide +kernel
theorem dX1_prefers_5 : decode cX1_prefers 5 = .ok (.iadd, 1) := by decide +kernel
theorem dX1_prefers_6 : decode cX1_prefers 6 = .ok (.iaload, 1) := by decide +kernel
theorem dX1_prefers_7 : decode cX1_prefers 7 = .ok (.istore 4, 2) := by decide +kernel
theorem dX1_prefers_9 : decode cX1_prefers 9 = .ok (.aload_n 0, 1) := by decide +kernel
theorem dX1_prefers_10 : decode cX1_prefers 10 = .ok (.iload_n 1, 1) := by decide +kernel
theorem dX1_prefers_11 : decode cX1_prefers 11 = .ok (.iconst 5, 1) := by decide +kernel
theorem dX1_prefers_12 : decode cX1_prefers 12 = .ok (.imul, 1) := by decide +kernel
theorem dX1_prefers_13 : decode cX1_prefers 13 = .ok (.iload_n 3, 1) := by decide +kernel
theorem dX1_prefers_14 : decode cX1_prefers 14 = .ok (.iadd, 1) := by decide +kernel
theorem dX1_prefers_15 : decode cX1_prefers 15 = .ok (.iaload, 1) := by decide +kernel
theorem dX1_prefers_16 : decode cX1_prefers 16 = .ok (.istore 5, 2) := by decide +kernel
theorem dX1_prefers_18 : decode cX1_prefers 18 = .ok (.iload 4, 2) := by decide +kernel
theorem dX1_prefers_20 : decode cX1_prefers 20 = .ok (.iload 5, 2) := by decide +kernel
theorem dX1_prefers_22 : decode cX1_prefers 22 = .ok (.if_icmp .lt 15, 3) := by decide +kernel
theorem dX1_prefers_25 : decode cX1_prefers 25 = .ok (.iload 4, 2) := by decide +kernel
theorem dX1_prefers_27 : decode cX1_prefers 27 = .ok (.iload 5, 2) := by decide +kernel
theorem dX1_prefers_29 : decode cX1_prefers 29 = .ok (.if_icmp .ne 12, 3) := by decide +kernel
theorem dX1_prefers_32 : decode cX1_prefers 32 = .ok (.iload_n 2, 1) := by decide +kernel
theorem dX1_prefers_33 : decode cX1_prefers 33 = .ok (.iload_n 3, 1) := by decide +kernel
theorem dX1_prefers_34 : decode cX1_prefers 34 = .ok (.if_icmp .ge 7, 3) := by decide +kernel
theorem dX1_prefers_37 : decode cX1_prefers 37 = .ok (.iconst 1, 1) := by decide +kernel
theorem dX1_prefers_38 : decode cX1_prefers 38 = .ok (.goto 4, 3) := by decide +kernel
theorem dX1_prefers_41 : decode cX1_prefers 41 = .ok (.iconst 0, 1) := by decide +kernel
theorem dX1_prefers_42 : decode cX1_prefers 42 = .ok (.ireturn, 1) := by decide +kernel
theorem dX1_pairAll_0 : decode cX1_pairAll 0 = .ok (.aload_n 0, 1) := by decide +kernel
theorem dX1_pairAll_1 : decode cX1_pairAll 1 = .ok (.getfield 9, 3) := by decide +kernel
theorem dX1_pairAll_4 : decode cX1_pairAll 4 = .ok (.iconst (-1), 1) := by decide +kernel
theorem dX1_pairAll_5 : decode cX1_pairAll 5 = .ok (.invokestatic 21, 3) := by decide +kernel
theorem dX1_pairAll_8 : decode cX1_pairAll 8 = .ok (.aload_n 0, 1) := by decide +kernel
theorem dX1_pairAll_9 : decode cX1_pairAll 9 = .ok (.getfield 15, 3) := by decide +kernel
theorem dX1_pairAll_12 : decode cX1_pairAll 12 = .ok (.iconst (-1), 1) := by decide +kernel
theorem dX1_pairAll_13 : decode cX1_pairAll 13 = .ok (.invokestatic 21, 3) := by decide +kernel
theorem dX1_pairAll_16 : decode cX1_pairAll 16 = .ok (.aload_n 0, 1) := by decide +kernel
theorem dX1_pairAll_17 : decode cX1_pairAll 17 = .ok (.getfield 18, 3) := by decide +kernel
theorem dX1_pairAll_20 : decode cX1_pairAll 20 = .ok (.iconst 0, 1) := by decide +kernel
theorem dX1_pairAll_21 : decode cX1_pairAll 21 = .ok (.invokestatic 21, 3) := by decide +kernel
theorem dX1_pairAll_24 : decode cX1_pairAll 24 = .ok (.iconst 0, 1) := by decide +kernel
theorem dX1_pairAll_25 : decode cX1_pairAll 25 = .ok (.istore_n 3, 1) := by decide +kernel
theorem dX1_pairAll_26 : decode cX1_pairAll 26 = .ok (.iload_n 3, 1) := by decide +kernel
theorem dX1_pairAll_27 : decode cX1_pairAll 27 = .ok (.bipush 25, 2) := by decide +kernel
theorem dX1_pairAll_29 : decode cX1_pairAll 29 = .ok (.if_icmp .ge 111, 3) := by decide +kernel
theorem dX1_pairAll_32 : decode cX1_pairAll 32 = .ok (.aload_n 0, 1) := by decide +kernel
theorem dX1_pairAll_33 : decode cX1_pairAll 33 = .ok (.invokevirtual 27, 3) := by decide +kernel
theorem dX1_pairAll_36 : decode cX1_pairAll 36 = .ok (.istore 4, 2) := by decide +kernel
theorem dX1_pairAll_38 : decode cX1_pairAll 38 = .ok (.iload 4, 2) := by decide +kernel
theorem dX1_pairAll_40 : decode cX1_pairAll 40 = .ok (.ifCond .ge 7, 3) := by decide +kernel
theorem dX1_pairAll_43 : decode cX1_pairAll 43 = .ok (.iconst (-1), 1) := by decide +kernel
theorem dX1_pairAll_44 : decode cX1_pairAll 44 = .ok (.goto 10, 3) := by decide +kernel
theorem dX1_pairAll_47 : decode cX1_pairAll 47 = .ok (.aload_n 0, 1) := by decide +kernel
theorem dX1_pairAll_48 : decode cX1_pairAll 48 = .ok (.aload_n 1, 1) := by decide +kernel
theorem dX1_pairAll_49 : decode cX1_pairAll 49 = .ok (.iload 4, 2) := by decide +kernel
theorem dX1_pairAll_51 : decode cX1_pairAll 51 = .ok (.invokevirtual 31, 3) := by decide +kernel
theorem dX1_pairAll_54 : decode cX1_pairAll 54 = .ok (.istore 5, 2) := by decide +kernel
theorem dX1_pairAll_56 : decode cX1_pairAll 56 = .ok (.iload 5, 2) := by decide +kernel
theorem dX1_pairAll_58 : decode cX1_pairAll 58 = .ok (.ifCond .ge 4, 3) := by decide +kernel
theorem dX1_pairAll_61 : decode cX1_pairAll 61 = .ok (.return_, 1) := by decide +kernel
theorem dX1_pairAll_62 : decode cX1_pairAll 62 = .ok (.aload_n 0, 1) := by decide +kernel
theorem dX1_pairAll_63 : decode cX1_pairAll 63 = .ok (.getfield 18, 3) := by decide +kernel
theorem dX1_pairAll_66 : decode cX1_pairAll 66 = .ok (.iload 4, 2) := by decide +kernel
theorem dX1_pairAll_68 : decode cX1_pairAll 68 = .ok (.dup2, 1) := by decide +kernel
theorem dX1_pairAll_69 : decode cX1_pairAll 69 = .ok (.iaload, 1) := by decide +kernel
theorem dX1_pairAll_70 : decode cX1_pairAll 70 = .ok (.iconst 1, 1) := by decide +kernel
theorem dX1_pairAll_71 : decode cX1_pairAll 71 = .ok (.iload 5, 2) := by decide +kernel
theorem dX1_pairAll_73 : decode cX1_pairAll 73 = .ok (.ishl, 1) := by decide +kernel
theorem dX1_pairAll_74 : decode cX1_pairAll 74 = .ok (.ior, 1) := by decide +kernel
theorem dX1_pairAll_75 : decode cX1_pairAll 75 = .ok (.iastore, 1) := by decide +kernel
theorem dX1_pairAll_76 : decode cX1_pairAll 76 = .ok (.aload_n 0, 1) := by decide +kernel
theorem dX1_pairAll_77 : decode cX1_pairAll 77 = .ok (.getfield 15, 3) := by decide +kernel
theorem dX1_pairAll_80 : decode cX1_pairAll 80 = .ok (.iload 5, 2) := by decide +kernel
theorem dX1_pairAll_82 : decode cX1_pairAll 82 = .ok (.iaload, 1) := by decide +kernel
theorem dX1_pairAll_83 : decode cX1_pairAll 83 = .ok (.istore 6, 2) := by decide +kernel
theorem dX1_pairAll_85 : decode cX1_pairAll 85 = .ok (.iload 6, 2) := by decide +kernel
theorem dX1_pairAll_87 : decode cX1_pairAll 87 = .ok (.ifCond .lt 16, 3) := by decide +kernel
theorem dX1_pairAll_90 : decode cX1_pairAll 90 = .ok (.aload_n 2, 1) := by decide +kernel
theorem dX1_pairAll_91 : decode cX1_pairAll 91 = .ok (.iload 5, 2) := by decide +kernel
theorem dX1_pairAll_93 : decode cX1_pairAll 93 = .ok (.iload 4, 2) := by decide +kernel
theorem dX1_pairAll_95 : decode cX1_pairAll 95 = .ok (.iload 6, 2) := by decide +kernel
theorem dX1_pairAll_97 : decode cX1_pairAll 97 = .ok (.invokestatic 35, 3) := by decide +kernel
theorem dX1_pairAll_100 : decode cX1_pairAll 100 = .ok (.ifCond .eq 34, 3) := by decide +kernel
theorem dX1_pairAll_103 : decode cX1_pairAll 103 = .ok (.iload 6, 2) := by decide +kernel
theorem dX1_pairAll_105 : decode cX1_pairAll 105 = .ok (.ifCond .lt 11, 3) := by decide +kernel
theorem dX1_pairAll_108 : decode cX1_pairAll 108 = .ok (.aload_n 0, 1) := by decide +kernel
theorem dX1_pairAll_109 : decode cX1_pairAll 109 = .ok (.getfield 9, 3) := by decide +kernel
theorem dX1_pairAll_112 : decode cX1_pairAll 112 = .ok (.iload 6, 2) := by decide +kernel
theorem dX1_pairAll_114 : decode cX1_pairAll 114 = .ok (.iconst (-1), 1) := by decide +kernel
theorem dX1_pairAll_115 : decode cX1_pairAll 115 = .ok (.iastore, 1) := by decide +kernel
theorem dX1_pairAll_116 : decode cX1_pairAll 116 = .ok (.aload_n 0, 1) := by decide +kernel
theorem dX1_pairAll_117 : decode cX1_pairAll 117 = .ok (.getfield 15, 3) := by decide +kernel
theorem dX1_pairAll_120 : decode cX1_pairAll 120 = .ok (.iload 5, 2) := by decide +kernel
theorem dX1_pairAll_122 : decode cX1_pairAll 122 = .ok (.iload 4, 2) := by decide +kernel
theorem dX1_pairAll_124 : decode cX1_pairAll 124 = .ok (.iastore, 1) := by decide +kernel
theorem dX1_pairAll_125 : decode cX1_pairAll 125 = .ok (.aload_n 0, 1) := by decide +kernel
theorem dX1_pairAll_126 : decode cX1_pairAll 126 = .ok (.getfield 9, 3) := by decide +kernel
theorem dX1_pairAll_129 : decode cX1_pairAll 129 = .ok (.iload 4, 2) := by decide +kernel
theorem dX1_pairAll_131 : decode cX1_pairAll 131 = .ok (.iload 5, 2) := by decide +kernel
theorem dX1_pairAll_133 : decode cX1_pairAll 133 = .ok (.iastore, 1) := by decide +kernel
theorem dX1_pairAll_134 : decode cX1_pairAll 134 = .ok (.iinc 3 1, 3) := by decide +kernel
theorem dX1_pairAll_137 : decode cX1_pairAll 137 = .ok (.goto (-111), 3) := by decide +kernel
theorem dX1_pairAll_140 : decode cX1_pairAll 140 = .ok (.return_, 1) := by decide +kernel
theorem dX1_lowestFree_0 : decode cX1_lowestFree 0 = .ok (.iconst 0, 1) := by decide +kernel
theorem dX1_lowestFree_1 : decode cX1_lowestFree 1 = .ok (.istore_n 1, 1) := by decide +kernel
theorem dX1_lowestFree_2 : decode cX1_lowestFree 2 = .ok (.iload_n 1, 1) := by decide +kernel
theorem dX1_lowestFree_3 : decode cX1_lowestFree 3 = .ok (.iconst 5, 1) := by decide +kernel
theorem dX1_lowestFree_4 : decode cX1_lowestFree 4 = .ok (.if_icmp .ge 20, 3) := by decide +kernel
theorem dX1_lowestFree_7 : decode cX1_lowestFree 7 = .ok (.aload_n 0, 1) := by decide +kernel
theorem dX1_lowestFree_8 : decode cX1_lowestFree 8 = .ok (.getfield 9, 3) := by decide +kernel
theorem dX1_lowestFree_11 : decode cX1_lowestFree 11 = .ok (.iload_n 1, 1) := by decide +kernel
theorem dX1_lowestFree_12 : decode cX1_lowestFree 12 = .ok (.iaload, 1) := by decide +kernel
theorem dX1_lowestFree_13 : decode cX1_lowestFree 13 = .ok (.ifCond .ge 5, 3) := by decide +kernel
theorem dX1_lowestFree_16 : decode cX1_lowestFree 16 = .ok (.iload_n 1, 1) := by decide +kernel
theorem dX1_lowestFree_17 : decode cX1_lowestFree 17 = .ok (.ireturn, 1) := by decide +kernel
theorem dX1_lowestFree_18 : decode cX1_lowestFree 18 = .ok (.iinc 1 1, 3) := by decide +kernel
theorem dX1_lowestFree_21 : decode cX1_lowestFree 21 = .ok (.goto (-19), 3) := by decide +kernel
theorem dX1_lowestFree_24 : decode cX1_lowestFree 24 = .ok (.iconst (-1), 1) := by decide +kernel
theorem dX1_lowestFree_25 : decode cX1_lowestFree 25 = .ok (.ireturn, 1) := by decide +kernel
theorem dX1_bestUnasked_0 : decode cX1_bestUnasked 0 = .ok (.iconst (-1), 1) := by decide +kernel
theorem dX1_bestUnasked_1 : decode cX1_bestUnasked 1 = .ok (.istore_n 3, 1) := by decide +kernel
theorem dX1_bestUnasked_2 : decode cX1_bestUnasked 2 = .ok (.iconst 0, 1) := by decide +kernel
theorem dX1_bestUnasked_3 : decode cX1_bestUnasked 3 = .ok (.istore 4, 2) := by decide +kernel
theorem dX1_bestUnasked_5 : decode cX1_bestUnasked 5 = .ok (.iload 4, 2) := by decide +kernel
theorem dX1_bestUnasked_7 : decode cX1_bestUnasked 7 = .ok (.iconst 5, 1) := by decide +kernel
theorem dX1_bestUnasked_8 : decode cX1_bestUnasked 8 = .ok (.if_icmp .ge 53, 3) := by decide +kernel
theorem dX1_bestUnasked_11 : decode cX1_bestUnasked 11 = .ok (.aload_n 0, 1) := by decide +kernel
theorem dX1_bestUnasked_12 : decode cX1_bestUnasked 12 = .ok (.getfield 18, 3) := by decide +kernel
theorem dX1_bestUnasked_15 : decode cX1_bestUnasked 15 = .ok (.iload_n 2, 1) := by decide +kernel
theorem dX1_bestUnasked_16 : decode cX1_bestUnasked 16 = .ok (.iaload, 1) := by decide +kernel
theorem dX1_bestUnasked_17 : decode cX1_bestUnasked 17 = .ok (.iload 4, 2) := by decide +kernel
theorem dX1_bestUnasked_19 : decode cX1_bestUnasked 19 = .ok (.ishr, 1) := by decide +kernel
theorem dX1_bestUnasked_20 : decode cX1_bestUnasked 20 = .ok (.iconst 1, 1) := by decide +kernel
theorem dX1_bestUnasked_21 : decode cX1_bestUnasked 21 = .ok (.iand, 1) := by decide +kernel
theorem dX1_bestUnasked_22 : decode cX1_bestUnasked 22 = .ok (.ifCond .ne 7, 3) := by decide +kernel
theorem dX1_bestUnasked_25 : decode cX1_bestUnasked 25 = .ok (.iconst 1, 1) := by decide +kernel
theorem dX1_bestUnasked_26 : decode cX1_bestUnasked 26 = .ok (.goto 4, 3) := by decide +kernel
theorem dX1_bestUnasked_29 : decode cX1_bestUnasked 29 = .ok (.iconst 0, 1) := by decide +kernel
theorem dX1_bestUnasked_30 : decode cX1_bestUnasked 30 = .ok (.istore 5, 2) := by decide +kernel
theorem dX1_bestUnasked_32 : decode cX1_bestUnasked 32 = .ok (.iload 5, 2) := by decide +kernel
theorem dX1_bestUnasked_34 : decode cX1_bestUnasked 34 = .ok (.ifCond .eq 21, 3) := by decide +kernel
theorem dX1_bestUnasked_37 : decode cX1_bestUnasked 37 = .ok (.iload_n 3, 1) := by decide +kernel
theorem dX1_bestUnasked_38 : decode cX1_bestUnasked 38 = .ok (.ifCond .lt 14, 3) := by decide +kernel
theorem dX1_bestUnasked_41 : decode cX1_bestUnasked 41 = .ok (.aload_n 1, 1) := by decide +kernel
theorem dX1_bestUnasked_42 : decode cX1_bestUnasked 42 = .ok (.iload_n 2, 1) := by decide +kernel
theorem dX1_bestUnasked_43 : decode cX1_bestUnasked 43 = .ok (.iload 4, 2) := by decide +kernel
theorem dX1_bestUnasked_45 : decode cX1_bestUnasked 45 = .ok (.iload_n 3, 1) := by decide +kernel
theorem dX1_bestUnasked_46 : decode cX1_bestUnasked 46 = .ok (.invokestatic 35, 3) := by decide +kernel
theorem dX1_bestUnasked_49 : decode cX1_bestUnasked 49 = .ok (.ifCond .eq 6, 3) := by decide +kernel
theorem dX1_bestUnasked_52 : decode cX1_bestUnasked 52 = .ok (.iload 4, 2) := by decide +kernel
theorem dX1_bestUnasked_54 : decode cX1_bestUnasked 54 = .ok (.istore_n 3, 1) := by decide +kernel
theorem dX1_bestUnasked_55 : decode cX1_bestUnasked 55 = .ok (.iinc 4 1, 3) := by decide +kernel
theorem dX1_bestUnasked_58 : decode cX1_bestUnasked 58 = .ok (.goto (-53), 3) := by decide +kernel
theorem dX1_bestUnasked_61 : decode cX1_bestUnasked 61 = .ok (.iload_n 3, 1) := by decide +kernel
theorem dX1_bestUnasked_62 : decode cX1_bestUnasked 62 = .ok (.ireturn, 1) := by decide +kernel
theorem dX2_init_0 : decode cX2_init 0 = .ok (.aload_n 0, 1) := by decide +kernel
theorem dX2_init_1 : decode cX2_init 1 = .ok (.invokespecial 3, 3) := by decide +kernel
theorem dX2_init_4 : decode cX2_init 4 = .ok (.aload_n 0, 1) := by decide +kernel
theorem dX2_init_5 : decode cX2_init 5 = .ok (.iconst (-1), 1) := by decide +kernel
theorem dX2_init_6 : decode cX2_init 6 = .ok (.putfield 9, 3) := by decide +kernel
theorem dX2_init_9 : decode cX2_init 9 = .ok (.aload_n 0, 1) := by decide +kernel
theorem dX2_init_10 : decode cX2_init 10 = .ok (.iconst (-1), 1) := by decide +kernel
theorem dX2_init_11 : decode cX2_init 11 = .ok (.putfield 15, 3) := by decide +kernel
theorem dX2_init_14 : decode cX2_init 14 = .ok (.aload_n 0, 1) := by decide +kernel
theorem dX2_init_15 : decode cX2_init 15 = .ok (.sipush 300, 3) := by decide +kernel
theorem dX2_init_18 : decode cX2_init 18 = .ok (.newarray .int, 2) := by decide +kernel
theorem dX2_init_20 : decode cX2_init 20 = .ok (.putfield 18, 3) := by decide +kernel
theorem dX2_init_23 : decode cX2_init 23 = .ok (.aload_n 0, 1) := by decide +kernel
theorem dX2_init_24 : decode cX2_init 24 = .ok (.sipush 300, 3) := by decide +kernel
theorem dX2_init_27 : decode cX2_init 27 = .ok (.newarray .int, 2) := by decide +kernel
theorem dX2_init_29 : decode cX2_init 29 = .ok (.putfield 22, 3) := by decide +kernel
theorem dX2_init_32 : decode cX2_init 32 = .ok (.aload_n 0, 1) := by decide +kernel
theorem dX2_init_33 : decode cX2_init 33 = .ok (.iconst 3, 1) := by decide +kernel
theorem dX2_init_34 : decode cX2_init 34 = .ok (.newarray .int, 2) := by decide +kernel
theorem dX2_init_36 : decode cX2_init 36 = .ok (.putfield 25, 3) := by decide +kernel
theorem dX2_init_39 : decode cX2_init 39 = .ok (.aload_n 0, 1) := by decide +kernel
theorem dX2_init_40 : decode cX2_init 40 = .ok (.iconst 3, 1) := by decide +kernel
theorem dX2_init_41 : decode cX2_init 41 = .ok (.newarray .int, 2) := by decide +kernel
theorem dX2_init_43 : decode cX2_init 43 = .ok (.putfield 28, 3) := by decide +kernel
theorem dX2_init_46 : decode cX2_init 46 = .ok (.aload_n 0, 1) := by decide +kernel
theorem dX2_init_47 : decode cX2_init 47 = .ok (.bipush 72, 2) := by decide +kernel
theorem dX2_init_49 : decode cX2_init 49 = .ok (.newarray .int, 2) := by decide +kernel
theorem dX2_init_51 : decode cX2_init 51 = .ok (.putfield 31, 3) := by decide +kernel
theorem dX2_init_54 : decode cX2_init 54 = .ok (.aload_n 0, 1) := by decide +kernel
theorem dX2_init_55 : decode cX2_init 55 = .ok (.aload_n 1, 1) := by decide +kernel
theorem dX2_init_56 : decode cX2_init 56 = .ok (.putfield 34, 3) := by decide +kernel
theorem dX2_init_59 : decode cX2_init 59 = .ok (.return_, 1) := by decide +kernel
theorem dX2_read_0 : decode cX2_read 0 = .ok (.aload_n 0, 1) := by decide +kernel
theorem dX2_read_1 : decode cX2_read 1 = .ok (.iconst 0, 1) := by decide +kernel
theorem dX2_read_2 : decode cX2_read 2 = .ok (.putfield 9, 3) := by decide +kernel
theorem dX2_read_5 : decode cX2_read 5 = .ok (.aload_n 0, 1) := by decide +kernel
theorem dX2_read_6 : decode cX2_read 6 = .ok (.iconst (-1), 1) := by decide +kernel
theorem dX2_read_7 : decode cX2_read 7 = .ok (.putfield 15, 3) := by decide +kernel
theorem dX2_read_10 : decode cX2_read 10 = .ok (.aload_n 0, 1) := by decide +kernel
theorem dX2_read_11 : decode cX2_read 11 = .ok (.iconst 0, 1) := by decide +kernel
theorem dX2_read_12 : decode cX2_read 12 = .ok (.putfield 38, 3) := by decide +kernel
theorem dX2_read_15 : decode cX2_read 15 = .ok (.aload_n 0, 1) := by decide +kernel
theorem dX2_read_16 : decode cX2_read 16 = .ok (.iconst 0, 1) := by decide +kernel
theorem dX2_read_17 : decode cX2_read 17 = .ok (.putfield 41, 3) := by decide +kernel
theorem dX2_read_20 : decode cX2_read 20 = .ok (.aload_n 0, 1) := by decide +kernel
theorem dX2_read_21 : decode cX2_read 21 = .ok (.iconst 0, 1) := by decide +kernel
theorem dX2_read_22 : decode cX2_read 22 = .ok (.putfield 44, 3) := by decide +kernel
theorem dX2_read_25 : decode cX2_read 25 = .ok (.aload_n 0, 1) := by decide +kernel
theorem dX2_read_26 : decode cX2_read 26 = .ok (.getfield 25, 3) := by decide +kernel
theorem dX2_read_29 : decode cX2_read 29 = .ok (.iconst (-1), 1) := by decide +kernel
theorem dX2_read_30 : decode cX2_read 30 = .ok (.invokestatic 47, 3) := by decide +kernel
theorem dX2_read_33 : decode cX2_read 33 = .ok (.aload_n 0, 1) := by decide +kernel
theorem dX2_read_34 : decode cX2_read 34 = .ok (.getfield 28, 3) := by decide +kernel
theorem dX2_read_37 : decode cX2_read 37 = .ok (.iconst (-1), 1) := by decide +kernel
theorem dX2_read_38 : decode cX2_read 38 = .ok (.invokestatic 47, 3) := by decide +kernel
theorem dX2_read_41 : decode cX2_read 41 = .ok (.aload_n 0, 1) := by decide +kernel
theorem dX2_read_42 : decode cX2_read 42 = .ok (.getfield 34, 3) := by decide +kernel
theorem dX2_read_45 : decode cX2_read 45 = .ok (.invokevirtual 53, 3) := by decide +kernel
theorem dX2_read_48 : decode cX2_read 48 = .ok (.iconst 1, 1) := by decide +kernel
theorem dX2_read_49 : decode cX2_read 49 = .ok (.istore_n 1, 1) := by decide +kernel
theorem dX2_read_50 : decode cX2_read 50 = .ok (.iconst 0, 1) := by decide +kernel
theorem dX2_read_51 : decode cX2_read 51 = .ok (.istore_n 2, 1) := by decide +kernel
theorem dX2_read_52 : decode cX2_read 52 = .ok (.iload_n 2, 1) := by decide +kernel
theorem dX2_read_53 : decode cX2_read 53 = .ok (.sipush 300, 3) := by decide +kernel
theorem dX2_read_56 : decode cX2_read 56 = .ok (.if_icmp .ge 30, 3) := by decide +kernel
theorem dX2_read_59 : decode cX2_read 59 = .ok (.iload_n 1, 1) := by decide +kernel
theorem dX2_read_60 : decode cX2_read 60 = .ok (.ifCond .eq 26, 3) := by decide +kernel
theorem dX2_read_63 : decode cX2_read 63 = .ok (.aload_n 0, 1) := by decide +kernel
theorem dX2_read_64 : decode cX2_read 64 = .ok (.getfield 34, 3) := by decide +kernel
theorem dX2_read_67 : decode cX2_read 67 = .ok (.getfield 58, 3) := by decide +kernel
theorem dX2_read_70 : decode cX2_read 70 = .ok (.bipush 41, 2) := by decide +kernel
theorem dX2_read_72 : decode cX2_read 72 = .ok (.if_icmp .eq 14, 3) := by decide +kernel
theorem dX2_read_75 : decode cX2_read 75 = .ok (.aload_n 0, 1) := by decide +kernel
theorem dX2_read_76 : decode cX2_read 76 = .ok (.invokevirtual 61, 3) := by decide +kernel
theorem dX2_read_79 : decode cX2_read 79 = .ok (.istore_n 1, 1) := by decide +kernel
theorem dX2_read_80 : decode cX2_read 80 = .ok (.iinc 2 1, 3) := by decide +kernel
theorem dX2_read_83 : decode cX2_read 83 = .ok (.goto (-31), 3) := by decide +kernel
theorem dX2_read_86 : decode cX2_read 86 = .ok (.iload_n 1, 1) := by decide +kernel
theorem dX2_read_87 : decode cX2_read 87 = .ok (.ireturn, 1) := by decide +kernel
theorem dX2_compiled_0 : decode cX2_compiled 0 = .ok (.new 65, 3) := by decide +kernel
theorem dX2_compiled_3 : decode cX2_compiled 3 = .ok (.dup, 1) := by decide +kernel
theorem dX2_compiled_4 : decode cX2_compiled 4 = .ok (.aload_n 0, 1) := by decide +kernel
theorem dX2_compiled_5 : decode cX2_compiled 5 = .ok (.getfield 18, 3) := by decide +kernel
theorem dX2_compiled_8 : decode cX2_compiled 8 = .ok (.aload_n 0, 1) := by decide +kernel
theorem dX2_compiled_9 : decode cX2_compiled 9 = .ok (.getfield 41, 3) := by decide +kernel
theorem dX2_compiled_12 : decode cX2_compiled 12 = .ok (.invokestatic 67, 3) := by decide +kernel
theorem dX2_compiled_15 : decode cX2_compiled 15 = .ok (.aload_n 0, 1) := by decide +kernel
theorem dX2_compiled_16 : decode cX2_compiled 16 = .ok (.getfield 22, 3) := by decide +kernel
theorem dX2_compiled_19 : decode cX2_compiled 19 = .ok (.aload_n 0, 1) := by decide +kernel
theorem dX2_compiled_20 : decode cX2_compiled 20 = .ok (.getfield 41, 3) := by decide +kernel
theorem dX2_compiled_23 : decode cX2_compiled 23 = .ok (.invokestatic 67, 3) := by decide +kernel
theorem dX2_compiled_26 : decode cX2_compiled 26 = .ok (.aload_n 0, 1) := by decide +kernel
theorem dX2_compiled_27 : decode cX2_compiled 27 = .ok (.getfield 25, 3) := by decide +kernel
theorem dX2_compiled_30 : decode cX2_compiled 30 = .ok (.invokevirtual 71, 3) := by decide +kernel
theorem dX2_compiled_33 : decode cX2_compiled 33 = .ok (.checkcast 72, 3) := by decide +kernel
theorem dX2_compiled_36 : decode cX2_compiled 36 = .ok (.aload_n 0, 1) := by decide +kernel
theorem dX2_compiled_37 : decode cX2_compiled 37 = .ok (.getfield 28, 3) := by decide +kernel
theorem dX2_compiled_40 : decode cX2_compiled 40 = .ok (.invokevirtual 71, 3) := by decide +kernel
theorem dX2_compiled_43 : decode cX2_compiled 43 = .ok (.checkcast 72, 3) := by decide +kernel
theorem dX2_compiled_46 : decode cX2_compiled 46 = .ok (.aload_n 0, 1) := by decide +kernel
theorem dX2_compiled_47 : decode cX2_compiled 47 = .ok (.getfield 31, 3) := by decide +kernel
theorem dX2_compiled_50 : decode cX2_compiled 50 = .ok (.aload_n 0, 1) := by decide +kernel
theorem dX2_compiled_51 : decode cX2_compiled 51 = .ok (.getfield 44, 3) := by decide +kernel
theorem dX2_compiled_54 : decode cX2_compiled 54 = .ok (.iconst 3, 1) := by decide +kernel
theorem dX2_compiled_55 : decode cX2_compiled 55 = .ok (.imul, 1) := by decide +kernel
theorem dX2_compiled_56 : decode cX2_compiled 56 = .ok (.invokestatic 67, 3) := by decide +kernel
theorem dX2_compiled_59 : decode cX2_compiled 59 = .ok (.aload_n 0, 1) := by decide +kernel
theorem dX2_compiled_60 : decode cX2_compiled 60 = .ok (.getfield 44, 3) := by decide +kernel
theorem dX2_compiled_63 : decode cX2_compiled 63 = .ok (.invokespecial 76, 3) := by decide +kernel
theorem dX2_compiled_66 : decode cX2_compiled 66 = .ok (.areturn, 1) := by decide +kernel
theorem dX2_refuse_0 : decode cX2_refuse 0 = .ok (.aload_n 0, 1) := by decide +kernel
theorem dX2_refuse_1 : decode cX2_refuse 1 = .ok (.iload_n 1, 1) := by decide +kernel
theorem dX2_refuse_2 : decode cX2_refuse 2 = .ok (.putfield 9, 3) := by decide +kernel
theorem dX2_refuse_5 : decode cX2_refuse 5 = .ok (.aload_n 0, 1) := by decide +kernel
theorem dX2_refuse_6 : decode cX2_refuse 6 = .ok (.aload_n 0, 1) := by decide +kernel
theorem dX2_refuse_7 : decode cX2_refuse 7 = .ok (.getfield 34, 3) := by decide +kernel
theorem dX2_refuse_10 : decode cX2_refuse 10 = .ok (.getfield 79, 3) := by decide +kernel
theorem dX2_refuse_13 : decode cX2_refuse 13 = .ok (.putfield 15, 3) := by decide +kernel
theorem dX2_refuse_16 : decode cX2_refuse 16 = .ok (.iconst 0, 1) := by decide +kernel
theorem dX2_refuse_17 : decode cX2_refuse 17 = .ok (.ireturn, 1) := by decide +kernel
theorem dX2_expect_0 : decode cX2_expect 0 = .ok (.aload_n 0, 1) := by decide +kernel
theorem dX2_expect_1 : decode cX2_expect 1 = .ok (.getfield 34, 3) := by decide +kernel
theorem dX2_expect_4 : decode cX2_expect 4 = .ok (.getfield 58, 3) := by decide +kernel
theorem dX2_expect_7 : decode cX2_expect 7 = .ok (.iload_n 1, 1) := by decide +kernel
theorem dX2_expect_8 : decode cX2_expect 8 = .ok (.if_icmp .eq 9, 3) := by decide +kernel
theorem dX2_expect_11 : decode cX2_expect 11 = .ok (.aload_n 0, 1) := by decide +kernel
theorem dX2_expect_12 : decode cX2_expect 12 = .ok (.iconst 1, 1) := by decide +kernel
theorem dX2_expect_13 : decode cX2_expect 13 = .ok (.invokevirtual 82, 3) := by decide +kernel
theorem dX2_expect_16 : decode cX2_expect 16 = .ok (.ireturn, 1) := by decide +kernel
theorem dX2_expect_17 : decode cX2_expect 17 = .ok (.aload_n 0, 1) := by decide +kernel
theorem dX2_expect_18 : decode cX2_expect 18 = .ok (.getfield 34, 3) := by decide +kernel
theorem dX2_expect_21 : decode cX2_expect 21 = .ok (.invokevirtual 86, 3) := by decide +kernel
theorem dX2_expect_24 : decode cX2_expect 24 = .ok (.iconst 1, 1) := by decide +kernel
theorem dX2_expect_25 : decode cX2_expect 25 = .ok (.ireturn, 1) := by decide +kernel
theorem dX2_readClause_0 : decode cX2_readClause 0 = .ok (.aload_n 0, 1) := by decide +kernel
theorem dX2_readClause_1 : decode cX2_readClause 1 = .ok (.getfield 34, 3) := by decide +kernel
theorem dX2_readClause_4 : decode cX2_readClause 4 = .ok (.getfield 58, 3) := by decide +kernel
theorem dX2_readClause_7 : decode cX2_readClause 7 = .ok (.istore_n 1, 1) := by decide +kernel
theorem dX2_readClause_8 : decode cX2_readClause 8 = .ok (.iload_n 1, 1) := by decide +kernel
theorem dX2_readClause_9 : decode cX2_readClause 9 = .ok (.bipush 9, 2) := by decide +kernel
theorem dX2_readClause_11 : decode cX2_readClause 11 = .ok (.if_icmp .le 9, 3) := by decide +kernel
theorem dX2_readClause_14 : decode cX2_readClause 14 = .ok (.aload_n 0, 1) := by decide +kernel
theorem dX2_readClause_15 : decode cX2_readClause 15 = .ok (.iconst 1, 1) := by decide +kernel
theorem dX2_readClause_16 : decode cX2_readClause 16 = .ok (.invokevirtual 82, 3) := by decide +kernel
theorem dX2_readClause_19 : decode cX2_readClause 19 = .ok (.ireturn, 1) := by decide +kernel
theorem dX2_readClause_20 : decode cX2_readClause 20 = .ok (.iload_n 1, 1) := by decide +kernel
theorem dX2_readClause_21 : decode cX2_readClause 21 = .ok (.iconst 3, 1) := by decide +kernel
theorem dX2_readClause_22 : decode cX2_readClause 22 = .ok (.if_icmp .ge 18, 3) := by decide +kernel
theorem dX2_readClause_25 : decode cX2_readClause 25 = .ok (.aload_n 0, 1) := by decide +kernel
theorem dX2_readClause_26 : decode cX2_readClause 26 = .ok (.getfield 25, 3) := by decide +kernel
theorem dX2_readClause_29 : decode cX2_readClause 29 = .ok (.iload_n 1, 1) := by decide +kernel
theorem dX2_readClause_30 : decode cX2_readClause 30 = .ok (.iaload, 1) := by decide +kernel
theorem dX2_readClause_31 : decode cX2_readClause 31 = .ok (.ifCond .lt 9, 3) := by decide +kernel
theorem dX2_readClause_34 : decode cX2_readClause 34 = .ok (.aload_n 0, 1) := by decide +kernel
theorem dX2_readClause_35 : decode cX2_readClause 35 = .ok (.iconst 4, 1) := by decide +kernel
theorem dX2_readClause_36 : decode cX2_readClause 36 = .ok (.invokevirtual 82, 3) := by decide +kernel
theorem dX2_readClause_39 : decode cX2_readClause 39 = .ok (.ireturn, 1) := by decide +kernel
theorem dX2_readClause_40 : decode cX2_readClause 40 = .ok (.aload_n 0, 1) := by decide +kernel
theorem dX2_readClause_41 : decode cX2_readClause 41 = .ok (.getfield 44, 3) := by decide +kernel
theorem dX2_readClause_44 : decode cX2_readClause 44 = .ok (.bipush 24, 2) := by decide +kernel
theorem dX2_readClause_46 : decode cX2_readClause 46 = .ok (.if_icmp .lt 10, 3) := by decide +kernel
theorem dX2_readClause_49 : decode cX2_readClause 49 = .ok (.aload_n 0, 1) := by decide +kernel
theorem dX2_readClause_50 : decode cX2_readClause 50 = .ok (.bipush 6, 2) := by decide +kernel
theorem dX2_readClause_52 : decode cX2_readClause 52 = .ok (.invokevirtual 82, 3) := by decide +kernel
theorem dX2_readClause_55 : decode cX2_readClause 55 = .ok (.ireturn, 1) := by decide +kernel
theorem dX2_readClause_56 : decode cX2_readClause 56 = .ok (.aload_n 0, 1) := by decide +kernel
theorem dX2_readClause_57 : decode cX2_readClause 57 = .ok (.getfield 34, 3) := by decide +kernel
theorem dX2_readClause_60 : decode cX2_readClause 60 = .ok (.invokevirtual 86, 3) := by decide +kernel
theorem dX2_readClause_63 : decode cX2_readClause 63 = .ok (.aload_n 0, 1) := by decide +kernel
theorem dX2_readClause_64 : decode cX2_readClause 64 = .ok (.getfield 31, 3) := by decide +kernel
theorem dX2_readClause_67 : decode cX2_readClause 67 = .ok (.aload_n 0, 1) := by decide +kernel
theorem dX2_readClause_68 : decode cX2_readClause 68 = .ok (.getfield 44, 3) := by decide +kernel
theorem dX2_readClause_71 : decode cX2_readClause 71 = .ok (.iconst 3, 1) := by decide +kernel
theorem dX2_readClause_72 : decode cX2_readClause 72 = .ok (.imul, 1) := by decide +kernel
theorem dX2_readClause_73 : decode cX2_readClause 73 = .ok (.iload_n 1, 1) := by decide +kernel
theorem dX2_readClause_74 : decode cX2_readClause 74 = .ok (.iastore, 1) := by decide +kernel
theorem dX2_readClause_75 : decode cX2_readClause 75 = .ok (.iload_n 1, 1) := by decide +kernel
theorem dX2_readClause_76 : decode cX2_readClause 76 = .ok (.iconst 3, 1) := by decide +kernel
theorem dX2_readClause_77 : decode cX2_readClause 77 = .ok (.if_icmp .ge 36, 3) := by decide +kernel
theorem dX2_readClause_80 : decode cX2_readClause 80 = .ok (.aload_n 0, 1) := by decide +kernel
theorem dX2_readClause_81 : decode cX2_readClause 81 = .ok (.iload_n 1, 1) := by decide +kernel
theorem dX2_readClause_82 : decode cX2_readClause 82 = .ok (.putfield 89, 3) := by decide +kernel
theorem dX2_readClause_85 : decode cX2_readClause 85 = .ok (.aload_n 0, 1) := by decide +kernel
theorem dX2_readClause_86 : decode cX2_readClause 86 = .ok (.getfield 25, 3) := by decide +kernel
theorem dX2_readClause_89 : decode cX2_readClause 89 = .ok (.iload_n 1, 1) := by decide +kernel
theorem dX2_readClause_90 : decode cX2_readClause 90 = .ok (.aload_n 0, 1) := by decide +kernel
theorem dX2_readClause_91 : decode cX2_readClause 91 = .ok (.getfield 41, 3) := by decide +kernel
theorem dX2_readClause_94 : decode cX2_readClause 94 = .ok (.iastore, 1) := by decide +kernel
theorem dX2_readClause_95 : decode cX2_readClause 95 = .ok (.aload_n 0, 1) := by decide +kernel
theorem dX2_readClause_96 : decode cX2_readClause 96 = .ok (.invokevirtual 92, 3) := by decide +kernel
theorem dX2_readClause_99 : decode cX2_readClause 99 = .ok (.istore_n 2, 1) := by decide +kernel
theorem dX2_readClause_100 : decode cX2_readClause 100 = .ok (.aload_n 0, 1) := by decide +kernel
theorem dX2_readClause_101 : decode cX2_readClause 101 = .ok (.getfield 28, 3) := by decide +kernel
theorem dX2_readClause_104 : decode cX2_readClause 104 = .ok (.iload_n 1, 1) := by decide +kernel
theorem dX2_readClause_105 : decode cX2_readClause 105 = .ok (.aload_n 0, 1) := by decide +kernel
theorem dX2_readClause_106 : decode cX2_readClause 106 = .ok (.getfield 41, 3) := by decide +kernel
theorem dX2_readClause_109 : decode cX2_readClause 109 = .ok (.iastore, 1) := by decide +kernel
theorem dX2_readClause_110 : decode cX2_readClause 110 = .ok (.goto 9, 3) := by decide +kernel
theorem dX2_readClause_113 : decode cX2_readClause 113 = .ok (.aload_n 0, 1) := by decide +kernel
theorem dX2_readClause_114 : decode cX2_readClause 114 = .ok (.iload_n 1, 1) := by decide +kernel
theorem dX2_readClause_115 : decode cX2_readClause 115 = .ok (.invokevirtual 95, 3) := by decide +kernel
theorem dX2_readClause_118 : decode cX2_readClause 118 = .ok (.istore_n 2, 1) := by decide +kernel
theorem dX2_readClause_119 : decode cX2_readClause 119 = .ok (.aload_n 0, 1) := by decide +kernel
theorem dX2_readClause_120 : decode cX2_readClause 120 = .ok (.dup, 1) := by decide +kernel
theorem dX2_readClause_121 : decode cX2_readClause 121 = .ok (.getfield 44, 3) := by decide +kernel
theorem dX2_readClause_124 : decode cX2_readClause 124 = .ok (.iconst 1, 1) := by decide +kernel
theorem dX2_readClause_125 : decode cX2_readClause 125 = .ok (.iadd, 1) := by decide +kernel
theorem dX2_readClause_126 : decode cX2_readClause 126 = .ok (.putfield 44, 3) := by decide +kernel
theorem dX2_readClause_129 : decode cX2_readClause 129 = .ok (.iload_n 2, 1) := by decide +kernel
theorem dX2_readClause_130 : decode cX2_readClause 130 = .ok (.ifCond .eq 16, 3) := by decide +kernel
theorem dX2_readClause_133 : decode cX2_readClause 133 = .ok (.aload_n 0, 1) := by decide +kernel
theorem dX2_readClause_134 : decode cX2_readClause 134 = .ok (.bipush 38, 2) := by decide +kernel
theorem dX2_readClause_136 : decode cX2_readClause 136 = .ok (.invokevirtual 98, 3) := by decide +kernel
theorem dX2_readClause_139 : decode cX2_readClause 139 = .ok (.ifCond .eq 7, 3) := by decide +kernel
theorem dX2_readClause_142 : decode cX2_readClause 142 = .ok (.iconst 1, 1) := by decide +kernel
theorem dX2_readClause_143 : decode cX2_readClause 143 = .ok (.goto 4, 3) := by decide +kernel
theorem dX2_readClause_146 : decode cX2_readClause 146 = .ok (.iconst 0, 1) := by decide +kernel
theorem dX2_readClause_147 : decode cX2_readClause 147 = .ok (.ireturn, 1) := by decide +kernel
theorem dX2_readOrder_0 : decode cX2_readOrder 0 = .ok (.iload_n 1, 1) := by decide +kernel
theorem dX2_readOrder_1 : decode cX2_readOrder 1 = .ok (.tableswitch 170 3 9 #[43, 170, 170, 80, 153, 117, 161], 43) := by decide +kernel
theorem dX2_readOrder_44 : decode cX2_readOrder 44 = .ok (.aload_n 0, 1) := by decide +kernel
theorem dX2_readOrder_45 : decode cX2_readOrder 45 = .ok (.iconst 1, 1) := by decide +kernel
theorem dX2_readOrder_46 : decode cX2_readOrder 46 = .ok (.iconst 0, 1) := by decide +kernel
theorem dX2_readOrder_47 : decode cX2_readOrder 47 = .ok (.bipush 9, 2) := by decide +kernel
theorem dX2_readOrder_49 : decode cX2_readOrder 49 = .ok (.invokevirtual 101, 3) := by decide +kernel
theorem dX2_readOrder_52 : decode cX2_readOrder 52 = .ok (.ifCond .eq 27, 3) := by decide +kernel
theorem dX2_readOrder_55 : decode cX2_readOrder 55 = .ok (.aload_n 0, 1) := by decide +kernel
theorem dX2_readOrder_56 : decode cX2_readOrder 56 = .ok (.bipush 11, 2) := by decide +kernel
theorem dX2_readOrder_58 : decode cX2_readOrder 58 = .ok (.invokevirtual 98, 3) := by decide +kernel
theorem dX2_readOrder_61 : decode cX2_readOrder 61 = .ok (.ifCond .eq 18, 3) := by decide +kernel
theorem dX2_readOrder_64 : decode cX2_readOrder 64 = .ok (.aload_n 0, 1) := by decide +kernel
theorem dX2_readOrder_65 : decode cX2_readOrder 65 = .ok (.iconst 2, 1) := by decide +kernel
theorem dX2_readOrder_66 : decode cX2_readOrder 66 = .ok (.iconst 0, 1) := by decide +kernel
theorem dX2_readOrder_67 : decode cX2_readOrder 67 = .ok (.bipush 99, 2) := by decide +kernel
theorem dX2_readOrder_69 : decode cX2_readOrder 69 = .ok (.invokevirtual 101, 3) := by decide +kernel
theorem dX2_readOrder_72 : decode cX2_readOrder 72 = .ok (.ifCond .eq 7, 3) := by decide +kernel
theorem dX2_readOrder_75 : decode cX2_readOrder 75 = .ok (.iconst 1, 1) := by decide +kernel
theorem dX2_readOrder_76 : decode cX2_readOrder 76 = .ok (.goto 4, 3) := by decide +kernel
theorem dX2_readOrder_79 : decode cX2_readOrder 79 = .ok (.iconst 0, 1) := by decide +kernel
theorem dX2_readOrder_80 : decode cX2_readOrder 80 = .ok (.ireturn, 1) := by decide +kernel
theorem dX2_readOrder_81 : decode cX2_readOrder 81 = .ok (.aload_n 0, 1) := by decide +kernel
theorem dX2_readOrder_82 : decode cX2_readOrder 82 = .ok (.iconst 1, 1) := by decide +kernel
theorem dX2_readOrder_83 : decode cX2_readOrder 83 = .ok (.iconst 0, 1) := by decide +kernel
theorem dX2_readOrder_84 : decode cX2_readOrder 84 = .ok (.sipush 9999, 3) := by decide +kernel
theorem dX2_readOrder_87 : decode cX2_readOrder 87 = .ok (.invokevirtual 101, 3) := by decide +kernel
theorem dX2_readOrder_90 : decode cX2_readOrder 90 = .ok (.ifCond .eq 26, 3) := by decide +kernel
theorem dX2_readOrder_93 : decode cX2_readOrder 93 = .ok (.aload_n 0, 1) := by decide +kernel
theorem dX2_readOrder_94 : decode cX2_readOrder 94 = .ok (.bipush 17, 2) := by decide +kernel
theorem dX2_readOrder_96 : decode cX2_readOrder 96 = .ok (.invokevirtual 98, 3) := by decide +kernel
theorem dX2_readOrder_99 : decode cX2_readOrder 99 = .ok (.ifCond .eq 17, 3) := by decide +kernel
theorem dX2_readOrder_102 : decode cX2_readOrder 102 = .ok (.aload_n 0, 1) := by decide +kernel
theorem dX2_readOrder_103 : decode cX2_readOrder 103 = .ok (.iconst 2, 1) := by decide +kernel
theorem dX2_readOrder_104 : decode cX2_readOrder 104 = .ok (.iconst 0, 1) := by decide +kernel
theorem dX2_readOrder_105 : decode cX2_readOrder 105 = .ok (.iconst 4, 1) := by decide +kernel
theorem dX2_readOrder_106 : decode cX2_readOrder 106 = .ok (.invokevirtual 101, 3) := by decide +kernel
theorem dX2_readOrder_109 : decode cX2_readOrder 109 = .ok (.ifCond .eq 7, 3) := by decide +kernel
theorem dX2_readOrder_112 : decode cX2_readOrder 112 = .ok (.iconst 1, 1) := by decide +kernel
theorem dX2_readOrder_113 : decode cX2_readOrder 113 = .ok (.goto 4, 3) := by decide +kernel
theorem dX2_readOrder_116 : decode cX2_readOrder 116 = .ok (.iconst 0, 1) := by decide +kernel
theorem dX2_readOrder_117 : decode cX2_readOrder 117 = .ok (.ireturn, 1) := by decide +kernel
theorem dX2_readOrder_118 : decode cX2_readOrder 118 = .ok (.aload_n 0, 1) := by decide +kernel
theorem dX2_readOrder_119 : decode cX2_readOrder 119 = .ok (.iconst 1, 1) := by decide +kernel
theorem dX2_readOrder_120 : decode cX2_readOrder 120 = .ok (.iconst 0, 1) := by decide +kernel
theorem dX2_readOrder_121 : decode cX2_readOrder 121 = .ok (.iconst 4, 1) := by decide +kernel
theorem dX2_readOrder_122 : decode cX2_readOrder 122 = .ok (.invokevirtual 101, 3) := by decide +kernel
theorem dX2_readOrder_125 : decode cX2_readOrder 125 = .ok (.ifCond .eq 27, 3) := by decide +kernel
theorem dX2_readOrder_128 : decode cX2_readOrder 128 = .ok (.aload_n 0, 1) := by decide +kernel
theorem dX2_readOrder_129 : decode cX2_readOrder 129 = .ok (.bipush 17, 2) := by decide +kernel
theorem dX2_readOrder_131 : decode cX2_readOrder 131 = .ok (.invokevirtual 98, 3) := by decide +kernel
theorem dX2_readOrder_134 : decode cX2_readOrder 134 = .ok (.ifCond .eq 18, 3) := by decide +kernel
theorem dX2_readOrder_137 : decode cX2_readOrder 137 = .ok (.aload_n 0, 1) := by decide +kernel
theorem dX2_readOrder_138 : decode cX2_readOrder 138 = .ok (.iconst 2, 1) := by decide +kernel
theorem dX2_readOrder_139 : decode cX2_readOrder 139 = .ok (.iconst 0, 1) := by decide +kernel
theorem dX2_readOrder_140 : decode cX2_readOrder 140 = .ok (.bipush 9, 2) := by decide +kernel
theorem dX2_readOrder_142 : decode cX2_readOrder 142 = .ok (.invokevirtual 101, 3) := by decide +kernel
theorem dX2_readOrder_145 : decode cX2_readOrder 145 = .ok (.ifCond .eq 7, 3) := by decide +kernel
theorem dX2_readOrder_148 : decode cX2_readOrder 148 = .ok (.iconst 1, 1) := by decide +kernel
theorem dX2_readOrder_149 : decode cX2_readOrder 149 = .ok (.goto 4, 3) := by decide +kernel
theorem dX2_readOrder_152 : decode cX2_readOrder 152 = .ok (.iconst 0, 1) := by decide +kernel
theorem dX2_readOrder_153 : decode cX2_readOrder 153 = .ok (.ireturn, 1) := by decide +kernel
theorem dX2_readOrder_154 : decode cX2_readOrder 154 = .ok (.aload_n 0, 1) := by decide +kernel
theorem dX2_readOrder_155 : decode cX2_readOrder 155 = .ok (.iconst 1, 1) := by decide +kernel
theorem dX2_readOrder_156 : decode cX2_readOrder 156 = .ok (.iconst 0, 1) := by decide +kernel
theorem dX2_readOrder_157 : decode cX2_readOrder 157 = .ok (.iconst 4, 1) := by decide +kernel
theorem dX2_readOrder_158 : decode cX2_readOrder 158 = .ok (.invokevirtual 101, 3) := by decide +kernel
theorem dX2_readOrder_161 : decode cX2_readOrder 161 = .ok (.ireturn, 1) := by decide +kernel
theorem dX2_readOrder_162 : decode cX2_readOrder 162 = .ok (.aload_n 0, 1) := by decide +kernel
theorem dX2_readOrder_163 : decode cX2_readOrder 163 = .ok (.iconst 1, 1) := by decide +kernel
theorem dX2_readOrder_164 : decode cX2_readOrder 164 = .ok (.iconst 1, 1) := by decide +kernel
theorem dX2_readOrder_165 : decode cX2_readOrder 165 = .ok (.bipush 60, 2) := by decide +kernel
theorem dX2_readOrder_167 : decode cX2_readOrder 167 = .ok (.invokevirtual 101, 3) := by decide +kernel
theorem dX2_readOrder_170 : decode cX2_readOrder 170 = .ok (.ireturn, 1) := by decide +kernel
theorem dX2_readOrder_171 : decode cX2_readOrder 171 = .ok (.aload_n 0, 1) := by decide +kernel
theorem dX2_readOrder_172 : decode cX2_readOrder 172 = .ok (.iconst 1, 1) := by decide +kernel
theorem dX2_readOrder_173 : decode cX2_readOrder 173 = .ok (.iconst 0, 1) := by decide +kernel
theorem dX2_readOrder_174 : decode cX2_readOrder 174 = .ok (.bipush 9, 2) := by decide +kernel
theorem dX2_readOrder_176 : decode cX2_readOrder 176 = .ok (.invokevirtual 101, 3) := by decide +kernel
theorem dX2_readOrder_179 : decode cX2_readOrder 179 = .ok (.ifCond .eq 27, 3) := by decide +kernel
theorem dX2_readOrder_182 : decode cX2_readOrder 182 = .ok (.aload_n 0, 1) := by decide +kernel
theorem dX2_readOrder_183 : decode cX2_readOrder 183 = .ok (.bipush 16, 2) := by decide +kernel
theorem dX2_readOrder_185 : decode cX2_readOrder 185 = .ok (.invokevirtual 98, 3) := by decide +kernel
theorem dX2_readOrder_188 : decode cX2_readOrder 188 = .ok (.ifCond .eq 18, 3) := by decide +kernel
theorem dX2_readOrder_191 : decode cX2_readOrder 191 = .ok (.aload_n 0, 1) := by decide +kernel
theorem dX2_readOrder_192 : decode cX2_readOrder 192 = .ok (.iconst 2, 1) := by decide +kernel
theorem dX2_readOrder_193 : decode cX2_readOrder 193 = .ok (.iconst 0, 1) := by decide +kernel
theorem dX2_readOrder_194 : decode cX2_readOrder 194 = .ok (.bipush 110, 2) := by decide +kernel
theorem dX2_readOrder_196 : decode cX2_readOrder 196 = .ok (.invokevirtual 101, 3) := by decide +kernel
theorem dX2_readOrder_199 : decode cX2_readOrder 199 = .ok (.ifCond .eq 7, 3) := by decide +kernel
theorem dX2_readOrder_202 : decode cX2_readOrder 202 = .ok (.iconst 1, 1) := by decide +kernel
theorem dX2_readOrder_203 : decode cX2_readOrder 203 = .ok (.goto 4, 3) := by decide +kernel
theorem dX2_readOrder_206 : decode cX2_readOrder 206 = .ok (.iconst 0, 1) := by decide +kernel
theorem dX2_readOrder_207 : decode cX2_readOrder 207 = .ok (.ireturn, 1) := by decide +kernel
theorem dX2_readPart_0 : decode cX2_readPart 0 = .ok (.aload_n 0, 1) := by decide +kernel
theorem dX2_readPart_1 : decode cX2_readPart 1 = .ok (.getfield 34, 3) := by decide +kernel
theorem dX2_readPart_4 : decode cX2_readPart 4 = .ok (.getfield 58, 3) := by decide +kernel
theorem dX2_readPart_7 : decode cX2_readPart 7 = .ok (.bipush 27, 2) := by decide +kernel
theorem dX2_readPart_9 : decode cX2_readPart 9 = .ok (.if_icmp .eq 9, 3) := by decide +kernel
theorem dX2_readPart_12 : decode cX2_readPart 12 = .ok (.aload_n 0, 1) := by decide +kernel
theorem dX2_readPart_13 : decode cX2_readPart 13 = .ok (.iconst 1, 1) := by decide +kernel
theorem dX2_readPart_14 : decode cX2_readPart 14 = .ok (.invokevirtual 82, 3) := by decide +kernel
theorem dX2_readPart_17 : decode cX2_readPart 17 = .ok (.ireturn, 1) := by decide +kernel
theorem dX2_readPart_18 : decode cX2_readPart 18 = .ok (.aload_n 0, 1) := by decide +kernel
theorem dX2_readPart_19 : decode cX2_readPart 19 = .ok (.getfield 34, 3) := by decide +kernel
theorem dX2_readPart_22 : decode cX2_readPart 22 = .ok (.getfield 105, 3) := by decide +kernel
theorem dX2_readPart_25 : decode cX2_readPart 25 = .ok (.iload_n 2, 1) := by decide +kernel
theorem dX2_readPart_26 : decode cX2_readPart 26 = .ok (.iload_n 3, 1) := by decide +kernel
theorem dX2_readPart_27 : decode cX2_readPart 27 = .ok (.invokestatic 108, 3) := by decide +kernel
theorem dX2_readPart_30 : decode cX2_readPart 30 = .ok (.ifCond .ne 9, 3) := by decide +kernel
theorem dX2_readPart_33 : decode cX2_readPart 33 = .ok (.aload_n 0, 1) := by decide +kernel
theorem dX2_readPart_34 : decode cX2_readPart 34 = .ok (.iconst 2, 1) := by decide +kernel
theorem dX2_readPart_35 : decode cX2_readPart 35 = .ok (.invokevirtual 82, 3) := by decide +kernel
theorem dX2_readPart_38 : decode cX2_readPart 38 = .ok (.ireturn, 1) := by decide +kernel
theorem dX2_readPart_39 : decode cX2_readPart 39 = .ok (.aload_n 0, 1) := by decide +kernel
theorem dX2_readPart_40 : decode cX2_readPart 40 = .ok (.getfield 31, 3) := by decide +kernel
theorem dX2_readPart_43 : decode cX2_readPart 43 = .ok (.aload_n 0, 1) := by decide +kernel
theorem dX2_readPart_44 : decode cX2_readPart 44 = .ok (.getfield 44, 3) := by decide +kernel
theorem dX2_readPart_47 : decode cX2_readPart 47 = .ok (.iconst 3, 1) := by decide +kernel
theorem dX2_readPart_48 : decode cX2_readPart 48 = .ok (.imul, 1) := by decide +kernel
theorem dX2_readPart_49 : decode cX2_readPart 49 = .ok (.iload_n 1, 1) := by decide +kernel
theorem dX2_readPart_50 : decode cX2_readPart 50 = .ok (.iadd, 1) := by decide +kernel
theorem dX2_readPart_51 : decode cX2_readPart 51 = .ok (.aload_n 0, 1) := by decide +kernel
theorem dX2_readPart_52 : decode cX2_readPart 52 = .ok (.getfield 34, 3) := by decide +kernel
theorem dX2_readPart_55 : decode cX2_readPart 55 = .ok (.getfield 105, 3) := by decide +kernel
theorem dX2_readPart_58 : decode cX2_readPart 58 = .ok (.iastore, 1) := by decide +kernel
theorem dX2_readPart_59 : decode cX2_readPart 59 = .ok (.aload_n 0, 1) := by decide +kernel
theorem dX2_readPart_60 : decode cX2_readPart 60 = .ok (.getfield 34, 3) := by decide +kernel
theorem dX2_readPart_63 : decode cX2_readPart 63 = .ok (.invokevirtual 86, 3) := by decide +kernel
theorem dX2_readPart_66 : decode cX2_readPart 66 = .ok (.iconst 1, 1) := by decide +kernel
theorem dX2_readPart_67 : decode cX2_readPart 67 = .ok (.ireturn, 1) := by decide +kernel
theorem dX2_readSum_0 : decode cX2_readSum 0 = .ok (.aload_n 0, 1) := by decide +kernel
theorem dX2_readSum_1 : decode cX2_readSum 1 = .ok (.invokevirtual 111, 3) := by decide +kernel
theorem dX2_readSum_4 : decode cX2_readSum 4 = .ok (.istore_n 1, 1) := by decide +kernel
theorem dX2_readSum_5 : decode cX2_readSum 5 = .ok (.iconst 0, 1) := by decide +kernel
theorem dX2_readSum_6 : decode cX2_readSum 6 = .ok (.istore_n 2, 1) := by decide +kernel
theorem dX2_readSum_7 : decode cX2_readSum 7 = .ok (.iload_n 2, 1) := by decide +kernel
theorem dX2_readSum_8 : decode cX2_readSum 8 = .ok (.sipush 300, 3) := by decide +kernel
theorem dX2_readSum_11 : decode cX2_readSum 11 = .ok (.if_icmp .ge 64, 3) := by decide +kernel
theorem dX2_readSum_14 : decode cX2_readSum 14 = .ok (.iload_n 1, 1) := by decide +kernel
theorem dX2_readSum_15 : decode cX2_readSum 15 = .ok (.ifCond .eq 60, 3) := by decide +kernel
theorem dX2_readSum_18 : decode cX2_readSum 18 = .ok (.aload_n 0, 1) := by decide +kernel
theorem dX2_readSum_19 : decode cX2_readSum 19 = .ok (.getfield 34, 3) := by decide +kernel
theorem dX2_readSum_22 : decode cX2_readSum 22 = .ok (.getfield 58, 3) := by decide +kernel
theorem dX2_readSum_25 : decode cX2_readSum 25 = .ok (.bipush 32, 2) := by decide +kernel
theorem dX2_readSum_27 : decode cX2_readSum 27 = .ok (.if_icmp .eq 15, 3) := by decide +kernel
theorem dX2_readSum_30 : decode cX2_readSum 30 = .ok (.aload_n 0, 1) := by decide +kernel
theorem dX2_readSum_31 : decode cX2_readSum 31 = .ok (.getfield 34, 3) := by decide +kernel
theorem dX2_readSum_34 : decode cX2_readSum 34 = .ok (.getfield 58, 3) := by decide +kernel
theorem dX2_readSum_37 : decode cX2_readSum 37 = .ok (.bipush 33, 2) := by decide +kernel
theorem dX2_readSum_39 : decode cX2_readSum 39 = .ok (.if_icmp .ne 36, 3) := by decide +kernel
theorem dX2_readSum_42 : decode cX2_readSum 42 = .ok (.aload_n 0, 1) := by decide +kernel
theorem dX2_readSum_43 : decode cX2_readSum 43 = .ok (.getfield 34, 3) := by decide +kernel
theorem dX2_readSum_46 : decode cX2_readSum 46 = .ok (.getfield 58, 3) := by decide +kernel
theorem dX2_readSum_49 : decode cX2_readSum 49 = .ok (.istore_n 3, 1) := by decide +kernel
theorem dX2_readSum_50 : decode cX2_readSum 50 = .ok (.aload_n 0, 1) := by decide +kernel
theorem dX2_readSum_51 : decode cX2_readSum 51 = .ok (.getfield 34, 3) := by decide +kernel
theorem dX2_readSum_54 : decode cX2_readSum 54 = .ok (.invokevirtual 86, 3) := by decide +kernel
theorem dX2_readSum_57 : decode cX2_readSum 57 = .ok (.aload_n 0, 1) := by decide +kernel
theorem dX2_readSum_58 : decode cX2_readSum 58 = .ok (.invokevirtual 111, 3) := by decide +kernel
theorem dX2_readSum_61 : decode cX2_readSum 61 = .ok (.istore_n 1, 1) := by decide +kernel
theorem dX2_readSum_62 : decode cX2_readSum 62 = .ok (.aload_n 0, 1) := by decide +kernel
theorem dX2_readSum_63 : decode cX2_readSum 63 = .ok (.iload_n 3, 1) := by decide +kernel
theorem dX2_readSum_64 : decode cX2_readSum 64 = .ok (.iconst 0, 1) := by decide +kernel
theorem dX2_readSum_65 : decode cX2_readSum 65 = .ok (.invokevirtual 114, 3) := by decide +kernel
theorem dX2_readSum_68 : decode cX2_readSum 68 = .ok (.pop, 1) := by decide +kernel
theorem dX2_readSum_69 : decode cX2_readSum 69 = .ok (.iinc 2 1, 3) := by decide +kernel
theorem dX2_readSum_72 : decode cX2_readSum 72 = .ok (.goto (-65), 3) := by decide +kernel
theorem dX2_readSum_75 : decode cX2_readSum 75 = .ok (.iload_n 1, 1) := by decide +kernel
theorem dX2_readSum_76 : decode cX2_readSum 76 = .ok (.ireturn, 1) := by decide +kernel
theorem dX2_readProduct_0 : decode cX2_readProduct 0 = .ok (.aload_n 0, 1) := by decide +kernel
theorem dX2_readProduct_1 : decode cX2_readProduct 1 = .ok (.invokevirtual 118, 3) := by decide +kernel
theorem dX2_readProduct_4 : decode cX2_readProduct 4 = .ok (.istore_n 1, 1) := by decide +kernel
theorem dX2_readProduct_5 : decode cX2_readProduct 5 = .ok (.iconst 0, 1) := by decide +kernel
theorem dX2_readProduct_6 : decode cX2_readProduct 6 = .ok (.istore_n 2, 1) := by decide +kernel
theorem dX2_readProduct_7 : decode cX2_readProduct 7 = .ok (.iload_n 2, 1) := by decide +kernel
theorem dX2_readProduct_8 : decode cX2_readProduct 8 = .ok (.sipush 300, 3) := by decide +kernel
theorem dX2_readProduct_11 : decode cX2_readProduct 11 = .ok (.if_icmp .ge 64, 3) := by decide +kernel
theorem dX2_readProduct_14 : decode cX2_readProduct 14 = .ok (.iload_n 1, 1) := by decide +kernel
theorem dX2_readProduct_15 : decode cX2_readProduct 15 = .ok (.ifCond .eq 60, 3) := by decide +kernel
theorem dX2_readProduct_18 : decode cX2_readProduct 18 = .ok (.aload_n 0, 1) := by decide +kernel
theorem dX2_readProduct_19 : decode cX2_readProduct 19 = .ok (.getfield 34, 3) := by decide +kernel
theorem dX2_readProduct_22 : decode cX2_readProduct 22 = .ok (.getfield 58, 3) := by decide +kernel
theorem dX2_readProduct_25 : decode cX2_readProduct 25 = .ok (.bipush 34, 2) := by decide +kernel
theorem dX2_readProduct_27 : decode cX2_readProduct 27 = .ok (.if_icmp .eq 15, 3) := by decide +kernel
theorem dX2_readProduct_30 : decode cX2_readProduct 30 = .ok (.aload_n 0, 1) := by decide +kernel
theorem dX2_readProduct_31 : decode cX2_readProduct 31 = .ok (.getfield 34, 3) := by decide +kernel
theorem dX2_readProduct_34 : decode cX2_readProduct 34 = .ok (.getfield 58, 3) := by decide +kernel
theorem dX2_readProduct_37 : decode cX2_readProduct 37 = .ok (.bipush 35, 2) := by decide +kernel
theorem dX2_readProduct_39 : decode cX2_readProduct 39 = .ok (.if_icmp .ne 36, 3) := by decide +kernel
theorem dX2_readProduct_42 : decode cX2_readProduct 42 = .ok (.aload_n 0, 1) := by decide +kernel
theorem dX2_readProduct_43 : decode cX2_readProduct 43 = .ok (.getfield 34, 3) := by decide +kernel
theorem dX2_readProduct_46 : decode cX2_readProduct 46 = .ok (.getfield 58, 3) := by decide +kernel
theorem dX2_readProduct_49 : decode cX2_readProduct 49 = .ok (.istore_n 3, 1) := by decide +kernel
theorem dX2_readProduct_50 : decode cX2_readProduct 50 = .ok (.aload_n 0, 1) := by decide +kernel
theorem dX2_readProduct_51 : decode cX2_readProduct 51 = .ok (.getfield 34, 3) := by decide +kernel
theorem dX2_readProduct_54 : decode cX2_readProduct 54 = .ok (.invokevirtual 86, 3) := by decide +kernel
theorem dX2_readProduct_57 : decode cX2_readProduct 57 = .ok (.aload_n 0, 1) := by decide +kernel
theorem dX2_readProduct_58 : decode cX2_readProduct 58 = .ok (.invokevirtual 118, 3) := by decide +kernel
theorem dX2_readProduct_61 : decode cX2_readProduct 61 = .ok (.istore_n 1, 1) := by decide +kernel
theorem dX2_readProduct_62 : decode cX2_readProduct 62 = .ok (.aload_n 0, 1) := by decide +kernel
theorem dX2_readProduct_63 : decode cX2_readProduct 63 = .ok (.iload_n 3, 1) := by decide +kernel
theorem dX2_readProduct_64 : decode cX2_readProduct 64 = .ok (.iconst 0, 1) := by decide +kernel
theorem dX2_readProduct_65 : decode cX2_readProduct 65 = .ok (.invokevirtual 114, 3) := by decide +kernel
theorem dX2_readProduct_68 : decode cX2_readProduct 68 = .ok (.pop, 1) := by decide +kernel
theorem dX2_readProduct_69 : decode cX2_readProduct 69 = .ok (.iinc 2 1, 3) := by decide +kernel
theorem dX2_readProduct_72 : decode cX2_readProduct 72 = .ok (.goto (-65), 3) := by decide +kernel
theorem dX2_readProduct_75 : decode cX2_readProduct 75 = .ok (.iload_n 1, 1) := by decide +kernel
theorem dX2_readProduct_76 : decode cX2_readProduct 76 = .ok (.ireturn, 1) := by decide +kernel
theorem dX2_readOne_0 : decode cX2_readOne 0 = .ok (.aload_n 0, 1) := by decide +kernel
theorem dX2_readOne_1 : decode cX2_readOne 1 = .ok (.getfield 34, 3) := by decide +kernel
theorem dX2_readOne_4 : decode cX2_readOne 4 = .ok (.getfield 58, 3) := by decide +kernel
theorem dX2_readOne_7 : decode cX2_readOne 7 = .ok (.istore_n 1, 1) := by decide +kernel
theorem dX2_readOne_8 : decode cX2_readOne 8 = .ok (.iload_n 1, 1) := by decide +kernel
theorem dX2_readOne_9 : decode cX2_readOne 9 = .ok (.bipush 27, 2) := by decide +kernel
theorem dX2_readOne_11 : decode cX2_readOne 11 = .ok (.if_icmp .ne 8, 3) := by decide +kernel
theorem dX2_readOne_14 : decode cX2_readOne 14 = .ok (.aload_n 0, 1) := by decide +kernel
theorem dX2_readOne_15 : decode cX2_readOne 15 = .ok (.invokevirtual 121, 3) := by decide +kernel
theorem dX2_readOne_18 : decode cX2_readOne 18 = .ok (.ireturn, 1) := by decide +kernel
theorem dX2_readOne_19 : decode cX2_readOne 19 = .ok (.iload_n 1, 1) := by decide +kernel
theorem dX2_readOne_20 : decode cX2_readOne 20 = .ok (.bipush 8, 2) := by decide +kernel
theorem dX2_readOne_22 : decode cX2_readOne 22 = .ok (.bipush 15, 2) := by decide +kernel
theorem dX2_readOne_24 : decode cX2_readOne 24 = .ok (.invokestatic 108, 3) := by decide +kernel
theorem dX2_readOne_27 : decode cX2_readOne 27 = .ok (.ifCond .eq 9, 3) := by decide +kernel
theorem dX2_readOne_30 : decode cX2_readOne 30 = .ok (.aload_n 0, 1) := by decide +kernel
theorem dX2_readOne_31 : decode cX2_readOne 31 = .ok (.iload_n 1, 1) := by decide +kernel
theorem dX2_readOne_32 : decode cX2_readOne 32 = .ok (.invokevirtual 124, 3) := by decide +kernel
theorem dX2_readOne_35 : decode cX2_readOne 35 = .ok (.ireturn, 1) := by decide +kernel
theorem dX2_readOne_36 : decode cX2_readOne 36 = .ok (.iload_n 1, 1) := by decide +kernel
theorem dX2_readOne_37 : decode cX2_readOne 37 = .ok (.bipush 36, 2) := by decide +kernel
theorem dX2_readOne_39 : decode cX2_readOne 39 = .ok (.if_icmp .eq 33, 3) := by decide +kernel
theorem dX2_readOne_42 : decode cX2_readOne 42 = .ok (.iload_n 1, 1) := by decide +kernel
theorem dX2_readOne_43 : decode cX2_readOne 43 = .ok (.bipush 33, 2) := by decide +kernel
theorem dX2_readOne_45 : decode cX2_readOne 45 = .ok (.if_icmp .eq 27, 3) := by decide +kernel
theorem dX2_readOne_48 : decode cX2_readOne 48 = .ok (.iload_n 1, 1) := by decide +kernel
theorem dX2_readOne_49 : decode cX2_readOne 49 = .ok (.bipush 18, 2) := by decide +kernel
theorem dX2_readOne_51 : decode cX2_readOne 51 = .ok (.if_icmp .eq 21, 3) := by decide +kernel
theorem dX2_readOne_54 : decode cX2_readOne 54 = .ok (.iload_n 1, 1) := by decide +kernel
theorem dX2_readOne_55 : decode cX2_readOne 55 = .ok (.bipush 19, 2) := by decide +kernel
theorem dX2_readOne_57 : decode cX2_readOne 57 = .ok (.if_icmp .eq 15, 3) := by decide +kernel
theorem dX2_readOne_60 : decode cX2_readOne 60 = .ok (.iload_n 1, 1) := by decide +kernel
theorem dX2_readOne_61 : decode cX2_readOne 61 = .ok (.bipush 20, 2) := by decide +kernel
theorem dX2_readOne_63 : decode cX2_readOne 63 = .ok (.if_icmp .eq 9, 3) := by decide +kernel
theorem dX2_readOne_66 : decode cX2_readOne 66 = .ok (.aload_n 0, 1) := by decide +kernel
theorem dX2_readOne_67 : decode cX2_readOne 67 = .ok (.iconst 1, 1) := by decide +kernel
theorem dX2_readOne_68 : decode cX2_readOne 68 = .ok (.invokevirtual 82, 3) := by decide +kernel
theorem dX2_readOne_71 : decode cX2_readOne 71 = .ok (.ireturn, 1) := by decide +kernel
theorem dX2_readOne_72 : decode cX2_readOne 72 = .ok (.aload_n 0, 1) := by decide +kernel
theorem dX2_readOne_73 : decode cX2_readOne 73 = .ok (.getfield 38, 3) := by decide +kernel
theorem dX2_readOne_76 : decode cX2_readOne 76 = .ok (.bipush 8, 2) := by decide +kernel
theorem dX2_readOne_78 : decode cX2_readOne 78 = .ok (.if_icmp .lt 9, 3) := by decide +kernel
theorem dX2_readOne_81 : decode cX2_readOne 81 = .ok (.aload_n 0, 1) := by decide +kernel
theorem dX2_readOne_82 : decode cX2_readOne 82 = .ok (.iconst 3, 1) := by decide +kernel
theorem dX2_readOne_83 : decode cX2_readOne 83 = .ok (.invokevirtual 82, 3) := by decide +kernel
theorem dX2_readOne_86 : decode cX2_readOne 86 = .ok (.ireturn, 1) := by decide +kernel
theorem dX2_readOne_87 : decode cX2_readOne 87 = .ok (.aload_n 0, 1) := by decide +kernel
theorem dX2_readOne_88 : decode cX2_readOne 88 = .ok (.dup, 1) := by decide +kernel
theorem dX2_readOne_89 : decode cX2_readOne 89 = .ok (.getfield 38, 3) := by decide +kernel
theorem dX2_readOne_92 : decode cX2_readOne 92 = .ok (.iconst 1, 1) := by decide +kernel
theorem dX2_readOne_93 : decode cX2_readOne 93 = .ok (.iadd, 1) := by decide +kernel
theorem dX2_readOne_94 : decode cX2_readOne 94 = .ok (.putfield 38, 3) := by decide +kernel
theorem dX2_readOne_97 : decode cX2_readOne 97 = .ok (.aload_n 0, 1) := by decide +kernel
theorem dX2_readOne_98 : decode cX2_readOne 98 = .ok (.getfield 34, 3) := by decide +kernel
theorem dX2_readOne_101 : decode cX2_readOne 101 = .ok (.invokevirtual 86, 3) := by decide +kernel
theorem dX2_readOne_104 : decode cX2_readOne 104 = .ok (.aload_n 0, 1) := by decide +kernel
theorem dX2_readOne_105 : decode cX2_readOne 105 = .ok (.iload_n 1, 1) := by decide +kernel
theorem dX2_readOne_106 : decode cX2_readOne 106 = .ok (.invokevirtual 127, 3) := by decide +kernel
theorem dX2_readOne_109 : decode cX2_readOne 109 = .ok (.istore_n 2, 1) := by decide +kernel
theorem dX2_readOne_110 : decode cX2_readOne 110 = .ok (.aload_n 0, 1) := by decide +kernel
theorem dX2_readOne_111 : decode cX2_readOne 111 = .ok (.dup, 1) := by decide +kernel
theorem dX2_readOne_112 : decode cX2_readOne 112 = .ok (.getfield 38, 3) := by decide +kernel
theorem dX2_readOne_115 : decode cX2_readOne 115 = .ok (.iconst 1, 1) := by decide +kernel
theorem dX2_readOne_116 : decode cX2_readOne 116 = .ok (.isub, 1) := by decide +kernel
theorem dX2_readOne_117 : decode cX2_readOne 117 = .ok (.putfield 38, 3) := by decide +kernel
theorem dX2_readOne_120 : decode cX2_readOne 120 = .ok (.iload_n 2, 1) := by decide +kernel
theorem dX2_readOne_121 : decode cX2_readOne 121 = .ok (.ireturn, 1) := by decide +kernel
theorem dX2_readNumber_0 : decode cX2_readNumber 0 = .ok (.aload_n 0, 1) := by decide +kernel
theorem dX2_readNumber_1 : decode cX2_readNumber 1 = .ok (.getfield 34, 3) := by decide +kernel
theorem dX2_readNumber_4 : decode cX2_readNumber 4 = .ok (.getfield 105, 3) := by decide +kernel
theorem dX2_readNumber_7 : decode cX2_readNumber 7 = .ok (.sipush 9999, 3) := by decide +kernel
theorem dX2_readNumber_10 : decode cX2_readNumber 10 = .ok (.if_icmp .le 9, 3) := by decide +kernel
theorem dX2_readNumber_13 : decode cX2_readNumber 13 = .ok (.aload_n 0, 1) := by decide +kernel
theorem dX2_readNumber_14 : decode cX2_readNumber 14 = .ok (.iconst 2, 1) := by decide +kernel
theorem dX2_readNumber_15 : decode cX2_readNumber 15 = .ok (.invokevirtual 82, 3) := by decide +kernel
theorem dX2_readNumber_18 : decode cX2_readNumber 18 = .ok (.ireturn, 1) := by decide +kernel
theorem dX2_readNumber_19 : decode cX2_readNumber 19 = .ok (.aload_n 0, 1) := by decide +kernel
theorem dX2_readNumber_20 : decode cX2_readNumber 20 = .ok (.bipush 27, 2) := by decide +kernel
theorem dX2_readNumber_22 : decode cX2_readNumber 22 = .ok (.aload_n 0, 1) := by decide +kernel
theorem dX2_readNumber_23 : decode cX2_readNumber 23 = .ok (.getfield 34, 3) := by decide +kernel
theorem dX2_readNumber_26 : decode cX2_readNumber 26 = .ok (.getfield 105, 3) := by decide +kernel
theorem dX2_readNumber_29 : decode cX2_readNumber 29 = .ok (.invokevirtual 114, 3) := by decide +kernel
theorem dX2_readNumber_32 : decode cX2_readNumber 32 = .ok (.pop, 1) := by decide +kernel
theorem dX2_readNumber_33 : decode cX2_readNumber 33 = .ok (.aload_n 0, 1) := by decide +kernel
theorem dX2_readNumber_34 : decode cX2_readNumber 34 = .ok (.getfield 34, 3) := by decide +kernel
theorem dX2_readNumber_37 : decode cX2_readNumber 37 = .ok (.invokevirtual 86, 3) := by decide +kernel
theorem dX2_readNumber_40 : decode cX2_readNumber 40 = .ok (.iconst 1, 1) := by decide +kernel
theorem dX2_readNumber_41 : decode cX2_readNumber 41 = .ok (.ireturn, 1) := by decide +kernel
theorem dX2_readName_0 : decode cX2_readName 0 = .ok (.iload_n 1, 1) := by decide +kernel
theorem dX2_readName_1 : decode cX2_readName 1 = .ok (.bipush 14, 2) := by decide +kernel
theorem dX2_readName_3 : decode cX2_readName 3 = .ok (.if_icmp .ne 10, 3) := by decide +kernel
theorem dX2_readName_6 : decode cX2_readName 6 = .ok (.aload_n 0, 1) := by decide +kernel
theorem dX2_readName_7 : decode cX2_readName 7 = .ok (.getfield 89, 3) := by decide +kernel
theorem dX2_readName_10 : decode cX2_readName 10 = .ok (.ifCond .eq 17, 3) := by decide +kernel
theorem dX2_readName_13 : decode cX2_readName 13 = .ok (.iload_n 1, 1) := by decide +kernel
theorem dX2_readName_14 : decode cX2_readName 14 = .ok (.bipush 15, 2) := by decide +kernel
theorem dX2_readName_16 : decode cX2_readName 16 = .ok (.if_icmp .ne 17, 3) := by decide +kernel
theorem dX2_readName_19 : decode cX2_readName 19 = .ok (.aload_n 0, 1) := by decide +kernel
theorem dX2_readName_20 : decode cX2_readName 20 = .ok (.getfield 89, 3) := by decide +kernel
theorem dX2_readName_23 : decode cX2_readName 23 = .ok (.iconst 1, 1) := by decide +kernel
theorem dX2_readName_24 : decode cX2_readName 24 = .ok (.if_icmp .eq 9, 3) := by decide +kernel
theorem dX2_readName_27 : decode cX2_readName 27 = .ok (.aload_n 0, 1) := by decide +kernel
theorem dX2_readName_28 : decode cX2_readName 28 = .ok (.iconst 5, 1) := by decide +kernel
theorem dX2_readName_29 : decode cX2_readName 29 = .ok (.invokevirtual 82, 3) := by decide +kernel
theorem dX2_readName_32 : decode cX2_readName 32 = .ok (.ireturn, 1) := by decide +kernel
theorem dX2_readName_33 : decode cX2_readName 33 = .ok (.aload_n 0, 1) := by decide +kernel
theorem dX2_readName_34 : decode cX2_readName 34 = .ok (.iload_n 1, 1) := by decide +kernel
theorem dX2_readName_35 : decode cX2_readName 35 = .ok (.iconst 0, 1) := by decide +kernel
theorem dX2_readName_36 : decode cX2_readName 36 = .ok (.invokevirtual 114, 3) := by decide +kernel
theorem dX2_readName_39 : decode cX2_readName 39 = .ok (.pop, 1) := by decide +kernel
theorem dX2_readName_40 : decode cX2_readName 40 = .ok (.aload_n 0, 1) := by decide +kernel
theorem dX2_readName_41 : decode cX2_readName 41 = .ok (.getfield 34, 3) := by decide +kernel
theorem dX2_readName_44 : decode cX2_readName 44 = .ok (.invokevirtual 86, 3) := by decide +kernel
theorem dX2_readName_47 : decode cX2_readName 47 = .ok (.iconst 1, 1) := by decide +kernel
theorem dX2_readName_48 : decode cX2_readName 48 = .ok (.ireturn, 1) := by decide +kernel
theorem dX2_readOpened_0 : decode cX2_readOpened 0 = .ok (.iload_n 1, 1) := by decide +kernel
theorem dX2_readOpened_1 : decode cX2_readOpened 1 = .ok (.bipush 36, 2) := by decide +kernel
theorem dX2_readOpened_3 : decode cX2_readOpened 3 = .ok (.if_icmp .ne 25, 3) := by decide +kernel
theorem dX2_readOpened_6 : decode cX2_readOpened 6 = .ok (.aload_n 0, 1) := by decide +kernel
theorem dX2_readOpened_7 : decode cX2_readOpened 7 = .ok (.invokevirtual 92, 3) := by decide +kernel
theorem dX2_readOpened_10 : decode cX2_readOpened 10 = .ok (.ifCond .eq 16, 3) := by decide +kernel
theorem dX2_readOpened_13 : decode cX2_readOpened 13 = .ok (.aload_n 0, 1) := by decide +kernel
theorem dX2_readOpened_14 : decode cX2_readOpened 14 = .ok (.bipush 37, 2) := by decide +kernel
theorem dX2_readOpened_16 : decode cX2_readOpened 16 = .ok (.invokevirtual 98, 3) := by decide +kernel
theorem dX2_readOpened_19 : decode cX2_readOpened 19 = .ok (.ifCond .eq 7, 3) := by decide +kernel
theorem dX2_readOpened_22 : decode cX2_readOpened 22 = .ok (.iconst 1, 1) := by decide +kernel
theorem dX2_readOpened_23 : decode cX2_readOpened 23 = .ok (.goto 4, 3) := by decide +kernel
theorem dX2_readOpened_26 : decode cX2_readOpened 26 = .ok (.iconst 0, 1) := by decide +kernel
theorem dX2_readOpened_27 : decode cX2_readOpened 27 = .ok (.ireturn, 1) := by decide +kernel
theorem dX2_readOpened_28 : decode cX2_readOpened 28 = .ok (.iload_n 1, 1) := by decide +kernel
theorem dX2_readOpened_29 : decode cX2_readOpened 29 = .ok (.bipush 20, 2) := by decide +kernel
theorem dX2_readOpened_31 : decode cX2_readOpened 31 = .ok (.if_icmp .ne 8, 3) := by decide +kernel
theorem dX2_readOpened_34 : decode cX2_readOpened 34 = .ok (.aload_n 0, 1) := by decide +kernel
theorem dX2_readOpened_35 : decode cX2_readOpened 35 = .ok (.invokevirtual 130, 3) := by decide +kernel
theorem dX2_readOpened_38 : decode cX2_readOpened 38 = .ok (.ireturn, 1) := by decide +kernel
theorem dX2_readOpened_39 : decode cX2_readOpened 39 = .ok (.aload_n 0, 1) := by decide +kernel
theorem dX2_readOpened_40 : decode cX2_readOpened 40 = .ok (.invokevirtual 118, 3) := by decide +kernel
theorem dX2_readOpened_43 : decode cX2_readOpened 43 = .ok (.istore_n 2, 1) := by decide +kernel
theorem dX2_readOpened_44 : decode cX2_readOpened 44 = .ok (.aload_n 0, 1) := by decide +kernel
theorem dX2_readOpened_45 : decode cX2_readOpened 45 = .ok (.iload_n 1, 1) := by decide +kernel
theorem dX2_readOpened_46 : decode cX2_readOpened 46 = .ok (.bipush 33, 2) := by decide +kernel
theorem dX2_readOpened_48 : decode cX2_readOpened 48 = .ok (.if_icmp .ne 8, 3) := by decide +kernel
theorem dX2_readOpened_51 : decode cX2_readOpened 51 = .ok (.bipush 43, 2) := by decide +kernel
theorem dX2_readOpened_53 : decode cX2_readOpened 53 = .ok (.goto 4, 3) := by decide +kernel
theorem dX2_readOpened_56 : decode cX2_readOpened 56 = .ok (.iload_n 1, 1) := by decide +kernel
theorem dX2_readOpened_57 : decode cX2_readOpened 57 = .ok (.iconst 0, 1) := by decide +kernel
theorem dX2_readOpened_58 : decode cX2_readOpened 58 = .ok (.invokevirtual 114, 3) := by decide +kernel
theorem dX2_readOpened_61 : decode cX2_readOpened 61 = .ok (.pop, 1) := by decide +kernel
theorem dX2_readOpened_62 : decode cX2_readOpened 62 = .ok (.iload_n 2, 1) := by decide +kernel
theorem dX2_readOpened_63 : decode cX2_readOpened 63 = .ok (.ireturn, 1) := by decide +kernel
theorem dX2_readChoice_0 : decode cX2_readChoice 0 = .ok (.aload_n 0, 1) := by decide +kernel
theorem dX2_readChoice_1 : decode cX2_readChoice 1 = .ok (.invokevirtual 133, 3) := by decide +kernel
theorem dX2_readChoice_4 : decode cX2_readChoice 4 = .ok (.ifCond .eq 12, 3) := by decide +kernel
theorem dX2_readChoice_7 : decode cX2_readChoice 7 = .ok (.aload_n 0, 1) := by decide +kernel
theorem dX2_readChoice_8 : decode cX2_readChoice 8 = .ok (.bipush 21, 2) := by decide +kernel
theorem dX2_readChoice_10 : decode cX2_readChoice 10 = .ok (.invokevirtual 98, 3) := by decide +kernel
theorem dX2_readChoice_13 : decode cX2_readChoice 13 = .ok (.ifCond .ne 5, 3) := by decide +kernel
theorem dX2_readChoice_16 : decode cX2_readChoice 16 = .ok (.iconst 0, 1) := by decide +kernel
theorem dX2_readChoice_17 : decode cX2_readChoice 17 = .ok (.ireturn, 1) := by decide +kernel
theorem dX2_readChoice_18 : decode cX2_readChoice 18 = .ok (.aload_n 0, 1) := by decide +kernel
theorem dX2_readChoice_19 : decode cX2_readChoice 19 = .ok (.bipush 21, 2) := by decide +kernel
theorem dX2_readChoice_21 : decode cX2_readChoice 21 = .ok (.iconst 0, 1) := by decide +kernel
theorem dX2_readChoice_22 : decode cX2_readChoice 22 = .ok (.invokevirtual 114, 3) := by decide +kernel
theorem dX2_readChoice_25 : decode cX2_readChoice 25 = .ok (.istore_n 1, 1) := by decide +kernel
theorem dX2_readChoice_26 : decode cX2_readChoice 26 = .ok (.aload_n 0, 1) := by decide +kernel
theorem dX2_readChoice_27 : decode cX2_readChoice 27 = .ok (.invokevirtual 92, 3) := by decide +kernel
theorem dX2_readChoice_30 : decode cX2_readChoice 30 = .ok (.ifCond .eq 12, 3) := by decide +kernel
theorem dX2_readChoice_33 : decode cX2_readChoice 33 = .ok (.aload_n 0, 1) := by decide +kernel
theorem dX2_readChoice_34 : decode cX2_readChoice 34 = .ok (.bipush 22, 2) := by decide +kernel
theorem dX2_readChoice_36 : decode cX2_readChoice 36 = .ok (.invokevirtual 98, 3) := by decide +kernel
theorem dX2_readChoice_39 : decode cX2_readChoice 39 = .ok (.ifCond .ne 5, 3) := by decide +kernel
theorem dX2_readChoice_42 : decode cX2_readChoice 42 = .ok (.iconst 0, 1) := by decide +kernel
theorem dX2_readChoice_43 : decode cX2_readChoice 43 = .ok (.ireturn, 1) := by decide +kernel
theorem dX2_readChoice_44 : decode cX2_readChoice 44 = .ok (.aload_n 0, 1) := by decide +kernel
theorem dX2_readChoice_45 : decode cX2_readChoice 45 = .ok (.bipush 22, 2) := by decide +kernel
theorem dX2_readChoice_47 : decode cX2_readChoice 47 = .ok (.iconst 0, 1) := by decide +kernel
theorem dX2_readChoice_48 : decode cX2_readChoice 48 = .ok (.invokevirtual 114, 3) := by decide +kernel
theorem dX2_readChoice_51 : decode cX2_readChoice 51 = .ok (.istore_n 2, 1) := by decide +kernel
theorem dX2_readChoice_52 : decode cX2_readChoice 52 = .ok (.aload_n 0, 1) := by decide +kernel
theorem dX2_readChoice_53 : decode cX2_readChoice 53 = .ok (.iload_n 1, 1) := by decide +kernel
theorem dX2_readChoice_54 : decode cX2_readChoice 54 = .ok (.invokevirtual 136, 3) := by decide +kernel
theorem dX2_readChoice_57 : decode cX2_readChoice 57 = .ok (.aload_n 0, 1) := by decide +kernel
theorem dX2_readChoice_58 : decode cX2_readChoice 58 = .ok (.invokevirtual 92, 3) := by decide +kernel
theorem dX2_readChoice_61 : decode cX2_readChoice 61 = .ok (.ifCond .eq 12, 3) := by decide +kernel
theorem dX2_readChoice_64 : decode cX2_readChoice 64 = .ok (.aload_n 0, 1) := by decide +kernel
theorem dX2_readChoice_65 : decode cX2_readChoice 65 = .ok (.bipush 23, 2) := by decide +kernel
theorem dX2_readChoice_67 : decode cX2_readChoice 67 = .ok (.invokevirtual 98, 3) := by decide +kernel
theorem dX2_readChoice_70 : decode cX2_readChoice 70 = .ok (.ifCond .ne 5, 3) := by decide +kernel
theorem dX2_readChoice_73 : decode cX2_readChoice 73 = .ok (.iconst 0, 1) := by decide +kernel
theorem dX2_readChoice_74 : decode cX2_readChoice 74 = .ok (.ireturn, 1) := by decide +kernel
theorem dX2_readChoice_75 : decode cX2_readChoice 75 = .ok (.aload_n 0, 1) := by decide +kernel
theorem dX2_readChoice_76 : decode cX2_readChoice 76 = .ok (.iload_n 2, 1) := by decide +kernel
theorem dX2_readChoice_77 : decode cX2_readChoice 77 = .ok (.invokevirtual 136, 3) := by decide +kernel
theorem dX2_readChoice_80 : decode cX2_readChoice 80 = .ok (.iconst 1, 1) := by decide +kernel
theorem dX2_readChoice_81 : decode cX2_readChoice 81 = .ok (.ireturn, 1) := by decide +kernel
theorem dX2_readEither_0 : decode cX2_readEither 0 = .ok (.aload_n 0, 1) := by decide +kernel
theorem dX2_readEither_1 : decode cX2_readEither 1 = .ok (.invokevirtual 140, 3) := by decide +kernel
theorem dX2_readEither_4 : decode cX2_readEither 4 = .ok (.istore_n 1, 1) := by decide +kernel
theorem dX2_readEither_5 : decode cX2_readEither 5 = .ok (.iconst 0, 1) := by decide +kernel
theorem dX2_readEither_6 : decode cX2_readEither 6 = .ok (.istore_n 2, 1) := by decide +kernel
theorem dX2_readEither_7 : decode cX2_readEither 7 = .ok (.iload_n 2, 1) := by decide +kernel
theorem dX2_readEither_8 : decode cX2_readEither 8 = .ok (.sipush 300, 3) := by decide +kernel
theorem dX2_readEither_11 : decode cX2_readEither 11 = .ok (.if_icmp .ge 45, 3) := by decide +kernel
theorem dX2_readEither_14 : decode cX2_readEither 14 = .ok (.iload_n 1, 1) := by decide +kernel
theorem dX2_readEither_15 : decode cX2_readEither 15 = .ok (.ifCond .eq 41, 3) := by decide +kernel
theorem dX2_readEither_18 : decode cX2_readEither 18 = .ok (.aload_n 0, 1) := by decide +kernel
theorem dX2_readEither_19 : decode cX2_readEither 19 = .ok (.getfield 34, 3) := by decide +kernel
theorem dX2_readEither_22 : decode cX2_readEither 22 = .ok (.getfield 58, 3) := by decide +kernel
theorem dX2_readEither_25 : decode cX2_readEither 25 = .ok (.bipush 24, 2) := by decide +kernel
theorem dX2_readEither_27 : decode cX2_readEither 27 = .ok (.if_icmp .ne 29, 3) := by decide +kernel
theorem dX2_readEither_30 : decode cX2_readEither 30 = .ok (.aload_n 0, 1) := by decide +kernel
theorem dX2_readEither_31 : decode cX2_readEither 31 = .ok (.getfield 34, 3) := by decide +kernel
theorem dX2_readEither_34 : decode cX2_readEither 34 = .ok (.invokevirtual 86, 3) := by decide +kernel
theorem dX2_readEither_37 : decode cX2_readEither 37 = .ok (.aload_n 0, 1) := by decide +kernel
theorem dX2_readEither_38 : decode cX2_readEither 38 = .ok (.invokevirtual 140, 3) := by decide +kernel
theorem dX2_readEither_41 : decode cX2_readEither 41 = .ok (.istore_n 1, 1) := by decide +kernel
theorem dX2_readEither_42 : decode cX2_readEither 42 = .ok (.aload_n 0, 1) := by decide +kernel
theorem dX2_readEither_43 : decode cX2_readEither 43 = .ok (.bipush 24, 2) := by decide +kernel
theorem dX2_readEither_45 : decode cX2_readEither 45 = .ok (.iconst 0, 1) := by decide +kernel
theorem dX2_readEither_46 : decode cX2_readEither 46 = .ok (.invokevirtual 114, 3) := by decide +kernel
theorem dX2_readEither_49 : decode cX2_readEither 49 = .ok (.pop, 1) := by decide +kernel
theorem dX2_readEither_50 : decode cX2_readEither 50 = .ok (.iinc 2 1, 3) := by decide +kernel
theorem dX2_readEither_53 : decode cX2_readEither 53 = .ok (.goto (-46), 3) := by decide +kernel
theorem dX2_readEither_56 : decode cX2_readEither 56 = .ok (.iload_n 1, 1) := by decide +kernel
theorem dX2_readEither_57 : decode cX2_readEither 57 = .ok (.ireturn, 1) := by decide +kernel
theorem dX2_readBoth_0 : decode cX2_readBoth 0 = .ok (.aload_n 0, 1) := by decide +kernel
theorem dX2_readBoth_1 : decode cX2_readBoth 1 = .ok (.invokevirtual 143, 3) := by decide +kernel
theorem dX2_readBoth_4 : decode cX2_readBoth 4 = .ok (.istore_n 1, 1) := by decide +kernel
theorem dX2_readBoth_5 : decode cX2_readBoth 5 = .ok (.iconst 0, 1) := by decide +kernel
theorem dX2_readBoth_6 : decode cX2_readBoth 6 = .ok (.istore_n 2, 1) := by decide +kernel
theorem dX2_readBoth_7 : decode cX2_readBoth 7 = .ok (.iload_n 2, 1) := by decide +kernel
theorem dX2_readBoth_8 : decode cX2_readBoth 8 = .ok (.sipush 300, 3) := by decide +kernel
theorem dX2_readBoth_11 : decode cX2_readBoth 11 = .ok (.if_icmp .ge 45, 3) := by decide +kernel
theorem dX2_readBoth_14 : decode cX2_readBoth 14 = .ok (.iload_n 1, 1) := by decide +kernel
theorem dX2_readBoth_15 : decode cX2_readBoth 15 = .ok (.ifCond .eq 41, 3) := by decide +kernel
theorem dX2_readBoth_18 : decode cX2_readBoth 18 = .ok (.aload_n 0, 1) := by decide +kernel
theorem dX2_readBoth_19 : decode cX2_readBoth 19 = .ok (.getfield 34, 3) := by decide +kernel
theorem dX2_readBoth_22 : decode cX2_readBoth 22 = .ok (.getfield 58, 3) := by decide +kernel
theorem dX2_readBoth_25 : decode cX2_readBoth 25 = .ok (.bipush 25, 2) := by decide +kernel
theorem dX2_readBoth_27 : decode cX2_readBoth 27 = .ok (.if_icmp .ne 29, 3) := by decide +kernel
theorem dX2_readBoth_30 : decode cX2_readBoth 30 = .ok (.aload_n 0, 1) := by decide +kernel
theorem dX2_readBoth_31 : decode cX2_readBoth 31 = .ok (.getfield 34, 3) := by decide +kernel
theorem dX2_readBoth_34 : decode cX2_readBoth 34 = .ok (.invokevirtual 86, 3) := by decide +kernel
theorem dX2_readBoth_37 : decode cX2_readBoth 37 = .ok (.aload_n 0, 1) := by decide +kernel
theorem dX2_readBoth_38 : decode cX2_readBoth 38 = .ok (.invokevirtual 143, 3) := by decide +kernel
theorem dX2_readBoth_41 : decode cX2_readBoth 41 = .ok (.istore_n 1, 1) := by decide +kernel
theorem dX2_readBoth_42 : decode cX2_readBoth 42 = .ok (.aload_n 0, 1) := by decide +kernel
theorem dX2_readBoth_43 : decode cX2_readBoth 43 = .ok (.bipush 25, 2) := by decide +kernel
theorem dX2_readBoth_45 : decode cX2_readBoth 45 = .ok (.iconst 0, 1) := by decide +kernel
theorem dX2_readBoth_46 : decode cX2_readBoth 46 = .ok (.invokevirtual 114, 3) := by decide +kernel
theorem dX2_readBoth_49 : decode cX2_readBoth 49 = .ok (.pop, 1) := by decide +kernel
theorem dX2_readBoth_50 : decode cX2_readBoth 50 = .ok (.iinc 2 1, 3) := by decide +kernel
theorem dX2_readBoth_53 : decode cX2_readBoth 53 = .ok (.goto (-46), 3) := by decide +kernel
theorem dX2_readBoth_56 : decode cX2_readBoth 56 = .ok (.iload_n 1, 1) := by decide +kernel
theorem dX2_readBoth_57 : decode cX2_readBoth 57 = .ok (.ireturn, 1) := by decide +kernel
theorem dX2_readAsk_0 : decode cX2_readAsk 0 = .ok (.aload_n 0, 1) := by decide +kernel
theorem dX2_readAsk_1 : decode cX2_readAsk 1 = .ok (.getfield 34, 3) := by decide +kernel
theorem dX2_readAsk_4 : decode cX2_readAsk 4 = .ok (.getfield 58, 3) := by decide +kernel
theorem dX2_readAsk_7 : decode cX2_readAsk 7 = .ok (.bipush 26, 2) := by decide +kernel
theorem dX2_readAsk_9 : decode cX2_readAsk 9 = .ok (.if_icmp .eq 8, 3) := by decide +kernel
theorem dX2_readAsk_12 : decode cX2_readAsk 12 = .ok (.aload_n 0, 1) := by decide +kernel
theorem dX2_readAsk_13 : decode cX2_readAsk 13 = .ok (.invokevirtual 146, 3) := by decide +kernel
theorem dX2_readAsk_16 : decode cX2_readAsk 16 = .ok (.ireturn, 1) := by decide +kernel
theorem dX2_readAsk_17 : decode cX2_readAsk 17 = .ok (.aload_n 0, 1) := by decide +kernel
theorem dX2_readAsk_18 : decode cX2_readAsk 18 = .ok (.getfield 38, 3) := by decide +kernel
theorem dX2_readAsk_21 : decode cX2_readAsk 21 = .ok (.bipush 8, 2) := by decide +kernel
theorem dX2_readAsk_23 : decode cX2_readAsk 23 = .ok (.if_icmp .lt 9, 3) := by decide +kernel
theorem dX2_readAsk_26 : decode cX2_readAsk 26 = .ok (.aload_n 0, 1) := by decide +kernel
theorem dX2_readAsk_27 : decode cX2_readAsk 27 = .ok (.iconst 3, 1) := by decide +kernel
theorem dX2_readAsk_28 : decode cX2_readAsk 28 = .ok (.invokevirtual 82, 3) := by decide +kernel
theorem dX2_readAsk_31 : decode cX2_readAsk 31 = .ok (.ireturn, 1) := by decide +kernel
theorem dX2_readAsk_32 : decode cX2_readAsk 32 = .ok (.aload_n 0, 1) := by decide +kernel
theorem dX2_readAsk_33 : decode cX2_readAsk 33 = .ok (.dup, 1) := by decide +kernel
theorem dX2_readAsk_34 : decode cX2_readAsk 34 = .ok (.getfield 38, 3) := by decide +kernel
theorem dX2_readAsk_37 : decode cX2_readAsk 37 = .ok (.iconst 1, 1) := by decide +kernel
theorem dX2_readAsk_38 : decode cX2_readAsk 38 = .ok (.iadd, 1) := by decide +kernel
theorem dX2_readAsk_39 : decode cX2_readAsk 39 = .ok (.putfield 38, 3) := by decide +kernel
theorem dX2_readAsk_42 : decode cX2_readAsk 42 = .ok (.aload_n 0, 1) := by decide +kernel
theorem dX2_readAsk_43 : decode cX2_readAsk 43 = .ok (.getfield 34, 3) := by decide +kernel
theorem dX2_readAsk_46 : decode cX2_readAsk 46 = .ok (.invokevirtual 86, 3) := by decide +kernel
theorem dX2_readAsk_49 : decode cX2_readAsk 49 = .ok (.aload_n 0, 1) := by decide +kernel
theorem dX2_readAsk_50 : decode cX2_readAsk 50 = .ok (.invokevirtual 143, 3) := by decide +kernel
theorem dX2_readAsk_53 : decode cX2_readAsk 53 = .ok (.istore_n 1, 1) := by decide +kernel
theorem dX2_readAsk_54 : decode cX2_readAsk 54 = .ok (.aload_n 0, 1) := by decide +kernel
theorem dX2_readAsk_55 : decode cX2_readAsk 55 = .ok (.dup, 1) := by decide +kernel
theorem dX2_readAsk_56 : decode cX2_readAsk 56 = .ok (.getfield 38, 3) := by decide +kernel
theorem dX2_readAsk_59 : decode cX2_readAsk 59 = .ok (.iconst 1, 1) := by decide +kernel
theorem dX2_readAsk_60 : decode cX2_readAsk 60 = .ok (.isub, 1) := by decide +kernel
theorem dX2_readAsk_61 : decode cX2_readAsk 61 = .ok (.putfield 38, 3) := by decide +kernel
theorem dX2_readAsk_64 : decode cX2_readAsk 64 = .ok (.aload_n 0, 1) := by decide +kernel
theorem dX2_readAsk_65 : decode cX2_readAsk 65 = .ok (.bipush 26, 2) := by decide +kernel
theorem dX2_readAsk_67 : decode cX2_readAsk 67 = .ok (.iconst 0, 1) := by decide +kernel
theorem dX2_readAsk_68 : decode cX2_readAsk 68 = .ok (.invokevirtual 114, 3) := by decide +kernel
theorem dX2_readAsk_71 : decode cX2_readAsk 71 = .ok (.pop, 1) := by decide +kernel
theorem dX2_readAsk_72 : decode cX2_readAsk 72 = .ok (.iload_n 1, 1) := by decide +kernel
theorem dX2_readAsk_73 : decode cX2_readAsk 73 = .ok (.ireturn, 1) := by decide +kernel
theorem dX2_readComparison_0 : decode cX2_readComparison 0 = .ok (.aload_n 0, 1) := by decide +kernel
theorem dX2_readComparison_1 : decode cX2_readComparison 1 = .ok (.invokevirtual 92, 3) := by decide +kernel
theorem dX2_readComparison_4 : decode cX2_readComparison 4 = .ok (.ifCond .ne 5, 3) := by decide +kernel
theorem dX2_readComparison_7 : decode cX2_readComparison 7 = .ok (.iconst 0, 1) := by decide +kernel
theorem dX2_readComparison_8 : decode cX2_readComparison 8 = .ok (.ireturn, 1) := by decide +kernel
theorem dX2_readComparison_9 : decode cX2_readComparison 9 = .ok (.aload_n 0, 1) := by decide +kernel
theorem dX2_readComparison_10 : decode cX2_readComparison 10 = .ok (.getfield 34, 3) := by decide +kernel
theorem dX2_readComparison_13 : decode cX2_readComparison 13 = .ok (.getfield 58, 3) := by decide +kernel
theorem dX2_readComparison_16 : decode cX2_readComparison 16 = .ok (.istore_n 1, 1) := by decide +kernel
theorem dX2_readComparison_17 : decode cX2_readComparison 17 = .ok (.iload_n 1, 1) := by decide +kernel
theorem dX2_readComparison_18 : decode cX2_readComparison 18 = .ok (.bipush 28, 2) := by decide +kernel
theorem dX2_readComparison_20 : decode cX2_readComparison 20 = .ok (.bipush 31, 2) := by decide +kernel
theorem dX2_readComparison_22 : decode cX2_readComparison 22 = .ok (.invokestatic 108, 3) := by decide +kernel
theorem dX2_readComparison_25 : decode cX2_readComparison 25 = .ok (.ifCond .ne 21, 3) := by decide +kernel
theorem dX2_readComparison_28 : decode cX2_readComparison 28 = .ok (.iload_n 1, 1) := by decide +kernel
theorem dX2_readComparison_29 : decode cX2_readComparison 29 = .ok (.bipush 39, 2) := by decide +kernel
theorem dX2_readComparison_31 : decode cX2_readComparison 31 = .ok (.if_icmp .eq 15, 3) := by decide +kernel
theorem dX2_readComparison_34 : decode cX2_readComparison 34 = .ok (.iload_n 1, 1) := by decide +kernel
theorem dX2_readComparison_35 : decode cX2_readComparison 35 = .ok (.bipush 40, 2) := by decide +kernel
theorem dX2_readComparison_37 : decode cX2_readComparison 37 = .ok (.if_icmp .eq 9, 3) := by decide +kernel
theorem dX2_readComparison_40 : decode cX2_readComparison 40 = .ok (.aload_n 0, 1) := by decide +kernel
theorem dX2_readComparison_41 : decode cX2_readComparison 41 = .ok (.iconst 1, 1) := by decide +kernel
theorem dX2_readComparison_42 : decode cX2_readComparison 42 = .ok (.invokevirtual 82, 3) := by decide +kernel
theorem dX2_readComparison_45 : decode cX2_readComparison 45 = .ok (.ireturn, 1) := by decide +kernel
theorem dX2_readComparison_46 : decode cX2_readComparison 46 = .ok (.aload_n 0, 1) := by decide +kernel
theorem dX2_readComparison_47 : decode cX2_readComparison 47 = .ok (.getfield 34, 3) := by decide +kernel
theorem dX2_readComparison_50 : decode cX2_readComparison 50 = .ok (.invokevirtual 86, 3) := by decide +kernel
theorem dX2_readComparison_53 : decode cX2_readComparison 53 = .ok (.aload_n 0, 1) := by decide +kernel
theorem dX2_readComparison_54 : decode cX2_readComparison 54 = .ok (.invokevirtual 92, 3) := by decide +kernel
theorem dX2_readComparison_57 : decode cX2_readComparison 57 = .ok (.istore_n 2, 1) := by decide +kernel
theorem dX2_readComparison_58 : decode cX2_readComparison 58 = .ok (.aload_n 0, 1) := by decide +kernel
theorem dX2_readComparison_59 : decode cX2_readComparison 59 = .ok (.iload_n 1, 1) := by decide +kernel
theorem dX2_readComparison_60 : decode cX2_readComparison 60 = .ok (.iconst 0, 1) := by decide +kernel
theorem dX2_readComparison_61 : decode cX2_readComparison 61 = .ok (.invokevirtual 114, 3) := by decide +kernel
theorem dX2_readComparison_64 : decode cX2_readComparison 64 = .ok (.pop, 1) := by decide +kernel
theorem dX2_readComparison_65 : decode cX2_readComparison 65 = .ok (.iload_n 2, 1) := by decide +kernel
theorem dX2_readComparison_66 : decode cX2_readComparison 66 = .ok (.ireturn, 1) := by decide +kernel
theorem dX2_order_0 : decode cX2_order 0 = .ok (.aload_n 0, 1) := by decide +kernel
theorem dX2_order_1 : decode cX2_order 1 = .ok (.getfield 41, 3) := by decide +kernel
theorem dX2_order_4 : decode cX2_order 4 = .ok (.iconst 0, 1) := by decide +kernel
theorem dX2_order_5 : decode cX2_order 5 = .ok (.sipush 299, 3) := by decide +kernel
theorem dX2_order_8 : decode cX2_order 8 = .ok (.invokestatic 108, 3) := by decide +kernel
theorem dX2_order_11 : decode cX2_order 11 = .ok (.ifCond .ne 5, 3) := by decide +kernel
theorem dX2_order_14 : decode cX2_order 14 = .ok (.iconst (-1), 1) := by decide +kernel
theorem dX2_order_15 : decode cX2_order 15 = .ok (.ireturn, 1) := by decide +kernel
theorem dX2_order_16 : decode cX2_order 16 = .ok (.aload_n 0, 1) := by decide +kernel
theorem dX2_order_17 : decode cX2_order 17 = .ok (.getfield 18, 3) := by decide +kernel
theorem dX2_order_20 : decode cX2_order 20 = .ok (.aload_n 0, 1) := by decide +kernel
theorem dX2_order_21 : decode cX2_order 21 = .ok (.getfield 41, 3) := by decide +kernel
theorem dX2_order_24 : decode cX2_order 24 = .ok (.iload_n 1, 1) := by decide +kernel
theorem dX2_order_25 : decode cX2_order 25 = .ok (.iastore, 1) := by decide +kernel
theorem dX2_order_26 : decode cX2_order 26 = .ok (.aload_n 0, 1) := by decide +kernel
theorem dX2_order_27 : decode cX2_order 27 = .ok (.getfield 22, 3) := by decide +kernel
theorem dX2_order_30 : decode cX2_order 30 = .ok (.aload_n 0, 1) := by decide +kernel
theorem dX2_order_31 : decode cX2_order 31 = .ok (.getfield 41, 3) := by decide +kernel
theorem dX2_order_34 : decode cX2_order 34 = .ok (.iload_n 2, 1) := by decide +kernel
theorem dX2_order_35 : decode cX2_order 35 = .ok (.iastore, 1) := by decide +kernel
theorem dX2_order_36 : decode cX2_order 36 = .ok (.aload_n 0, 1) := by decide +kernel
theorem dX2_order_37 : decode cX2_order 37 = .ok (.dup, 1) := by decide +kernel
theorem dX2_order_38 : decode cX2_order 38 = .ok (.getfield 41, 3) := by decide +kernel
theorem dX2_order_41 : decode cX2_order 41 = .ok (.iconst 1, 1) := by decide +kernel
theorem dX2_order_42 : decode cX2_order 42 = .ok (.iadd, 1) := by decide +kernel
theorem dX2_order_43 : decode cX2_order 43 = .ok (.putfield 41, 3) := by decide +kernel
theorem dX2_order_46 : decode cX2_order 46 = .ok (.aload_n 0, 1) := by decide +kernel
theorem dX2_order_47 : decode cX2_order 47 = .ok (.getfield 41, 3) := by decide +kernel
theorem dX2_order_50 : decode cX2_order 50 = .ok (.iconst 1, 1) := by decide +kernel
theorem dX2_order_51 : decode cX2_order 51 = .ok (.isub, 1) := by decide +kernel
theorem dX2_order_52 : decode cX2_order 52 = .ok (.ireturn, 1) := by decide +kernel
theorem dX2_aim_0 : decode cX2_aim 0 = .ok (.iload_n 1, 1) := by decide +kernel
theorem dX2_aim_1 : decode cX2_aim 1 = .ok (.iconst 0, 1) := by decide +kernel
theorem dX2_aim_2 : decode cX2_aim 2 = .ok (.sipush 299, 3) := by decide +kernel
theorem dX2_aim_5 : decode cX2_aim 5 = .ok (.invokestatic 108, 3) := by decide +kernel
theorem dX2_aim_8 : decode cX2_aim 8 = .ok (.ifCond .eq 13, 3) := by decide +kernel
theorem dX2_aim_11 : decode cX2_aim 11 = .ok (.aload_n 0, 1) := by decide +kernel
theorem dX2_aim_12 : decode cX2_aim 12 = .ok (.getfield 22, 3) := by decide +kernel
theorem dX2_aim_15 : decode cX2_aim 15 = .ok (.iload_n 1, 1) := by decide +kernel
theorem dX2_aim_16 : decode cX2_aim 16 = .ok (.aload_n 0, 1) := by decide +kernel
theorem dX2_aim_17 : decode cX2_aim 17 = .ok (.getfield 41, 3) := by decide +kernel
theorem dX2_aim_20 : decode cX2_aim 20 = .ok (.iastore, 1) := by decide +kernel
theorem dX2_aim_21 : decode cX2_aim 21 = .ok (.return_, 1) := by decide +kernel
theorem dX3_init_0 : decode cX3_init 0 = .ok (.aload_n 0, 1) := by decide +kernel
theorem dX3_init_1 : decode cX3_init 1 = .ok (.invokespecial 1, 3) := by decide +kernel
theorem dX3_init_4 : decode cX3_init 4 = .ok (.aload_n 0, 1) := by decide +kernel
theorem dX3_init_5 : decode cX3_init 5 = .ok (.iload_n 1, 1) := by decide +kernel
theorem dX3_init_6 : decode cX3_init 6 = .ok (.iconst 0, 1) := by decide +kernel
theorem dX3_init_7 : decode cX3_init 7 = .ok (.invokestatic 7, 3) := by decide +kernel
theorem dX3_init_10 : decode cX3_init 10 = .ok (.newarray .int, 2) := by decide +kernel
theorem dX3_init_12 : decode cX3_init 12 = .ok (.putfield 13, 3) := by decide +kernel
theorem dX3_init_15 : decode cX3_init 15 = .ok (.return_, 1) := by decide +kernel
theorem dX3_has_0 : decode cX3_has 0 = .ok (.iload_n 1, 1) := by decide +kernel
theorem dX3_has_1 : decode cX3_has 1 = .ok (.ifCond .lt 24, 3) := by decide +kernel
theorem dX3_has_4 : decode cX3_has 4 = .ok (.iload_n 1, 1) := by decide +kernel
theorem dX3_has_5 : decode cX3_has 5 = .ok (.aload_n 0, 1) := by decide +kernel
theorem dX3_has_6 : decode cX3_has 6 = .ok (.getfield 19, 3) := by decide +kernel
theorem dX3_has_9 : decode cX3_has 9 = .ok (.if_icmp .ge 16, 3) := by decide +kernel
theorem dX3_has_12 : decode cX3_has 12 = .ok (.iload_n 1, 1) := by decide +kernel
theorem dX3_has_13 : decode cX3_has 13 = .ok (.aload_n 0, 1) := by decide +kernel
theorem dX3_has_14 : decode cX3_has 14 = .ok (.getfield 13, 3) := by decide +kernel
theorem dX3_has_17 : decode cX3_has 17 = .ok (.arraylength, 1) := by decide +kernel
theorem dX3_has_18 : decode cX3_has 18 = .ok (.if_icmp .ge 7, 3) := by decide +kernel
theorem dX3_has_21 : decode cX3_has 21 = .ok (.iconst 1, 1) := by decide +kernel
theorem dX3_has_22 : decode cX3_has 22 = .ok (.goto 4, 3) := by decide +kernel
theorem dX3_has_25 : decode cX3_has 25 = .ok (.iconst 0, 1) := by decide +kernel
theorem dX3_has_26 : decode cX3_has 26 = .ok (.ireturn, 1) := by decide +kernel
theorem dX3_get_0 : decode cX3_get 0 = .ok (.aload_n 0, 1) := by decide +kernel
theorem dX3_get_1 : decode cX3_get 1 = .ok (.iload_n 1, 1) := by decide +kernel
theorem dX3_get_2 : decode cX3_get 2 = .ok (.invokevirtual 23, 3) := by decide +kernel
theorem dX3_get_5 : decode cX3_get 5 = .ok (.ifCond .eq 12, 3) := by decide +kernel
theorem dX3_get_8 : decode cX3_get 8 = .ok (.aload_n 0, 1) := by decide +kernel
theorem dX3_get_9 : decode cX3_get 9 = .ok (.getfield 13, 3) := by decide +kernel
theorem dX3_get_12 : decode cX3_get 12 = .ok (.iload_n 1, 1) := by decide +kernel
theorem dX3_get_13 : decode cX3_get 13 = .ok (.iaload, 1) := by decide +kernel
theorem dX3_get_14 : decode cX3_get 14 = .ok (.goto 4, 3) := by decide +kernel
theorem dX3_get_17 : decode cX3_get 17 = .ok (.iconst 0, 1) := by decide +kernel
theorem dX3_get_18 : decode cX3_get 18 = .ok (.ireturn, 1) := by decide +kernel
theorem dX3_append_0 : decode cX3_append 0 = .ok (.aload_n 0, 1) := by decide +kernel
theorem dX3_append_1 : decode cX3_append 1 = .ok (.getfield 19, 3) := by decide +kernel
theorem dX3_append_4 : decode cX3_append 4 = .ok (.iconst 0, 1) := by decide +kernel
theorem dX3_append_5 : decode cX3_append 5 = .ok (.aload_n 0, 1) := by decide +kernel
theorem dX3_append_6 : decode cX3_append 6 = .ok (.getfield 13, 3) := by decide +kernel
theorem dX3_append_9 : decode cX3_append 9 = .ok (.arraylength, 1) := by decide +kernel
theorem dX3_append_10 : decode cX3_append 10 = .ok (.iconst 1, 1) := by decide +kernel
theorem dX3_append_11 : decode cX3_append 11 = .ok (.isub, 1) := by decide +kernel
theorem dX3_append_12 : decode cX3_append 12 = .ok (.invokestatic 27, 3) := by decide +kernel
theorem dX3_append_15 : decode cX3_append 15 = .ok (.ifCond .ne 5, 3) := by decide +kernel
theorem dX3_append_18 : decode cX3_append 18 = .ok (.iconst 0, 1) := by decide +kernel
theorem dX3_append_19 : decode cX3_append 19 = .ok (.ireturn, 1) := by decide +kernel
theorem dX3_append_20 : decode cX3_append 20 = .ok (.aload_n 0, 1) := by decide +kernel
theorem dX3_append_21 : decode cX3_append 21 = .ok (.getfield 13, 3) := by decide +kernel
theorem dX3_append_24 : decode cX3_append 24 = .ok (.aload_n 0, 1) := by decide +kernel
theorem dX3_append_25 : decode cX3_append 25 = .ok (.getfield 19, 3) := by decide +kernel
theorem dX3_append_28 : decode cX3_append 28 = .ok (.iload_n 1, 1) := by decide +kernel
theorem dX3_append_29 : decode cX3_append 29 = .ok (.iastore, 1) := by decide +kernel
theorem dX3_append_30 : decode cX3_append 30 = .ok (.aload_n 0, 1) := by decide +kernel
theorem dX3_append_31 : decode cX3_append 31 = .ok (.dup, 1) := by decide +kernel
theorem dX3_append_32 : decode cX3_append 32 = .ok (.getfield 19, 3) := by decide +kernel
theorem dX3_append_35 : decode cX3_append 35 = .ok (.iconst 1, 1) := by decide +kernel
theorem dX3_append_36 : decode cX3_append 36 = .ok (.iadd, 1) := by decide +kernel
theorem dX3_append_37 : decode cX3_append 37 = .ok (.putfield 19, 3) := by decide +kernel
theorem dX3_append_40 : decode cX3_append 40 = .ok (.iconst 1, 1) := by decide +kernel
theorem dX3_append_41 : decode cX3_append 41 = .ok (.ireturn, 1) := by decide +kernel
theorem dX3_copyFrom_0 : decode cX3_copyFrom 0 = .ok (.aload_n 1, 1) := by decide +kernel
theorem dX3_copyFrom_1 : decode cX3_copyFrom 1 = .ok (.getfield 13, 3) := by decide +kernel
theorem dX3_copyFrom_4 : decode cX3_copyFrom 4 = .ok (.iconst 0, 1) := by decide +kernel
theorem dX3_copyFrom_5 : decode cX3_copyFrom 5 = .ok (.aload_n 0, 1) := by decide +kernel
theorem dX3_copyFrom_6 : decode cX3_copyFrom 6 = .ok (.getfield 13, 3) := by decide +kernel
theorem dX3_copyFrom_9 : decode cX3_copyFrom 9 = .ok (.iconst 0, 1) := by decide +kernel
theorem dX3_copyFrom_10 : decode cX3_copyFrom 10 = .ok (.aload_n 0, 1) := by decide +kernel
theorem dX3_copyFrom_11 : decode cX3_copyFrom 11 = .ok (.getfield 13, 3) := by decide +kernel
theorem dX3_copyFrom_14 : decode cX3_copyFrom 14 = .ok (.arraylength, 1) := by decide +kernel
theorem dX3_copyFrom_15 : decode cX3_copyFrom 15 = .ok (.aload_n 1, 1) := by decide +kernel
theorem dX3_copyFrom_16 : decode cX3_copyFrom 16 = .ok (.getfield 13, 3) := by decide +kernel
theorem dX3_copyFrom_19 : decode cX3_copyFrom 19 = .ok (.arraylength, 1) := by decide +kernel
theorem dX3_copyFrom_20 : decode cX3_copyFrom 20 = .ok (.invokestatic 33, 3) := by decide +kernel
theorem dX3_copyFrom_23 : decode cX3_copyFrom 23 = .ok (.invokestatic 36, 3) := by decide +kernel
theorem dX3_copyFrom_26 : decode cX3_copyFrom 26 = .ok (.aload_n 0, 1) := by decide +kernel
theorem dX3_copyFrom_27 : decode cX3_copyFrom 27 = .ok (.aload_n 1, 1) := by decide +kernel
theorem dX3_copyFrom_28 : decode cX3_copyFrom 28 = .ok (.getfield 19, 3) := by decide +kernel
theorem dX3_copyFrom_31 : decode cX3_copyFrom 31 = .ok (.aload_n 0, 1) := by decide +kernel
theorem dX3_copyFrom_32 : decode cX3_copyFrom 32 = .ok (.getfield 13, 3) := by decide +kernel
theorem dX3_copyFrom_35 : decode cX3_copyFrom 35 = .ok (.arraylength, 1) := by decide +kernel
theorem dX3_copyFrom_36 : decode cX3_copyFrom 36 = .ok (.invokestatic 33, 3) := by decide +kernel
theorem dX3_copyFrom_39 : decode cX3_copyFrom 39 = .ok (.putfield 19, 3) := by decide +kernel
theorem dX3_copyFrom_42 : decode cX3_copyFrom 42 = .ok (.return_, 1) := by decide +kernel
theorem dX4_init_0 : decode cX4_init 0 = .ok (.aload_n 0, 1) := by decide +kernel
theorem dX4_init_1 : decode cX4_init 1 = .ok (.invokespecial 3, 3) := by decide +kernel
theorem dX4_init_4 : decode cX4_init 4 = .ok (.aload_n 0, 1) := by decide +kernel
theorem dX4_init_5 : decode cX4_init 5 = .ok (.new 9, 3) := by decide +kernel
theorem dX4_init_8 : decode cX4_init 8 = .ok (.dup, 1) := by decide +kernel
theorem dX4_init_9 : decode cX4_init 9 = .ok (.invokespecial 11, 3) := by decide +kernel
theorem dX4_init_12 : decode cX4_init 12 = .ok (.putfield 12, 3) := by decide +kernel
theorem dX4_init_15 : decode cX4_init 15 = .ok (.aload_n 0, 1) := by decide +kernel
theorem dX4_init_16 : decode cX4_init 16 = .ok (.bipush 30, 2) := by decide +kernel
theorem dX4_init_18 : decode cX4_init 18 = .ok (.anewarray 9, 3) := by decide +kernel
theorem dX4_init_21 : decode cX4_init 21 = .ok (.putfield 18, 3) := by decide +kernel
theorem dX4_init_24 : decode cX4_init 24 = .ok (.aload_n 0, 1) := by decide +kernel
theorem dX4_init_25 : decode cX4_init 25 = .ok (.iconst 4, 1) := by decide +kernel
theorem dX4_init_26 : decode cX4_init 26 = .ok (.anewarray 22, 3) := by decide +kernel
theorem dX4_init_29 : decode cX4_init 29 = .ok (.putfield 24, 3) := by decide +kernel
theorem dX4_init_32 : decode cX4_init 32 = .ok (.aload_n 0, 1) := by decide +kernel
theorem dX4_init_33 : decode cX4_init 33 = .ok (.iconst (-1), 1) := by decide +kernel
theorem dX4_init_34 : decode cX4_init 34 = .ok (.putfield 28, 3) := by decide +kernel
theorem dX4_init_37 : decode cX4_init 37 = .ok (.aload_n 0, 1) := by decide +kernel
theorem dX4_init_38 : decode cX4_init 38 = .ok (.bipush 20, 2) := by decide +kernel
theorem dX4_init_40 : decode cX4_init 40 = .ok (.newarray .int, 2) := by decide +kernel
theorem dX4_init_42 : decode cX4_init 42 = .ok (.putfield 32, 3) := by decide +kernel
theorem dX4_init_45 : decode cX4_init 45 = .ok (.aload_n 0, 1) := by decide +kernel
theorem dX4_init_46 : decode cX4_init 46 = .ok (.new 36, 3) := by decide +kernel
theorem dX4_init_49 : decode cX4_init 49 = .ok (.dup, 1) := by decide +kernel
theorem dX4_init_50 : decode cX4_init 50 = .ok (.bipush 12, 2) := by decide +kernel
theorem dX4_init_52 : decode cX4_init 52 = .ok (.invokespecial 38, 3) := by decide +kernel
theorem dX4_init_55 : decode cX4_init 55 = .ok (.putfield 41, 3) := by decide +kernel
theorem dX4_init_58 : decode cX4_init 58 = .ok (.aload_n 0, 1) := by decide +kernel
theorem dX4_init_59 : decode cX4_init 59 = .ok (.new 36, 3) := by decide +kernel
theorem dX4_init_62 : decode cX4_init 62 = .ok (.dup, 1) := by decide +kernel
theorem dX4_init_63 : decode cX4_init 63 = .ok (.bipush 12, 2) := by decide +kernel
theorem dX4_init_65 : decode cX4_init 65 = .ok (.invokespecial 38, 3) := by decide +kernel
theorem dX4_init_68 : decode cX4_init 68 = .ok (.putfield 45, 3) := by decide +kernel
theorem dX4_init_71 : decode cX4_init 71 = .ok (.aload_n 0, 1) := by decide +kernel
theorem dX4_init_72 : decode cX4_init 72 = .ok (.new 36, 3) := by decide +kernel
theorem dX4_init_75 : decode cX4_init 75 = .ok (.dup, 1) := by decide +kernel
theorem dX4_init_76 : decode cX4_init 76 = .ok (.bipush 8, 2) := by decide +kernel
theorem dX4_init_78 : decode cX4_init 78 = .ok (.invokespecial 38, 3) := by decide +kernel
theorem dX4_init_81 : decode cX4_init 81 = .ok (.putfield 48, 3) := by decide +kernel
theorem dX4_init_84 : decode cX4_init 84 = .ok (.aload_n 0, 1) := by decide +kernel
theorem dX4_init_85 : decode cX4_init 85 = .ok (.new 36, 3) := by decide +kernel
theorem dX4_init_88 : decode cX4_init 88 = .ok (.dup, 1) := by decide +kernel
theorem dX4_init_89 : decode cX4_init 89 = .ok (.bipush 8, 2) := by decide +kernel
theorem dX4_init_91 : decode cX4_init 91 = .ok (.invokespecial 38, 3) := by decide +kernel
theorem dX4_init_94 : decode cX4_init 94 = .ok (.putfield 51, 3) := by decide +kernel
theorem dX4_init_97 : decode cX4_init 97 = .ok (.aload_n 0, 1) := by decide +kernel
theorem dX4_init_98 : decode cX4_init 98 = .ok (.new 36, 3) := by decide +kernel
theorem dX4_init_101 : decode cX4_init 101 = .ok (.dup, 1) := by decide +kernel
theorem dX4_init_102 : decode cX4_init 102 = .ok (.bipush 8, 2) := by decide +kernel
theorem dX4_init_104 : decode cX4_init 104 = .ok (.invokespecial 38, 3) := by decide +kernel
theorem dX4_init_107 : decode cX4_init 107 = .ok (.putfield 54, 3) := by decide +kernel
theorem dX4_init_110 : decode cX4_init 110 = .ok (.aload_n 0, 1) := by decide +kernel
theorem dX4_init_111 : decode cX4_init 111 = .ok (.bipush 25, 2) := by decide +kernel
theorem dX4_init_113 : decode cX4_init 113 = .ok (.newarray .int, 2) := by decide +kernel
theorem dX4_init_115 : decode cX4_init 115 = .ok (.putfield 57, 3) := by decide +kernel
theorem dX4_init_118 : decode cX4_init 118 = .ok (.aload_n 0, 1) := by decide +kernel
theorem dX4_init_119 : decode cX4_init 119 = .ok (.bipush 25, 2) := by decide +kernel
theorem dX4_init_121 : decode cX4_init 121 = .ok (.newarray .int, 2) := by decide +kernel
theorem dX4_init_123 : decode cX4_init 123 = .ok (.putfield 60, 3) := by decide +kernel
theorem dX4_init_126 : decode cX4_init 126 = .ok (.aload_n 0, 1) := by decide +kernel
theorem dX4_init_127 : decode cX4_init 127 = .ok (.bipush 8, 2) := by decide +kernel
theorem dX4_init_129 : decode cX4_init 129 = .ok (.newarray .int, 2) := by decide +kernel
theorem dX4_init_131 : decode cX4_init 131 = .ok (.putfield 63, 3) := by decide +kernel
theorem dX4_init_134 : decode cX4_init 134 = .ok (.iconst 0, 1) := by decide +kernel
theorem dX4_init_135 : decode cX4_init 135 = .ok (.istore_n 1, 1) := by decide +kernel
theorem dX4_init_136 : decode cX4_init 136 = .ok (.iload_n 1, 1) := by decide +kernel
theorem dX4_init_137 : decode cX4_init 137 = .ok (.bipush 30, 2) := by decide +kernel
theorem dX4_init_139 : decode cX4_init 139 = .ok (.if_icmp .ge 22, 3) := by decide +kernel
theorem dX4_init_142 : decode cX4_init 142 = .ok (.aload_n 0, 1) := by decide +kernel
theorem dX4_init_143 : decode cX4_init 143 = .ok (.getfield 18, 3) := by decide +kernel
theorem dX4_init_146 : decode cX4_init 146 = .ok (.iload_n 1, 1) := by decide +kernel
theorem dX4_init_147 : decode cX4_init 147 = .ok (.new 9, 3) := by decide +kernel
theorem dX4_init_150 : decode cX4_init 150 = .ok (.dup, 1) := by decide +kernel
theorem dX4_init_151 : decode cX4_init 151 = .ok (.invokespecial 11, 3) := by decide +kernel
theorem dX4_init_154 : decode cX4_init 154 = .ok (.aastore, 1) := by decide +kernel
theorem dX4_init_155 : decode cX4_init 155 = .ok (.iinc 1 1, 3) := by decide +kernel
theorem dX4_init_158 : decode cX4_init 158 = .ok (.goto (-22), 3) := by decide +kernel
theorem dX4_init_161 : decode cX4_init 161 = .ok (.iconst 0, 1) := by decide +kernel
theorem dX4_init_162 : decode cX4_init 162 = .ok (.istore_n 1, 1) := by decide +kernel
theorem dX4_init_163 : decode cX4_init 163 = .ok (.iload_n 1, 1) := by decide +kernel
theorem dX4_init_164 : decode cX4_init 164 = .ok (.bipush 10, 2) := by decide +kernel
theorem dX4_init_166 : decode cX4_init 166 = .ok (.if_icmp .ge 39, 3) := by decide +kernel
theorem dX4_init_169 : decode cX4_init 169 = .ok (.aload_n 0, 1) := by decide +kernel
theorem dX4_init_170 : decode cX4_init 170 = .ok (.getfield 32, 3) := by decide +kernel
theorem dX4_init_173 : decode cX4_init 173 = .ok (.iload_n 1, 1) := by decide +kernel
theorem dX4_init_174 : decode cX4_init 174 = .ok (.iconst 2, 1) := by decide +kernel
theorem dX4_init_175 : decode cX4_init 175 = .ok (.imul, 1) := by decide +kernel
theorem dX4_init_176 : decode cX4_init 176 = .ok (.iload_n 1, 1) := by decide +kernel
theorem dX4_init_177 : decode cX4_init 177 = .ok (.iconst 1, 1) := by decide +kernel
theorem dX4_init_178 : decode cX4_init 178 = .ok (.iadd, 1) := by decide +kernel
theorem dX4_init_179 : decode cX4_init 179 = .ok (.iastore, 1) := by decide +kernel
theorem dX4_init_180 : decode cX4_init 180 = .ok (.aload_n 0, 1) := by decide +kernel
theorem dX4_init_181 : decode cX4_init 181 = .ok (.getfield 32, 3) := by decide +kernel
theorem dX4_init_184 : decode cX4_init 184 = .ok (.iload_n 1, 1) := by decide +kernel
theorem dX4_init_185 : decode cX4_init 185 = .ok (.iconst 2, 1) := by decide +kernel
theorem dX4_init_186 : decode cX4_init 186 = .ok (.imul, 1) := by decide +kernel
theorem dX4_init_187 : decode cX4_init 187 = .ok (.iconst 1, 1) := by decide +kernel
theorem dX4_init_188 : decode cX4_init 188 = .ok (.iadd, 1) := by decide +kernel
theorem dX4_init_189 : decode cX4_init 189 = .ok (.bipush 11, 2) := by decide +kernel
theorem dX4_init_191 : decode cX4_init 191 = .ok (.iload_n 1, 1) := by decide +kernel
theorem dX4_init_192 : decode cX4_init 192 = .ok (.bipush 10, 2) := by decide +kernel
theorem dX4_init_194 : decode cX4_init 194 = .ok (.imul, 1) := by decide +kernel
theorem dX4_init_195 : decode cX4_init 195 = .ok (.iadd, 1) := by decide +kernel
theorem dX4_init_196 : decode cX4_init 196 = .ok (.iload_n 1, 1) := by decide +kernel
theorem dX4_init_197 : decode cX4_init 197 = .ok (.iadd, 1) := by decide +kernel
theorem dX4_init_198 : decode cX4_init 198 = .ok (.iastore, 1) := by decide +kernel
theorem dX4_init_199 : decode cX4_init 199 = .ok (.iinc 1 1, 3) := by decide +kernel
theorem dX4_init_202 : decode cX4_init 202 = .ok (.goto (-39), 3) := by decide +kernel
theorem dX4_init_205 : decode cX4_init 205 = .ok (.return_, 1) := by decide +kernel
theorem dX4_theText_0 : decode cX4_theText 0 = .ok (.aload_n 0, 1) := by decide +kernel
theorem dX4_theText_1 : decode cX4_theText 1 = .ok (.getfield 28, 3) := by decide +kernel
theorem dX4_theText_4 : decode cX4_theText 4 = .ok (.ifCond .lt 34, 3) := by decide +kernel
theorem dX4_theText_7 : decode cX4_theText 7 = .ok (.aload_n 0, 1) := by decide +kernel
theorem dX4_theText_8 : decode cX4_theText 8 = .ok (.getfield 28, 3) := by decide +kernel
theorem dX4_theText_11 : decode cX4_theText 11 = .ok (.aload_n 0, 1) := by decide +kernel
theorem dX4_theText_12 : decode cX4_theText 12 = .ok (.getfield 66, 3) := by decide +kernel
theorem dX4_theText_15 : decode cX4_theText 15 = .ok (.if_icmp .ge 23, 3) := by decide +kernel
theorem dX4_theText_18 : decode cX4_theText 18 = .ok (.aload_n 0, 1) := by decide +kernel
theorem dX4_theText_19 : decode cX4_theText 19 = .ok (.getfield 28, 3) := by decide +kernel
theorem dX4_theText_22 : decode cX4_theText 22 = .ok (.iconst 4, 1) := by decide +kernel
theorem dX4_theText_23 : decode cX4_theText 23 = .ok (.if_icmp .ge 15, 3) := by decide +kernel
theorem dX4_theText_26 : decode cX4_theText 26 = .ok (.aload_n 0, 1) := by decide +kernel
theorem dX4_theText_27 : decode cX4_theText 27 = .ok (.getfield 24, 3) := by decide +kernel
theorem dX4_theText_30 : decode cX4_theText 30 = .ok (.aload_n 0, 1) := by decide +kernel
theorem dX4_theText_31 : decode cX4_theText 31 = .ok (.getfield 28, 3) := by decide +kernel
theorem dX4_theText_34 : decode cX4_theText 34 = .ok (.aaload, 1) := by decide +kernel
theorem dX4_theText_35 : decode cX4_theText 35 = .ok (.goto 4, 3) := by decide +kernel
theorem dX4_theText_38 : decode cX4_theText 38 = .ok (.aconst_null, 1) := by decide +kernel
theorem dX4_theText_39 : decode cX4_theText 39 = .ok (.areturn, 1) := by decide +kernel
theorem dX4_remember_0 : decode cX4_remember 0 = .ok (.aload_n 0, 1) := by decide +kernel
theorem dX4_remember_1 : decode cX4_remember 1 = .ok (.getfield 18, 3) := by decide +kernel
theorem dX4_remember_4 : decode cX4_remember 4 = .ok (.aload_n 0, 1) := by decide +kernel
theorem dX4_remember_5 : decode cX4_remember 5 = .ok (.getfield 69, 3) := by decide +kernel
theorem dX4_remember_8 : decode cX4_remember 8 = .ok (.aload_n 0, 1) := by decide +kernel
theorem dX4_remember_9 : decode cX4_remember 9 = .ok (.getfield 72, 3) := by decide +kernel
theorem dX4_remember_12 : decode cX4_remember 12 = .ok (.iadd, 1) := by decide +kernel
theorem dX4_remember_13 : decode cX4_remember 13 = .ok (.bipush 30, 2) := by decide +kernel
theorem dX4_remember_15 : decode cX4_remember 15 = .ok (.irem, 1) := by decide +kernel
theorem dX4_remember_16 : decode cX4_remember 16 = .ok (.aaload, 1) := by decide +kernel
theorem dX4_remember_17 : decode cX4_remember 17 = .ok (.aload_n 0, 1) := by decide +kernel
theorem dX4_remember_18 : decode cX4_remember 18 = .ok (.getfield 12, 3) := by decide +kernel
theorem dX4_remember_21 : decode cX4_remember 21 = .ok (.invokevirtual 75, 3) := by decide +kernel
theorem dX4_remember_24 : decode cX4_remember 24 = .ok (.aload_n 0, 1) := by decide +kernel
theorem dX4_remember_25 : decode cX4_remember 25 = .ok (.getfield 72, 3) := by decide +kernel
theorem dX4_remember_28 : decode cX4_remember 28 = .ok (.bipush 30, 2) := by decide +kernel
theorem dX4_remember_30 : decode cX4_remember 30 = .ok (.if_icmp .ge 16, 3) := by decide +kernel
theorem dX4_remember_33 : decode cX4_remember 33 = .ok (.aload_n 0, 1) := by decide +kernel
theorem dX4_remember_34 : decode cX4_remember 34 = .ok (.dup, 1) := by decide +kernel
theorem dX4_remember_35 : decode cX4_remember 35 = .ok (.getfield 72, 3) := by decide +kernel
theorem dX4_remember_38 : decode cX4_remember 38 = .ok (.iconst 1, 1) := by decide +kernel
theorem dX4_remember_39 : decode cX4_remember 39 = .ok (.iadd, 1) := by decide +kernel
theorem dX4_remember_40 : decode cX4_remember 40 = .ok (.putfield 72, 3) := by decide +kernel
theorem dX4_remember_43 : decode cX4_remember 43 = .ok (.goto 16, 3) := by decide +kernel
theorem dX4_remember_46 : decode cX4_remember 46 = .ok (.aload_n 0, 1) := by decide +kernel
theorem dX4_remember_47 : decode cX4_remember 47 = .ok (.aload_n 0, 1) := by decide +kernel
theorem dX4_remember_48 : decode cX4_remember 48 = .ok (.getfield 69, 3) := by decide +kernel
theorem dX4_remember_51 : decode cX4_remember 51 = .ok (.iconst 1, 1) := by decide +kernel
theorem dX4_remember_52 : decode cX4_remember 52 = .ok (.iadd, 1) := by decide +kernel
theorem dX4_remember_53 : decode cX4_remember 53 = .ok (.bipush 30, 2) := by decide +kernel
theorem dX4_remember_55 : decode cX4_remember 55 = .ok (.irem, 1) := by decide +kernel
theorem dX4_remember_56 : decode cX4_remember 56 = .ok (.putfield 69, 3) := by decide +kernel
theorem dX4_remember_59 : decode cX4_remember 59 = .ok (.return_, 1) := by decide +kernel
theorem dX4_takeBack_0 : decode cX4_takeBack 0 = .ok (.aload_n 0, 1) := by decide +kernel
theorem dX4_takeBack_1 : decode cX4_takeBack 1 = .ok (.getfield 72, 3) := by decide +kernel
theorem dX4_takeBack_4 : decode cX4_takeBack 4 = .ok (.ifCond .gt 5, 3) := by decide +kernel
theorem dX4_takeBack_7 : decode cX4_takeBack 7 = .ok (.iconst 0, 1) := by decide +kernel
theorem dX4_takeBack_8 : decode cX4_takeBack 8 = .ok (.ireturn, 1) := by decide +kernel
theorem dX4_takeBack_9 : decode cX4_takeBack 9 = .ok (.aload_n 0, 1) := by decide +kernel
theorem dX4_takeBack_10 : decode cX4_takeBack 10 = .ok (.dup, 1) := by decide +kernel
theorem dX4_takeBack_11 : decode cX4_takeBack 11 = .ok (.getfield 72, 3) := by decide +kernel
theorem dX4_takeBack_14 : decode cX4_takeBack 14 = .ok (.iconst 1, 1) := by decide +kernel
theorem dX4_takeBack_15 : decode cX4_takeBack 15 = .ok (.isub, 1) := by decide +kernel
theorem dX4_takeBack_16 : decode cX4_takeBack 16 = .ok (.putfield 72, 3) := by decide +kernel
theorem dX4_takeBack_19 : decode cX4_takeBack 19 = .ok (.aload_n 0, 1) := by decide +kernel
theorem dX4_takeBack_20 : decode cX4_takeBack 20 = .ok (.getfield 12, 3) := by decide +kernel
theorem dX4_takeBack_23 : decode cX4_takeBack 23 = .ok (.aload_n 0, 1) := by decide +kernel
theorem dX4_takeBack_24 : decode cX4_takeBack 24 = .ok (.getfield 18, 3) := by decide +kernel
theorem dX4_takeBack_27 : decode cX4_takeBack 27 = .ok (.aload_n 0, 1) := by decide +kernel
theorem dX4_takeBack_28 : decode cX4_takeBack 28 = .ok (.getfield 69, 3) := by decide +kernel
theorem dX4_takeBack_31 : decode cX4_takeBack 31 = .ok (.aload_n 0, 1) := by decide +kernel
theorem dX4_takeBack_32 : decode cX4_takeBack 32 = .ok (.getfield 72, 3) := by decide +kernel
theorem dX4_takeBack_35 : decode cX4_takeBack 35 = .ok (.iadd, 1) := by decide +kernel
theorem dX4_takeBack_36 : decode cX4_takeBack 36 = .ok (.bipush 30, 2) := by decide +kernel
theorem dX4_takeBack_38 : decode cX4_takeBack 38 = .ok (.irem, 1) := by decide +kernel
theorem dX4_takeBack_39 : decode cX4_takeBack 39 = .ok (.aaload, 1) := by decide +kernel
theorem dX4_takeBack_40 : decode cX4_takeBack 40 = .ok (.invokevirtual 79, 3) := by decide +kernel
theorem dX4_takeBack_43 : decode cX4_takeBack 43 = .ok (.iconst 1, 1) := by decide +kernel
theorem dX4_takeBack_44 : decode cX4_takeBack 44 = .ok (.ireturn, 1) := by decide +kernel
theorem dX4_copyFrom_0 : decode cX4_copyFrom 0 = .ok (.aload_n 0, 1) := by decide +kernel
theorem dX4_copyFrom_1 : decode cX4_copyFrom 1 = .ok (.getfield 12, 3) := by decide +kernel
theorem dX4_copyFrom_4 : decode cX4_copyFrom 4 = .ok (.aload_n 1, 1) := by decide +kernel
theorem dX4_copyFrom_5 : decode cX4_copyFrom 5 = .ok (.getfield 12, 3) := by decide +kernel
theorem dX4_copyFrom_8 : decode cX4_copyFrom 8 = .ok (.invokevirtual 75, 3) := by decide +kernel
theorem dX4_copyFrom_11 : decode cX4_copyFrom 11 = .ok (.iconst 0, 1) := by decide +kernel
theorem dX4_copyFrom_12 : decode cX4_copyFrom 12 = .ok (.istore_n 2, 1) := by decide +kernel
theorem dX4_copyFrom_13 : decode cX4_copyFrom 13 = .ok (.iload_n 2, 1) := by decide +kernel
theorem dX4_copyFrom_14 : decode cX4_copyFrom 14 = .ok (.bipush 30, 2) := by decide +kernel
theorem dX4_copyFrom_16 : decode cX4_copyFrom 16 = .ok (.if_icmp .ge 24, 3) := by decide +kernel
theorem dX4_copyFrom_19 : decode cX4_copyFrom 19 = .ok (.aload_n 0, 1) := by decide +kernel
theorem dX4_copyFrom_20 : decode cX4_copyFrom 20 = .ok (.getfield 18, 3) := by decide +kernel
theorem dX4_copyFrom_23 : decode cX4_copyFrom 23 = .ok (.iload_n 2, 1) := by decide +kernel
theorem dX4_copyFrom_24 : decode cX4_copyFrom 24 = .ok (.aaload, 1) := by decide +kernel
theorem dX4_copyFrom_25 : decode cX4_copyFrom 25 = .ok (.aload_n 1, 1) := by decide +kernel
theorem dX4_copyFrom_26 : decode cX4_copyFrom 26 = .ok (.getfield 18, 3) := by decide +kernel
theorem dX4_copyFrom_29 : decode cX4_copyFrom 29 = .ok (.iload_n 2, 1) := by decide +kernel
theorem dX4_copyFrom_30 : decode cX4_copyFrom 30 = .ok (.aaload, 1) := by decide +kernel
theorem dX4_copyFrom_31 : decode cX4_copyFrom 31 = .ok (.invokevirtual 75, 3) := by decide +kernel
theorem dX4_copyFrom_34 : decode cX4_copyFrom 34 = .ok (.iinc 2 1, 3) := by decide +kernel
theorem dX4_copyFrom_37 : decode cX4_copyFrom 37 = .ok (.goto (-24), 3) := by decide +kernel
theorem dX4_copyFrom_40 : decode cX4_copyFrom 40 = .ok (.aload_n 0, 1) := by decide +kernel
theorem dX4_copyFrom_41 : decode cX4_copyFrom 41 = .ok (.aload_n 1, 1) := by decide +kernel
theorem dX4_copyFrom_42 : decode cX4_copyFrom 42 = .ok (.getfield 69, 3) := by decide +kernel
theorem dX4_copyFrom_45 : decode cX4_copyFrom 45 = .ok (.putfield 69, 3) := by decide +kernel
theorem dX4_copyFrom_48 : decode cX4_copyFrom 48 = .ok (.aload_n 0, 1) := by decide +kernel
theorem dX4_copyFrom_49 : decode cX4_copyFrom 49 = .ok (.aload_n 1, 1) := by decide +kernel
theorem dX4_copyFrom_50 : decode cX4_copyFrom 50 = .ok (.getfield 72, 3) := by decide +kernel
theorem dX4_copyFrom_53 : decode cX4_copyFrom 53 = .ok (.putfield 72, 3) := by decide +kernel
theorem dX4_copyFrom_56 : decode cX4_copyFrom 56 = .ok (.iconst 0, 1) := by decide +kernel
theorem dX4_copyFrom_57 : decode cX4_copyFrom 57 = .ok (.istore_n 2, 1) := by decide +kernel
theorem dX4_copyFrom_58 : decode cX4_copyFrom 58 = .ok (.iload_n 2, 1) := by decide +kernel
theorem dX4_copyFrom_59 : decode cX4_copyFrom 59 = .ok (.iconst 4, 1) := by decide +kernel
theorem dX4_copyFrom_60 : decode cX4_copyFrom 60 = .ok (.if_icmp .ge 21, 3) := by decide +kernel
theorem dX4_copyFrom_63 : decode cX4_copyFrom 63 = .ok (.aload_n 0, 1) := by decide +kernel
theorem dX4_copyFrom_64 : decode cX4_copyFrom 64 = .ok (.getfield 24, 3) := by decide +kernel
theorem dX4_copyFrom_67 : decode cX4_copyFrom 67 = .ok (.iload_n 2, 1) := by decide +kernel
theorem dX4_copyFrom_68 : decode cX4_copyFrom 68 = .ok (.aload_n 1, 1) := by decide +kernel
theorem dX4_copyFrom_69 : decode cX4_copyFrom 69 = .ok (.getfield 24, 3) := by decide +kernel
theorem dX4_copyFrom_72 : decode cX4_copyFrom 72 = .ok (.iload_n 2, 1) := by decide +kernel
theorem dX4_copyFrom_73 : decode cX4_copyFrom 73 = .ok (.aaload, 1) := by decide +kernel
theorem dX4_copyFrom_74 : decode cX4_copyFrom 74 = .ok (.aastore, 1) := by decide +kernel
theorem dX4_copyFrom_75 : decode cX4_copyFrom 75 = .ok (.iinc 2 1, 3) := by decide +kernel
theorem dX4_copyFrom_78 : decode cX4_copyFrom 78 = .ok (.goto (-20), 3) := by decide +kernel
theorem dX4_copyFrom_81 : decode cX4_copyFrom 81 = .ok (.aload_n 0, 1) := by decide +kernel
theorem dX4_copyFrom_82 : decode cX4_copyFrom 82 = .ok (.aload_n 1, 1) := by decide +kernel
theorem dX4_copyFrom_83 : decode cX4_copyFrom 83 = .ok (.getfield 66, 3) := by decide +kernel
theorem dX4_copyFrom_86 : decode cX4_copyFrom 86 = .ok (.putfield 66, 3) := by decide +kernel
theorem dX4_copyFrom_89 : decode cX4_copyFrom 89 = .ok (.aload_n 0, 1) := by decide +kernel
theorem dX4_copyFrom_90 : decode cX4_copyFrom 90 = .ok (.aload_n 1, 1) := by decide +kernel
theorem dX4_copyFrom_91 : decode cX4_copyFrom 91 = .ok (.getfield 28, 3) := by decide +kernel
theorem dX4_copyFrom_94 : decode cX4_copyFrom 94 = .ok (.putfield 28, 3) := by decide +kernel
theorem dX4_copyFrom_97 : decode cX4_copyFrom 97 = .ok (.aload_n 1, 1) := by decide +kernel
theorem dX4_copyFrom_98 : decode cX4_copyFrom 98 = .ok (.getfield 32, 3) := by decide +kernel
theorem dX4_copyFrom_101 : decode cX4_copyFrom 101 = .ok (.iconst 0, 1) := by decide +kernel
theorem dX4_copyFrom_102 : decode cX4_copyFrom 102 = .ok (.aload_n 0, 1) := by decide +kernel
theorem dX4_copyFrom_103 : decode cX4_copyFrom 103 = .ok (.getfield 32, 3) := by decide +kernel
theorem dX4_copyFrom_106 : decode cX4_copyFrom 106 = .ok (.iconst 0, 1) := by decide +kernel
theorem dX4_copyFrom_107 : decode cX4_copyFrom 107 = .ok (.aload_n 0, 1) := by decide +kernel
theorem dX4_copyFrom_108 : decode cX4_copyFrom 108 = .ok (.getfield 32, 3) := by decide +kernel
theorem dX4_copyFrom_111 : decode cX4_copyFrom 111 = .ok (.arraylength, 1) := by decide +kernel
theorem dX4_copyFrom_112 : decode cX4_copyFrom 112 = .ok (.invokestatic 82, 3) := by decide +kernel
theorem dX4_copyFrom_115 : decode cX4_copyFrom 115 = .ok (.aload_n 0, 1) := by decide +kernel
theorem dX4_copyFrom_116 : decode cX4_copyFrom 116 = .ok (.getfield 41, 3) := by decide +kernel
theorem dX4_copyFrom_119 : decode cX4_copyFrom 119 = .ok (.aload_n 1, 1) := by decide +kernel
theorem dX4_copyFrom_120 : decode cX4_copyFrom 120 = .ok (.getfield 41, 3) := by decide +kernel
theorem dX4_copyFrom_123 : decode cX4_copyFrom 123 = .ok (.invokevirtual 88, 3) := by decide +kernel
theorem dX4_copyFrom_126 : decode cX4_copyFrom 126 = .ok (.aload_n 0, 1) := by decide +kernel
theorem dX4_copyFrom_127 : decode cX4_copyFrom 127 = .ok (.getfield 45, 3) := by decide +kernel
theorem dX4_copyFrom_130 : decode cX4_copyFrom 130 = .ok (.aload_n 1, 1) := by decide +kernel
theorem dX4_copyFrom_131 : decode cX4_copyFrom 131 = .ok (.getfield 45, 3) := by decide +kernel
theorem dX4_copyFrom_134 : decode cX4_copyFrom 134 = .ok (.invokevirtual 88, 3) := by decide +kernel
theorem dX4_copyFrom_137 : decode cX4_copyFrom 137 = .ok (.aload_n 0, 1) := by decide +kernel
theorem dX4_copyFrom_138 : decode cX4_copyFrom 138 = .ok (.getfield 48, 3) := by decide +kernel
theorem dX4_copyFrom_141 : decode cX4_copyFrom 141 = .ok (.aload_n 1, 1) := by decide +kernel
theorem dX4_copyFrom_142 : decode cX4_copyFrom 142 = .ok (.getfield 48, 3) := by decide +kernel
theorem dX4_copyFrom_145 : decode cX4_copyFrom 145 = .ok (.invokevirtual 88, 3) := by decide +kernel
theorem dX4_copyFrom_148 : decode cX4_copyFrom 148 = .ok (.aload_n 0, 1) := by decide +kernel
theorem dX4_copyFrom_149 : decode cX4_copyFrom 149 = .ok (.getfield 51, 3) := by decide +kernel
theorem dX4_copyFrom_152 : decode cX4_copyFrom 152 = .ok (.aload_n 1, 1) := by decide +kernel
theorem dX4_copyFrom_153 : decode cX4_copyFrom 153 = .ok (.getfield 51, 3) := by decide +kernel
theorem dX4_copyFrom_156 : decode cX4_copyFrom 156 = .ok (.invokevirtual 88, 3) := by decide +kernel
theorem dX4_copyFrom_159 : decode cX4_copyFrom 159 = .ok (.aload_n 0, 1) := by decide +kernel
theorem dX4_copyFrom_160 : decode cX4_copyFrom 160 = .ok (.getfield 54, 3) := by decide +kernel
theorem dX4_copyFrom_163 : decode cX4_copyFrom 163 = .ok (.aload_n 1, 1) := by decide +kernel
theorem dX4_copyFrom_164 : decode cX4_copyFrom 164 = .ok (.getfield 54, 3) := by decide +kernel
theorem dX4_copyFrom_167 : decode cX4_copyFrom 167 = .ok (.invokevirtual 88, 3) := by decide +kernel
theorem dX4_copyFrom_170 : decode cX4_copyFrom 170 = .ok (.aload_n 1, 1) := by decide +kernel
theorem dX4_copyFrom_171 : decode cX4_copyFrom 171 = .ok (.getfield 57, 3) := by decide +kernel
theorem dX4_copyFrom_174 : decode cX4_copyFrom 174 = .ok (.iconst 0, 1) := by decide +kernel
theorem dX4_copyFrom_175 : decode cX4_copyFrom 175 = .ok (.aload_n 0, 1) := by decide +kernel
theorem dX4_copyFrom_176 : decode cX4_copyFrom 176 = .ok (.getfield 57, 3) := by decide +kernel
theorem dX4_copyFrom_179 : decode cX4_copyFrom 179 = .ok (.iconst 0, 1) := by decide +kernel
theorem dX4_copyFrom_180 : decode cX4_copyFrom 180 = .ok (.aload_n 0, 1) := by decide +kernel
theorem dX4_copyFrom_181 : decode cX4_copyFrom 181 = .ok (.getfield 57, 3) := by decide +kernel
theorem dX4_copyFrom_184 : decode cX4_copyFrom 184 = .ok (.arraylength, 1) := by decide +kernel
theorem dX4_copyFrom_185 : decode cX4_copyFrom 185 = .ok (.invokestatic 82, 3) := by decide +kernel
theorem dX4_copyFrom_188 : decode cX4_copyFrom 188 = .ok (.aload_n 1, 1) := by decide +kernel
theorem dX4_copyFrom_189 : decode cX4_copyFrom 189 = .ok (.getfield 60, 3) := by decide +kernel
theorem dX4_copyFrom_192 : decode cX4_copyFrom 192 = .ok (.iconst 0, 1) := by decide +kernel
theorem dX4_copyFrom_193 : decode cX4_copyFrom 193 = .ok (.aload_n 0, 1) := by decide +kernel
theorem dX4_copyFrom_194 : decode cX4_copyFrom 194 = .ok (.getfield 60, 3) := by decide +kernel
theorem dX4_copyFrom_197 : decode cX4_copyFrom 197 = .ok (.iconst 0, 1) := by decide +kernel
theorem dX4_copyFrom_198 : decode cX4_copyFrom 198 = .ok (.aload_n 0, 1) := by decide +kernel
theorem dX4_copyFrom_199 : decode cX4_copyFrom 199 = .ok (.getfield 60, 3) := by decide +kernel
theorem dX4_copyFrom_202 : decode cX4_copyFrom 202 = .ok (.arraylength, 1) := by decide +kernel
theorem dX4_copyFrom_203 : decode cX4_copyFrom 203 = .ok (.invokestatic 82, 3) := by decide +kernel
theorem dX4_copyFrom_206 : decode cX4_copyFrom 206 = .ok (.aload_n 1, 1) := by decide +kernel
theorem dX4_copyFrom_207 : decode cX4_copyFrom 207 = .ok (.getfield 63, 3) := by decide +kernel
theorem dX4_copyFrom_210 : decode cX4_copyFrom 210 = .ok (.iconst 0, 1) := by decide +kernel
theorem dX4_copyFrom_211 : decode cX4_copyFrom 211 = .ok (.aload_n 0, 1) := by decide +kernel
theorem dX4_copyFrom_212 : decode cX4_copyFrom 212 = .ok (.getfield 63, 3) := by decide +kernel
theorem dX4_copyFrom_215 : decode cX4_copyFrom 215 = .ok (.iconst 0, 1) := by decide +kernel
theorem dX4_copyFrom_216 : decode cX4_copyFrom 216 = .ok (.aload_n 0, 1) := by decide +kernel
theorem dX4_copyFrom_217 : decode cX4_copyFrom 217 = .ok (.getfield 63, 3) := by decide +kernel
theorem dX4_copyFrom_220 : decode cX4_copyFrom 220 = .ok (.arraylength, 1) := by decide +kernel
theorem dX4_copyFrom_221 : decode cX4_copyFrom 221 = .ok (.invokestatic 82, 3) := by decide +kernel
theorem dX4_copyFrom_224 : decode cX4_copyFrom 224 = .ok (.return_, 1) := by decide +kernel
theorem dX5_init_0 : decode cX5_init 0 = .ok (.aload_n 0, 1) := by decide +kernel
theorem dX5_init_1 : decode cX5_init 1 = .ok (.invokespecial 3, 3) := by decide +kernel
theorem dX5_init_4 : decode cX5_init 4 = .ok (.aload_n 0, 1) := by decide +kernel
theorem dX5_init_5 : decode cX5_init 5 = .ok (.bipush 9, 2) := by decide +kernel
theorem dX5_init_7 : decode cX5_init 7 = .ok (.newarray .int, 2) := by decide +kernel
theorem dX5_init_9 : decode cX5_init 9 = .ok (.putfield 9, 3) := by decide +kernel
theorem dX5_init_12 : decode cX5_init 12 = .ok (.aload_n 0, 1) := by decide +kernel
theorem dX5_init_13 : decode cX5_init 13 = .ok (.bipush 8, 2) := by decide +kernel
theorem dX5_init_15 : decode cX5_init 15 = .ok (.newarray .int, 2) := by decide +kernel
theorem dX5_init_17 : decode cX5_init 17 = .ok (.putfield 15, 3) := by decide +kernel
theorem dX5_init_20 : decode cX5_init 20 = .ok (.aload_n 0, 1) := by decide +kernel
theorem dX5_init_21 : decode cX5_init 21 = .ok (.bipush 8, 2) := by decide +kernel
theorem dX5_init_23 : decode cX5_init 23 = .ok (.newarray .int, 2) := by decide +kernel
theorem dX5_init_25 : decode cX5_init 25 = .ok (.putfield 18, 3) := by decide +kernel
theorem dX5_init_28 : decode cX5_init 28 = .ok (.return_, 1) := by decide +kernel
theorem dX5_plan_0 : decode cX5_plan 0 = .ok (.aload_n 0, 1) := by decide +kernel
theorem dX5_plan_1 : decode cX5_plan 1 = .ok (.getfield 9, 3) := by decide +kernel
theorem dX5_plan_4 : decode cX5_plan 4 = .ok (.bipush 8, 2) := by decide +kernel
theorem dX5_plan_6 : decode cX5_plan 6 = .ok (.iconst 0, 1) := by decide +kernel
theorem dX5_plan_7 : decode cX5_plan 7 = .ok (.iastore, 1) := by decide +kernel
theorem dX5_plan_8 : decode cX5_plan 8 = .ok (.bipush 7, 2) := by decide +kernel
theorem dX5_plan_10 : decode cX5_plan 10 = .ok (.istore 4, 2) := by decide +kernel
theorem dX5_plan_12 : decode cX5_plan 12 = .ok (.iload 4, 2) := by decide +kernel
theorem dX5_plan_14 : decode cX5_plan 14 = .ok (.ifCond .lt 167, 3) := by decide +kernel
theorem dX5_plan_17 : decode cX5_plan 17 = .ok (.iconst 0, 1) := by decide +kernel
theorem dX5_plan_18 : decode cX5_plan 18 = .ok (.istore 5, 2) := by decide +kernel
theorem dX5_plan_20 : decode cX5_plan 20 = .ok (.iconst 0, 1) := by decide +kernel
theorem dX5_plan_21 : decode cX5_plan 21 = .ok (.istore 6, 2) := by decide +kernel
theorem dX5_plan_23 : decode cX5_plan 23 = .ok (.iload 4, 2) := by decide +kernel
theorem dX5_plan_25 : decode cX5_plan 25 = .ok (.istore 7, 2) := by decide +kernel
theorem dX5_plan_27 : decode cX5_plan 27 = .ok (.iload 7, 2) := by decide +kernel
theorem dX5_plan_29 : decode cX5_plan 29 = .ok (.bipush 8, 2) := by decide +kernel
theorem dX5_plan_31 : decode cX5_plan 31 = .ok (.if_icmp .ge 144, 3) := by decide +kernel
theorem dX5_plan_34 : decode cX5_plan 34 = .ok (.iload 5, 2) := by decide +kernel
theorem dX5_plan_36 : decode cX5_plan 36 = .ok (.aload_n 1, 1) := by decide +kernel
theorem dX5_plan_37 : decode cX5_plan 37 = .ok (.iload 7, 2) := by decide +kernel
theorem dX5_plan_39 : decode cX5_plan 39 = .ok (.iaload, 1) := by decide +kernel
theorem dX5_plan_40 : decode cX5_plan 40 = .ok (.iadd, 1) := by decide +kernel
theorem dX5_plan_41 : decode cX5_plan 41 = .ok (.istore 5, 2) := by decide +kernel
theorem dX5_plan_43 : decode cX5_plan 43 = .ok (.iload 6, 2) := by decide +kernel
theorem dX5_plan_45 : decode cX5_plan 45 = .ok (.aload_n 1, 1) := by decide +kernel
theorem dX5_plan_46 : decode cX5_plan 46 = .ok (.iload 7, 2) := by decide +kernel
theorem dX5_plan_48 : decode cX5_plan 48 = .ok (.iaload, 1) := by decide +kernel
theorem dX5_plan_49 : decode cX5_plan 49 = .ok (.iload 7, 2) := by decide +kernel
theorem dX5_plan_51 : decode cX5_plan 51 = .ok (.iload 4, 2) := by decide +kernel
theorem dX5_plan_53 : decode cX5_plan 53 = .ok (.isub, 1) := by decide +kernel
theorem dX5_plan_54 : decode cX5_plan 54 = .ok (.imul, 1) := by decide +kernel
theorem dX5_plan_55 : decode cX5_plan 55 = .ok (.iload_n 3, 1) := by decide +kernel
theorem dX5_plan_56 : decode cX5_plan 56 = .ok (.imul, 1) := by decide +kernel
theorem dX5_plan_57 : decode cX5_plan 57 = .ok (.iadd, 1) := by decide +kernel
theorem dX5_plan_58 : decode cX5_plan 58 = .ok (.istore 6, 2) := by decide +kernel
theorem dX5_plan_60 : decode cX5_plan 60 = .ok (.iload 5, 2) := by decide +kernel
theorem dX5_plan_62 : decode cX5_plan 62 = .ok (.ifCond .le 7, 3) := by decide +kernel
theorem dX5_plan_65 : decode cX5_plan 65 = .ok (.iload_n 2, 1) := by decide +kernel
theorem dX5_plan_66 : decode cX5_plan 66 = .ok (.goto 4, 3) := by decide +kernel
theorem dX5_plan_69 : decode cX5_plan 69 = .ok (.iconst 0, 1) := by decide +kernel
theorem dX5_plan_70 : decode cX5_plan 70 = .ok (.iload 6, 2) := by decide +kernel
theorem dX5_plan_72 : decode cX5_plan 72 = .ok (.iadd, 1) := by decide +kernel
theorem dX5_plan_73 : decode cX5_plan 73 = .ok (.aload_n 0, 1) := by decide +kernel
theorem dX5_plan_74 : decode cX5_plan 74 = .ok (.getfield 9, 3) := by decide +kernel
theorem dX5_plan_77 : decode cX5_plan 77 = .ok (.iload 7, 2) := by decide +kernel
theorem dX5_plan_79 : decode cX5_plan 79 = .ok (.iconst 1, 1) := by decide +kernel
theorem dX5_plan_80 : decode cX5_plan 80 = .ok (.iadd, 1) := by decide +kernel
theorem dX5_plan_81 : decode cX5_plan 81 = .ok (.iaload, 1) := by decide +kernel
theorem dX5_plan_82 : decode cX5_plan 82 = .ok (.iadd, 1) := by decide +kernel
theorem dX5_plan_83 : decode cX5_plan 83 = .ok (.istore 8, 2) := by decide +kernel
theorem dX5_plan_85 : decode cX5_plan 85 = .ok (.iload 7, 2) := by decide +kernel
theorem dX5_plan_87 : decode cX5_plan 87 = .ok (.iload 4, 2) := by decide +kernel
theorem dX5_plan_89 : decode cX5_plan 89 = .ok (.if_icmp .eq 15, 3) := by decide +kernel
theorem dX5_plan_92 : decode cX5_plan 92 = .ok (.iload 8, 2) := by decide +kernel
theorem dX5_plan_94 : decode cX5_plan 94 = .ok (.aload_n 0, 1) := by decide +kernel
theorem dX5_plan_95 : decode cX5_plan 95 = .ok (.getfield 9, 3) := by decide +kernel
theorem dX5_plan_98 : decode cX5_plan 98 = .ok (.iload 4, 2) := by decide +kernel
theorem dX5_plan_100 : decode cX5_plan 100 = .ok (.iaload, 1) := by decide +kernel
theorem dX5_plan_101 : decode cX5_plan 101 = .ok (.if_icmp .ge 7, 3) := by decide +kernel
theorem dX5_plan_104 : decode cX5_plan 104 = .ok (.iconst 1, 1) := by decide +kernel
theorem dX5_plan_105 : decode cX5_plan 105 = .ok (.goto 4, 3) := by decide +kernel
theorem dX5_plan_108 : decode cX5_plan 108 = .ok (.iconst 0, 1) := by decide +kernel
theorem dX5_plan_109 : decode cX5_plan 109 = .ok (.istore 9, 2) := by decide +kernel
theorem dX5_plan_111 : decode cX5_plan 111 = .ok (.iload 9, 2) := by decide +kernel
theorem dX5_plan_113 : decode cX5_plan 113 = .ok (.ifCond .ne 27, 3) := by decide +kernel
theorem dX5_plan_116 : decode cX5_plan 116 = .ok (.iload 8, 2) := by decide +kernel
theorem dX5_plan_118 : decode cX5_plan 118 = .ok (.aload_n 0, 1) := by decide +kernel
theorem dX5_plan_119 : decode cX5_plan 119 = .ok (.getfield 9, 3) := by decide +kernel
