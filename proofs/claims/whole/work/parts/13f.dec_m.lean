theorem dX11_text_39 : decode cX11_text 39 = .ok (.aload_n 0, 1) := by decide +kernel
theorem dX11_text_40 : decode cX11_text 40 = .ok (.iconst 0, 1) := by decide +kernel
theorem dX11_text_41 : decode cX11_text 41 = .ok (.putfield 111, 3) := by decide +kernel
theorem dX11_text_44 : decode cX11_text 44 = .ok (.aload_n 0, 1) := by decide +kernel
theorem dX11_text_45 : decode cX11_text 45 = .ok (.getfield 22, 3) := by decide +kernel
theorem dX11_text_48 : decode cX11_text 48 = .ok (.ifCond .eq 5, 3) := by decide +kernel
theorem dX11_text_51 : decode cX11_text 51 = .ok (.iconst (-1), 1) := by decide +kernel
theorem dX11_text_52 : decode cX11_text 52 = .ok (.ireturn, 1) := by decide +kernel
theorem dX11_text_53 : decode cX11_text 53 = .ok (.aload_n 0, 1) := by decide +kernel
theorem dX11_text_54 : decode cX11_text 54 = .ok (.getfield 7, 3) := by decide +kernel
theorem dX11_text_57 : decode cX11_text 57 = .ok (.iconst 1, 1) := by decide +kernel
theorem dX11_text_58 : decode cX11_text 58 = .ok (.dup2, 1) := by decide +kernel
theorem dX11_text_59 : decode cX11_text 59 = .ok (.iaload, 1) := by decide +kernel
theorem dX11_text_60 : decode cX11_text 60 = .ok (.iconst 1, 1) := by decide +kernel
theorem dX11_text_61 : decode cX11_text 61 = .ok (.iadd, 1) := by decide +kernel
theorem dX11_text_62 : decode cX11_text 62 = .ok (.iastore, 1) := by decide +kernel
theorem dX11_text_63 : decode cX11_text 63 = .ok (.aload_n 0, 1) := by decide +kernel
theorem dX11_text_64 : decode cX11_text 64 = .ok (.getfield 7, 3) := by decide +kernel
theorem dX11_text_67 : decode cX11_text 67 = .ok (.iconst 1, 1) := by decide +kernel
theorem dX11_text_68 : decode cX11_text 68 = .ok (.iaload, 1) := by decide +kernel
theorem dX11_text_69 : decode cX11_text 69 = .ok (.iconst 1, 1) := by decide +kernel
theorem dX11_text_70 : decode cX11_text 70 = .ok (.isub, 1) := by decide +kernel
theorem dX11_text_71 : decode cX11_text 71 = .ok (.ireturn, 1) := by decide +kernel
theorem dX11_fault_0 : decode cX11_fault 0 = .ok (.iload_n 1, 1) := by decide +kernel
theorem dX11_fault_1 : decode cX11_fault 1 = .ok (.ifCond .ne 10, 3) := by decide +kernel
theorem dX11_fault_4 : decode cX11_fault 4 = .ok (.aload_n 0, 1) := by decide +kernel
theorem dX11_fault_5 : decode cX11_fault 5 = .ok (.getfield 22, 3) := by decide +kernel
theorem dX11_fault_8 : decode cX11_fault 8 = .ok (.goto 16, 3) := by decide +kernel
theorem dX11_fault_11 : decode cX11_fault 11 = .ok (.iload_n 1, 1) := by decide +kernel
theorem dX11_fault_12 : decode cX11_fault 12 = .ok (.iconst 1, 1) := by decide +kernel
theorem dX11_fault_13 : decode cX11_fault 13 = .ok (.if_icmp .ne 10, 3) := by decide +kernel
theorem dX11_fault_16 : decode cX11_fault 16 = .ok (.aload_n 0, 1) := by decide +kernel
theorem dX11_fault_17 : decode cX11_fault 17 = .ok (.getfield 26, 3) := by decide +kernel
theorem dX11_fault_20 : decode cX11_fault 20 = .ok (.goto 4, 3) := by decide +kernel
theorem dX11_fault_23 : decode cX11_fault 23 = .ok (.iconst (-1), 1) := by decide +kernel
theorem dX11_fault_24 : decode cX11_fault 24 = .ok (.ireturn, 1) := by decide +kernel
theorem dX11_by_0 : decode cX11_by 0 = .ok (.iload_n 1, 1) := by decide +kernel
theorem dX11_by_1 : decode cX11_by 1 = .ok (.iconst (-1), 1) := by decide +kernel
theorem dX11_by_2 : decode cX11_by 2 = .ok (.aload_n 0, 1) := by decide +kernel
theorem dX11_by_3 : decode cX11_by 3 = .ok (.getfield 7, 3) := by decide +kernel
theorem dX11_by_6 : decode cX11_by 6 = .ok (.iconst 1, 1) := by decide +kernel
theorem dX11_by_7 : decode cX11_by 7 = .ok (.iaload, 1) := by decide +kernel
theorem dX11_by_8 : decode cX11_by 8 = .ok (.iconst 1, 1) := by decide +kernel
theorem dX11_by_9 : decode cX11_by 9 = .ok (.isub, 1) := by decide +kernel
theorem dX11_by_10 : decode cX11_by 10 = .ok (.invokestatic 87, 3) := by decide +kernel
theorem dX11_by_13 : decode cX11_by 13 = .ok (.ifCond .ne 5, 3) := by decide +kernel
theorem dX11_by_16 : decode cX11_by 16 = .ok (.iconst 0, 1) := by decide +kernel
theorem dX11_by_17 : decode cX11_by 17 = .ok (.ireturn, 1) := by decide +kernel
theorem dX11_by_18 : decode cX11_by 18 = .ok (.aload_n 0, 1) := by decide +kernel
theorem dX11_by_19 : decode cX11_by 19 = .ok (.getfield 7, 3) := by decide +kernel
theorem dX11_by_22 : decode cX11_by 22 = .ok (.iconst 2, 1) := by decide +kernel
theorem dX11_by_23 : decode cX11_by 23 = .ok (.iload_n 1, 1) := by decide +kernel
theorem dX11_by_24 : decode cX11_by 24 = .ok (.iastore, 1) := by decide +kernel
theorem dX11_by_25 : decode cX11_by 25 = .ok (.iconst 1, 1) := by decide +kernel
theorem dX11_by_26 : decode cX11_by 26 = .ok (.ireturn, 1) := by decide +kernel
theorem dX11_clip_0 : decode cX11_clip 0 = .ok (.lload_n 0, 1) := by decide +kernel
theorem dX11_clip_1 : decode cX11_clip 1 = .ok (.ldc2_w 282, 3) := by decide +kernel
theorem dX11_clip_4 : decode cX11_clip 4 = .ok (.lcmp, 1) := by decide +kernel
theorem dX11_clip_5 : decode cX11_clip 5 = .ok (.ifCond .le 9, 3) := by decide +kernel
theorem dX11_clip_8 : decode cX11_clip 8 = .ok (.ldc2_w 282, 3) := by decide +kernel
theorem dX11_clip_11 : decode cX11_clip 11 = .ok (.goto 18, 3) := by decide +kernel
theorem dX11_clip_14 : decode cX11_clip 14 = .ok (.lload_n 0, 1) := by decide +kernel
theorem dX11_clip_15 : decode cX11_clip 15 = .ok (.ldc2_w 284, 3) := by decide +kernel
theorem dX11_clip_18 : decode cX11_clip 18 = .ok (.lcmp, 1) := by decide +kernel
theorem dX11_clip_19 : decode cX11_clip 19 = .ok (.ifCond .ge 9, 3) := by decide +kernel
theorem dX11_clip_22 : decode cX11_clip 22 = .ok (.ldc2_w 284, 3) := by decide +kernel
theorem dX11_clip_25 : decode cX11_clip 25 = .ok (.goto 4, 3) := by decide +kernel
theorem dX11_clip_28 : decode cX11_clip 28 = .ok (.lload_n 0, 1) := by decide +kernel
theorem dX11_clip_29 : decode cX11_clip 29 = .ok (.lreturn, 1) := by decide +kernel
theorem dX11_two_0 : decode cX11_two 0 = .ok (.iload_n 0, 1) := by decide +kernel
theorem dX11_two_1 : decode cX11_two 1 = .ok (.tableswitch 48 6 8 #[27, 34, 41], 27) := by decide +kernel
theorem dX11_two_28 : decode cX11_two 28 = .ok (.lload_n 1, 1) := by decide +kernel
theorem dX11_two_29 : decode cX11_two 29 = .ok (.lload_n 3, 1) := by decide +kernel
theorem dX11_two_30 : decode cX11_two 30 = .ok (.ladd, 1) := by decide +kernel
theorem dX11_two_31 : decode cX11_two 31 = .ok (.invokestatic 286, 3) := by decide +kernel
theorem dX11_two_34 : decode cX11_two 34 = .ok (.lreturn, 1) := by decide +kernel
theorem dX11_two_35 : decode cX11_two 35 = .ok (.lload_n 1, 1) := by decide +kernel
theorem dX11_two_36 : decode cX11_two 36 = .ok (.lload_n 3, 1) := by decide +kernel
theorem dX11_two_37 : decode cX11_two 37 = .ok (.lsub, 1) := by decide +kernel
theorem dX11_two_38 : decode cX11_two 38 = .ok (.invokestatic 286, 3) := by decide +kernel
theorem dX11_two_41 : decode cX11_two 41 = .ok (.lreturn, 1) := by decide +kernel
theorem dX11_two_42 : decode cX11_two 42 = .ok (.lload_n 1, 1) := by decide +kernel
theorem dX11_two_43 : decode cX11_two 43 = .ok (.lload_n 3, 1) := by decide +kernel
theorem dX11_two_44 : decode cX11_two 44 = .ok (.lmul, 1) := by decide +kernel
theorem dX11_two_45 : decode cX11_two 45 = .ok (.invokestatic 286, 3) := by decide +kernel
theorem dX11_two_48 : decode cX11_two 48 = .ok (.lreturn, 1) := by decide +kernel
theorem dX11_two_49 : decode cX11_two 49 = .ok (.lload_n 3, 1) := by decide +kernel
theorem dX11_two_50 : decode cX11_two 50 = .ok (.lconst 0, 1) := by decide +kernel
theorem dX11_two_51 : decode cX11_two 51 = .ok (.lcmp, 1) := by decide +kernel
theorem dX11_two_52 : decode cX11_two 52 = .ok (.ifCond .ne 7, 3) := by decide +kernel
theorem dX11_two_55 : decode cX11_two 55 = .ok (.lconst 0, 1) := by decide +kernel
theorem dX11_two_56 : decode cX11_two 56 = .ok (.goto 9, 3) := by decide +kernel
theorem dX11_two_59 : decode cX11_two 59 = .ok (.lload_n 1, 1) := by decide +kernel
theorem dX11_two_60 : decode cX11_two 60 = .ok (.lload_n 3, 1) := by decide +kernel
theorem dX11_two_61 : decode cX11_two 61 = .ok (.ldiv, 1) := by decide +kernel
theorem dX11_two_62 : decode cX11_two 62 = .ok (.invokestatic 286, 3) := by decide +kernel
theorem dX11_two_65 : decode cX11_two 65 = .ok (.lreturn, 1) := by decide +kernel
theorem dX11_isAsked_0 : decode cX11_isAsked 0 = .ok (.iload_n 0, 1) := by decide +kernel
theorem dX11_isAsked_1 : decode cX11_isAsked 1 = .ok (.bipush 10, 2) := by decide +kernel
theorem dX11_isAsked_3 : decode cX11_isAsked 3 = .ok (.if_icmp .ne 17, 3) := by decide +kernel
theorem dX11_isAsked_6 : decode cX11_isAsked 6 = .ok (.lload_n 1, 1) := by decide +kernel
theorem dX11_isAsked_7 : decode cX11_isAsked 7 = .ok (.lload_n 3, 1) := by decide +kernel
theorem dX11_isAsked_8 : decode cX11_isAsked 8 = .ok (.lcmp, 1) := by decide +kernel
theorem dX11_isAsked_9 : decode cX11_isAsked 9 = .ok (.ifCond .ge 7, 3) := by decide +kernel
theorem dX11_isAsked_12 : decode cX11_isAsked 12 = .ok (.iconst 1, 1) := by decide +kernel
theorem dX11_isAsked_13 : decode cX11_isAsked 13 = .ok (.goto 98, 3) := by decide +kernel
theorem dX11_isAsked_16 : decode cX11_isAsked 16 = .ok (.iconst 0, 1) := by decide +kernel
theorem dX11_isAsked_17 : decode cX11_isAsked 17 = .ok (.goto 94, 3) := by decide +kernel
theorem dX11_isAsked_20 : decode cX11_isAsked 20 = .ok (.iload_n 0, 1) := by decide +kernel
theorem dX11_isAsked_21 : decode cX11_isAsked 21 = .ok (.bipush 11, 2) := by decide +kernel
theorem dX11_isAsked_23 : decode cX11_isAsked 23 = .ok (.if_icmp .ne 17, 3) := by decide +kernel
theorem dX11_isAsked_26 : decode cX11_isAsked 26 = .ok (.lload_n 1, 1) := by decide +kernel
theorem dX11_isAsked_27 : decode cX11_isAsked 27 = .ok (.lload_n 3, 1) := by decide +kernel
theorem dX11_isAsked_28 : decode cX11_isAsked 28 = .ok (.lcmp, 1) := by decide +kernel
theorem dX11_isAsked_29 : decode cX11_isAsked 29 = .ok (.ifCond .gt 7, 3) := by decide +kernel
theorem dX11_isAsked_32 : decode cX11_isAsked 32 = .ok (.iconst 1, 1) := by decide +kernel
theorem dX11_isAsked_33 : decode cX11_isAsked 33 = .ok (.goto 78, 3) := by decide +kernel
theorem dX11_isAsked_36 : decode cX11_isAsked 36 = .ok (.iconst 0, 1) := by decide +kernel
theorem dX11_isAsked_37 : decode cX11_isAsked 37 = .ok (.goto 74, 3) := by decide +kernel
theorem dX11_isAsked_40 : decode cX11_isAsked 40 = .ok (.iload_n 0, 1) := by decide +kernel
theorem dX11_isAsked_41 : decode cX11_isAsked 41 = .ok (.bipush 12, 2) := by decide +kernel
theorem dX11_isAsked_43 : decode cX11_isAsked 43 = .ok (.if_icmp .ne 17, 3) := by decide +kernel
theorem dX11_isAsked_46 : decode cX11_isAsked 46 = .ok (.lload_n 1, 1) := by decide +kernel
theorem dX11_isAsked_47 : decode cX11_isAsked 47 = .ok (.lload_n 3, 1) := by decide +kernel
theorem dX11_isAsked_48 : decode cX11_isAsked 48 = .ok (.lcmp, 1) := by decide +kernel
theorem dX11_isAsked_49 : decode cX11_isAsked 49 = .ok (.ifCond .le 7, 3) := by decide +kernel
theorem dX11_isAsked_52 : decode cX11_isAsked 52 = .ok (.iconst 1, 1) := by decide +kernel
theorem dX11_isAsked_53 : decode cX11_isAsked 53 = .ok (.goto 58, 3) := by decide +kernel
theorem dX11_isAsked_56 : decode cX11_isAsked 56 = .ok (.iconst 0, 1) := by decide +kernel
theorem dX11_isAsked_57 : decode cX11_isAsked 57 = .ok (.goto 54, 3) := by decide +kernel
theorem dX11_isAsked_60 : decode cX11_isAsked 60 = .ok (.iload_n 0, 1) := by decide +kernel
theorem dX11_isAsked_61 : decode cX11_isAsked 61 = .ok (.bipush 13, 2) := by decide +kernel
theorem dX11_isAsked_63 : decode cX11_isAsked 63 = .ok (.if_icmp .ne 17, 3) := by decide +kernel
theorem dX11_isAsked_66 : decode cX11_isAsked 66 = .ok (.lload_n 1, 1) := by decide +kernel
theorem dX11_isAsked_67 : decode cX11_isAsked 67 = .ok (.lload_n 3, 1) := by decide +kernel
theorem dX11_isAsked_68 : decode cX11_isAsked 68 = .ok (.lcmp, 1) := by decide +kernel
theorem dX11_isAsked_69 : decode cX11_isAsked 69 = .ok (.ifCond .lt 7, 3) := by decide +kernel
theorem dX11_isAsked_72 : decode cX11_isAsked 72 = .ok (.iconst 1, 1) := by decide +kernel
theorem dX11_isAsked_73 : decode cX11_isAsked 73 = .ok (.goto 38, 3) := by decide +kernel
theorem dX11_isAsked_76 : decode cX11_isAsked 76 = .ok (.iconst 0, 1) := by decide +kernel
theorem dX11_isAsked_77 : decode cX11_isAsked 77 = .ok (.goto 34, 3) := by decide +kernel
theorem dX11_isAsked_80 : decode cX11_isAsked 80 = .ok (.iload_n 0, 1) := by decide +kernel
theorem dX11_isAsked_81 : decode cX11_isAsked 81 = .ok (.bipush 14, 2) := by decide +kernel
theorem dX11_isAsked_83 : decode cX11_isAsked 83 = .ok (.if_icmp .ne 17, 3) := by decide +kernel
theorem dX11_isAsked_86 : decode cX11_isAsked 86 = .ok (.lload_n 1, 1) := by decide +kernel
theorem dX11_isAsked_87 : decode cX11_isAsked 87 = .ok (.lload_n 3, 1) := by decide +kernel
theorem dX11_isAsked_88 : decode cX11_isAsked 88 = .ok (.lcmp, 1) := by decide +kernel
theorem dX11_isAsked_89 : decode cX11_isAsked 89 = .ok (.ifCond .ne 7, 3) := by decide +kernel
theorem dX11_isAsked_92 : decode cX11_isAsked 92 = .ok (.iconst 1, 1) := by decide +kernel
theorem dX11_isAsked_93 : decode cX11_isAsked 93 = .ok (.goto 18, 3) := by decide +kernel
theorem dX11_isAsked_96 : decode cX11_isAsked 96 = .ok (.iconst 0, 1) := by decide +kernel
theorem dX11_isAsked_97 : decode cX11_isAsked 97 = .ok (.goto 14, 3) := by decide +kernel
theorem dX11_isAsked_100 : decode cX11_isAsked 100 = .ok (.lload_n 1, 1) := by decide +kernel
theorem dX11_isAsked_101 : decode cX11_isAsked 101 = .ok (.lload_n 3, 1) := by decide +kernel
theorem dX11_isAsked_102 : decode cX11_isAsked 102 = .ok (.lcmp, 1) := by decide +kernel
theorem dX11_isAsked_103 : decode cX11_isAsked 103 = .ok (.ifCond .eq 7, 3) := by decide +kernel
theorem dX11_isAsked_106 : decode cX11_isAsked 106 = .ok (.iconst 1, 1) := by decide +kernel
theorem dX11_isAsked_107 : decode cX11_isAsked 107 = .ok (.goto 4, 3) := by decide +kernel
theorem dX11_isAsked_110 : decode cX11_isAsked 110 = .ok (.iconst 0, 1) := by decide +kernel
theorem dX11_isAsked_111 : decode cX11_isAsked 111 = .ok (.ireturn, 1) := by decide +kernel
theorem dX11_digitsOf_0 : decode cX11_digitsOf 0 = .ok (.lconst 0, 1) := by decide +kernel
theorem dX11_digitsOf_1 : decode cX11_digitsOf 1 = .ok (.lstore_n 2, 1) := by decide +kernel
theorem dX11_digitsOf_2 : decode cX11_digitsOf 2 = .ok (.lload_n 0, 1) := by decide +kernel
theorem dX11_digitsOf_3 : decode cX11_digitsOf 3 = .ok (.lconst 0, 1) := by decide +kernel
theorem dX11_digitsOf_4 : decode cX11_digitsOf 4 = .ok (.lcmp, 1) := by decide +kernel
theorem dX11_digitsOf_5 : decode cX11_digitsOf 5 = .ok (.ifCond .ge 8, 3) := by decide +kernel
theorem dX11_digitsOf_8 : decode cX11_digitsOf 8 = .ok (.lload_n 0, 1) := by decide +kernel
theorem dX11_digitsOf_9 : decode cX11_digitsOf 9 = .ok (.lneg, 1) := by decide +kernel
theorem dX11_digitsOf_10 : decode cX11_digitsOf 10 = .ok (.goto 4, 3) := by decide +kernel
theorem dX11_digitsOf_13 : decode cX11_digitsOf 13 = .ok (.lload_n 0, 1) := by decide +kernel
theorem dX11_digitsOf_14 : decode cX11_digitsOf 14 = .ok (.lstore 4, 2) := by decide +kernel
theorem dX11_digitsOf_16 : decode cX11_digitsOf 16 = .ok (.lload 4, 2) := by decide +kernel
theorem dX11_digitsOf_18 : decode cX11_digitsOf 18 = .ok (.lconst 0, 1) := by decide +kernel
theorem dX11_digitsOf_19 : decode cX11_digitsOf 19 = .ok (.lcmp, 1) := by decide +kernel
theorem dX11_digitsOf_20 : decode cX11_digitsOf 20 = .ok (.ifCond .le 23, 3) := by decide +kernel
theorem dX11_digitsOf_23 : decode cX11_digitsOf 23 = .ok (.lload_n 2, 1) := by decide +kernel
theorem dX11_digitsOf_24 : decode cX11_digitsOf 24 = .ok (.lload 4, 2) := by decide +kernel
theorem dX11_digitsOf_26 : decode cX11_digitsOf 26 = .ok (.ldc2_w 290, 3) := by decide +kernel
theorem dX11_digitsOf_29 : decode cX11_digitsOf 29 = .ok (.lrem, 1) := by decide +kernel
theorem dX11_digitsOf_30 : decode cX11_digitsOf 30 = .ok (.ladd, 1) := by decide +kernel
theorem dX11_digitsOf_31 : decode cX11_digitsOf 31 = .ok (.lstore_n 2, 1) := by decide +kernel
theorem dX11_digitsOf_32 : decode cX11_digitsOf 32 = .ok (.lload 4, 2) := by decide +kernel
theorem dX11_digitsOf_34 : decode cX11_digitsOf 34 = .ok (.ldc2_w 290, 3) := by decide +kernel
theorem dX11_digitsOf_37 : decode cX11_digitsOf 37 = .ok (.ldiv, 1) := by decide +kernel
theorem dX11_digitsOf_38 : decode cX11_digitsOf 38 = .ok (.lstore 4, 2) := by decide +kernel
theorem dX11_digitsOf_40 : decode cX11_digitsOf 40 = .ok (.goto (-24), 3) := by decide +kernel
theorem dX11_digitsOf_43 : decode cX11_digitsOf 43 = .ok (.lload_n 2, 1) := by decide +kernel
theorem dX11_digitsOf_44 : decode cX11_digitsOf 44 = .ok (.lreturn, 1) := by decide +kernel
theorem dX11_sumsOf_0 : decode cX11_sumsOf 0 = .ok (.lload_n 1, 1) := by decide +kernel
theorem dX11_sumsOf_1 : decode cX11_sumsOf 1 = .ok (.lconst 0, 1) := by decide +kernel
theorem dX11_sumsOf_2 : decode cX11_sumsOf 2 = .ok (.lcmp, 1) := by decide +kernel
theorem dX11_sumsOf_3 : decode cX11_sumsOf 3 = .ok (.ifCond .lt 26, 3) := by decide +kernel
theorem dX11_sumsOf_6 : decode cX11_sumsOf 6 = .ok (.lload_n 1, 1) := by decide +kernel
theorem dX11_sumsOf_7 : decode cX11_sumsOf 7 = .ok (.aload_n 0, 1) := by decide +kernel
theorem dX11_sumsOf_8 : decode cX11_sumsOf 8 = .ok (.getfield 7, 3) := by decide +kernel
theorem dX11_sumsOf_11 : decode cX11_sumsOf 11 = .ok (.iconst 0, 1) := by decide +kernel
theorem dX11_sumsOf_12 : decode cX11_sumsOf 12 = .ok (.iaload, 1) := by decide +kernel
theorem dX11_sumsOf_13 : decode cX11_sumsOf 13 = .ok (.i2l, 1) := by decide +kernel
theorem dX11_sumsOf_14 : decode cX11_sumsOf 14 = .ok (.lcmp, 1) := by decide +kernel
theorem dX11_sumsOf_15 : decode cX11_sumsOf 15 = .ok (.ifCond .ge 14, 3) := by decide +kernel
theorem dX11_sumsOf_18 : decode cX11_sumsOf 18 = .ok (.aload_n 0, 1) := by decide +kernel
theorem dX11_sumsOf_19 : decode cX11_sumsOf 19 = .ok (.lload_n 1, 1) := by decide +kernel
theorem dX11_sumsOf_20 : decode cX11_sumsOf 20 = .ok (.l2i, 1) := by decide +kernel
theorem dX11_sumsOf_21 : decode cX11_sumsOf 21 = .ok (.iconst 2, 1) := by decide +kernel
theorem dX11_sumsOf_22 : decode cX11_sumsOf 22 = .ok (.invokevirtual 107, 3) := by decide +kernel
theorem dX11_sumsOf_25 : decode cX11_sumsOf 25 = .ok (.i2l, 1) := by decide +kernel
theorem dX11_sumsOf_26 : decode cX11_sumsOf 26 = .ok (.goto 4, 3) := by decide +kernel
theorem dX11_sumsOf_29 : decode cX11_sumsOf 29 = .ok (.lconst 0, 1) := by decide +kernel
theorem dX11_sumsOf_30 : decode cX11_sumsOf 30 = .ok (.lreturn, 1) := by decide +kernel
theorem dX11_joined_0 : decode cX11_joined 0 = .ok (.iload_n 0, 1) := by decide +kernel
theorem dX11_joined_1 : decode cX11_joined 1 = .ok (.bipush 21, 2) := by decide +kernel
theorem dX11_joined_3 : decode cX11_joined 3 = .ok (.if_icmp .ne 19, 3) := by decide +kernel
theorem dX11_joined_6 : decode cX11_joined 6 = .ok (.iload_n 1, 1) := by decide +kernel
theorem dX11_joined_7 : decode cX11_joined 7 = .ok (.ifCond .eq 11, 3) := by decide +kernel
theorem dX11_joined_10 : decode cX11_joined 10 = .ok (.iload_n 2, 1) := by decide +kernel
theorem dX11_joined_11 : decode cX11_joined 11 = .ok (.ifCond .eq 7, 3) := by decide +kernel
theorem dX11_joined_14 : decode cX11_joined 14 = .ok (.iconst 1, 1) := by decide +kernel
theorem dX11_joined_15 : decode cX11_joined 15 = .ok (.goto 20, 3) := by decide +kernel
theorem dX11_joined_18 : decode cX11_joined 18 = .ok (.iconst 0, 1) := by decide +kernel
theorem dX11_joined_19 : decode cX11_joined 19 = .ok (.goto 16, 3) := by decide +kernel
theorem dX11_joined_22 : decode cX11_joined 22 = .ok (.iload_n 1, 1) := by decide +kernel
theorem dX11_joined_23 : decode cX11_joined 23 = .ok (.ifCond .ne 7, 3) := by decide +kernel
theorem dX11_joined_26 : decode cX11_joined 26 = .ok (.iload_n 2, 1) := by decide +kernel
theorem dX11_joined_27 : decode cX11_joined 27 = .ok (.ifCond .eq 7, 3) := by decide +kernel
theorem dX11_joined_30 : decode cX11_joined 30 = .ok (.iconst 1, 1) := by decide +kernel
theorem dX11_joined_31 : decode cX11_joined 31 = .ok (.goto 4, 3) := by decide +kernel
theorem dX11_joined_34 : decode cX11_joined 34 = .ok (.iconst 0, 1) := by decide +kernel
theorem dX11_joined_35 : decode cX11_joined 35 = .ok (.ireturn, 1) := by decide +kernel
theorem dX11_summedUp_0 : decode cX11_summedUp 0 = .ok (.sipush 705, 3) := by decide +kernel
theorem dX11_summedUp_3 : decode cX11_summedUp 3 = .ok (.iload_n 1, 1) := by decide +kernel
theorem dX11_summedUp_4 : decode cX11_summedUp 4 = .ok (.imul, 1) := by decide +kernel
theorem dX11_summedUp_5 : decode cX11_summedUp 5 = .ok (.iconst 1, 1) := by decide +kernel
theorem dX11_summedUp_6 : decode cX11_summedUp 6 = .ok (.iadd, 1) := by decide +kernel
theorem dX11_summedUp_7 : decode cX11_summedUp 7 = .ok (.iconst 4, 1) := by decide +kernel
theorem dX11_summedUp_8 : decode cX11_summedUp 8 = .ok (.iload_n 2, 1) := by decide +kernel
theorem dX11_summedUp_9 : decode cX11_summedUp 9 = .ok (.imul, 1) := by decide +kernel
theorem dX11_summedUp_10 : decode cX11_summedUp 10 = .ok (.iadd, 1) := by decide +kernel
theorem dX11_summedUp_11 : decode cX11_summedUp 11 = .ok (.istore_n 3, 1) := by decide +kernel
theorem dX11_summedUp_12 : decode cX11_summedUp 12 = .ok (.sipush 705, 3) := by decide +kernel
theorem dX11_summedUp_15 : decode cX11_summedUp 15 = .ok (.iload_n 1, 1) := by decide +kernel
theorem dX11_summedUp_16 : decode cX11_summedUp 16 = .ok (.imul, 1) := by decide +kernel
theorem dX11_summedUp_17 : decode cX11_summedUp 17 = .ok (.bipush 97, 2) := by decide +kernel
theorem dX11_summedUp_19 : decode cX11_summedUp 19 = .ok (.iadd, 1) := by decide +kernel
theorem dX11_summedUp_20 : decode cX11_summedUp 20 = .ok (.istore 4, 2) := by decide +kernel
theorem dX11_summedUp_22 : decode cX11_summedUp 22 = .ok (.iconst 0, 1) := by decide +kernel
theorem dX11_summedUp_23 : decode cX11_summedUp 23 = .ok (.istore 5, 2) := by decide +kernel
theorem dX11_summedUp_25 : decode cX11_summedUp 25 = .ok (.iconst 0, 1) := by decide +kernel
theorem dX11_summedUp_26 : decode cX11_summedUp 26 = .ok (.istore 6, 2) := by decide +kernel
theorem dX11_summedUp_28 : decode cX11_summedUp 28 = .ok (.aload_n 0, 1) := by decide +kernel
theorem dX11_summedUp_29 : decode cX11_summedUp 29 = .ok (.getfield 16, 3) := by decide +kernel
theorem dX11_summedUp_32 : decode cX11_summedUp 32 = .ok (.iload_n 3, 1) := by decide +kernel
theorem dX11_summedUp_33 : decode cX11_summedUp 33 = .ok (.iconst 1, 1) := by decide +kernel
theorem dX11_summedUp_34 : decode cX11_summedUp 34 = .ok (.iadd, 1) := by decide +kernel
theorem dX11_summedUp_35 : decode cX11_summedUp 35 = .ok (.iaload, 1) := by decide +kernel
theorem dX11_summedUp_36 : decode cX11_summedUp 36 = .ok (.istore 7, 2) := by decide +kernel
theorem dX11_summedUp_38 : decode cX11_summedUp 38 = .ok (.iload 7, 2) := by decide +kernel
theorem dX11_summedUp_40 : decode cX11_summedUp 40 = .ok (.aload_n 0, 1) := by decide +kernel
theorem dX11_summedUp_41 : decode cX11_summedUp 41 = .ok (.getfield 16, 3) := by decide +kernel
theorem dX11_summedUp_44 : decode cX11_summedUp 44 = .ok (.iload_n 3, 1) := by decide +kernel
theorem dX11_summedUp_45 : decode cX11_summedUp 45 = .ok (.iconst 2, 1) := by decide +kernel
theorem dX11_summedUp_46 : decode cX11_summedUp 46 = .ok (.iadd, 1) := by decide +kernel
theorem dX11_summedUp_47 : decode cX11_summedUp 47 = .ok (.iaload, 1) := by decide +kernel
theorem dX11_summedUp_48 : decode cX11_summedUp 48 = .ok (.if_icmp .ge 345, 3) := by decide +kernel
theorem dX11_summedUp_51 : decode cX11_summedUp 51 = .ok (.aload_n 0, 1) := by decide +kernel
theorem dX11_summedUp_52 : decode cX11_summedUp 52 = .ok (.getfield 16, 3) := by decide +kernel
theorem dX11_summedUp_55 : decode cX11_summedUp 55 = .ok (.iload 4, 2) := by decide +kernel
theorem dX11_summedUp_57 : decode cX11_summedUp 57 = .ok (.iconst 2, 1) := by decide +kernel
theorem dX11_summedUp_58 : decode cX11_summedUp 58 = .ok (.iload 7, 2) := by decide +kernel
theorem dX11_summedUp_60 : decode cX11_summedUp 60 = .ok (.imul, 1) := by decide +kernel
theorem dX11_summedUp_61 : decode cX11_summedUp 61 = .ok (.iadd, 1) := by decide +kernel
theorem dX11_summedUp_62 : decode cX11_summedUp 62 = .ok (.iaload, 1) := by decide +kernel
theorem dX11_summedUp_63 : decode cX11_summedUp 63 = .ok (.istore 8, 2) := by decide +kernel
theorem dX11_summedUp_65 : decode cX11_summedUp 65 = .ok (.aload_n 0, 1) := by decide +kernel
theorem dX11_summedUp_66 : decode cX11_summedUp 66 = .ok (.getfield 16, 3) := by decide +kernel
theorem dX11_summedUp_69 : decode cX11_summedUp 69 = .ok (.iload 4, 2) := by decide +kernel
theorem dX11_summedUp_71 : decode cX11_summedUp 71 = .ok (.iconst 2, 1) := by decide +kernel
theorem dX11_summedUp_72 : decode cX11_summedUp 72 = .ok (.iload 7, 2) := by decide +kernel
theorem dX11_summedUp_74 : decode cX11_summedUp 74 = .ok (.imul, 1) := by decide +kernel
theorem dX11_summedUp_75 : decode cX11_summedUp 75 = .ok (.iadd, 1) := by decide +kernel
theorem dX11_summedUp_76 : decode cX11_summedUp 76 = .ok (.iconst 1, 1) := by decide +kernel
theorem dX11_summedUp_77 : decode cX11_summedUp 77 = .ok (.iadd, 1) := by decide +kernel
theorem dX11_summedUp_78 : decode cX11_summedUp 78 = .ok (.iaload, 1) := by decide +kernel
theorem dX11_summedUp_79 : decode cX11_summedUp 79 = .ok (.istore 9, 2) := by decide +kernel
theorem dX11_summedUp_81 : decode cX11_summedUp 81 = .ok (.iload 8, 2) := by decide +kernel
theorem dX11_summedUp_83 : decode cX11_summedUp 83 = .ok (.iconst 1, 1) := by decide +kernel
theorem dX11_summedUp_84 : decode cX11_summedUp 84 = .ok (.if_icmp .gt 35, 3) := by decide +kernel
theorem dX11_summedUp_87 : decode cX11_summedUp 87 = .ok (.aload_n 0, 1) := by decide +kernel
theorem dX11_summedUp_88 : decode cX11_summedUp 88 = .ok (.getfield 35, 3) := by decide +kernel
theorem dX11_summedUp_91 : decode cX11_summedUp 91 = .ok (.iload 5, 2) := by decide +kernel
theorem dX11_summedUp_93 : decode cX11_summedUp 93 = .ok (.iload 8, 2) := by decide +kernel
theorem dX11_summedUp_95 : decode cX11_summedUp 95 = .ok (.ifCond .ne 9, 3) := by decide +kernel
theorem dX11_summedUp_98 : decode cX11_summedUp 98 = .ok (.iload 9, 2) := by decide +kernel
theorem dX11_summedUp_100 : decode cX11_summedUp 100 = .ok (.i2l, 1) := by decide +kernel
theorem dX11_summedUp_101 : decode cX11_summedUp 101 = .ok (.goto 11, 3) := by decide +kernel
theorem dX11_summedUp_104 : decode cX11_summedUp 104 = .ok (.aload_n 0, 1) := by decide +kernel
theorem dX11_summedUp_105 : decode cX11_summedUp 105 = .ok (.getfield 32, 3) := by decide +kernel
theorem dX11_summedUp_108 : decode cX11_summedUp 108 = .ok (.iload 9, 2) := by decide +kernel
theorem dX11_summedUp_110 : decode cX11_summedUp 110 = .ok (.iaload, 1) := by decide +kernel
theorem dX11_summedUp_111 : decode cX11_summedUp 111 = .ok (.i2l, 1) := by decide +kernel
theorem dX11_summedUp_112 : decode cX11_summedUp 112 = .ok (.lastore, 1) := by decide +kernel
theorem dX11_summedUp_113 : decode cX11_summedUp 113 = .ok (.iinc 5 1, 3) := by decide +kernel
theorem dX11_summedUp_116 : decode cX11_summedUp 116 = .ok (.goto 271, 3) := by decide +kernel
theorem dX11_summedUp_119 : decode cX11_summedUp 119 = .ok (.iload 8, 2) := by decide +kernel
theorem dX11_summedUp_121 : decode cX11_summedUp 121 = .ok (.iconst 4, 1) := by decide +kernel
theorem dX11_summedUp_122 : decode cX11_summedUp 122 = .ok (.if_icmp .ne 38, 3) := by decide +kernel
theorem dX11_summedUp_125 : decode cX11_summedUp 125 = .ok (.iinc 5 (-1), 3) := by decide +kernel
theorem dX11_summedUp_128 : decode cX11_summedUp 128 = .ok (.iinc 6 (-1), 3) := by decide +kernel
theorem dX11_summedUp_131 : decode cX11_summedUp 131 = .ok (.aload_n 0, 1) := by decide +kernel
theorem dX11_summedUp_132 : decode cX11_summedUp 132 = .ok (.getfield 39, 3) := by decide +kernel
theorem dX11_summedUp_135 : decode cX11_summedUp 135 = .ok (.iload 6, 2) := by decide +kernel
theorem dX11_summedUp_137 : decode cX11_summedUp 137 = .ok (.baload, 1) := by decide +kernel
theorem dX11_summedUp_138 : decode cX11_summedUp 138 = .ok (.ifCond .ne 249, 3) := by decide +kernel
theorem dX11_summedUp_141 : decode cX11_summedUp 141 = .ok (.aload_n 0, 1) := by decide +kernel
theorem dX11_summedUp_142 : decode cX11_summedUp 142 = .ok (.getfield 35, 3) := by decide +kernel
theorem dX11_summedUp_145 : decode cX11_summedUp 145 = .ok (.iload 5, 2) := by decide +kernel
theorem dX11_summedUp_147 : decode cX11_summedUp 147 = .ok (.iconst 1, 1) := by decide +kernel
theorem dX11_summedUp_148 : decode cX11_summedUp 148 = .ok (.isub, 1) := by decide +kernel
theorem dX11_summedUp_149 : decode cX11_summedUp 149 = .ok (.aload_n 0, 1) := by decide +kernel
theorem dX11_summedUp_150 : decode cX11_summedUp 150 = .ok (.getfield 35, 3) := by decide +kernel
theorem dX11_summedUp_153 : decode cX11_summedUp 153 = .ok (.iload 5, 2) := by decide +kernel
theorem dX11_summedUp_155 : decode cX11_summedUp 155 = .ok (.laload, 1) := by decide +kernel
theorem dX11_summedUp_156 : decode cX11_summedUp 156 = .ok (.lastore, 1) := by decide +kernel
theorem dX11_summedUp_157 : decode cX11_summedUp 157 = .ok (.goto 230, 3) := by decide +kernel
theorem dX11_summedUp_160 : decode cX11_summedUp 160 = .ok (.iload 8, 2) := by decide +kernel
theorem dX11_summedUp_162 : decode cX11_summedUp 162 = .ok (.iconst 5, 1) := by decide +kernel
theorem dX11_summedUp_163 : decode cX11_summedUp 163 = .ok (.if_icmp .gt 68, 3) := by decide +kernel
theorem dX11_summedUp_166 : decode cX11_summedUp 166 = .ok (.aload_n 0, 1) := by decide +kernel
theorem dX11_summedUp_167 : decode cX11_summedUp 167 = .ok (.getfield 35, 3) := by decide +kernel
theorem dX11_summedUp_170 : decode cX11_summedUp 170 = .ok (.iload 5, 2) := by decide +kernel
theorem dX11_summedUp_172 : decode cX11_summedUp 172 = .ok (.iconst 1, 1) := by decide +kernel
theorem dX11_summedUp_173 : decode cX11_summedUp 173 = .ok (.isub, 1) := by decide +kernel
theorem dX11_summedUp_174 : decode cX11_summedUp 174 = .ok (.iload 8, 2) := by decide +kernel
theorem dX11_summedUp_176 : decode cX11_summedUp 176 = .ok (.iconst 5, 1) := by decide +kernel
theorem dX11_summedUp_177 : decode cX11_summedUp 177 = .ok (.if_icmp .ne 16, 3) := by decide +kernel
theorem dX11_summedUp_180 : decode cX11_summedUp 180 = .ok (.aload_n 0, 1) := by decide +kernel
theorem dX11_summedUp_181 : decode cX11_summedUp 181 = .ok (.getfield 35, 3) := by decide +kernel
theorem dX11_summedUp_184 : decode cX11_summedUp 184 = .ok (.iload 5, 2) := by decide +kernel
theorem dX11_summedUp_186 : decode cX11_summedUp 186 = .ok (.iconst 1, 1) := by decide +kernel
theorem dX11_summedUp_187 : decode cX11_summedUp 187 = .ok (.isub, 1) := by decide +kernel
theorem dX11_summedUp_188 : decode cX11_summedUp 188 = .ok (.laload, 1) := by decide +kernel
theorem dX11_summedUp_189 : decode cX11_summedUp 189 = .ok (.lneg, 1) := by decide +kernel
theorem dX11_summedUp_190 : decode cX11_summedUp 190 = .ok (.goto 37, 3) := by decide +kernel
theorem dX11_summedUp_193 : decode cX11_summedUp 193 = .ok (.iload 8, 2) := by decide +kernel
theorem dX11_summedUp_195 : decode cX11_summedUp 195 = .ok (.iconst 3, 1) := by decide +kernel
theorem dX11_summedUp_196 : decode cX11_summedUp 196 = .ok (.if_icmp .ne 19, 3) := by decide +kernel
theorem dX11_summedUp_199 : decode cX11_summedUp 199 = .ok (.aload_n 0, 1) := by decide +kernel
theorem dX11_summedUp_200 : decode cX11_summedUp 200 = .ok (.aload_n 0, 1) := by decide +kernel
theorem dX11_summedUp_201 : decode cX11_summedUp 201 = .ok (.getfield 35, 3) := by decide +kernel
theorem dX11_summedUp_204 : decode cX11_summedUp 204 = .ok (.iload 5, 2) := by decide +kernel
theorem dX11_summedUp_206 : decode cX11_summedUp 206 = .ok (.iconst 1, 1) := by decide +kernel
theorem dX11_summedUp_207 : decode cX11_summedUp 207 = .ok (.isub, 1) := by decide +kernel
theorem dX11_summedUp_208 : decode cX11_summedUp 208 = .ok (.laload, 1) := by decide +kernel
theorem dX11_summedUp_209 : decode cX11_summedUp 209 = .ok (.invokevirtual 292, 3) := by decide +kernel
theorem dX11_summedUp_212 : decode cX11_summedUp 212 = .ok (.goto 15, 3) := by decide +kernel
theorem dX11_summedUp_215 : decode cX11_summedUp 215 = .ok (.aload_n 0, 1) := by decide +kernel
theorem dX11_summedUp_216 : decode cX11_summedUp 216 = .ok (.getfield 35, 3) := by decide +kernel
theorem dX11_summedUp_219 : decode cX11_summedUp 219 = .ok (.iload 5, 2) := by decide +kernel
theorem dX11_summedUp_221 : decode cX11_summedUp 221 = .ok (.iconst 1, 1) := by decide +kernel
theorem dX11_summedUp_222 : decode cX11_summedUp 222 = .ok (.isub, 1) := by decide +kernel
theorem dX11_summedUp_223 : decode cX11_summedUp 223 = .ok (.laload, 1) := by decide +kernel
theorem dX11_summedUp_224 : decode cX11_summedUp 224 = .ok (.invokestatic 295, 3) := by decide +kernel
theorem dX11_summedUp_227 : decode cX11_summedUp 227 = .ok (.lastore, 1) := by decide +kernel
theorem dX11_summedUp_228 : decode cX11_summedUp 228 = .ok (.goto 159, 3) := by decide +kernel
theorem dX11_summedUp_231 : decode cX11_summedUp 231 = .ok (.iload 8, 2) := by decide +kernel
theorem dX11_summedUp_233 : decode cX11_summedUp 233 = .ok (.bipush 10, 2) := by decide +kernel
theorem dX11_summedUp_235 : decode cX11_summedUp 235 = .ok (.if_icmp .ge 39, 3) := by decide +kernel
theorem dX11_summedUp_238 : decode cX11_summedUp 238 = .ok (.iinc 5 (-1), 3) := by decide +kernel
theorem dX11_summedUp_241 : decode cX11_summedUp 241 = .ok (.aload_n 0, 1) := by decide +kernel
theorem dX11_summedUp_242 : decode cX11_summedUp 242 = .ok (.getfield 35, 3) := by decide +kernel
theorem dX11_summedUp_245 : decode cX11_summedUp 245 = .ok (.iload 5, 2) := by decide +kernel
theorem dX11_summedUp_247 : decode cX11_summedUp 247 = .ok (.iconst 1, 1) := by decide +kernel
theorem dX11_summedUp_248 : decode cX11_summedUp 248 = .ok (.isub, 1) := by decide +kernel
theorem dX11_summedUp_249 : decode cX11_summedUp 249 = .ok (.iload 8, 2) := by decide +kernel
theorem dX11_summedUp_251 : decode cX11_summedUp 251 = .ok (.aload_n 0, 1) := by decide +kernel
theorem dX11_summedUp_252 : decode cX11_summedUp 252 = .ok (.getfield 35, 3) := by decide +kernel
theorem dX11_summedUp_255 : decode cX11_summedUp 255 = .ok (.iload 5, 2) := by decide +kernel
theorem dX11_summedUp_257 : decode cX11_summedUp 257 = .ok (.iconst 1, 1) := by decide +kernel
theorem dX11_summedUp_258 : decode cX11_summedUp 258 = .ok (.isub, 1) := by decide +kernel
theorem dX11_summedUp_259 : decode cX11_summedUp 259 = .ok (.laload, 1) := by decide +kernel
theorem dX11_summedUp_260 : decode cX11_summedUp 260 = .ok (.aload_n 0, 1) := by decide +kernel
theorem dX11_summedUp_261 : decode cX11_summedUp 261 = .ok (.getfield 35, 3) := by decide +kernel
theorem dX11_summedUp_264 : decode cX11_summedUp 264 = .ok (.iload 5, 2) := by decide +kernel
theorem dX11_summedUp_266 : decode cX11_summedUp 266 = .ok (.laload, 1) := by decide +kernel
theorem dX11_summedUp_267 : decode cX11_summedUp 267 = .ok (.invokestatic 298, 3) := by decide +kernel
theorem dX11_summedUp_270 : decode cX11_summedUp 270 = .ok (.lastore, 1) := by decide +kernel
theorem dX11_summedUp_271 : decode cX11_summedUp 271 = .ok (.goto 116, 3) := by decide +kernel
theorem dX11_summedUp_274 : decode cX11_summedUp 274 = .ok (.iload 8, 2) := by decide +kernel
theorem dX11_summedUp_276 : decode cX11_summedUp 276 = .ok (.bipush 20, 2) := by decide +kernel
theorem dX11_summedUp_278 : decode cX11_summedUp 278 = .ok (.if_icmp .ge 40, 3) := by decide +kernel
theorem dX11_summedUp_281 : decode cX11_summedUp 281 = .ok (.iinc 5 (-2), 3) := by decide +kernel
theorem dX11_summedUp_284 : decode cX11_summedUp 284 = .ok (.aload_n 0, 1) := by decide +kernel
theorem dX11_summedUp_285 : decode cX11_summedUp 285 = .ok (.getfield 39, 3) := by decide +kernel
theorem dX11_summedUp_288 : decode cX11_summedUp 288 = .ok (.iload 6, 2) := by decide +kernel
theorem dX11_summedUp_290 : decode cX11_summedUp 290 = .ok (.iload 8, 2) := by decide +kernel
theorem dX11_summedUp_292 : decode cX11_summedUp 292 = .ok (.aload_n 0, 1) := by decide +kernel
theorem dX11_summedUp_293 : decode cX11_summedUp 293 = .ok (.getfield 35, 3) := by decide +kernel
theorem dX11_summedUp_296 : decode cX11_summedUp 296 = .ok (.iload 5, 2) := by decide +kernel
theorem dX11_summedUp_298 : decode cX11_summedUp 298 = .ok (.laload, 1) := by decide +kernel
theorem dX11_summedUp_299 : decode cX11_summedUp 299 = .ok (.aload_n 0, 1) := by decide +kernel
theorem dX11_summedUp_300 : decode cX11_summedUp 300 = .ok (.getfield 35, 3) := by decide +kernel
theorem dX11_summedUp_303 : decode cX11_summedUp 303 = .ok (.iload 5, 2) := by decide +kernel
theorem dX11_summedUp_305 : decode cX11_summedUp 305 = .ok (.iconst 1, 1) := by decide +kernel
theorem dX11_summedUp_306 : decode cX11_summedUp 306 = .ok (.iadd, 1) := by decide +kernel
theorem dX11_summedUp_307 : decode cX11_summedUp 307 = .ok (.laload, 1) := by decide +kernel
theorem dX11_summedUp_308 : decode cX11_summedUp 308 = .ok (.invokestatic 302, 3) := by decide +kernel
theorem dX11_summedUp_311 : decode cX11_summedUp 311 = .ok (.bastore, 1) := by decide +kernel
theorem dX11_summedUp_312 : decode cX11_summedUp 312 = .ok (.iinc 6 1, 3) := by decide +kernel
theorem dX11_summedUp_315 : decode cX11_summedUp 315 = .ok (.goto 72, 3) := by decide +kernel
theorem dX11_summedUp_318 : decode cX11_summedUp 318 = .ok (.iload 8, 2) := by decide +kernel
theorem dX11_summedUp_320 : decode cX11_summedUp 320 = .ok (.bipush 20, 2) := by decide +kernel
theorem dX11_summedUp_322 : decode cX11_summedUp 322 = .ok (.if_icmp .ne 32, 3) := by decide +kernel
theorem dX11_summedUp_325 : decode cX11_summedUp 325 = .ok (.aload_n 0, 1) := by decide +kernel
theorem dX11_summedUp_326 : decode cX11_summedUp 326 = .ok (.getfield 39, 3) := by decide +kernel
theorem dX11_summedUp_329 : decode cX11_summedUp 329 = .ok (.iload 6, 2) := by decide +kernel
theorem dX11_summedUp_331 : decode cX11_summedUp 331 = .ok (.iconst 1, 1) := by decide +kernel
theorem dX11_summedUp_332 : decode cX11_summedUp 332 = .ok (.isub, 1) := by decide +kernel
theorem dX11_summedUp_333 : decode cX11_summedUp 333 = .ok (.aload_n 0, 1) := by decide +kernel
theorem dX11_summedUp_334 : decode cX11_summedUp 334 = .ok (.getfield 39, 3) := by decide +kernel
theorem dX11_summedUp_337 : decode cX11_summedUp 337 = .ok (.iload 6, 2) := by decide +kernel
theorem dX11_summedUp_339 : decode cX11_summedUp 339 = .ok (.iconst 1, 1) := by decide +kernel
theorem dX11_summedUp_340 : decode cX11_summedUp 340 = .ok (.isub, 1) := by decide +kernel
theorem dX11_summedUp_341 : decode cX11_summedUp 341 = .ok (.baload, 1) := by decide +kernel
theorem dX11_summedUp_342 : decode cX11_summedUp 342 = .ok (.ifCond .ne 7, 3) := by decide +kernel
theorem dX11_summedUp_345 : decode cX11_summedUp 345 = .ok (.iconst 1, 1) := by decide +kernel
theorem dX11_summedUp_346 : decode cX11_summedUp 346 = .ok (.goto 4, 3) := by decide +kernel
theorem dX11_summedUp_349 : decode cX11_summedUp 349 = .ok (.iconst 0, 1) := by decide +kernel
theorem dX11_summedUp_350 : decode cX11_summedUp 350 = .ok (.bastore, 1) := by decide +kernel
theorem dX11_summedUp_351 : decode cX11_summedUp 351 = .ok (.goto 36, 3) := by decide +kernel
theorem dX11_summedUp_354 : decode cX11_summedUp 354 = .ok (.iinc 6 (-1), 3) := by decide +kernel
theorem dX11_summedUp_357 : decode cX11_summedUp 357 = .ok (.aload_n 0, 1) := by decide +kernel
theorem dX11_summedUp_358 : decode cX11_summedUp 358 = .ok (.getfield 39, 3) := by decide +kernel
theorem dX11_summedUp_361 : decode cX11_summedUp 361 = .ok (.iload 6, 2) := by decide +kernel
theorem dX11_summedUp_363 : decode cX11_summedUp 363 = .ok (.iconst 1, 1) := by decide +kernel
theorem dX11_summedUp_364 : decode cX11_summedUp 364 = .ok (.isub, 1) := by decide +kernel
theorem dX11_summedUp_365 : decode cX11_summedUp 365 = .ok (.iload 8, 2) := by decide +kernel
theorem dX11_summedUp_367 : decode cX11_summedUp 367 = .ok (.aload_n 0, 1) := by decide +kernel
theorem dX11_summedUp_368 : decode cX11_summedUp 368 = .ok (.getfield 39, 3) := by decide +kernel
theorem dX11_summedUp_371 : decode cX11_summedUp 371 = .ok (.iload 6, 2) := by decide +kernel
theorem dX11_summedUp_373 : decode cX11_summedUp 373 = .ok (.iconst 1, 1) := by decide +kernel
theorem dX11_summedUp_374 : decode cX11_summedUp 374 = .ok (.isub, 1) := by decide +kernel
theorem dX11_summedUp_375 : decode cX11_summedUp 375 = .ok (.baload, 1) := by decide +kernel
theorem dX11_summedUp_376 : decode cX11_summedUp 376 = .ok (.aload_n 0, 1) := by decide +kernel
theorem dX11_summedUp_377 : decode cX11_summedUp 377 = .ok (.getfield 39, 3) := by decide +kernel
theorem dX11_summedUp_380 : decode cX11_summedUp 380 = .ok (.iload 6, 2) := by decide +kernel
theorem dX11_summedUp_382 : decode cX11_summedUp 382 = .ok (.baload, 1) := by decide +kernel
theorem dX11_summedUp_383 : decode cX11_summedUp 383 = .ok (.invokestatic 306, 3) := by decide +kernel
theorem dX11_summedUp_386 : decode cX11_summedUp 386 = .ok (.bastore, 1) := by decide +kernel
theorem dX11_summedUp_387 : decode cX11_summedUp 387 = .ok (.iinc 7 1, 3) := by decide +kernel
theorem dX11_summedUp_390 : decode cX11_summedUp 390 = .ok (.goto (-352), 3) := by decide +kernel
theorem dX11_summedUp_393 : decode cX11_summedUp 393 = .ok (.aload_n 0, 1) := by decide +kernel
theorem dX11_summedUp_394 : decode cX11_summedUp 394 = .ok (.getfield 35, 3) := by decide +kernel
theorem dX11_summedUp_397 : decode cX11_summedUp 397 = .ok (.iconst 0, 1) := by decide +kernel
theorem dX11_summedUp_398 : decode cX11_summedUp 398 = .ok (.laload, 1) := by decide +kernel
theorem dX11_summedUp_399 : decode cX11_summedUp 399 = .ok (.lreturn, 1) := by decide +kernel
theorem dX11_says_0 : decode cX11_says 0 = .ok (.iconst 0, 1) := by decide +kernel
theorem dX11_says_1 : decode cX11_says 1 = .ok (.istore 5, 2) := by decide +kernel
theorem dX11_says_3 : decode cX11_says 3 = .ok (.iload_n 1, 1) := by decide +kernel
theorem dX11_says_4 : decode cX11_says 4 = .ok (.ifCond .lt 59, 3) := by decide +kernel
theorem dX11_says_7 : decode cX11_says 7 = .ok (.iload 5, 2) := by decide +kernel
theorem dX11_says_9 : decode cX11_says 9 = .ok (.aload_n 0, 1) := by decide +kernel
theorem dX11_says_10 : decode cX11_says 10 = .ok (.getfield 16, 3) := by decide +kernel
theorem dX11_says_13 : decode cX11_says 13 = .ok (.sipush 705, 3) := by decide +kernel
theorem dX11_says_16 : decode cX11_says 16 = .ok (.iload_n 1, 1) := by decide +kernel
theorem dX11_says_17 : decode cX11_says 17 = .ok (.imul, 1) := by decide +kernel
theorem dX11_says_18 : decode cX11_says 18 = .ok (.iaload, 1) := by decide +kernel
theorem dX11_says_19 : decode cX11_says 19 = .ok (.if_icmp .ge 44, 3) := by decide +kernel
theorem dX11_says_22 : decode cX11_says 22 = .ok (.aload_n 0, 1) := by decide +kernel
theorem dX11_says_23 : decode cX11_says 23 = .ok (.getfield 16, 3) := by decide +kernel
theorem dX11_says_26 : decode cX11_says 26 = .ok (.sipush 705, 3) := by decide +kernel
theorem dX11_says_29 : decode cX11_says 29 = .ok (.iload_n 1, 1) := by decide +kernel
theorem dX11_says_30 : decode cX11_says 30 = .ok (.imul, 1) := by decide +kernel
theorem dX11_says_31 : decode cX11_says 31 = .ok (.iconst 1, 1) := by decide +kernel
theorem dX11_says_32 : decode cX11_says 32 = .ok (.iadd, 1) := by decide +kernel
theorem dX11_says_33 : decode cX11_says 33 = .ok (.iconst 4, 1) := by decide +kernel
theorem dX11_says_34 : decode cX11_says 34 = .ok (.iload 5, 2) := by decide +kernel
theorem dX11_says_36 : decode cX11_says 36 = .ok (.imul, 1) := by decide +kernel
theorem dX11_says_37 : decode cX11_says 37 = .ok (.iadd, 1) := by decide +kernel
theorem dX11_says_38 : decode cX11_says 38 = .ok (.iaload, 1) := by decide +kernel
theorem dX11_says_39 : decode cX11_says 39 = .ok (.iload_n 2, 1) := by decide +kernel
theorem dX11_says_40 : decode cX11_says 40 = .ok (.if_icmp .ne 17, 3) := by decide +kernel
theorem dX11_says_43 : decode cX11_says 43 = .ok (.aload_n 0, 1) := by decide +kernel
theorem dX11_says_44 : decode cX11_says 44 = .ok (.iload_n 1, 1) := by decide +kernel
theorem dX11_says_45 : decode cX11_says 45 = .ok (.iload 5, 2) := by decide +kernel
theorem dX11_says_47 : decode cX11_says 47 = .ok (.invokevirtual 310, 3) := by decide +kernel
theorem dX11_says_50 : decode cX11_says 50 = .ok (.iconst 0, 1) := by decide +kernel
theorem dX11_says_51 : decode cX11_says 51 = .ok (.iload 4, 2) := by decide +kernel
theorem dX11_says_53 : decode cX11_says 53 = .ok (.invokestatic 313, 3) := by decide +kernel
theorem dX11_says_56 : decode cX11_says 56 = .ok (.ireturn, 1) := by decide +kernel
theorem dX11_says_57 : decode cX11_says 57 = .ok (.iinc 5 1, 3) := by decide +kernel
theorem dX11_says_60 : decode cX11_says 60 = .ok (.goto (-57), 3) := by decide +kernel
theorem dX11_says_63 : decode cX11_says 63 = .ok (.iload_n 3, 1) := by decide +kernel
theorem dX11_says_64 : decode cX11_says 64 = .ok (.i2l, 1) := by decide +kernel
theorem dX11_says_65 : decode cX11_says 65 = .ok (.iconst 0, 1) := by decide +kernel
theorem dX11_says_66 : decode cX11_says 66 = .ok (.iload 4, 2) := by decide +kernel
theorem dX11_says_68 : decode cX11_says 68 = .ok (.invokestatic 313, 3) := by decide +kernel
theorem dX11_says_71 : decode cX11_says 71 = .ok (.ireturn, 1) := by decide +kernel
theorem dX11_name_0 : decode cX11_name 0 = .ok (.aload_n 0, 1) := by decide +kernel
theorem dX11_name_1 : decode cX11_name 1 = .ok (.getfield 32, 3) := by decide +kernel
theorem dX11_name_4 : decode cX11_name 4 = .ok (.iconst 0, 1) := by decide +kernel
theorem dX11_name_5 : decode cX11_name 5 = .ok (.aload_n 0, 1) := by decide +kernel
theorem dX11_name_6 : decode cX11_name 6 = .ok (.getfield 7, 3) := by decide +kernel
theorem dX11_name_9 : decode cX11_name 9 = .ok (.bipush 8, 2) := by decide +kernel
theorem dX11_name_11 : decode cX11_name 11 = .ok (.iaload, 1) := by decide +kernel
theorem dX11_name_12 : decode cX11_name 12 = .ok (.iastore, 1) := by decide +kernel
theorem dX11_name_13 : decode cX11_name 13 = .ok (.aload_n 0, 1) := by decide +kernel
theorem dX11_name_14 : decode cX11_name 14 = .ok (.getfield 32, 3) := by decide +kernel
theorem dX11_name_17 : decode cX11_name 17 = .ok (.iconst 1, 1) := by decide +kernel
theorem dX11_name_18 : decode cX11_name 18 = .ok (.aload_n 0, 1) := by decide +kernel
theorem dX11_name_19 : decode cX11_name 19 = .ok (.iload_n 1, 1) := by decide +kernel
theorem dX11_name_20 : decode cX11_name 20 = .ok (.bipush 16, 2) := by decide +kernel
theorem dX11_name_22 : decode cX11_name 22 = .ok (.invokevirtual 107, 3) := by decide +kernel
theorem dX11_name_25 : decode cX11_name 25 = .ok (.iastore, 1) := by decide +kernel
theorem dX11_name_26 : decode cX11_name 26 = .ok (.aload_n 0, 1) := by decide +kernel
theorem dX11_name_27 : decode cX11_name 27 = .ok (.getfield 32, 3) := by decide +kernel
theorem dX11_name_30 : decode cX11_name 30 = .ok (.iconst 2, 1) := by decide +kernel
theorem dX11_name_31 : decode cX11_name 31 = .ok (.aload_n 0, 1) := by decide +kernel
theorem dX11_name_32 : decode cX11_name 32 = .ok (.iload_n 1, 1) := by decide +kernel
theorem dX11_name_33 : decode cX11_name 33 = .ok (.iconst 0, 1) := by decide +kernel
theorem dX11_name_34 : decode cX11_name 34 = .ok (.invokevirtual 107, 3) := by decide +kernel
theorem dX11_name_37 : decode cX11_name 37 = .ok (.iastore, 1) := by decide +kernel
theorem dX11_name_38 : decode cX11_name 38 = .ok (.aload_n 0, 1) := by decide +kernel
theorem dX11_name_39 : decode cX11_name 39 = .ok (.getfield 32, 3) := by decide +kernel
theorem dX11_name_42 : decode cX11_name 42 = .ok (.iconst 3, 1) := by decide +kernel
theorem dX11_name_43 : decode cX11_name 43 = .ok (.aload_n 0, 1) := by decide +kernel
theorem dX11_name_44 : decode cX11_name 44 = .ok (.iload_n 1, 1) := by decide +kernel
theorem dX11_name_45 : decode cX11_name 45 = .ok (.iconst 1, 1) := by decide +kernel
theorem dX11_name_46 : decode cX11_name 46 = .ok (.invokevirtual 107, 3) := by decide +kernel
theorem dX11_name_49 : decode cX11_name 49 = .ok (.iastore, 1) := by decide +kernel
theorem dX11_name_50 : decode cX11_name 50 = .ok (.aload_n 0, 1) := by decide +kernel
theorem dX11_name_51 : decode cX11_name 51 = .ok (.getfield 32, 3) := by decide +kernel
theorem dX11_name_54 : decode cX11_name 54 = .ok (.iconst 4, 1) := by decide +kernel
theorem dX11_name_55 : decode cX11_name 55 = .ok (.aload_n 0, 1) := by decide +kernel
theorem dX11_name_56 : decode cX11_name 56 = .ok (.iload_n 1, 1) := by decide +kernel
theorem dX11_name_57 : decode cX11_name 57 = .ok (.iconst 2, 1) := by decide +kernel
theorem dX11_name_58 : decode cX11_name 58 = .ok (.invokevirtual 107, 3) := by decide +kernel
theorem dX11_name_61 : decode cX11_name 61 = .ok (.iastore, 1) := by decide +kernel
theorem dX11_name_62 : decode cX11_name 62 = .ok (.aload_n 0, 1) := by decide +kernel
theorem dX11_name_63 : decode cX11_name 63 = .ok (.getfield 32, 3) := by decide +kernel
theorem dX11_name_66 : decode cX11_name 66 = .ok (.iconst 5, 1) := by decide +kernel
theorem dX11_name_67 : decode cX11_name 67 = .ok (.iload_n 1, 1) := by decide +kernel
theorem dX11_name_68 : decode cX11_name 68 = .ok (.iastore, 1) := by decide +kernel
theorem dX11_name_69 : decode cX11_name 69 = .ok (.aload_n 0, 1) := by decide +kernel
theorem dX11_name_70 : decode cX11_name 70 = .ok (.getfield 32, 3) := by decide +kernel
theorem dX11_name_73 : decode cX11_name 73 = .ok (.bipush 6, 2) := by decide +kernel
theorem dX11_name_75 : decode cX11_name 75 = .ok (.aload_n 0, 1) := by decide +kernel
theorem dX11_name_76 : decode cX11_name 76 = .ok (.iload_n 1, 1) := by decide +kernel
theorem dX11_name_77 : decode cX11_name 77 = .ok (.iconst 3, 1) := by decide +kernel
theorem dX11_name_78 : decode cX11_name 78 = .ok (.invokevirtual 107, 3) := by decide +kernel
theorem dX11_name_81 : decode cX11_name 81 = .ok (.iastore, 1) := by decide +kernel
theorem dX11_name_82 : decode cX11_name 82 = .ok (.aload_n 0, 1) := by decide +kernel
theorem dX11_name_83 : decode cX11_name 83 = .ok (.getfield 32, 3) := by decide +kernel
theorem dX11_name_86 : decode cX11_name 86 = .ok (.bipush 7, 2) := by decide +kernel
theorem dX11_name_88 : decode cX11_name 88 = .ok (.aload_n 0, 1) := by decide +kernel
theorem dX11_name_89 : decode cX11_name 89 = .ok (.iload_n 1, 1) := by decide +kernel
theorem dX11_name_90 : decode cX11_name 90 = .ok (.iconst 3, 1) := by decide +kernel
theorem dX11_name_91 : decode cX11_name 91 = .ok (.invokevirtual 107, 3) := by decide +kernel
theorem dX11_name_94 : decode cX11_name 94 = .ok (.aload_n 0, 1) := by decide +kernel
theorem dX11_name_95 : decode cX11_name 95 = .ok (.iload_n 1, 1) := by decide +kernel
theorem dX11_name_96 : decode cX11_name 96 = .ok (.iconst 2, 1) := by decide +kernel
theorem dX11_name_97 : decode cX11_name 97 = .ok (.invokevirtual 107, 3) := by decide +kernel
theorem dX11_name_100 : decode cX11_name 100 = .ok (.invokestatic 91, 3) := by decide +kernel
theorem dX11_name_103 : decode cX11_name 103 = .ok (.if_icmp .ne 7, 3) := by decide +kernel
theorem dX11_name_106 : decode cX11_name 106 = .ok (.iconst 1, 1) := by decide +kernel
theorem dX11_name_107 : decode cX11_name 107 = .ok (.goto 4, 3) := by decide +kernel
theorem dX11_name_110 : decode cX11_name 110 = .ok (.iconst 0, 1) := by decide +kernel
theorem dX11_name_111 : decode cX11_name 111 = .ok (.iastore, 1) := by decide +kernel
theorem dX11_name_112 : decode cX11_name 112 = .ok (.return_, 1) := by decide +kernel
theorem dX11_looseOf_0 : decode cX11_looseOf 0 = .ok (.aload_n 0, 1) := by decide +kernel
theorem dX11_looseOf_1 : decode cX11_looseOf 1 = .ok (.iload_n 2, 1) := by decide +kernel
theorem dX11_looseOf_2 : decode cX11_looseOf 2 = .ok (.invokevirtual 316, 3) := by decide +kernel
theorem dX11_looseOf_5 : decode cX11_looseOf 5 = .ok (.aload_n 0, 1) := by decide +kernel
theorem dX11_looseOf_6 : decode cX11_looseOf 6 = .ok (.iload_n 1, 1) := by decide +kernel
theorem dX11_looseOf_7 : decode cX11_looseOf 7 = .ok (.iconst 0, 1) := by decide +kernel
theorem dX11_looseOf_8 : decode cX11_looseOf 8 = .ok (.aload_n 0, 1) := by decide +kernel
theorem dX11_looseOf_9 : decode cX11_looseOf 9 = .ok (.getfield 32, 3) := by decide +kernel
theorem dX11_looseOf_12 : decode cX11_looseOf 12 = .ok (.iconst 3, 1) := by decide +kernel
theorem dX11_looseOf_13 : decode cX11_looseOf 13 = .ok (.iaload, 1) := by decide +kernel
theorem dX11_looseOf_14 : decode cX11_looseOf 14 = .ok (.aload_n 0, 1) := by decide +kernel
theorem dX11_looseOf_15 : decode cX11_looseOf 15 = .ok (.getfield 32, 3) := by decide +kernel
theorem dX11_looseOf_18 : decode cX11_looseOf 18 = .ok (.iconst 1, 1) := by decide +kernel
theorem dX11_looseOf_19 : decode cX11_looseOf 19 = .ok (.iaload, 1) := by decide +kernel
theorem dX11_looseOf_20 : decode cX11_looseOf 20 = .ok (.iconst 3, 1) := by decide +kernel
theorem dX11_looseOf_21 : decode cX11_looseOf 21 = .ok (.idiv, 1) := by decide +kernel
theorem dX11_looseOf_22 : decode cX11_looseOf 22 = .ok (.isub, 1) := by decide +kernel
theorem dX11_looseOf_23 : decode cX11_looseOf 23 = .ok (.bipush 10, 2) := by decide +kernel
theorem dX11_looseOf_25 : decode cX11_looseOf 25 = .ok (.invokevirtual 319, 3) := by decide +kernel
theorem dX11_looseOf_28 : decode cX11_looseOf 28 = .ok (.ireturn, 1) := by decide +kernel
theorem dX11_believesOf_0 : decode cX11_believesOf 0 = .ok (.aload_n 0, 1) := by decide +kernel
theorem dX11_believesOf_1 : decode cX11_believesOf 1 = .ok (.iload_n 1, 1) := by decide +kernel
theorem dX11_believesOf_2 : decode cX11_believesOf 2 = .ok (.invokevirtual 316, 3) := by decide +kernel
theorem dX11_believesOf_5 : decode cX11_believesOf 5 = .ok (.aload_n 0, 1) := by decide +kernel
theorem dX11_believesOf_6 : decode cX11_believesOf 6 = .ok (.aload_n 0, 1) := by decide +kernel
theorem dX11_believesOf_7 : decode cX11_believesOf 7 = .ok (.getfield 7, 3) := by decide +kernel
theorem dX11_believesOf_10 : decode cX11_believesOf 10 = .ok (.iconst 2, 1) := by decide +kernel
theorem dX11_believesOf_11 : decode cX11_believesOf 11 = .ok (.iaload, 1) := by decide +kernel
theorem dX11_believesOf_12 : decode cX11_believesOf 12 = .ok (.iconst 1, 1) := by decide +kernel
theorem dX11_believesOf_13 : decode cX11_believesOf 13 = .ok (.iconst 2, 1) := by decide +kernel
theorem dX11_believesOf_14 : decode cX11_believesOf 14 = .ok (.bipush 10, 2) := by decide +kernel
theorem dX11_believesOf_16 : decode cX11_believesOf 16 = .ok (.invokevirtual 319, 3) := by decide +kernel
theorem dX11_believesOf_19 : decode cX11_believesOf 19 = .ok (.ireturn, 1) := by decide +kernel
theorem dX11_wearsOf_0 : decode cX11_wearsOf 0 = .ok (.aload_n 0, 1) := by decide +kernel
theorem dX11_wearsOf_1 : decode cX11_wearsOf 1 = .ok (.iload_n 1, 1) := by decide +kernel
theorem dX11_wearsOf_2 : decode cX11_wearsOf 2 = .ok (.invokevirtual 316, 3) := by decide +kernel
theorem dX11_wearsOf_5 : decode cX11_wearsOf 5 = .ok (.aload_n 0, 1) := by decide +kernel
theorem dX11_wearsOf_6 : decode cX11_wearsOf 6 = .ok (.aload_n 0, 1) := by decide +kernel
theorem dX11_wearsOf_7 : decode cX11_wearsOf 7 = .ok (.getfield 7, 3) := by decide +kernel
theorem dX11_wearsOf_10 : decode cX11_wearsOf 10 = .ok (.iconst 2, 1) := by decide +kernel
theorem dX11_wearsOf_11 : decode cX11_wearsOf 11 = .ok (.iaload, 1) := by decide +kernel
theorem dX11_wearsOf_12 : decode cX11_wearsOf 12 = .ok (.iconst 2, 1) := by decide +kernel
theorem dX11_wearsOf_13 : decode cX11_wearsOf 13 = .ok (.aload_n 0, 1) := by decide +kernel
theorem dX11_wearsOf_14 : decode cX11_wearsOf 14 = .ok (.getfield 32, 3) := by decide +kernel
theorem dX11_wearsOf_17 : decode cX11_wearsOf 17 = .ok (.iconst 3, 1) := by decide +kernel
theorem dX11_wearsOf_18 : decode cX11_wearsOf 18 = .ok (.iaload, 1) := by decide +kernel
theorem dX11_wearsOf_19 : decode cX11_wearsOf 19 = .ok (.ifCond .ne 7, 3) := by decide +kernel
theorem dX11_wearsOf_22 : decode cX11_wearsOf 22 = .ok (.iconst 1, 1) := by decide +kernel
theorem dX11_wearsOf_23 : decode cX11_wearsOf 23 = .ok (.goto 4, 3) := by decide +kernel
theorem dX11_wearsOf_26 : decode cX11_wearsOf 26 = .ok (.iconst 0, 1) := by decide +kernel
theorem dX11_wearsOf_27 : decode cX11_wearsOf 27 = .ok (.bipush 9, 2) := by decide +kernel
theorem dX11_wearsOf_29 : decode cX11_wearsOf 29 = .ok (.invokevirtual 319, 3) := by decide +kernel
theorem dX11_wearsOf_32 : decode cX11_wearsOf 32 = .ok (.ireturn, 1) := by decide +kernel
theorem dX11_write_0 : decode cX11_write 0 = .ok (.aload_n 0, 1) := by decide +kernel
theorem dX11_write_1 : decode cX11_write 1 = .ok (.getfield 43, 3) := by decide +kernel
theorem dX11_write_4 : decode cX11_write 4 = .ok (.ifCond .ne 4, 3) := by decide +kernel
theorem dX11_write_7 : decode cX11_write 7 = .ok (.return_, 1) := by decide +kernel
theorem dX11_write_8 : decode cX11_write 8 = .ok (.aload_n 0, 1) := by decide +kernel
theorem dX11_write_9 : decode cX11_write 9 = .ok (.getfield 7, 3) := by decide +kernel
theorem dX11_write_12 : decode cX11_write 12 = .ok (.bipush 10, 2) := by decide +kernel
theorem dX11_write_14 : decode cX11_write 14 = .ok (.iaload, 1) := by decide +kernel
theorem dX11_write_15 : decode cX11_write 15 = .ok (.bipush 30, 2) := by decide +kernel
theorem dX11_write_17 : decode cX11_write 17 = .ok (.if_icmp .ne 54, 3) := by decide +kernel
theorem dX11_write_20 : decode cX11_write 20 = .ok (.iconst 2, 1) := by decide +kernel
theorem dX11_write_21 : decode cX11_write 21 = .ok (.istore 4, 2) := by decide +kernel
theorem dX11_write_23 : decode cX11_write 23 = .ok (.iload 4, 2) := by decide +kernel
theorem dX11_write_25 : decode cX11_write 25 = .ok (.bipush 60, 2) := by decide +kernel
theorem dX11_write_27 : decode cX11_write 27 = .ok (.if_icmp .ge 33, 3) := by decide +kernel
theorem dX11_write_30 : decode cX11_write 30 = .ok (.aload_n 0, 1) := by decide +kernel
theorem dX11_write_31 : decode cX11_write 31 = .ok (.getfield 7, 3) := by decide +kernel
theorem dX11_write_34 : decode cX11_write 34 = .ok (.sipush 4547, 3) := by decide +kernel
theorem dX11_write_37 : decode cX11_write 37 = .ok (.iload 4, 2) := by decide +kernel
theorem dX11_write_39 : decode cX11_write 39 = .ok (.iadd, 1) := by decide +kernel
theorem dX11_write_40 : decode cX11_write 40 = .ok (.iconst 2, 1) := by decide +kernel
theorem dX11_write_41 : decode cX11_write 41 = .ok (.isub, 1) := by decide +kernel
theorem dX11_write_42 : decode cX11_write 42 = .ok (.aload_n 0, 1) := by decide +kernel
theorem dX11_write_43 : decode cX11_write 43 = .ok (.getfield 7, 3) := by decide +kernel
theorem dX11_write_46 : decode cX11_write 46 = .ok (.sipush 4547, 3) := by decide +kernel
theorem dX11_write_49 : decode cX11_write 49 = .ok (.iload 4, 2) := by decide +kernel
theorem dX11_write_51 : decode cX11_write 51 = .ok (.iadd, 1) := by decide +kernel
theorem dX11_write_52 : decode cX11_write 52 = .ok (.iaload, 1) := by decide +kernel
theorem dX11_write_53 : decode cX11_write 53 = .ok (.iastore, 1) := by decide +kernel
theorem dX11_write_54 : decode cX11_write 54 = .ok (.iinc 4 1, 3) := by decide +kernel
theorem dX11_write_57 : decode cX11_write 57 = .ok (.goto (-34), 3) := by decide +kernel
theorem dX11_write_60 : decode cX11_write 60 = .ok (.aload_n 0, 1) := by decide +kernel
theorem dX11_write_61 : decode cX11_write 61 = .ok (.getfield 7, 3) := by decide +kernel
theorem dX11_write_64 : decode cX11_write 64 = .ok (.bipush 10, 2) := by decide +kernel
theorem dX11_write_66 : decode cX11_write 66 = .ok (.dup2, 1) := by decide +kernel
theorem dX11_write_67 : decode cX11_write 67 = .ok (.iaload, 1) := by decide +kernel
theorem dX11_write_68 : decode cX11_write 68 = .ok (.iconst 1, 1) := by decide +kernel
theorem dX11_write_69 : decode cX11_write 69 = .ok (.isub, 1) := by decide +kernel
theorem dX11_write_70 : decode cX11_write 70 = .ok (.iastore, 1) := by decide +kernel
theorem dX11_write_71 : decode cX11_write 71 = .ok (.aload_n 0, 1) := by decide +kernel
theorem dX11_write_72 : decode cX11_write 72 = .ok (.getfield 7, 3) := by decide +kernel
theorem dX11_write_75 : decode cX11_write 75 = .ok (.sipush 4547, 3) := by decide +kernel
theorem dX11_write_78 : decode cX11_write 78 = .ok (.iconst 2, 1) := by decide +kernel
theorem dX11_write_79 : decode cX11_write 79 = .ok (.aload_n 0, 1) := by decide +kernel
theorem dX11_write_80 : decode cX11_write 80 = .ok (.getfield 7, 3) := by decide +kernel
theorem dX11_write_83 : decode cX11_write 83 = .ok (.bipush 10, 2) := by decide +kernel
theorem dX11_write_85 : decode cX11_write 85 = .ok (.iaload, 1) := by decide +kernel
theorem dX11_write_86 : decode cX11_write 86 = .ok (.imul, 1) := by decide +kernel
theorem dX11_write_87 : decode cX11_write 87 = .ok (.iadd, 1) := by decide +kernel
theorem dX11_write_88 : decode cX11_write 88 = .ok (.aload_n 0, 1) := by decide +kernel
theorem dX11_write_89 : decode cX11_write 89 = .ok (.getfield 7, 3) := by decide +kernel
theorem dX11_write_92 : decode cX11_write 92 = .ok (.bipush 8, 2) := by decide +kernel
theorem dX11_write_94 : decode cX11_write 94 = .ok (.iaload, 1) := by decide +kernel
theorem dX11_write_95 : decode cX11_write 95 = .ok (.bipush 8, 2) := by decide +kernel
theorem dX11_write_97 : decode cX11_write 97 = .ok (.imul, 1) := by decide +kernel
theorem dX11_write_98 : decode cX11_write 98 = .ok (.iload_n 1, 1) := by decide +kernel
theorem dX11_write_99 : decode cX11_write 99 = .ok (.iadd, 1) := by decide +kernel
theorem dX11_write_100 : decode cX11_write 100 = .ok (.iastore, 1) := by decide +kernel
theorem dX11_write_101 : decode cX11_write 101 = .ok (.aload_n 0, 1) := by decide +kernel
theorem dX11_write_102 : decode cX11_write 102 = .ok (.getfield 7, 3) := by decide +kernel
theorem dX11_write_105 : decode cX11_write 105 = .ok (.sipush 4547, 3) := by decide +kernel
theorem dX11_write_108 : decode cX11_write 108 = .ok (.iconst 2, 1) := by decide +kernel
theorem dX11_write_109 : decode cX11_write 109 = .ok (.aload_n 0, 1) := by decide +kernel
theorem dX11_write_110 : decode cX11_write 110 = .ok (.getfield 7, 3) := by decide +kernel
theorem dX11_write_113 : decode cX11_write 113 = .ok (.bipush 10, 2) := by decide +kernel
theorem dX11_write_115 : decode cX11_write 115 = .ok (.iaload, 1) := by decide +kernel
theorem dX11_write_116 : decode cX11_write 116 = .ok (.imul, 1) := by decide +kernel
theorem dX11_write_117 : decode cX11_write 117 = .ok (.iadd, 1) := by decide +kernel
theorem dX11_write_118 : decode cX11_write 118 = .ok (.iconst 1, 1) := by decide +kernel
theorem dX11_write_119 : decode cX11_write 119 = .ok (.iadd, 1) := by decide +kernel
theorem dX11_write_120 : decode cX11_write 120 = .ok (.iload_n 2, 1) := by decide +kernel
theorem dX11_write_121 : decode cX11_write 121 = .ok (.sipush 10000, 3) := by decide +kernel
theorem dX11_write_124 : decode cX11_write 124 = .ok (.imul, 1) := by decide +kernel
theorem dX11_write_125 : decode cX11_write 125 = .ok (.iload_n 3, 1) := by decide +kernel
theorem dX11_write_126 : decode cX11_write 126 = .ok (.iadd, 1) := by decide +kernel
theorem dX11_write_127 : decode cX11_write 127 = .ok (.iastore, 1) := by decide +kernel
theorem dX11_write_128 : decode cX11_write 128 = .ok (.aload_n 0, 1) := by decide +kernel
theorem dX11_write_129 : decode cX11_write 129 = .ok (.getfield 7, 3) := by decide +kernel
theorem dX11_write_132 : decode cX11_write 132 = .ok (.bipush 10, 2) := by decide +kernel
theorem dX11_write_134 : decode cX11_write 134 = .ok (.dup2, 1) := by decide +kernel
theorem dX11_write_135 : decode cX11_write 135 = .ok (.iaload, 1) := by decide +kernel
theorem dX11_write_136 : decode cX11_write 136 = .ok (.iconst 1, 1) := by decide +kernel
theorem dX11_write_137 : decode cX11_write 137 = .ok (.iadd, 1) := by decide +kernel
theorem dX11_write_138 : decode cX11_write 138 = .ok (.iastore, 1) := by decide +kernel
theorem dX11_write_139 : decode cX11_write 139 = .ok (.return_, 1) := by decide +kernel
theorem dX11_drawn_0 : decode cX11_drawn 0 = .ok (.aload_n 0, 1) := by decide +kernel
theorem dX11_drawn_1 : decode cX11_drawn 1 = .ok (.getfield 7, 3) := by decide +kernel
theorem dX11_drawn_4 : decode cX11_drawn 4 = .ok (.bipush 9, 2) := by decide +kernel
theorem dX11_drawn_6 : decode cX11_drawn 6 = .ok (.iaload, 1) := by decide +kernel
theorem dX11_drawn_7 : decode cX11_drawn 7 = .ok (.bipush 10, 2) := by decide +kernel
theorem dX11_drawn_9 : decode cX11_drawn 9 = .ok (.irem, 1) := by decide +kernel
theorem dX11_drawn_10 : decode cX11_drawn 10 = .ok (.istore_n 1, 1) := by decide +kernel
theorem dX11_drawn_11 : decode cX11_drawn 11 = .ok (.aload_n 0, 1) := by decide +kernel
theorem dX11_drawn_12 : decode cX11_drawn 12 = .ok (.invokevirtual 323, 3) := by decide +kernel
theorem dX11_drawn_15 : decode cX11_drawn 15 = .ok (.iload_n 1, 1) := by decide +kernel
theorem dX11_drawn_16 : decode cX11_drawn 16 = .ok (.ireturn, 1) := by decide +kernel
theorem dX11_anew_0 : decode cX11_anew 0 = .ok (.aload_n 0, 1) := by decide +kernel
theorem dX11_anew_1 : decode cX11_anew 1 = .ok (.getfield 7, 3) := by decide +kernel
theorem dX11_anew_4 : decode cX11_anew 4 = .ok (.bipush 9, 2) := by decide +kernel
theorem dX11_anew_6 : decode cX11_anew 6 = .ok (.aload_n 0, 1) := by decide +kernel
theorem dX11_anew_7 : decode cX11_anew 7 = .ok (.getfield 7, 3) := by decide +kernel
theorem dX11_anew_10 : decode cX11_anew 10 = .ok (.bipush 9, 2) := by decide +kernel
theorem dX11_anew_12 : decode cX11_anew 12 = .ok (.iaload, 1) := by decide +kernel
theorem dX11_anew_13 : decode cX11_anew 13 = .ok (.i2l, 1) := by decide +kernel
theorem dX11_anew_14 : decode cX11_anew 14 = .ok (.ldc2_w 326, 3) := by decide +kernel
theorem dX11_anew_17 : decode cX11_anew 17 = .ok (.lmul, 1) := by decide +kernel
theorem dX11_anew_18 : decode cX11_anew 18 = .ok (.ldc2_w 328, 3) := by decide +kernel
theorem dX11_anew_21 : decode cX11_anew 21 = .ok (.ladd, 1) := by decide +kernel
theorem dX11_anew_22 : decode cX11_anew 22 = .ok (.ldc2_w 330, 3) := by decide +kernel
theorem dX11_anew_25 : decode cX11_anew 25 = .ok (.lrem, 1) := by decide +kernel
theorem dX11_anew_26 : decode cX11_anew 26 = .ok (.l2i, 1) := by decide +kernel
theorem dX11_anew_27 : decode cX11_anew 27 = .ok (.iastore, 1) := by decide +kernel
theorem dX11_anew_28 : decode cX11_anew 28 = .ok (.return_, 1) := by decide +kernel
theorem dX11_roll_0 : decode cX11_roll 0 = .ok (.iconst 0, 1) := by decide +kernel
theorem dX11_roll_1 : decode cX11_roll 1 = .ok (.istore_n 3, 1) := by decide +kernel
theorem dX11_roll_2 : decode cX11_roll 2 = .ok (.iload_n 3, 1) := by decide +kernel
theorem dX11_roll_3 : decode cX11_roll 3 = .ok (.iload_n 2, 1) := by decide +kernel
theorem dX11_roll_4 : decode cX11_roll 4 = .ok (.invokestatic 332, 3) := by decide +kernel
theorem dX11_roll_7 : decode cX11_roll 7 = .ok (.if_icmp .ge 53, 3) := by decide +kernel
theorem dX11_roll_10 : decode cX11_roll 10 = .ok (.aload_n 0, 1) := by decide +kernel
theorem dX11_roll_11 : decode cX11_roll 11 = .ok (.iload_n 1, 1) := by decide +kernel
theorem dX11_roll_12 : decode cX11_roll 12 = .ok (.iconst 3, 1) := by decide +kernel
theorem dX11_roll_13 : decode cX11_roll 13 = .ok (.invokevirtual 107, 3) := by decide +kernel
theorem dX11_roll_16 : decode cX11_roll 16 = .ok (.bipush 12, 2) := by decide +kernel
theorem dX11_roll_18 : decode cX11_roll 18 = .ok (.if_icmp .ne 4, 3) := by decide +kernel
theorem dX11_roll_21 : decode cX11_roll 21 = .ok (.return_, 1) := by decide +kernel
theorem dX11_roll_22 : decode cX11_roll 22 = .ok (.aload_n 0, 1) := by decide +kernel
theorem dX11_roll_23 : decode cX11_roll 23 = .ok (.iload_n 1, 1) := by decide +kernel
theorem dX11_roll_24 : decode cX11_roll 24 = .ok (.iconst 4, 1) := by decide +kernel
theorem dX11_roll_25 : decode cX11_roll 25 = .ok (.aload_n 0, 1) := by decide +kernel
theorem dX11_roll_26 : decode cX11_roll 26 = .ok (.iload_n 1, 1) := by decide +kernel
theorem dX11_roll_27 : decode cX11_roll 27 = .ok (.iconst 3, 1) := by decide +kernel
theorem dX11_roll_28 : decode cX11_roll 28 = .ok (.invokevirtual 107, 3) := by decide +kernel
theorem dX11_roll_31 : decode cX11_roll 31 = .ok (.iadd, 1) := by decide +kernel
theorem dX11_roll_32 : decode cX11_roll 32 = .ok (.iload_n 2, 1) := by decide +kernel
theorem dX11_roll_33 : decode cX11_roll 33 = .ok (.iload_n 3, 1) := by decide +kernel
theorem dX11_roll_34 : decode cX11_roll 34 = .ok (.invokestatic 335, 3) := by decide +kernel
theorem dX11_roll_37 : decode cX11_roll 37 = .ok (.invokevirtual 99, 3) := by decide +kernel
theorem dX11_roll_40 : decode cX11_roll 40 = .ok (.aload_n 0, 1) := by decide +kernel
theorem dX11_roll_41 : decode cX11_roll 41 = .ok (.iload_n 1, 1) := by decide +kernel
theorem dX11_roll_42 : decode cX11_roll 42 = .ok (.iconst 3, 1) := by decide +kernel
theorem dX11_roll_43 : decode cX11_roll 43 = .ok (.aload_n 0, 1) := by decide +kernel
theorem dX11_roll_44 : decode cX11_roll 44 = .ok (.iload_n 1, 1) := by decide +kernel
theorem dX11_roll_45 : decode cX11_roll 45 = .ok (.iconst 3, 1) := by decide +kernel
theorem dX11_roll_46 : decode cX11_roll 46 = .ok (.invokevirtual 107, 3) := by decide +kernel
theorem dX11_roll_49 : decode cX11_roll 49 = .ok (.iconst 1, 1) := by decide +kernel
theorem dX11_roll_50 : decode cX11_roll 50 = .ok (.iadd, 1) := by decide +kernel
theorem dX11_roll_51 : decode cX11_roll 51 = .ok (.invokevirtual 99, 3) := by decide +kernel
theorem dX11_roll_54 : decode cX11_roll 54 = .ok (.iinc 3 1, 3) := by decide +kernel
theorem dX11_roll_57 : decode cX11_roll 57 = .ok (.goto (-55), 3) := by decide +kernel
theorem dX11_roll_60 : decode cX11_roll 60 = .ok (.return_, 1) := by decide +kernel
theorem dX11_numberOfRoll_0 : decode cX11_numberOfRoll 0 = .ok (.iconst 0, 1) := by decide +kernel
theorem dX11_numberOfRoll_1 : decode cX11_numberOfRoll 1 = .ok (.istore_n 2, 1) := by decide +kernel
theorem dX11_numberOfRoll_2 : decode cX11_numberOfRoll 2 = .ok (.aload_n 0, 1) := by decide +kernel
theorem dX11_numberOfRoll_3 : decode cX11_numberOfRoll 3 = .ok (.iload_n 1, 1) := by decide +kernel
theorem dX11_numberOfRoll_4 : decode cX11_numberOfRoll 4 = .ok (.iconst 3, 1) := by decide +kernel
theorem dX11_numberOfRoll_5 : decode cX11_numberOfRoll 5 = .ok (.invokevirtual 107, 3) := by decide +kernel
theorem dX11_numberOfRoll_8 : decode cX11_numberOfRoll 8 = .ok (.iconst 4, 1) := by decide +kernel
theorem dX11_numberOfRoll_9 : decode cX11_numberOfRoll 9 = .ok (.if_icmp .le 14, 3) := by decide +kernel
theorem dX11_numberOfRoll_12 : decode cX11_numberOfRoll 12 = .ok (.aload_n 0, 1) := by decide +kernel
theorem dX11_numberOfRoll_13 : decode cX11_numberOfRoll 13 = .ok (.iload_n 1, 1) := by decide +kernel
theorem dX11_numberOfRoll_14 : decode cX11_numberOfRoll 14 = .ok (.iconst 3, 1) := by decide +kernel
theorem dX11_numberOfRoll_15 : decode cX11_numberOfRoll 15 = .ok (.invokevirtual 107, 3) := by decide +kernel
theorem dX11_numberOfRoll_18 : decode cX11_numberOfRoll 18 = .ok (.iconst 4, 1) := by decide +kernel
theorem dX11_numberOfRoll_19 : decode cX11_numberOfRoll 19 = .ok (.isub, 1) := by decide +kernel
theorem dX11_numberOfRoll_20 : decode cX11_numberOfRoll 20 = .ok (.goto 4, 3) := by decide +kernel
theorem dX11_numberOfRoll_23 : decode cX11_numberOfRoll 23 = .ok (.iconst 0, 1) := by decide +kernel
theorem dX11_numberOfRoll_24 : decode cX11_numberOfRoll 24 = .ok (.istore_n 3, 1) := by decide +kernel
theorem dX11_numberOfRoll_25 : decode cX11_numberOfRoll 25 = .ok (.iload_n 3, 1) := by decide +kernel
theorem dX11_numberOfRoll_26 : decode cX11_numberOfRoll 26 = .ok (.aload_n 0, 1) := by decide +kernel
theorem dX11_numberOfRoll_27 : decode cX11_numberOfRoll 27 = .ok (.iload_n 1, 1) := by decide +kernel
theorem dX11_numberOfRoll_28 : decode cX11_numberOfRoll 28 = .ok (.iconst 3, 1) := by decide +kernel
theorem dX11_numberOfRoll_29 : decode cX11_numberOfRoll 29 = .ok (.invokevirtual 107, 3) := by decide +kernel
theorem dX11_numberOfRoll_32 : decode cX11_numberOfRoll 32 = .ok (.if_icmp .ge 23, 3) := by decide +kernel
theorem dX11_numberOfRoll_35 : decode cX11_numberOfRoll 35 = .ok (.bipush 10, 2) := by decide +kernel
theorem dX11_numberOfRoll_37 : decode cX11_numberOfRoll 37 = .ok (.iload_n 2, 1) := by decide +kernel
theorem dX11_numberOfRoll_38 : decode cX11_numberOfRoll 38 = .ok (.imul, 1) := by decide +kernel
theorem dX11_numberOfRoll_39 : decode cX11_numberOfRoll 39 = .ok (.aload_n 0, 1) := by decide +kernel
theorem dX11_numberOfRoll_40 : decode cX11_numberOfRoll 40 = .ok (.iload_n 1, 1) := by decide +kernel
theorem dX11_numberOfRoll_41 : decode cX11_numberOfRoll 41 = .ok (.iconst 4, 1) := by decide +kernel
theorem dX11_numberOfRoll_42 : decode cX11_numberOfRoll 42 = .ok (.iload_n 3, 1) := by decide +kernel
theorem dX11_numberOfRoll_43 : decode cX11_numberOfRoll 43 = .ok (.iadd, 1) := by decide +kernel
theorem dX11_numberOfRoll_44 : decode cX11_numberOfRoll 44 = .ok (.invokevirtual 107, 3) := by decide +kernel
theorem dX11_numberOfRoll_47 : decode cX11_numberOfRoll 47 = .ok (.iadd, 1) := by decide +kernel
theorem dX11_numberOfRoll_48 : decode cX11_numberOfRoll 48 = .ok (.istore_n 2, 1) := by decide +kernel
theorem dX11_numberOfRoll_49 : decode cX11_numberOfRoll 49 = .ok (.iinc 3 1, 3) := by decide +kernel
theorem dX11_numberOfRoll_52 : decode cX11_numberOfRoll 52 = .ok (.goto (-27), 3) := by decide +kernel
theorem dX11_numberOfRoll_55 : decode cX11_numberOfRoll 55 = .ok (.iload_n 2, 1) := by decide +kernel
theorem dX11_numberOfRoll_56 : decode cX11_numberOfRoll 56 = .ok (.ireturn, 1) := by decide +kernel
theorem dX11_clearRoll_0 : decode cX11_clearRoll 0 = .ok (.iconst 3, 1) := by decide +kernel
theorem dX11_clearRoll_1 : decode cX11_clearRoll 1 = .ok (.istore_n 2, 1) := by decide +kernel
theorem dX11_clearRoll_2 : decode cX11_clearRoll 2 = .ok (.iload_n 2, 1) := by decide +kernel
theorem dX11_clearRoll_3 : decode cX11_clearRoll 3 = .ok (.bipush 16, 2) := by decide +kernel
theorem dX11_clearRoll_5 : decode cX11_clearRoll 5 = .ok (.if_icmp .ge 16, 3) := by decide +kernel
theorem dX11_clearRoll_8 : decode cX11_clearRoll 8 = .ok (.aload_n 0, 1) := by decide +kernel
theorem dX11_clearRoll_9 : decode cX11_clearRoll 9 = .ok (.iload_n 1, 1) := by decide +kernel
theorem dX11_clearRoll_10 : decode cX11_clearRoll 10 = .ok (.iload_n 2, 1) := by decide +kernel
theorem dX11_clearRoll_11 : decode cX11_clearRoll 11 = .ok (.iconst 0, 1) := by decide +kernel
theorem dX11_clearRoll_12 : decode cX11_clearRoll 12 = .ok (.invokevirtual 99, 3) := by decide +kernel
theorem dX11_clearRoll_15 : decode cX11_clearRoll 15 = .ok (.iinc 2 1, 3) := by decide +kernel
theorem dX11_clearRoll_18 : decode cX11_clearRoll 18 = .ok (.goto (-16), 3) := by decide +kernel
theorem dX11_clearRoll_21 : decode cX11_clearRoll 21 = .ok (.return_, 1) := by decide +kernel
theorem dX11_dream_0 : decode cX11_dream 0 = .ok (.aload_n 0, 1) := by decide +kernel
theorem dX11_dream_1 : decode cX11_dream 1 = .ok (.iload_n 1, 1) := by decide +kernel
theorem dX11_dream_2 : decode cX11_dream 2 = .ok (.iconst 2, 1) := by decide +kernel
theorem dX11_dream_3 : decode cX11_dream 3 = .ok (.invokevirtual 107, 3) := by decide +kernel
theorem dX11_dream_6 : decode cX11_dream 6 = .ok (.istore_n 2, 1) := by decide +kernel
theorem dX11_dream_7 : decode cX11_dream 7 = .ok (.aload_n 0, 1) := by decide +kernel
theorem dX11_dream_8 : decode cX11_dream 8 = .ok (.aload_n 0, 1) := by decide +kernel
theorem dX11_dream_9 : decode cX11_dream 9 = .ok (.getfield 7, 3) := by decide +kernel
theorem dX11_dream_12 : decode cX11_dream 12 = .ok (.iconst 2, 1) := by decide +kernel
theorem dX11_dream_13 : decode cX11_dream 13 = .ok (.iaload, 1) := by decide +kernel
theorem dX11_dream_14 : decode cX11_dream 14 = .ok (.iload_n 1, 1) := by decide +kernel
theorem dX11_dream_15 : decode cX11_dream 15 = .ok (.invokevirtual 338, 3) := by decide +kernel
theorem dX11_dream_18 : decode cX11_dream 18 = .ok (.istore_n 3, 1) := by decide +kernel
theorem dX11_dream_19 : decode cX11_dream 19 = .ok (.aload_n 0, 1) := by decide +kernel
theorem dX11_dream_20 : decode cX11_dream 20 = .ok (.iload_n 1, 1) := by decide +kernel
theorem dX11_dream_21 : decode cX11_dream 21 = .ok (.invokevirtual 341, 3) := by decide +kernel
theorem dX11_dream_24 : decode cX11_dream 24 = .ok (.iconst 0, 1) := by decide +kernel
theorem dX11_dream_25 : decode cX11_dream 25 = .ok (.istore 4, 2) := by decide +kernel
theorem dX11_dream_27 : decode cX11_dream 27 = .ok (.iload 4, 2) := by decide +kernel
theorem dX11_dream_29 : decode cX11_dream 29 = .ok (.iload_n 2, 1) := by decide +kernel
theorem dX11_dream_30 : decode cX11_dream 30 = .ok (.invokestatic 91, 3) := by decide +kernel
theorem dX11_dream_33 : decode cX11_dream 33 = .ok (.if_icmp .ge 37, 3) := by decide +kernel
theorem dX11_dream_36 : decode cX11_dream 36 = .ok (.aload_n 0, 1) := by decide +kernel
theorem dX11_dream_37 : decode cX11_dream 37 = .ok (.iload_n 1, 1) := by decide +kernel
theorem dX11_dream_38 : decode cX11_dream 38 = .ok (.aload_n 0, 1) := by decide +kernel
theorem dX11_dream_39 : decode cX11_dream 39 = .ok (.iload_n 2, 1) := by decide +kernel
theorem dX11_dream_40 : decode cX11_dream 40 = .ok (.iload 4, 2) := by decide +kernel
theorem dX11_dream_42 : decode cX11_dream 42 = .ok (.invokestatic 344, 3) := by decide +kernel
theorem dX11_dream_45 : decode cX11_dream 45 = .ok (.aload_n 0, 1) := by decide +kernel
theorem dX11_dream_46 : decode cX11_dream 46 = .ok (.invokevirtual 347, 3) := by decide +kernel
theorem dX11_dream_49 : decode cX11_dream 49 = .ok (.iload_n 3, 1) := by decide +kernel
theorem dX11_dream_50 : decode cX11_dream 50 = .ok (.if_icmp .ge 7, 3) := by decide +kernel
theorem dX11_dream_53 : decode cX11_dream 53 = .ok (.iconst 1, 1) := by decide +kernel
theorem dX11_dream_54 : decode cX11_dream 54 = .ok (.goto 4, 3) := by decide +kernel
theorem dX11_dream_57 : decode cX11_dream 57 = .ok (.iconst 0, 1) := by decide +kernel
theorem dX11_dream_58 : decode cX11_dream 58 = .ok (.invokevirtual 350, 3) := by decide +kernel
theorem dX11_dream_61 : decode cX11_dream 61 = .ok (.invokevirtual 353, 3) := by decide +kernel
theorem dX11_dream_64 : decode cX11_dream 64 = .ok (.iinc 4 1, 3) := by decide +kernel
theorem dX11_dream_67 : decode cX11_dream 67 = .ok (.goto (-40), 3) := by decide +kernel
theorem dX11_dream_70 : decode cX11_dream 70 = .ok (.aload_n 0, 1) := by decide +kernel
theorem dX11_dream_71 : decode cX11_dream 71 = .ok (.iload_n 1, 1) := by decide +kernel
theorem dX11_dream_72 : decode cX11_dream 72 = .ok (.invokevirtual 356, 3) := by decide +kernel
theorem dX11_dream_75 : decode cX11_dream 75 = .ok (.istore 4, 2) := by decide +kernel
theorem dX11_dream_77 : decode cX11_dream 77 = .ok (.aload_n 0, 1) := by decide +kernel
theorem dX11_dream_78 : decode cX11_dream 78 = .ok (.invokevirtual 347, 3) := by decide +kernel
theorem dX11_dream_81 : decode cX11_dream 81 = .ok (.iload 4, 2) := by decide +kernel
theorem dX11_dream_83 : decode cX11_dream 83 = .ok (.if_icmp .ge 36, 3) := by decide +kernel
theorem dX11_dream_86 : decode cX11_dream 86 = .ok (.aload_n 0, 1) := by decide +kernel
theorem dX11_dream_87 : decode cX11_dream 87 = .ok (.iload_n 1, 1) := by decide +kernel
theorem dX11_dream_88 : decode cX11_dream 88 = .ok (.iconst 2, 1) := by decide +kernel
theorem dX11_dream_89 : decode cX11_dream 89 = .ok (.aload_n 0, 1) := by decide +kernel
theorem dX11_dream_90 : decode cX11_dream 90 = .ok (.iload_n 1, 1) := by decide +kernel
theorem dX11_dream_91 : decode cX11_dream 91 = .ok (.invokevirtual 359, 3) := by decide +kernel
theorem dX11_dream_94 : decode cX11_dream 94 = .ok (.invokevirtual 99, 3) := by decide +kernel
theorem dX11_dream_97 : decode cX11_dream 97 = .ok (.aload_n 0, 1) := by decide +kernel
theorem dX11_dream_98 : decode cX11_dream 98 = .ok (.dup, 1) := by decide +kernel
theorem dX11_dream_99 : decode cX11_dream 99 = .ok (.getfield 362, 3) := by decide +kernel
theorem dX11_dream_102 : decode cX11_dream 102 = .ok (.iconst 1, 1) := by decide +kernel
theorem dX11_dream_103 : decode cX11_dream 103 = .ok (.iadd, 1) := by decide +kernel
theorem dX11_dream_104 : decode cX11_dream 104 = .ok (.putfield 362, 3) := by decide +kernel
theorem dX11_dream_107 : decode cX11_dream 107 = .ok (.aload_n 0, 1) := by decide +kernel
theorem dX11_dream_108 : decode cX11_dream 108 = .ok (.iload_n 1, 1) := by decide +kernel
theorem dX11_dream_109 : decode cX11_dream 109 = .ok (.iload_n 2, 1) := by decide +kernel
theorem dX11_dream_110 : decode cX11_dream 110 = .ok (.aload_n 0, 1) := by decide +kernel
theorem dX11_dream_111 : decode cX11_dream 111 = .ok (.iload_n 1, 1) := by decide +kernel
theorem dX11_dream_112 : decode cX11_dream 112 = .ok (.iconst 2, 1) := by decide +kernel
theorem dX11_dream_113 : decode cX11_dream 113 = .ok (.invokevirtual 107, 3) := by decide +kernel
theorem dX11_dream_116 : decode cX11_dream 116 = .ok (.invokevirtual 365, 3) := by decide +kernel
theorem dX11_dream_119 : decode cX11_dream 119 = .ok (.aload_n 0, 1) := by decide +kernel
theorem dX11_dream_120 : decode cX11_dream 120 = .ok (.iload_n 1, 1) := by decide +kernel
theorem dX11_dream_121 : decode cX11_dream 121 = .ok (.iconst 0, 1) := by decide +kernel
theorem dX11_dream_122 : decode cX11_dream 122 = .ok (.aload_n 0, 1) := by decide +kernel
theorem dX11_dream_123 : decode cX11_dream 123 = .ok (.iload_n 1, 1) := by decide +kernel
theorem dX11_dream_124 : decode cX11_dream 124 = .ok (.iconst 0, 1) := by decide +kernel
theorem dX11_dream_125 : decode cX11_dream 125 = .ok (.invokevirtual 107, 3) := by decide +kernel
theorem dX11_dream_128 : decode cX11_dream 128 = .ok (.aload_n 0, 1) := by decide +kernel
theorem dX11_dream_129 : decode cX11_dream 129 = .ok (.iload_n 1, 1) := by decide +kernel
theorem dX11_dream_130 : decode cX11_dream 130 = .ok (.invokevirtual 368, 3) := by decide +kernel
theorem dX11_dream_133 : decode cX11_dream 133 = .ok (.iadd, 1) := by decide +kernel
theorem dX11_dream_134 : decode cX11_dream 134 = .ok (.i2l, 1) := by decide +kernel
theorem dX11_dream_135 : decode cX11_dream 135 = .ok (.iconst 0, 1) := by decide +kernel
theorem dX11_dream_136 : decode cX11_dream 136 = .ok (.bipush 99, 2) := by decide +kernel
theorem dX11_dream_138 : decode cX11_dream 138 = .ok (.invokestatic 313, 3) := by decide +kernel
theorem dX11_dream_141 : decode cX11_dream 141 = .ok (.invokevirtual 99, 3) := by decide +kernel
theorem dX11_dream_144 : decode cX11_dream 144 = .ok (.aload_n 0, 1) := by decide +kernel
theorem dX11_dream_145 : decode cX11_dream 145 = .ok (.iload_n 1, 1) := by decide +kernel
theorem dX11_dream_146 : decode cX11_dream 146 = .ok (.iconst 1, 1) := by decide +kernel
theorem dX11_dream_147 : decode cX11_dream 147 = .ok (.aload_n 0, 1) := by decide +kernel
theorem dX11_dream_148 : decode cX11_dream 148 = .ok (.iload_n 1, 1) := by decide +kernel
theorem dX11_dream_149 : decode cX11_dream 149 = .ok (.iconst 1, 1) := by decide +kernel
theorem dX11_dream_150 : decode cX11_dream 150 = .ok (.invokevirtual 107, 3) := by decide +kernel
theorem dX11_dream_153 : decode cX11_dream 153 = .ok (.iconst 1, 1) := by decide +kernel
theorem dX11_dream_154 : decode cX11_dream 154 = .ok (.isub, 1) := by decide +kernel
theorem dX11_dream_155 : decode cX11_dream 155 = .ok (.i2l, 1) := by decide +kernel
theorem dX11_dream_156 : decode cX11_dream 156 = .ok (.iconst 0, 1) := by decide +kernel
theorem dX11_dream_157 : decode cX11_dream 157 = .ok (.bipush 9, 2) := by decide +kernel
theorem dX11_dream_159 : decode cX11_dream 159 = .ok (.invokestatic 313, 3) := by decide +kernel
theorem dX11_dream_162 : decode cX11_dream 162 = .ok (.invokevirtual 99, 3) := by decide +kernel
theorem dX11_dream_165 : decode cX11_dream 165 = .ok (.return_, 1) := by decide +kernel
theorem dX11_pass_0 : decode cX11_pass 0 = .ok (.iconst 0, 1) := by decide +kernel
theorem dX11_pass_1 : decode cX11_pass 1 = .ok (.istore_n 1, 1) := by decide +kernel
theorem dX11_pass_2 : decode cX11_pass 2 = .ok (.iload_n 1, 1) := by decide +kernel
theorem dX11_pass_3 : decode cX11_pass 3 = .ok (.aload_n 0, 1) := by decide +kernel
theorem dX11_pass_4 : decode cX11_pass 4 = .ok (.getfield 7, 3) := by decide +kernel
theorem dX11_pass_7 : decode cX11_pass 7 = .ok (.iconst 0, 1) := by decide +kernel
theorem dX11_pass_8 : decode cX11_pass 8 = .ok (.iaload, 1) := by decide +kernel
theorem dX11_pass_9 : decode cX11_pass 9 = .ok (.if_icmp .ge 14, 3) := by decide +kernel
theorem dX11_pass_12 : decode cX11_pass 12 = .ok (.aload_n 0, 1) := by decide +kernel
theorem dX11_pass_13 : decode cX11_pass 13 = .ok (.iload_n 1, 1) := by decide +kernel
theorem dX11_pass_14 : decode cX11_pass 14 = .ok (.invokevirtual 371, 3) := by decide +kernel
theorem dX11_pass_17 : decode cX11_pass 17 = .ok (.iinc 1 1, 3) := by decide +kernel
theorem dX11_pass_20 : decode cX11_pass 20 = .ok (.goto (-18), 3) := by decide +kernel
theorem dX11_pass_23 : decode cX11_pass 23 = .ok (.aload_n 0, 1) := by decide +kernel
theorem dX11_pass_24 : decode cX11_pass 24 = .ok (.getfield 7, 3) := by decide +kernel
theorem dX11_pass_27 : decode cX11_pass 27 = .ok (.bipush 8, 2) := by decide +kernel
theorem dX11_pass_29 : decode cX11_pass 29 = .ok (.dup2, 1) := by decide +kernel
theorem dX11_pass_30 : decode cX11_pass 30 = .ok (.iaload, 1) := by decide +kernel
theorem dX11_pass_31 : decode cX11_pass 31 = .ok (.iconst 1, 1) := by decide +kernel
theorem dX11_pass_32 : decode cX11_pass 32 = .ok (.iadd, 1) := by decide +kernel
theorem dX11_pass_33 : decode cX11_pass 33 = .ok (.iastore, 1) := by decide +kernel
theorem dX11_pass_34 : decode cX11_pass 34 = .ok (.return_, 1) := by decide +kernel
theorem dX11_keep_0 : decode cX11_keep 0 = .ok (.aload_n 0, 1) := by decide +kernel
theorem dX11_keep_1 : decode cX11_keep 1 = .ok (.getfield 7, 3) := by decide +kernel
theorem dX11_keep_4 : decode cX11_keep 4 = .ok (.iconst 3, 1) := by decide +kernel
theorem dX11_keep_5 : decode cX11_keep 5 = .ok (.iaload, 1) := by decide +kernel
theorem dX11_keep_6 : decode cX11_keep 6 = .ok (.bipush 30, 2) := by decide +kernel
theorem dX11_keep_8 : decode cX11_keep 8 = .ok (.if_icmp .ne 48, 3) := by decide +kernel
theorem dX11_keep_11 : decode cX11_keep 11 = .ok (.iconst 0, 1) := by decide +kernel
theorem dX11_keep_12 : decode cX11_keep 12 = .ok (.istore_n 1, 1) := by decide +kernel
theorem dX11_keep_13 : decode cX11_keep 13 = .ok (.iload_n 1, 1) := by decide +kernel
theorem dX11_keep_14 : decode cX11_keep 14 = .ok (.sipush 4176, 3) := by decide +kernel
theorem dX11_keep_17 : decode cX11_keep 17 = .ok (.if_icmp .ge 29, 3) := by decide +kernel
theorem dX11_keep_20 : decode cX11_keep 20 = .ok (.aload_n 0, 1) := by decide +kernel
theorem dX11_keep_21 : decode cX11_keep 21 = .ok (.getfield 7, 3) := by decide +kernel
theorem dX11_keep_24 : decode cX11_keep 24 = .ok (.sipush 227, 3) := by decide +kernel
theorem dX11_keep_27 : decode cX11_keep 27 = .ok (.iload_n 1, 1) := by decide +kernel
theorem dX11_keep_28 : decode cX11_keep 28 = .ok (.iadd, 1) := by decide +kernel
theorem dX11_keep_29 : decode cX11_keep 29 = .ok (.aload_n 0, 1) := by decide +kernel
theorem dX11_keep_30 : decode cX11_keep 30 = .ok (.getfield 7, 3) := by decide +kernel
theorem dX11_keep_33 : decode cX11_keep 33 = .ok (.sipush 371, 3) := by decide +kernel
theorem dX11_keep_36 : decode cX11_keep 36 = .ok (.iload_n 1, 1) := by decide +kernel
theorem dX11_keep_37 : decode cX11_keep 37 = .ok (.iadd, 1) := by decide +kernel
theorem dX11_keep_38 : decode cX11_keep 38 = .ok (.iaload, 1) := by decide +kernel
theorem dX11_keep_39 : decode cX11_keep 39 = .ok (.iastore, 1) := by decide +kernel
theorem dX11_keep_40 : decode cX11_keep 40 = .ok (.iinc 1 1, 3) := by decide +kernel
theorem dX11_keep_43 : decode cX11_keep 43 = .ok (.goto (-30), 3) := by decide +kernel
theorem dX11_keep_46 : decode cX11_keep 46 = .ok (.aload_n 0, 1) := by decide +kernel
theorem dX11_keep_47 : decode cX11_keep 47 = .ok (.getfield 7, 3) := by decide +kernel
theorem dX11_keep_50 : decode cX11_keep 50 = .ok (.iconst 3, 1) := by decide +kernel
theorem dX11_keep_51 : decode cX11_keep 51 = .ok (.dup2, 1) := by decide +kernel
theorem dX11_keep_52 : decode cX11_keep 52 = .ok (.iaload, 1) := by decide +kernel
theorem dX11_keep_53 : decode cX11_keep 53 = .ok (.iconst 1, 1) := by decide +kernel
theorem dX11_keep_54 : decode cX11_keep 54 = .ok (.isub, 1) := by decide +kernel
theorem dX11_keep_55 : decode cX11_keep 55 = .ok (.iastore, 1) := by decide +kernel
theorem dX11_keep_56 : decode cX11_keep 56 = .ok (.sipush 227, 3) := by decide +kernel
theorem dX11_keep_59 : decode cX11_keep 59 = .ok (.sipush 144, 3) := by decide +kernel
theorem dX11_keep_62 : decode cX11_keep 62 = .ok (.aload_n 0, 1) := by decide +kernel
theorem dX11_keep_63 : decode cX11_keep 63 = .ok (.getfield 7, 3) := by decide +kernel
theorem dX11_keep_66 : decode cX11_keep 66 = .ok (.iconst 3, 1) := by decide +kernel
theorem dX11_keep_67 : decode cX11_keep 67 = .ok (.iaload, 1) := by decide +kernel
theorem dX11_keep_68 : decode cX11_keep 68 = .ok (.imul, 1) := by decide +kernel
theorem dX11_keep_69 : decode cX11_keep 69 = .ok (.iadd, 1) := by decide +kernel
theorem dX11_keep_70 : decode cX11_keep 70 = .ok (.istore_n 1, 1) := by decide +kernel
theorem dX11_keep_71 : decode cX11_keep 71 = .ok (.aload_n 0, 1) := by decide +kernel
theorem dX11_keep_72 : decode cX11_keep 72 = .ok (.getfield 7, 3) := by decide +kernel
theorem dX11_keep_75 : decode cX11_keep 75 = .ok (.iload_n 1, 1) := by decide +kernel
theorem dX11_keep_76 : decode cX11_keep 76 = .ok (.aload_n 0, 1) := by decide +kernel
theorem dX11_keep_77 : decode cX11_keep 77 = .ok (.getfield 7, 3) := by decide +kernel
theorem dX11_keep_80 : decode cX11_keep 80 = .ok (.iconst 0, 1) := by decide +kernel
theorem dX11_keep_81 : decode cX11_keep 81 = .ok (.iaload, 1) := by decide +kernel
theorem dX11_keep_82 : decode cX11_keep 82 = .ok (.iastore, 1) := by decide +kernel
theorem dX11_keep_83 : decode cX11_keep 83 = .ok (.iconst 0, 1) := by decide +kernel
theorem dX11_keep_84 : decode cX11_keep 84 = .ok (.istore_n 2, 1) := by decide +kernel
theorem dX11_keep_85 : decode cX11_keep 85 = .ok (.iload_n 2, 1) := by decide +kernel
theorem dX11_keep_86 : decode cX11_keep 86 = .ok (.iconst 3, 1) := by decide +kernel
theorem dX11_keep_87 : decode cX11_keep 87 = .ok (.if_icmp .ge 28, 3) := by decide +kernel
theorem dX11_keep_90 : decode cX11_keep 90 = .ok (.aload_n 0, 1) := by decide +kernel
theorem dX11_keep_91 : decode cX11_keep 91 = .ok (.getfield 7, 3) := by decide +kernel
theorem dX11_keep_94 : decode cX11_keep 94 = .ok (.iload_n 1, 1) := by decide +kernel
theorem dX11_keep_95 : decode cX11_keep 95 = .ok (.iconst 1, 1) := by decide +kernel
theorem dX11_keep_96 : decode cX11_keep 96 = .ok (.iadd, 1) := by decide +kernel
theorem dX11_keep_97 : decode cX11_keep 97 = .ok (.iload_n 2, 1) := by decide +kernel
theorem dX11_keep_98 : decode cX11_keep 98 = .ok (.iadd, 1) := by decide +kernel
theorem dX11_keep_99 : decode cX11_keep 99 = .ok (.aload_n 0, 1) := by decide +kernel
theorem dX11_keep_100 : decode cX11_keep 100 = .ok (.getfield 7, 3) := by decide +kernel
theorem dX11_keep_103 : decode cX11_keep 103 = .ok (.bipush 8, 2) := by decide +kernel
theorem dX11_keep_105 : decode cX11_keep 105 = .ok (.iload_n 2, 1) := by decide +kernel
theorem dX11_keep_106 : decode cX11_keep 106 = .ok (.iadd, 1) := by decide +kernel
theorem dX11_keep_107 : decode cX11_keep 107 = .ok (.iaload, 1) := by decide +kernel
theorem dX11_keep_108 : decode cX11_keep 108 = .ok (.iastore, 1) := by decide +kernel
theorem dX11_keep_109 : decode cX11_keep 109 = .ok (.iinc 2 1, 3) := by decide +kernel
theorem dX11_keep_112 : decode cX11_keep 112 = .ok (.goto (-27), 3) := by decide +kernel
theorem dX11_keep_115 : decode cX11_keep 115 = .ok (.iconst 0, 1) := by decide +kernel
theorem dX11_keep_116 : decode cX11_keep 116 = .ok (.istore_n 2, 1) := by decide +kernel
theorem dX11_keep_117 : decode cX11_keep 117 = .ok (.iload_n 2, 1) := by decide +kernel
theorem dX11_keep_118 : decode cX11_keep 118 = .ok (.iconst 5, 1) := by decide +kernel
theorem dX11_keep_119 : decode cX11_keep 119 = .ok (.if_icmp .ge 44, 3) := by decide +kernel
theorem dX11_keep_122 : decode cX11_keep 122 = .ok (.iconst 0, 1) := by decide +kernel
theorem dX11_keep_123 : decode cX11_keep 123 = .ok (.istore_n 3, 1) := by decide +kernel
theorem dX11_keep_124 : decode cX11_keep 124 = .ok (.iload_n 3, 1) := by decide +kernel
theorem dX11_keep_125 : decode cX11_keep 125 = .ok (.bipush 16, 2) := by decide +kernel
theorem dX11_keep_127 : decode cX11_keep 127 = .ok (.if_icmp .ge 30, 3) := by decide +kernel
theorem dX11_keep_130 : decode cX11_keep 130 = .ok (.aload_n 0, 1) := by decide +kernel
theorem dX11_keep_131 : decode cX11_keep 131 = .ok (.getfield 7, 3) := by decide +kernel
theorem dX11_keep_134 : decode cX11_keep 134 = .ok (.iload_n 1, 1) := by decide +kernel
theorem dX11_keep_135 : decode cX11_keep 135 = .ok (.iconst 4, 1) := by decide +kernel
theorem dX11_keep_136 : decode cX11_keep 136 = .ok (.iadd, 1) := by decide +kernel
theorem dX11_keep_137 : decode cX11_keep 137 = .ok (.bipush 16, 2) := by decide +kernel
theorem dX11_keep_139 : decode cX11_keep 139 = .ok (.iload_n 2, 1) := by decide +kernel
theorem dX11_keep_140 : decode cX11_keep 140 = .ok (.imul, 1) := by decide +kernel
theorem dX11_keep_141 : decode cX11_keep 141 = .ok (.iadd, 1) := by decide +kernel
theorem dX11_keep_142 : decode cX11_keep 142 = .ok (.iload_n 3, 1) := by decide +kernel
theorem dX11_keep_143 : decode cX11_keep 143 = .ok (.iadd, 1) := by decide +kernel
theorem dX11_keep_144 : decode cX11_keep 144 = .ok (.aload_n 0, 1) := by decide +kernel
theorem dX11_keep_145 : decode cX11_keep 145 = .ok (.iload_n 2, 1) := by decide +kernel
theorem dX11_keep_146 : decode cX11_keep 146 = .ok (.iload_n 3, 1) := by decide +kernel
theorem dX11_keep_147 : decode cX11_keep 147 = .ok (.invokevirtual 107, 3) := by decide +kernel
theorem dX11_keep_150 : decode cX11_keep 150 = .ok (.iastore, 1) := by decide +kernel
theorem dX11_keep_151 : decode cX11_keep 151 = .ok (.iinc 3 1, 3) := by decide +kernel
theorem dX11_keep_154 : decode cX11_keep 154 = .ok (.goto (-30), 3) := by decide +kernel
theorem dX11_keep_157 : decode cX11_keep 157 = .ok (.iinc 2 1, 3) := by decide +kernel
theorem dX11_keep_160 : decode cX11_keep 160 = .ok (.goto (-43), 3) := by decide +kernel
theorem dX11_keep_163 : decode cX11_keep 163 = .ok (.iconst 0, 1) := by decide +kernel
theorem dX11_keep_164 : decode cX11_keep 164 = .ok (.istore_n 2, 1) := by decide +kernel
theorem dX11_keep_165 : decode cX11_keep 165 = .ok (.iload_n 2, 1) := by decide +kernel
theorem dX11_keep_166 : decode cX11_keep 166 = .ok (.bipush 60, 2) := by decide +kernel
theorem dX11_keep_168 : decode cX11_keep 168 = .ok (.if_icmp .ge 30, 3) := by decide +kernel
theorem dX11_keep_171 : decode cX11_keep 171 = .ok (.aload_n 0, 1) := by decide +kernel
theorem dX11_keep_172 : decode cX11_keep 172 = .ok (.getfield 7, 3) := by decide +kernel
theorem dX11_keep_175 : decode cX11_keep 175 = .ok (.iload_n 1, 1) := by decide +kernel
theorem dX11_keep_176 : decode cX11_keep 176 = .ok (.bipush 84, 2) := by decide +kernel
theorem dX11_keep_178 : decode cX11_keep 178 = .ok (.iadd, 1) := by decide +kernel
theorem dX11_keep_179 : decode cX11_keep 179 = .ok (.iload_n 2, 1) := by decide +kernel
theorem dX11_keep_180 : decode cX11_keep 180 = .ok (.iadd, 1) := by decide +kernel
theorem dX11_keep_181 : decode cX11_keep 181 = .ok (.aload_n 0, 1) := by decide +kernel
theorem dX11_keep_182 : decode cX11_keep 182 = .ok (.getfield 7, 3) := by decide +kernel
theorem dX11_keep_185 : decode cX11_keep 185 = .ok (.sipush 4547, 3) := by decide +kernel
theorem dX11_keep_188 : decode cX11_keep 188 = .ok (.iload_n 2, 1) := by decide +kernel
theorem dX11_keep_189 : decode cX11_keep 189 = .ok (.iadd, 1) := by decide +kernel
theorem dX11_keep_190 : decode cX11_keep 190 = .ok (.iaload, 1) := by decide +kernel
theorem dX11_keep_191 : decode cX11_keep 191 = .ok (.iastore, 1) := by decide +kernel
theorem dX11_keep_192 : decode cX11_keep 192 = .ok (.iinc 2 1, 3) := by decide +kernel
theorem dX11_keep_195 : decode cX11_keep 195 = .ok (.goto (-30), 3) := by decide +kernel
theorem dX11_keep_198 : decode cX11_keep 198 = .ok (.aload_n 0, 1) := by decide +kernel
theorem dX11_keep_199 : decode cX11_keep 199 = .ok (.getfield 7, 3) := by decide +kernel
theorem dX11_keep_202 : decode cX11_keep 202 = .ok (.iconst 3, 1) := by decide +kernel
theorem dX11_keep_203 : decode cX11_keep 203 = .ok (.dup2, 1) := by decide +kernel
theorem dX11_keep_204 : decode cX11_keep 204 = .ok (.iaload, 1) := by decide +kernel
theorem dX11_keep_205 : decode cX11_keep 205 = .ok (.iconst 1, 1) := by decide +kernel
theorem dX11_keep_206 : decode cX11_keep 206 = .ok (.iadd, 1) := by decide +kernel
theorem dX11_keep_207 : decode cX11_keep 207 = .ok (.iastore, 1) := by decide +kernel
theorem dX11_keep_208 : decode cX11_keep 208 = .ok (.return_, 1) := by decide +kernel
theorem dX11_undo_0 : decode cX11_undo 0 = .ok (.aload_n 0, 1) := by decide +kernel
theorem dX11_undo_1 : decode cX11_undo 1 = .ok (.getfield 7, 3) := by decide +kernel
theorem dX11_undo_4 : decode cX11_undo 4 = .ok (.iconst 3, 1) := by decide +kernel
theorem dX11_undo_5 : decode cX11_undo 5 = .ok (.iaload, 1) := by decide +kernel
theorem dX11_undo_6 : decode cX11_undo 6 = .ok (.ifCond .ne 5, 3) := by decide +kernel
theorem dX11_undo_9 : decode cX11_undo 9 = .ok (.iconst (-1), 1) := by decide +kernel
theorem dX11_undo_10 : decode cX11_undo 10 = .ok (.ireturn, 1) := by decide +kernel
theorem dX11_undo_11 : decode cX11_undo 11 = .ok (.aload_n 0, 1) := by decide +kernel
theorem dX11_undo_12 : decode cX11_undo 12 = .ok (.getfield 7, 3) := by decide +kernel
theorem dX11_undo_15 : decode cX11_undo 15 = .ok (.iconst 3, 1) := by decide +kernel
theorem dX11_undo_16 : decode cX11_undo 16 = .ok (.dup2, 1) := by decide +kernel
theorem dX11_undo_17 : decode cX11_undo 17 = .ok (.iaload, 1) := by decide +kernel
theorem dX11_undo_18 : decode cX11_undo 18 = .ok (.iconst 1, 1) := by decide +kernel
theorem dX11_undo_19 : decode cX11_undo 19 = .ok (.isub, 1) := by decide +kernel
theorem dX11_undo_20 : decode cX11_undo 20 = .ok (.iastore, 1) := by decide +kernel
theorem dX11_undo_21 : decode cX11_undo 21 = .ok (.sipush 227, 3) := by decide +kernel
theorem dX11_undo_24 : decode cX11_undo 24 = .ok (.sipush 144, 3) := by decide +kernel
theorem dX11_undo_27 : decode cX11_undo 27 = .ok (.aload_n 0, 1) := by decide +kernel
theorem dX11_undo_28 : decode cX11_undo 28 = .ok (.getfield 7, 3) := by decide +kernel
theorem dX11_undo_31 : decode cX11_undo 31 = .ok (.iconst 3, 1) := by decide +kernel
theorem dX11_undo_32 : decode cX11_undo 32 = .ok (.iaload, 1) := by decide +kernel
theorem dX11_undo_33 : decode cX11_undo 33 = .ok (.imul, 1) := by decide +kernel
theorem dX11_undo_34 : decode cX11_undo 34 = .ok (.iadd, 1) := by decide +kernel
theorem dX11_undo_35 : decode cX11_undo 35 = .ok (.istore_n 1, 1) := by decide +kernel
theorem dX11_undo_36 : decode cX11_undo 36 = .ok (.iconst 0, 1) := by decide +kernel
theorem dX11_undo_37 : decode cX11_undo 37 = .ok (.istore_n 2, 1) := by decide +kernel
theorem dX11_undo_38 : decode cX11_undo 38 = .ok (.iload_n 2, 1) := by decide +kernel
theorem dX11_undo_39 : decode cX11_undo 39 = .ok (.iconst 3, 1) := by decide +kernel
theorem dX11_undo_40 : decode cX11_undo 40 = .ok (.if_icmp .ge 28, 3) := by decide +kernel
theorem dX11_undo_43 : decode cX11_undo 43 = .ok (.aload_n 0, 1) := by decide +kernel
theorem dX11_undo_44 : decode cX11_undo 44 = .ok (.getfield 7, 3) := by decide +kernel
theorem dX11_undo_47 : decode cX11_undo 47 = .ok (.bipush 8, 2) := by decide +kernel
theorem dX11_undo_49 : decode cX11_undo 49 = .ok (.iload_n 2, 1) := by decide +kernel
theorem dX11_undo_50 : decode cX11_undo 50 = .ok (.iadd, 1) := by decide +kernel
theorem dX11_undo_51 : decode cX11_undo 51 = .ok (.aload_n 0, 1) := by decide +kernel
theorem dX11_undo_52 : decode cX11_undo 52 = .ok (.getfield 7, 3) := by decide +kernel
theorem dX11_undo_55 : decode cX11_undo 55 = .ok (.iload_n 1, 1) := by decide +kernel
theorem dX11_undo_56 : decode cX11_undo 56 = .ok (.iconst 1, 1) := by decide +kernel
theorem dX11_undo_57 : decode cX11_undo 57 = .ok (.iadd, 1) := by decide +kernel
theorem dX11_undo_58 : decode cX11_undo 58 = .ok (.iload_n 2, 1) := by decide +kernel
theorem dX11_undo_59 : decode cX11_undo 59 = .ok (.iadd, 1) := by decide +kernel
theorem dX11_undo_60 : decode cX11_undo 60 = .ok (.iaload, 1) := by decide +kernel
theorem dX11_undo_61 : decode cX11_undo 61 = .ok (.iastore, 1) := by decide +kernel
theorem dX11_undo_62 : decode cX11_undo 62 = .ok (.iinc 2 1, 3) := by decide +kernel
theorem dX11_undo_65 : decode cX11_undo 65 = .ok (.goto (-27), 3) := by decide +kernel
theorem dX11_undo_68 : decode cX11_undo 68 = .ok (.iconst 0, 1) := by decide +kernel
theorem dX11_undo_69 : decode cX11_undo 69 = .ok (.istore_n 2, 1) := by decide +kernel
theorem dX11_undo_70 : decode cX11_undo 70 = .ok (.iload_n 2, 1) := by decide +kernel
theorem dX11_undo_71 : decode cX11_undo 71 = .ok (.aload_n 0, 1) := by decide +kernel
theorem dX11_undo_72 : decode cX11_undo 72 = .ok (.getfield 7, 3) := by decide +kernel
theorem dX11_undo_75 : decode cX11_undo 75 = .ok (.iconst 0, 1) := by decide +kernel
theorem dX11_undo_76 : decode cX11_undo 76 = .ok (.iaload, 1) := by decide +kernel
theorem dX11_undo_77 : decode cX11_undo 77 = .ok (.if_icmp .ge 69, 3) := by decide +kernel
theorem dX11_undo_80 : decode cX11_undo 80 = .ok (.iload_n 2, 1) := by decide +kernel
theorem dX11_undo_81 : decode cX11_undo 81 = .ok (.aload_n 0, 1) := by decide +kernel
theorem dX11_undo_82 : decode cX11_undo 82 = .ok (.getfield 7, 3) := by decide +kernel
theorem dX11_undo_85 : decode cX11_undo 85 = .ok (.iload_n 1, 1) := by decide +kernel
theorem dX11_undo_86 : decode cX11_undo 86 = .ok (.iaload, 1) := by decide +kernel
theorem dX11_undo_87 : decode cX11_undo 87 = .ok (.if_icmp .lt 8, 3) := by decide +kernel
theorem dX11_undo_90 : decode cX11_undo 90 = .ok (.aload_n 0, 1) := by decide +kernel
theorem dX11_undo_91 : decode cX11_undo 91 = .ok (.iload_n 2, 1) := by decide +kernel
theorem dX11_undo_92 : decode cX11_undo 92 = .ok (.invokevirtual 103, 3) := by decide +kernel
theorem dX11_undo_95 : decode cX11_undo 95 = .ok (.iconst 0, 1) := by decide +kernel
theorem dX11_undo_96 : decode cX11_undo 96 = .ok (.istore_n 3, 1) := by decide +kernel
theorem dX11_undo_97 : decode cX11_undo 97 = .ok (.iload_n 3, 1) := by decide +kernel
theorem dX11_undo_98 : decode cX11_undo 98 = .ok (.bipush 16, 2) := by decide +kernel
theorem dX11_undo_100 : decode cX11_undo 100 = .ok (.if_icmp .ge 40, 3) := by decide +kernel
theorem dX11_undo_103 : decode cX11_undo 103 = .ok (.iload_n 2, 1) := by decide +kernel
theorem dX11_undo_104 : decode cX11_undo 104 = .ok (.aload_n 0, 1) := by decide +kernel
theorem dX11_undo_105 : decode cX11_undo 105 = .ok (.getfield 7, 3) := by decide +kernel
theorem dX11_undo_108 : decode cX11_undo 108 = .ok (.iload_n 1, 1) := by decide +kernel
theorem dX11_undo_109 : decode cX11_undo 109 = .ok (.iaload, 1) := by decide +kernel
theorem dX11_undo_110 : decode cX11_undo 110 = .ok (.if_icmp .ge 30, 3) := by decide +kernel
theorem dX11_undo_113 : decode cX11_undo 113 = .ok (.aload_n 0, 1) := by decide +kernel
theorem dX11_undo_114 : decode cX11_undo 114 = .ok (.iload_n 2, 1) := by decide +kernel
theorem dX11_undo_115 : decode cX11_undo 115 = .ok (.iload_n 3, 1) := by decide +kernel
theorem dX11_undo_116 : decode cX11_undo 116 = .ok (.aload_n 0, 1) := by decide +kernel
theorem dX11_undo_117 : decode cX11_undo 117 = .ok (.getfield 7, 3) := by decide +kernel
theorem dX11_undo_120 : decode cX11_undo 120 = .ok (.iload_n 1, 1) := by decide +kernel
theorem dX11_undo_121 : decode cX11_undo 121 = .ok (.iconst 4, 1) := by decide +kernel
theorem dX11_undo_122 : decode cX11_undo 122 = .ok (.iadd, 1) := by decide +kernel
theorem dX11_undo_123 : decode cX11_undo 123 = .ok (.bipush 16, 2) := by decide +kernel
theorem dX11_undo_125 : decode cX11_undo 125 = .ok (.iload_n 2, 1) := by decide +kernel
theorem dX11_undo_126 : decode cX11_undo 126 = .ok (.imul, 1) := by decide +kernel
theorem dX11_undo_127 : decode cX11_undo 127 = .ok (.iadd, 1) := by decide +kernel
theorem dX11_undo_128 : decode cX11_undo 128 = .ok (.iload_n 3, 1) := by decide +kernel
theorem dX11_undo_129 : decode cX11_undo 129 = .ok (.iadd, 1) := by decide +kernel
theorem dX11_undo_130 : decode cX11_undo 130 = .ok (.iaload, 1) := by decide +kernel
theorem dX11_undo_131 : decode cX11_undo 131 = .ok (.invokevirtual 99, 3) := by decide +kernel
theorem dX11_undo_134 : decode cX11_undo 134 = .ok (.iinc 3 1, 3) := by decide +kernel
theorem dX11_undo_137 : decode cX11_undo 137 = .ok (.goto (-40), 3) := by decide +kernel
theorem dX11_undo_140 : decode cX11_undo 140 = .ok (.iinc 2 1, 3) := by decide +kernel
theorem dX11_undo_143 : decode cX11_undo 143 = .ok (.goto (-73), 3) := by decide +kernel
theorem dX11_undo_146 : decode cX11_undo 146 = .ok (.iconst 0, 1) := by decide +kernel
theorem dX11_undo_147 : decode cX11_undo 147 = .ok (.istore_n 2, 1) := by decide +kernel
theorem dX11_undo_148 : decode cX11_undo 148 = .ok (.iload_n 2, 1) := by decide +kernel
theorem dX11_undo_149 : decode cX11_undo 149 = .ok (.bipush 60, 2) := by decide +kernel
theorem dX11_undo_151 : decode cX11_undo 151 = .ok (.if_icmp .ge 30, 3) := by decide +kernel
theorem dX11_undo_154 : decode cX11_undo 154 = .ok (.aload_n 0, 1) := by decide +kernel
theorem dX11_undo_155 : decode cX11_undo 155 = .ok (.getfield 7, 3) := by decide +kernel
theorem dX11_undo_158 : decode cX11_undo 158 = .ok (.sipush 4547, 3) := by decide +kernel
theorem dX11_undo_161 : decode cX11_undo 161 = .ok (.iload_n 2, 1) := by decide +kernel
theorem dX11_undo_162 : decode cX11_undo 162 = .ok (.iadd, 1) := by decide +kernel
theorem dX11_undo_163 : decode cX11_undo 163 = .ok (.aload_n 0, 1) := by decide +kernel
theorem dX11_undo_164 : decode cX11_undo 164 = .ok (.getfield 7, 3) := by decide +kernel
theorem dX11_undo_167 : decode cX11_undo 167 = .ok (.iload_n 1, 1) := by decide +kernel
theorem dX11_undo_168 : decode cX11_undo 168 = .ok (.bipush 84, 2) := by decide +kernel
theorem dX11_undo_170 : decode cX11_undo 170 = .ok (.iadd, 1) := by decide +kernel
theorem dX11_undo_171 : decode cX11_undo 171 = .ok (.iload_n 2, 1) := by decide +kernel
theorem dX11_undo_172 : decode cX11_undo 172 = .ok (.iadd, 1) := by decide +kernel
theorem dX11_undo_173 : decode cX11_undo 173 = .ok (.iaload, 1) := by decide +kernel
theorem dX11_undo_174 : decode cX11_undo 174 = .ok (.iastore, 1) := by decide +kernel
theorem dX11_undo_175 : decode cX11_undo 175 = .ok (.iinc 2 1, 3) := by decide +kernel
theorem dX11_undo_178 : decode cX11_undo 178 = .ok (.goto (-30), 3) := by decide +kernel
theorem dX11_undo_181 : decode cX11_undo 181 = .ok (.aload_n 0, 1) := by decide +kernel
theorem dX11_undo_182 : decode cX11_undo 182 = .ok (.getfield 7, 3) := by decide +kernel
theorem dX11_undo_185 : decode cX11_undo 185 = .ok (.iconst 3, 1) := by decide +kernel
theorem dX11_undo_186 : decode cX11_undo 186 = .ok (.iaload, 1) := by decide +kernel
theorem dX11_undo_187 : decode cX11_undo 187 = .ok (.ireturn, 1) := by decide +kernel
theorem dX11_canCrank_0 : decode cX11_canCrank 0 = .ok (.aload_n 0, 1) := by decide +kernel
theorem dX11_canCrank_1 : decode cX11_canCrank 1 = .ok (.iload_n 1, 1) := by decide +kernel
theorem dX11_canCrank_2 : decode cX11_canCrank 2 = .ok (.invokevirtual 374, 3) := by decide +kernel
theorem dX11_canCrank_5 : decode cX11_canCrank 5 = .ok (.ifCond .eq 18, 3) := by decide +kernel
theorem dX11_canCrank_8 : decode cX11_canCrank 8 = .ok (.aload_n 0, 1) := by decide +kernel
theorem dX11_canCrank_9 : decode cX11_canCrank 9 = .ok (.iload_n 1, 1) := by decide +kernel
theorem dX11_canCrank_10 : decode cX11_canCrank 10 = .ok (.iconst 0, 1) := by decide +kernel
theorem dX11_canCrank_11 : decode cX11_canCrank 11 = .ok (.invokevirtual 107, 3) := by decide +kernel
theorem dX11_canCrank_14 : decode cX11_canCrank 14 = .ok (.bipush 99, 2) := by decide +kernel
theorem dX11_canCrank_16 : decode cX11_canCrank 16 = .ok (.if_icmp .ge 7, 3) := by decide +kernel
theorem dX11_canCrank_19 : decode cX11_canCrank 19 = .ok (.iconst 1, 1) := by decide +kernel
theorem dX11_canCrank_20 : decode cX11_canCrank 20 = .ok (.goto 4, 3) := by decide +kernel
theorem dX11_canCrank_23 : decode cX11_canCrank 23 = .ok (.iconst 0, 1) := by decide +kernel
theorem dX11_canCrank_24 : decode cX11_canCrank 24 = .ok (.ireturn, 1) := by decide +kernel
theorem dX11_crankNow_0 : decode cX11_crankNow 0 = .ok (.aload_n 0, 1) := by decide +kernel
theorem dX11_crankNow_1 : decode cX11_crankNow 1 = .ok (.iload_n 1, 1) := by decide +kernel
theorem dX11_crankNow_2 : decode cX11_crankNow 2 = .ok (.iconst 2, 1) := by decide +kernel
theorem dX11_crankNow_3 : decode cX11_crankNow 3 = .ok (.aload_n 0, 1) := by decide +kernel
theorem dX11_crankNow_4 : decode cX11_crankNow 4 = .ok (.iload_n 1, 1) := by decide +kernel
theorem dX11_crankNow_5 : decode cX11_crankNow 5 = .ok (.iconst 2, 1) := by decide +kernel
theorem dX11_crankNow_6 : decode cX11_crankNow 6 = .ok (.invokevirtual 107, 3) := by decide +kernel
theorem dX11_crankNow_9 : decode cX11_crankNow 9 = .ok (.iload_n 2, 1) := by decide +kernel
theorem dX11_crankNow_10 : decode cX11_crankNow 10 = .ok (.iadd, 1) := by decide +kernel
theorem dX11_crankNow_11 : decode cX11_crankNow 11 = .ok (.sipush 10000, 3) := by decide +kernel
theorem dX11_crankNow_14 : decode cX11_crankNow 14 = .ok (.irem, 1) := by decide +kernel
theorem dX11_crankNow_15 : decode cX11_crankNow 15 = .ok (.invokevirtual 99, 3) := by decide +kernel
theorem dX11_crankNow_18 : decode cX11_crankNow 18 = .ok (.aload_n 0, 1) := by decide +kernel
theorem dX11_crankNow_19 : decode cX11_crankNow 19 = .ok (.iload_n 1, 1) := by decide +kernel
theorem dX11_crankNow_20 : decode cX11_crankNow 20 = .ok (.iconst 0, 1) := by decide +kernel
theorem dX11_crankNow_21 : decode cX11_crankNow 21 = .ok (.aload_n 0, 1) := by decide +kernel
theorem dX11_crankNow_22 : decode cX11_crankNow 22 = .ok (.iload_n 1, 1) := by decide +kernel
theorem dX11_crankNow_23 : decode cX11_crankNow 23 = .ok (.iconst 0, 1) := by decide +kernel
theorem dX11_crankNow_24 : decode cX11_crankNow 24 = .ok (.invokevirtual 107, 3) := by decide +kernel
theorem dX11_crankNow_27 : decode cX11_crankNow 27 = .ok (.iconst 1, 1) := by decide +kernel
theorem dX11_crankNow_28 : decode cX11_crankNow 28 = .ok (.iadd, 1) := by decide +kernel
theorem dX11_crankNow_29 : decode cX11_crankNow 29 = .ok (.invokevirtual 99, 3) := by decide +kernel
theorem dX11_crankNow_32 : decode cX11_crankNow 32 = .ok (.return_, 1) := by decide +kernel
theorem dX11_crank_0 : decode cX11_crank 0 = .ok (.aload_n 0, 1) := by decide +kernel
theorem dX11_crank_1 : decode cX11_crank 1 = .ok (.iload_n 1, 1) := by decide +kernel
theorem dX11_crank_2 : decode cX11_crank 2 = .ok (.invokevirtual 377, 3) := by decide +kernel
theorem dX11_crank_5 : decode cX11_crank 5 = .ok (.ifCond .eq 10, 3) := by decide +kernel
theorem dX11_crank_8 : decode cX11_crank 8 = .ok (.iload_n 2, 1) := by decide +kernel
theorem dX11_crank_9 : decode cX11_crank 9 = .ok (.invokestatic 380, 3) := by decide +kernel
theorem dX11_crank_12 : decode cX11_crank 12 = .ok (.ifCond .ne 5, 3) := by decide +kernel
theorem dX11_crank_15 : decode cX11_crank 15 = .ok (.iconst (-1), 1) := by decide +kernel
theorem dX11_crank_16 : decode cX11_crank 16 = .ok (.ireturn, 1) := by decide +kernel
theorem dX11_crank_17 : decode cX11_crank 17 = .ok (.aload_n 0, 1) := by decide +kernel
theorem dX11_crank_18 : decode cX11_crank 18 = .ok (.invokevirtual 383, 3) := by decide +kernel
theorem dX11_crank_21 : decode cX11_crank 21 = .ok (.aload_n 0, 1) := by decide +kernel
theorem dX11_crank_22 : decode cX11_crank 22 = .ok (.iload_n 1, 1) := by decide +kernel
theorem dX11_crank_23 : decode cX11_crank 23 = .ok (.iload_n 2, 1) := by decide +kernel
theorem dX11_crank_24 : decode cX11_crank 24 = .ok (.invokevirtual 386, 3) := by decide +kernel
theorem dX11_crank_27 : decode cX11_crank 27 = .ok (.aload_n 0, 1) := by decide +kernel
theorem dX11_crank_28 : decode cX11_crank 28 = .ok (.iload_n 1, 1) := by decide +kernel
theorem dX11_crank_29 : decode cX11_crank 29 = .ok (.iconst 2, 1) := by decide +kernel
theorem dX11_crank_30 : decode cX11_crank 30 = .ok (.invokevirtual 107, 3) := by decide +kernel
theorem dX11_crank_33 : decode cX11_crank 33 = .ok (.ireturn, 1) := by decide +kernel
theorem dX11_oil_0 : decode cX11_oil 0 = .ok (.aload_n 0, 1) := by decide +kernel
theorem dX11_oil_1 : decode cX11_oil 1 = .ok (.iload_n 1, 1) := by decide +kernel
theorem dX11_oil_2 : decode cX11_oil 2 = .ok (.invokevirtual 374, 3) := by decide +kernel
theorem dX11_oil_5 : decode cX11_oil 5 = .ok (.ifCond .eq 10, 3) := by decide +kernel
theorem dX11_oil_8 : decode cX11_oil 8 = .ok (.iload_n 2, 1) := by decide +kernel
theorem dX11_oil_9 : decode cX11_oil 9 = .ok (.invokestatic 95, 3) := by decide +kernel
theorem dX11_oil_12 : decode cX11_oil 12 = .ok (.ifCond .ne 5, 3) := by decide +kernel
theorem dX11_oil_15 : decode cX11_oil 15 = .ok (.iconst 0, 1) := by decide +kernel
theorem dX11_oil_16 : decode cX11_oil 16 = .ok (.ireturn, 1) := by decide +kernel
theorem dX11_oil_17 : decode cX11_oil 17 = .ok (.aload_n 0, 1) := by decide +kernel
theorem dX11_oil_18 : decode cX11_oil 18 = .ok (.invokevirtual 383, 3) := by decide +kernel
theorem dX11_oil_21 : decode cX11_oil 21 = .ok (.aload_n 0, 1) := by decide +kernel
theorem dX11_oil_22 : decode cX11_oil 22 = .ok (.iload_n 1, 1) := by decide +kernel
theorem dX11_oil_23 : decode cX11_oil 23 = .ok (.iconst 1, 1) := by decide +kernel
theorem dX11_oil_24 : decode cX11_oil 24 = .ok (.iload_n 2, 1) := by decide +kernel
theorem dX11_oil_25 : decode cX11_oil 25 = .ok (.invokevirtual 99, 3) := by decide +kernel
theorem dX11_oil_28 : decode cX11_oil 28 = .ok (.iconst 1, 1) := by decide +kernel
theorem dX11_oil_29 : decode cX11_oil 29 = .ok (.ireturn, 1) := by decide +kernel
theorem dX11_canLift_0 : decode cX11_canLift 0 = .ok (.aload_n 0, 1) := by decide +kernel
theorem dX11_canLift_1 : decode cX11_canLift 1 = .ok (.iload_n 1, 1) := by decide +kernel
theorem dX11_canLift_2 : decode cX11_canLift 2 = .ok (.invokevirtual 374, 3) := by decide +kernel
theorem dX11_canLift_5 : decode cX11_canLift 5 = .ok (.ifCond .eq 16, 3) := by decide +kernel
theorem dX11_canLift_8 : decode cX11_canLift 8 = .ok (.aload_n 0, 1) := by decide +kernel
theorem dX11_canLift_9 : decode cX11_canLift 9 = .ok (.iload_n 1, 1) := by decide +kernel
theorem dX11_canLift_10 : decode cX11_canLift 10 = .ok (.iconst 3, 1) := by decide +kernel
theorem dX11_canLift_11 : decode cX11_canLift 11 = .ok (.invokevirtual 107, 3) := by decide +kernel
theorem dX11_canLift_14 : decode cX11_canLift 14 = .ok (.ifCond .le 7, 3) := by decide +kernel
theorem dX11_canLift_17 : decode cX11_canLift 17 = .ok (.iconst 1, 1) := by decide +kernel
theorem dX11_canLift_18 : decode cX11_canLift 18 = .ok (.goto 4, 3) := by decide +kernel
theorem dX11_canLift_21 : decode cX11_canLift 21 = .ok (.iconst 0, 1) := by decide +kernel
theorem dX11_canLift_22 : decode cX11_canLift 22 = .ok (.ireturn, 1) := by decide +kernel
theorem dX11_lift_0 : decode cX11_lift 0 = .ok (.aload_n 0, 1) := by decide +kernel
theorem dX11_lift_1 : decode cX11_lift 1 = .ok (.iload_n 1, 1) := by decide +kernel
theorem dX11_lift_2 : decode cX11_lift 2 = .ok (.invokevirtual 389, 3) := by decide +kernel
theorem dX11_lift_5 : decode cX11_lift 5 = .ok (.ifCond .ne 5, 3) := by decide +kernel
theorem dX11_lift_8 : decode cX11_lift 8 = .ok (.iconst 0, 1) := by decide +kernel
theorem dX11_lift_9 : decode cX11_lift 9 = .ok (.ireturn, 1) := by decide +kernel
theorem dX11_lift_10 : decode cX11_lift 10 = .ok (.aload_n 0, 1) := by decide +kernel
theorem dX11_lift_11 : decode cX11_lift 11 = .ok (.invokevirtual 383, 3) := by decide +kernel
theorem dX11_lift_14 : decode cX11_lift 14 = .ok (.aload_n 0, 1) := by decide +kernel
theorem dX11_lift_15 : decode cX11_lift 15 = .ok (.iload_n 1, 1) := by decide +kernel
theorem dX11_lift_16 : decode cX11_lift 16 = .ok (.invokevirtual 341, 3) := by decide +kernel
theorem dX11_lift_19 : decode cX11_lift 19 = .ok (.iconst 1, 1) := by decide +kernel
theorem dX11_lift_20 : decode cX11_lift 20 = .ok (.ireturn, 1) := by decide +kernel
theorem dX11_arePassed_0 : decode cX11_arePassed 0 = .ok (.aload_n 0, 1) := by decide +kernel
theorem dX11_arePassed_1 : decode cX11_arePassed 1 = .ok (.iconst 0, 1) := by decide +kernel
theorem dX11_arePassed_2 : decode cX11_arePassed 2 = .ok (.putfield 362, 3) := by decide +kernel
theorem dX11_arePassed_5 : decode cX11_arePassed 5 = .ok (.iconst 0, 1) := by decide +kernel
theorem dX11_arePassed_6 : decode cX11_arePassed 6 = .ok (.istore_n 2, 1) := by decide +kernel
theorem dX11_arePassed_7 : decode cX11_arePassed 7 = .ok (.iload_n 2, 1) := by decide +kernel
theorem dX11_arePassed_8 : decode cX11_arePassed 8 = .ok (.iload_n 1, 1) := by decide +kernel
theorem dX11_arePassed_9 : decode cX11_arePassed 9 = .ok (.if_icmp .ge 32, 3) := by decide +kernel
theorem dX11_arePassed_12 : decode cX11_arePassed 12 = .ok (.aload_n 0, 1) := by decide +kernel
theorem dX11_arePassed_13 : decode cX11_arePassed 13 = .ok (.getfield 7, 3) := by decide +kernel
theorem dX11_arePassed_16 : decode cX11_arePassed 16 = .ok (.bipush 8, 2) := by decide +kernel
theorem dX11_arePassed_18 : decode cX11_arePassed 18 = .ok (.iaload, 1) := by decide +kernel
theorem dX11_arePassed_19 : decode cX11_arePassed 19 = .ok (.sipush 9999, 3) := by decide +kernel
theorem dX11_arePassed_22 : decode cX11_arePassed 22 = .ok (.if_icmp .ne 5, 3) := by decide +kernel
theorem dX11_arePassed_25 : decode cX11_arePassed 25 = .ok (.iconst 0, 1) := by decide +kernel
theorem dX11_arePassed_26 : decode cX11_arePassed 26 = .ok (.ireturn, 1) := by decide +kernel
theorem dX11_arePassed_27 : decode cX11_arePassed 27 = .ok (.aload_n 0, 1) := by decide +kernel
theorem dX11_arePassed_28 : decode cX11_arePassed 28 = .ok (.invokevirtual 383, 3) := by decide +kernel
theorem dX11_arePassed_31 : decode cX11_arePassed 31 = .ok (.aload_n 0, 1) := by decide +kernel
theorem dX11_arePassed_32 : decode cX11_arePassed 32 = .ok (.invokevirtual 392, 3) := by decide +kernel
theorem dX11_arePassed_35 : decode cX11_arePassed 35 = .ok (.iinc 2 1, 3) := by decide +kernel
theorem dX11_arePassed_38 : decode cX11_arePassed 38 = .ok (.goto (-31), 3) := by decide +kernel
theorem dX11_arePassed_41 : decode cX11_arePassed 41 = .ok (.iconst 1, 1) := by decide +kernel
theorem dX11_arePassed_42 : decode cX11_arePassed 42 = .ok (.ireturn, 1) := by decide +kernel
theorem dX11_night_0 : decode cX11_night 0 = .ok (.iload_n 1, 1) := by decide +kernel
theorem dX11_night_1 : decode cX11_night 1 = .ok (.iconst 1, 1) := by decide +kernel
theorem dX11_night_2 : decode cX11_night 2 = .ok (.bipush 60, 2) := by decide +kernel
theorem dX11_night_4 : decode cX11_night 4 = .ok (.invokestatic 87, 3) := by decide +kernel
theorem dX11_night_7 : decode cX11_night 7 = .ok (.ifCond .eq 33, 3) := by decide +kernel
theorem dX11_night_10 : decode cX11_night 10 = .ok (.aload_n 0, 1) := by decide +kernel
theorem dX11_night_11 : decode cX11_night 11 = .ok (.getfield 7, 3) := by decide +kernel
theorem dX11_night_14 : decode cX11_night 14 = .ok (.bipush 8, 2) := by decide +kernel
theorem dX11_night_16 : decode cX11_night 16 = .ok (.iaload, 1) := by decide +kernel
theorem dX11_night_17 : decode cX11_night 17 = .ok (.iload_n 1, 1) := by decide +kernel
theorem dX11_night_18 : decode cX11_night 18 = .ok (.iadd, 1) := by decide +kernel
theorem dX11_night_19 : decode cX11_night 19 = .ok (.sipush 9999, 3) := by decide +kernel
theorem dX11_night_22 : decode cX11_night 22 = .ok (.if_icmp .gt 18, 3) := by decide +kernel
theorem dX11_night_25 : decode cX11_night 25 = .ok (.aload_n 0, 1) := by decide +kernel
theorem dX11_night_26 : decode cX11_night 26 = .ok (.iload_n 1, 1) := by decide +kernel
theorem dX11_night_27 : decode cX11_night 27 = .ok (.invokevirtual 395, 3) := by decide +kernel
theorem dX11_night_30 : decode cX11_night 30 = .ok (.ifCond .eq 10, 3) := by decide +kernel
theorem dX11_night_33 : decode cX11_night 33 = .ok (.aload_n 0, 1) := by decide +kernel
theorem dX11_night_34 : decode cX11_night 34 = .ok (.getfield 362, 3) := by decide +kernel
theorem dX11_night_37 : decode cX11_night 37 = .ok (.goto 4, 3) := by decide +kernel
theorem dX11_night_40 : decode cX11_night 40 = .ok (.iconst (-1), 1) := by decide +kernel
theorem dX11_night_41 : decode cX11_night 41 = .ok (.ireturn, 1) := by decide +kernel
theorem dX11_isPlayed_0 : decode cX11_isPlayed 0 = .ok (.aload_n 0, 1) := by decide +kernel
theorem dX11_isPlayed_1 : decode cX11_isPlayed 1 = .ok (.getfield 16, 3) := by decide +kernel
theorem dX11_isPlayed_4 : decode cX11_isPlayed 4 = .ok (.iload_n 1, 1) := by decide +kernel
theorem dX11_isPlayed_5 : decode cX11_isPlayed 5 = .ok (.iconst 1, 1) := by decide +kernel
theorem dX11_isPlayed_6 : decode cX11_isPlayed 6 = .ok (.iadd, 1) := by decide +kernel
theorem dX11_isPlayed_7 : decode cX11_isPlayed 7 = .ok (.iaload, 1) := by decide +kernel
theorem dX11_isPlayed_8 : decode cX11_isPlayed 8 = .ok (.istore_n 2, 1) := by decide +kernel
theorem dX11_isPlayed_9 : decode cX11_isPlayed 9 = .ok (.aload_n 0, 1) := by decide +kernel
theorem dX11_isPlayed_10 : decode cX11_isPlayed 10 = .ok (.getfield 16, 3) := by decide +kernel
theorem dX11_isPlayed_13 : decode cX11_isPlayed 13 = .ok (.iload_n 1, 1) := by decide +kernel
theorem dX11_isPlayed_14 : decode cX11_isPlayed 14 = .ok (.iconst 2, 1) := by decide +kernel
theorem dX11_isPlayed_15 : decode cX11_isPlayed 15 = .ok (.iadd, 1) := by decide +kernel
theorem dX11_isPlayed_16 : decode cX11_isPlayed 16 = .ok (.iaload, 1) := by decide +kernel
theorem dX11_isPlayed_17 : decode cX11_isPlayed 17 = .ok (.istore_n 3, 1) := by decide +kernel
theorem dX11_isPlayed_18 : decode cX11_isPlayed 18 = .ok (.aload_n 0, 1) := by decide +kernel
theorem dX11_isPlayed_19 : decode cX11_isPlayed 19 = .ok (.getfield 16, 3) := by decide +kernel
theorem dX11_isPlayed_22 : decode cX11_isPlayed 22 = .ok (.iload_n 1, 1) := by decide +kernel
theorem dX11_isPlayed_23 : decode cX11_isPlayed 23 = .ok (.iaload, 1) := by decide +kernel
theorem dX11_isPlayed_24 : decode cX11_isPlayed 24 = .ok (.tableswitch 109 3 9 #[44, 59, 67, 75, 90, 97, 103], 44) := by decide +kernel
theorem dX11_isPlayed_68 : decode cX11_isPlayed 68 = .ok (.aload_n 0, 1) := by decide +kernel
theorem dX11_isPlayed_69 : decode cX11_isPlayed 69 = .ok (.iload_n 2, 1) := by decide +kernel
theorem dX11_isPlayed_70 : decode cX11_isPlayed 70 = .ok (.iload_n 3, 1) := by decide +kernel
theorem dX11_isPlayed_71 : decode cX11_isPlayed 71 = .ok (.invokevirtual 398, 3) := by decide +kernel
theorem dX11_isPlayed_74 : decode cX11_isPlayed 74 = .ok (.ifCond .lt 7, 3) := by decide +kernel
theorem dX11_isPlayed_77 : decode cX11_isPlayed 77 = .ok (.iconst 1, 1) := by decide +kernel
theorem dX11_isPlayed_78 : decode cX11_isPlayed 78 = .ok (.goto 4, 3) := by decide +kernel
theorem dX11_isPlayed_81 : decode cX11_isPlayed 81 = .ok (.iconst 0, 1) := by decide +kernel
theorem dX11_isPlayed_82 : decode cX11_isPlayed 82 = .ok (.ireturn, 1) := by decide +kernel
theorem dX11_isPlayed_83 : decode cX11_isPlayed 83 = .ok (.aload_n 0, 1) := by decide +kernel
theorem dX11_isPlayed_84 : decode cX11_isPlayed 84 = .ok (.iload_n 2, 1) := by decide +kernel
theorem dX11_isPlayed_85 : decode cX11_isPlayed 85 = .ok (.iconst 0, 1) := by decide +kernel
theorem dX11_isPlayed_86 : decode cX11_isPlayed 86 = .ok (.iload_n 3, 1) := by decide +kernel
theorem dX11_isPlayed_87 : decode cX11_isPlayed 87 = .ok (.invokevirtual 401, 3) := by decide +kernel
theorem dX11_isPlayed_90 : decode cX11_isPlayed 90 = .ok (.ireturn, 1) := by decide +kernel
theorem dX11_isPlayed_91 : decode cX11_isPlayed 91 = .ok (.aload_n 0, 1) := by decide +kernel
theorem dX11_isPlayed_92 : decode cX11_isPlayed 92 = .ok (.iload_n 2, 1) := by decide +kernel
theorem dX11_isPlayed_93 : decode cX11_isPlayed 93 = .ok (.iconst 1, 1) := by decide +kernel
theorem dX11_isPlayed_94 : decode cX11_isPlayed 94 = .ok (.iload_n 3, 1) := by decide +kernel
theorem dX11_isPlayed_95 : decode cX11_isPlayed 95 = .ok (.invokevirtual 401, 3) := by decide +kernel
theorem dX11_isPlayed_98 : decode cX11_isPlayed 98 = .ok (.ireturn, 1) := by decide +kernel
theorem dX11_isPlayed_99 : decode cX11_isPlayed 99 = .ok (.aload_n 0, 1) := by decide +kernel
theorem dX11_isPlayed_100 : decode cX11_isPlayed 100 = .ok (.iload_n 3, 1) := by decide +kernel
theorem dX11_isPlayed_101 : decode cX11_isPlayed 101 = .ok (.iload_n 2, 1) := by decide +kernel
theorem dX11_isPlayed_102 : decode cX11_isPlayed 102 = .ok (.invokevirtual 405, 3) := by decide +kernel
theorem dX11_isPlayed_105 : decode cX11_isPlayed 105 = .ok (.ifCond .lt 7, 3) := by decide +kernel
theorem dX11_isPlayed_108 : decode cX11_isPlayed 108 = .ok (.iconst 1, 1) := by decide +kernel
theorem dX11_isPlayed_109 : decode cX11_isPlayed 109 = .ok (.goto 4, 3) := by decide +kernel
theorem dX11_isPlayed_112 : decode cX11_isPlayed 112 = .ok (.iconst 0, 1) := by decide +kernel
theorem dX11_isPlayed_113 : decode cX11_isPlayed 113 = .ok (.ireturn, 1) := by decide +kernel
theorem dX11_isPlayed_114 : decode cX11_isPlayed 114 = .ok (.aload_n 0, 1) := by decide +kernel
theorem dX11_isPlayed_115 : decode cX11_isPlayed 115 = .ok (.iload_n 2, 1) := by decide +kernel
theorem dX11_isPlayed_116 : decode cX11_isPlayed 116 = .ok (.iload_n 3, 1) := by decide +kernel
theorem dX11_isPlayed_117 : decode cX11_isPlayed 117 = .ok (.invokevirtual 408, 3) := by decide +kernel
theorem dX11_isPlayed_120 : decode cX11_isPlayed 120 = .ok (.ireturn, 1) := by decide +kernel
theorem dX11_isPlayed_121 : decode cX11_isPlayed 121 = .ok (.aload_n 0, 1) := by decide +kernel
theorem dX11_isPlayed_122 : decode cX11_isPlayed 122 = .ok (.iload_n 2, 1) := by decide +kernel
theorem dX11_isPlayed_123 : decode cX11_isPlayed 123 = .ok (.invokevirtual 411, 3) := by decide +kernel
theorem dX11_isPlayed_126 : decode cX11_isPlayed 126 = .ok (.ireturn, 1) := by decide +kernel
theorem dX11_isPlayed_127 : decode cX11_isPlayed 127 = .ok (.aload_n 0, 1) := by decide +kernel
theorem dX11_isPlayed_128 : decode cX11_isPlayed 128 = .ok (.iload_n 2, 1) := by decide +kernel
theorem dX11_isPlayed_129 : decode cX11_isPlayed 129 = .ok (.invokevirtual 395, 3) := by decide +kernel
theorem dX11_isPlayed_132 : decode cX11_isPlayed 132 = .ok (.ireturn, 1) := by decide +kernel
theorem dX11_isPlayed_133 : decode cX11_isPlayed 133 = .ok (.iconst 1, 1) := by decide +kernel
theorem dX11_isPlayed_134 : decode cX11_isPlayed 134 = .ok (.ireturn, 1) := by decide +kernel
theorem dX11_played_0 : decode cX11_played 0 = .ok (.iload_n 1, 1) := by decide +kernel
theorem dX11_played_1 : decode cX11_played 1 = .ok (.iconst 0, 1) := by decide +kernel
theorem dX11_played_2 : decode cX11_played 2 = .ok (.aload_n 0, 1) := by decide +kernel
theorem dX11_played_3 : decode cX11_played 3 = .ok (.getfield 7, 3) := by decide +kernel
theorem dX11_played_6 : decode cX11_played 6 = .ok (.iconst 1, 1) := by decide +kernel
theorem dX11_played_7 : decode cX11_played 7 = .ok (.iaload, 1) := by decide +kernel
theorem dX11_played_8 : decode cX11_played 8 = .ok (.iconst 1, 1) := by decide +kernel
theorem dX11_played_9 : decode cX11_played 9 = .ok (.isub, 1) := by decide +kernel
theorem dX11_played_10 : decode cX11_played 10 = .ok (.invokestatic 87, 3) := by decide +kernel
theorem dX11_played_13 : decode cX11_played 13 = .ok (.ifCond .ne 6, 3) := by decide +kernel
theorem dX11_played_16 : decode cX11_played 16 = .ok (.bipush (-2), 2) := by decide +kernel
theorem dX11_played_18 : decode cX11_played 18 = .ok (.ireturn, 1) := by decide +kernel
theorem dX11_played_19 : decode cX11_played 19 = .ok (.iconst 0, 1) := by decide +kernel
theorem dX11_played_20 : decode cX11_played 20 = .ok (.istore_n 2, 1) := by decide +kernel
theorem dX11_played_21 : decode cX11_played 21 = .ok (.iload_n 2, 1) := by decide +kernel
theorem dX11_played_22 : decode cX11_played 22 = .ok (.aload_n 0, 1) := by decide +kernel
theorem dX11_played_23 : decode cX11_played 23 = .ok (.getfield 16, 3) := by decide +kernel
theorem dX11_played_26 : decode cX11_played 26 = .ok (.sipush 705, 3) := by decide +kernel
theorem dX11_played_29 : decode cX11_played 29 = .ok (.iload_n 1, 1) := by decide +kernel
theorem dX11_played_30 : decode cX11_played 30 = .ok (.imul, 1) := by decide +kernel
theorem dX11_played_31 : decode cX11_played 31 = .ok (.iaload, 1) := by decide +kernel
theorem dX11_played_32 : decode cX11_played 32 = .ok (.if_icmp .ge 29, 3) := by decide +kernel
theorem dX11_played_35 : decode cX11_played 35 = .ok (.aload_n 0, 1) := by decide +kernel
theorem dX11_played_36 : decode cX11_played 36 = .ok (.sipush 705, 3) := by decide +kernel
theorem dX11_played_39 : decode cX11_played 39 = .ok (.iload_n 1, 1) := by decide +kernel
theorem dX11_played_40 : decode cX11_played 40 = .ok (.imul, 1) := by decide +kernel
theorem dX11_played_41 : decode cX11_played 41 = .ok (.iconst 1, 1) := by decide +kernel
theorem dX11_played_42 : decode cX11_played 42 = .ok (.iadd, 1) := by decide +kernel
theorem dX11_played_43 : decode cX11_played 43 = .ok (.iconst 4, 1) := by decide +kernel
theorem dX11_played_44 : decode cX11_played 44 = .ok (.iload_n 2, 1) := by decide +kernel
theorem dX11_played_45 : decode cX11_played 45 = .ok (.imul, 1) := by decide +kernel
theorem dX11_played_46 : decode cX11_played 46 = .ok (.iadd, 1) := by decide +kernel
theorem dX11_played_47 : decode cX11_played 47 = .ok (.invokevirtual 414, 3) := by decide +kernel
theorem dX11_played_50 : decode cX11_played 50 = .ok (.ifCond .ne 5, 3) := by decide +kernel
theorem dX11_played_53 : decode cX11_played 53 = .ok (.iload_n 2, 1) := by decide +kernel
theorem dX11_played_54 : decode cX11_played 54 = .ok (.ireturn, 1) := by decide +kernel
theorem dX11_played_55 : decode cX11_played 55 = .ok (.iinc 2 1, 3) := by decide +kernel
theorem dX11_played_58 : decode cX11_played 58 = .ok (.goto (-37), 3) := by decide +kernel
theorem dX11_played_61 : decode cX11_played 61 = .ok (.iconst (-1), 1) := by decide +kernel
theorem dX11_played_62 : decode cX11_played 62 = .ok (.ireturn, 1) := by decide +kernel
theorem dX11_happens_0 : decode cX11_happens 0 = .ok (.iload_n 1, 1) := by decide +kernel
theorem dX11_happens_1 : decode cX11_happens 1 = .ok (.iconst 5, 1) := by decide +kernel
theorem dX11_happens_2 : decode cX11_happens 2 = .ok (.irem, 1) := by decide +kernel
theorem dX11_happens_3 : decode cX11_happens 3 = .ok (.iconst 4, 1) := by decide +kernel
theorem dX11_happens_4 : decode cX11_happens 4 = .ok (.if_icmp .ne 21, 3) := by decide +kernel
theorem dX11_happens_7 : decode cX11_happens 7 = .ok (.aload_n 0, 1) := by decide +kernel
theorem dX11_happens_8 : decode cX11_happens 8 = .ok (.getfield 7, 3) := by decide +kernel
theorem dX11_happens_11 : decode cX11_happens 11 = .ok (.bipush 8, 2) := by decide +kernel
theorem dX11_happens_13 : decode cX11_happens 13 = .ok (.iaload, 1) := by decide +kernel
theorem dX11_happens_14 : decode cX11_happens 14 = .ok (.sipush 9999, 3) := by decide +kernel
theorem dX11_happens_17 : decode cX11_happens 17 = .ok (.if_icmp .ge 7, 3) := by decide +kernel
theorem dX11_happens_20 : decode cX11_happens 20 = .ok (.aload_n 0, 1) := by decide +kernel
theorem dX11_happens_21 : decode cX11_happens 21 = .ok (.invokevirtual 392, 3) := by decide +kernel
theorem dX11_happens_24 : decode cX11_happens 24 = .ok (.return_, 1) := by decide +kernel
theorem dX11_happens_25 : decode cX11_happens 25 = .ok (.aload_n 0, 1) := by decide +kernel
theorem dX11_happens_26 : decode cX11_happens 26 = .ok (.getfield 7, 3) := by decide +kernel
theorem dX11_happens_29 : decode cX11_happens 29 = .ok (.iconst 0, 1) := by decide +kernel
theorem dX11_happens_30 : decode cX11_happens 30 = .ok (.iaload, 1) := by decide +kernel
theorem dX11_happens_31 : decode cX11_happens 31 = .ok (.ifCond .ne 4, 3) := by decide +kernel
theorem dX11_happens_34 : decode cX11_happens 34 = .ok (.return_, 1) := by decide +kernel
theorem dX11_happens_35 : decode cX11_happens 35 = .ok (.iload_n 1, 1) := by decide +kernel
theorem dX11_happens_36 : decode cX11_happens 36 = .ok (.aload_n 0, 1) := by decide +kernel
theorem dX11_happens_37 : decode cX11_happens 37 = .ok (.getfield 7, 3) := by decide +kernel
theorem dX11_happens_40 : decode cX11_happens 40 = .ok (.iconst 0, 1) := by decide +kernel
theorem dX11_happens_41 : decode cX11_happens 41 = .ok (.iaload, 1) := by decide +kernel
theorem dX11_happens_42 : decode cX11_happens 42 = .ok (.irem, 1) := by decide +kernel
theorem dX11_happens_43 : decode cX11_happens 43 = .ok (.istore_n 2, 1) := by decide +kernel
theorem dX11_happens_44 : decode cX11_happens 44 = .ok (.iload_n 1, 1) := by decide +kernel
theorem dX11_happens_45 : decode cX11_happens 45 = .ok (.iconst 5, 1) := by decide +kernel
theorem dX11_happens_46 : decode cX11_happens 46 = .ok (.irem, 1) := by decide +kernel
theorem dX11_happens_47 : decode cX11_happens 47 = .ok (.iconst 2, 1) := by decide +kernel
theorem dX11_happens_48 : decode cX11_happens 48 = .ok (.if_icmp .ne 16, 3) := by decide +kernel
theorem dX11_happens_51 : decode cX11_happens 51 = .ok (.aload_n 0, 1) := by decide +kernel
theorem dX11_happens_52 : decode cX11_happens 52 = .ok (.iload_n 2, 1) := by decide +kernel
theorem dX11_happens_53 : decode cX11_happens 53 = .ok (.iconst 1, 1) := by decide +kernel
theorem dX11_happens_54 : decode cX11_happens 54 = .ok (.iload_n 1, 1) := by decide +kernel
theorem dX11_happens_55 : decode cX11_happens 55 = .ok (.bipush 10, 2) := by decide +kernel
theorem dX11_happens_57 : decode cX11_happens 57 = .ok (.irem, 1) := by decide +kernel
theorem dX11_happens_58 : decode cX11_happens 58 = .ok (.invokevirtual 99, 3) := by decide +kernel
theorem dX11_happens_61 : decode cX11_happens 61 = .ok (.goto 36, 3) := by decide +kernel
theorem dX11_happens_64 : decode cX11_happens 64 = .ok (.iload_n 1, 1) := by decide +kernel
theorem dX11_happens_65 : decode cX11_happens 65 = .ok (.iconst 5, 1) := by decide +kernel
theorem dX11_happens_66 : decode cX11_happens 66 = .ok (.irem, 1) := by decide +kernel
theorem dX11_happens_67 : decode cX11_happens 67 = .ok (.iconst 3, 1) := by decide +kernel
theorem dX11_happens_68 : decode cX11_happens 68 = .ok (.if_icmp .ne 11, 3) := by decide +kernel
theorem dX11_happens_71 : decode cX11_happens 71 = .ok (.aload_n 0, 1) := by decide +kernel
theorem dX11_happens_72 : decode cX11_happens 72 = .ok (.iload_n 2, 1) := by decide +kernel
theorem dX11_happens_73 : decode cX11_happens 73 = .ok (.invokevirtual 341, 3) := by decide +kernel
theorem dX11_happens_76 : decode cX11_happens 76 = .ok (.goto 21, 3) := by decide +kernel
theorem dX11_happens_79 : decode cX11_happens 79 = .ok (.aload_n 0, 1) := by decide +kernel
theorem dX11_happens_80 : decode cX11_happens 80 = .ok (.iload_n 2, 1) := by decide +kernel
theorem dX11_happens_81 : decode cX11_happens 81 = .ok (.invokevirtual 377, 3) := by decide +kernel
theorem dX11_happens_84 : decode cX11_happens 84 = .ok (.ifCond .eq 13, 3) := by decide +kernel
theorem dX11_happens_87 : decode cX11_happens 87 = .ok (.aload_n 0, 1) := by decide +kernel
theorem dX11_happens_88 : decode cX11_happens 88 = .ok (.iload_n 2, 1) := by decide +kernel
theorem dX11_happens_89 : decode cX11_happens 89 = .ok (.iload_n 1, 1) := by decide +kernel
theorem dX11_happens_90 : decode cX11_happens 90 = .ok (.sipush 997, 3) := by decide +kernel
theorem dX11_happens_93 : decode cX11_happens 93 = .ok (.irem, 1) := by decide +kernel
theorem dX11_happens_94 : decode cX11_happens 94 = .ok (.invokevirtual 386, 3) := by decide +kernel
theorem dX11_happens_97 : decode cX11_happens 97 = .ok (.return_, 1) := by decide +kernel
theorem dX11_decades_0 : decode cX11_decades 0 = .ok (.iload_n 1, 1) := by decide +kernel
theorem dX11_decades_1 : decode cX11_decades 1 = .ok (.iconst 0, 1) := by decide +kernel
theorem dX11_decades_2 : decode cX11_decades 2 = .ok (.sipush 9999, 3) := by decide +kernel
theorem dX11_decades_5 : decode cX11_decades 5 = .ok (.invokestatic 87, 3) := by decide +kernel
theorem dX11_decades_8 : decode cX11_decades 8 = .ok (.ifCond .eq 13, 3) := by decide +kernel
theorem dX11_decades_11 : decode cX11_decades 11 = .ok (.iload_n 2, 1) := by decide +kernel
theorem dX11_decades_12 : decode cX11_decades 12 = .ok (.iconst 1, 1) := by decide +kernel
theorem dX11_decades_13 : decode cX11_decades 13 = .ok (.bipush 40, 2) := by decide +kernel
theorem dX11_decades_15 : decode cX11_decades 15 = .ok (.invokestatic 87, 3) := by decide +kernel
theorem dX11_decades_18 : decode cX11_decades 18 = .ok (.ifCond .ne 5, 3) := by decide +kernel
theorem dX11_decades_21 : decode cX11_decades 21 = .ok (.iconst (-1), 1) := by decide +kernel
theorem dX11_decades_22 : decode cX11_decades 22 = .ok (.ireturn, 1) := by decide +kernel
theorem dX11_decades_23 : decode cX11_decades 23 = .ok (.aload_n 0, 1) := by decide +kernel
theorem dX11_decades_24 : decode cX11_decades 24 = .ok (.invokevirtual 383, 3) := by decide +kernel
theorem dX11_decades_27 : decode cX11_decades 27 = .ok (.aload_n 0, 1) := by decide +kernel
theorem dX11_decades_28 : decode cX11_decades 28 = .ok (.getfield 7, 3) := by decide +kernel
theorem dX11_decades_31 : decode cX11_decades 31 = .ok (.bipush 9, 2) := by decide +kernel
theorem dX11_decades_33 : decode cX11_decades 33 = .ok (.iload_n 1, 1) := by decide +kernel
theorem dX11_decades_34 : decode cX11_decades 34 = .ok (.iconst 2, 1) := by decide +kernel
theorem dX11_decades_35 : decode cX11_decades 35 = .ok (.imul, 1) := by decide +kernel
theorem dX11_decades_36 : decode cX11_decades 36 = .ok (.sipush 193, 3) := by decide +kernel
theorem dX11_decades_39 : decode cX11_decades 39 = .ok (.iadd, 1) := by decide +kernel
theorem dX11_decades_40 : decode cX11_decades 40 = .ok (.iastore, 1) := by decide +kernel
theorem dX11_decades_41 : decode cX11_decades 41 = .ok (.iconst 0, 1) := by decide +kernel
theorem dX11_decades_42 : decode cX11_decades 42 = .ok (.istore_n 3, 1) := by decide +kernel
theorem dX11_decades_43 : decode cX11_decades 43 = .ok (.iload_n 3, 1) := by decide +kernel
theorem dX11_decades_44 : decode cX11_decades 44 = .ok (.iload_n 2, 1) := by decide +kernel
theorem dX11_decades_45 : decode cX11_decades 45 = .ok (.if_icmp .ge 28, 3) := by decide +kernel
theorem dX11_decades_48 : decode cX11_decades 48 = .ok (.aload_n 0, 1) := by decide +kernel
theorem dX11_decades_49 : decode cX11_decades 49 = .ok (.getfield 7, 3) := by decide +kernel
theorem dX11_decades_52 : decode cX11_decades 52 = .ok (.bipush 9, 2) := by decide +kernel
theorem dX11_decades_54 : decode cX11_decades 54 = .ok (.iaload, 1) := by decide +kernel
theorem dX11_decades_55 : decode cX11_decades 55 = .ok (.istore 4, 2) := by decide +kernel
theorem dX11_decades_57 : decode cX11_decades 57 = .ok (.aload_n 0, 1) := by decide +kernel
theorem dX11_decades_58 : decode cX11_decades 58 = .ok (.invokevirtual 323, 3) := by decide +kernel
theorem dX11_decades_61 : decode cX11_decades 61 = .ok (.aload_n 0, 1) := by decide +kernel
theorem dX11_decades_62 : decode cX11_decades 62 = .ok (.iload 4, 2) := by decide +kernel
theorem dX11_decades_64 : decode cX11_decades 64 = .ok (.invokevirtual 417, 3) := by decide +kernel
theorem dX11_decades_67 : decode cX11_decades 67 = .ok (.iinc 3 1, 3) := by decide +kernel
theorem dX11_decades_70 : decode cX11_decades 70 = .ok (.goto (-27), 3) := by decide +kernel
theorem dX11_decades_73 : decode cX11_decades 73 = .ok (.aload_n 0, 1) := by decide +kernel
theorem dX11_decades_74 : decode cX11_decades 74 = .ok (.getfield 7, 3) := by decide +kernel
theorem dX11_decades_77 : decode cX11_decades 77 = .ok (.bipush 8, 2) := by decide +kernel
theorem dX11_decades_79 : decode cX11_decades 79 = .ok (.iaload, 1) := by decide +kernel
theorem dX11_decades_80 : decode cX11_decades 80 = .ok (.ireturn, 1) := by decide +kernel
theorem dX11_of_0 : decode cX11_of 0 = .ok (.aload_n 0, 1) := by decide +kernel
theorem dX11_of_1 : decode cX11_of 1 = .ok (.iload_n 1, 1) := by decide +kernel
theorem dX11_of_2 : decode cX11_of 2 = .ok (.invokevirtual 374, 3) := by decide +kernel
theorem dX11_of_5 : decode cX11_of 5 = .ok (.ifCond .ne 5, 3) := by decide +kernel
theorem dX11_of_8 : decode cX11_of 8 = .ok (.iconst (-1), 1) := by decide +kernel
theorem dX11_of_9 : decode cX11_of 9 = .ok (.ireturn, 1) := by decide +kernel
theorem dX11_of_10 : decode cX11_of 10 = .ok (.iload_n 2, 1) := by decide +kernel
theorem dX11_of_11 : decode cX11_of 11 = .ok (.tableswitch 77 0 7 #[45, 77, 77, 77, 77, 53, 65, 71], 45) := by decide +kernel
theorem dX11_of_56 : decode cX11_of 56 = .ok (.aload_n 0, 1) := by decide +kernel
theorem dX11_of_57 : decode cX11_of 57 = .ok (.iload_n 1, 1) := by decide +kernel
theorem dX11_of_58 : decode cX11_of 58 = .ok (.bipush 16, 2) := by decide +kernel
theorem dX11_of_60 : decode cX11_of 60 = .ok (.invokevirtual 107, 3) := by decide +kernel
theorem dX11_of_63 : decode cX11_of 63 = .ok (.ireturn, 1) := by decide +kernel
theorem dX11_of_64 : decode cX11_of 64 = .ok (.aload_n 0, 1) := by decide +kernel
theorem dX11_of_65 : decode cX11_of 65 = .ok (.aload_n 0, 1) := by decide +kernel
theorem dX11_of_66 : decode cX11_of 66 = .ok (.getfield 7, 3) := by decide +kernel
theorem dX11_of_69 : decode cX11_of 69 = .ok (.iconst 2, 1) := by decide +kernel
theorem dX11_of_70 : decode cX11_of 70 = .ok (.iaload, 1) := by decide +kernel
theorem dX11_of_71 : decode cX11_of 71 = .ok (.iload_n 1, 1) := by decide +kernel
theorem dX11_of_72 : decode cX11_of 72 = .ok (.invokevirtual 338, 3) := by decide +kernel
theorem dX11_of_75 : decode cX11_of 75 = .ok (.ireturn, 1) := by decide +kernel
theorem dX11_of_76 : decode cX11_of 76 = .ok (.aload_n 0, 1) := by decide +kernel
theorem dX11_of_77 : decode cX11_of 77 = .ok (.iload_n 1, 1) := by decide +kernel
theorem dX11_of_78 : decode cX11_of 78 = .ok (.invokevirtual 356, 3) := by decide +kernel
theorem dX11_of_81 : decode cX11_of 81 = .ok (.ireturn, 1) := by decide +kernel
theorem dX11_of_82 : decode cX11_of 82 = .ok (.aload_n 0, 1) := by decide +kernel
theorem dX11_of_83 : decode cX11_of 83 = .ok (.iload_n 1, 1) := by decide +kernel
theorem dX11_of_84 : decode cX11_of 84 = .ok (.invokevirtual 368, 3) := by decide +kernel
theorem dX11_of_87 : decode cX11_of 87 = .ok (.ireturn, 1) := by decide +kernel
theorem dX11_of_88 : decode cX11_of 88 = .ok (.iload_n 2, 1) := by decide +kernel
theorem dX11_of_89 : decode cX11_of 89 = .ok (.iconst 1, 1) := by decide +kernel
theorem dX11_of_90 : decode cX11_of 90 = .ok (.iconst 4, 1) := by decide +kernel
theorem dX11_of_91 : decode cX11_of 91 = .ok (.invokestatic 87, 3) := by decide +kernel
theorem dX11_of_94 : decode cX11_of 94 = .ok (.ifCond .eq 14, 3) := by decide +kernel
theorem dX11_of_97 : decode cX11_of 97 = .ok (.aload_n 0, 1) := by decide +kernel
theorem dX11_of_98 : decode cX11_of 98 = .ok (.iload_n 1, 1) := by decide +kernel
theorem dX11_of_99 : decode cX11_of 99 = .ok (.iload_n 2, 1) := by decide +kernel
theorem dX11_of_100 : decode cX11_of 100 = .ok (.iconst 1, 1) := by decide +kernel
theorem dX11_of_101 : decode cX11_of 101 = .ok (.isub, 1) := by decide +kernel
theorem dX11_of_102 : decode cX11_of 102 = .ok (.invokevirtual 107, 3) := by decide +kernel
theorem dX11_of_105 : decode cX11_of 105 = .ok (.goto 36, 3) := by decide +kernel
theorem dX11_of_108 : decode cX11_of 108 = .ok (.iload_n 2, 1) := by decide +kernel
theorem dX11_of_109 : decode cX11_of 109 = .ok (.bipush 10, 2) := by decide +kernel
theorem dX11_of_111 : decode cX11_of 111 = .ok (.bipush 9, 2) := by decide +kernel
theorem dX11_of_113 : decode cX11_of 113 = .ok (.aload_n 0, 1) := by decide +kernel
theorem dX11_of_114 : decode cX11_of 114 = .ok (.iload_n 1, 1) := by decide +kernel
theorem dX11_of_115 : decode cX11_of 115 = .ok (.iconst 3, 1) := by decide +kernel
theorem dX11_of_116 : decode cX11_of 116 = .ok (.invokevirtual 107, 3) := by decide +kernel
theorem dX11_of_119 : decode cX11_of 119 = .ok (.iadd, 1) := by decide +kernel
theorem dX11_of_120 : decode cX11_of 120 = .ok (.invokestatic 87, 3) := by decide +kernel
theorem dX11_of_123 : decode cX11_of 123 = .ok (.ifCond .eq 17, 3) := by decide +kernel
theorem dX11_of_126 : decode cX11_of 126 = .ok (.aload_n 0, 1) := by decide +kernel
theorem dX11_of_127 : decode cX11_of 127 = .ok (.iload_n 1, 1) := by decide +kernel
theorem dX11_of_128 : decode cX11_of 128 = .ok (.iconst 4, 1) := by decide +kernel
theorem dX11_of_129 : decode cX11_of 129 = .ok (.iload_n 2, 1) := by decide +kernel
theorem dX11_of_130 : decode cX11_of 130 = .ok (.iadd, 1) := by decide +kernel
theorem dX11_of_131 : decode cX11_of 131 = .ok (.bipush 10, 2) := by decide +kernel
theorem dX11_of_133 : decode cX11_of 133 = .ok (.isub, 1) := by decide +kernel
theorem dX11_of_134 : decode cX11_of 134 = .ok (.invokevirtual 107, 3) := by decide +kernel
theorem dX11_of_137 : decode cX11_of 137 = .ok (.goto 4, 3) := by decide +kernel
theorem dX11_of_140 : decode cX11_of 140 = .ok (.iconst (-1), 1) := by decide +kernel
theorem dX11_of_141 : decode cX11_of 141 = .ok (.ireturn, 1) := by decide +kernel
theorem dX11_told_0 : decode cX11_told 0 = .ok (.iload_n 1, 1) := by decide +kernel
theorem dX11_told_1 : decode cX11_told 1 = .ok (.invokestatic 95, 3) := by decide +kernel
theorem dX11_told_4 : decode cX11_told 4 = .ok (.ifCond .eq 20, 3) := by decide +kernel
theorem dX11_told_7 : decode cX11_told 7 = .ok (.aload_n 0, 1) := by decide +kernel
theorem dX11_told_8 : decode cX11_told 8 = .ok (.iload_n 1, 1) := by decide +kernel
theorem dX11_told_9 : decode cX11_told 9 = .ok (.iload_n 2, 1) := by decide +kernel
theorem dX11_told_10 : decode cX11_told 10 = .ok (.ifCond .eq 7, 3) := by decide +kernel
theorem dX11_told_13 : decode cX11_told 13 = .ok (.iconst 1, 1) := by decide +kernel
theorem dX11_told_14 : decode cX11_told 14 = .ok (.goto 4, 3) := by decide +kernel
theorem dX11_told_17 : decode cX11_told 17 = .ok (.iconst 0, 1) := by decide +kernel
theorem dX11_told_18 : decode cX11_told 18 = .ok (.invokevirtual 350, 3) := by decide +kernel
theorem dX11_told_21 : decode cX11_told 21 = .ok (.goto 4, 3) := by decide +kernel
theorem dX11_told_24 : decode cX11_told 24 = .ok (.iconst (-1), 1) := by decide +kernel
theorem dX11_told_25 : decode cX11_told 25 = .ok (.ireturn, 1) := by decide +kernel
theorem dX11_is_0 : decode cX11_is 0 = .ok (.iload_n 1, 1) := by decide +kernel
theorem dX11_is_1 : decode cX11_is 1 = .ok (.iconst 0, 1) := by decide +kernel
theorem dX11_is_2 : decode cX11_is 2 = .ok (.iconst 1, 1) := by decide +kernel
theorem dX11_is_3 : decode cX11_is 3 = .ok (.invokestatic 87, 3) := by decide +kernel
theorem dX11_is_6 : decode cX11_is 6 = .ok (.ifCond .eq 15, 3) := by decide +kernel
theorem dX11_is_9 : decode cX11_is 9 = .ok (.aload_n 0, 1) := by decide +kernel
theorem dX11_is_10 : decode cX11_is 10 = .ok (.getfield 7, 3) := by decide +kernel
theorem dX11_is_13 : decode cX11_is 13 = .ok (.bipush 8, 2) := by decide +kernel
theorem dX11_is_15 : decode cX11_is 15 = .ok (.iload_n 1, 1) := by decide +kernel
theorem dX11_is_16 : decode cX11_is 16 = .ok (.iadd, 1) := by decide +kernel
theorem dX11_is_17 : decode cX11_is 17 = .ok (.iaload, 1) := by decide +kernel
theorem dX11_is_18 : decode cX11_is 18 = .ok (.goto 5, 3) := by decide +kernel
theorem dX11_is_21 : decode cX11_is 21 = .ok (.bipush (-2), 2) := by decide +kernel
theorem dX11_is_23 : decode cX11_is 23 = .ok (.ireturn, 1) := by decide +kernel
theorem dX11_book_0 : decode cX11_book 0 = .ok (.iload_n 1, 1) := by decide +kernel
theorem dX11_book_1 : decode cX11_book 1 = .ok (.iconst (-1), 1) := by decide +kernel
theorem dX11_book_2 : decode cX11_book 2 = .ok (.if_icmp .ne 11, 3) := by decide +kernel
theorem dX11_book_5 : decode cX11_book 5 = .ok (.aload_n 0, 1) := by decide +kernel
theorem dX11_book_6 : decode cX11_book 6 = .ok (.getfield 7, 3) := by decide +kernel
theorem dX11_book_9 : decode cX11_book 9 = .ok (.bipush 10, 2) := by decide +kernel
theorem dX11_book_11 : decode cX11_book 11 = .ok (.iaload, 1) := by decide +kernel
theorem dX11_book_12 : decode cX11_book 12 = .ok (.ireturn, 1) := by decide +kernel
theorem dX11_book_13 : decode cX11_book 13 = .ok (.iload_n 1, 1) := by decide +kernel
theorem dX11_book_14 : decode cX11_book 14 = .ok (.iconst 0, 1) := by decide +kernel
theorem dX11_book_15 : decode cX11_book 15 = .ok (.aload_n 0, 1) := by decide +kernel
theorem dX11_book_16 : decode cX11_book 16 = .ok (.getfield 7, 3) := by decide +kernel
theorem dX11_book_19 : decode cX11_book 19 = .ok (.bipush 10, 2) := by decide +kernel
theorem dX11_book_21 : decode cX11_book 21 = .ok (.iaload, 1) := by decide +kernel
theorem dX11_book_22 : decode cX11_book 22 = .ok (.iconst 1, 1) := by decide +kernel
theorem dX11_book_23 : decode cX11_book 23 = .ok (.isub, 1) := by decide +kernel
theorem dX11_book_24 : decode cX11_book 24 = .ok (.invokestatic 87, 3) := by decide +kernel
theorem dX11_book_27 : decode cX11_book 27 = .ok (.ifCond .ne 6, 3) := by decide +kernel
theorem dX11_book_30 : decode cX11_book 30 = .ok (.bipush (-2), 2) := by decide +kernel
theorem dX11_book_32 : decode cX11_book 32 = .ok (.ireturn, 1) := by decide +kernel
theorem dX11_book_33 : decode cX11_book 33 = .ok (.aload_n 0, 1) := by decide +kernel
theorem dX11_book_34 : decode cX11_book 34 = .ok (.getfield 7, 3) := by decide +kernel
theorem dX11_book_37 : decode cX11_book 37 = .ok (.sipush 4547, 3) := by decide +kernel
theorem dX11_book_40 : decode cX11_book 40 = .ok (.iconst 2, 1) := by decide +kernel
theorem dX11_book_41 : decode cX11_book 41 = .ok (.iload_n 1, 1) := by decide +kernel
theorem dX11_book_42 : decode cX11_book 42 = .ok (.imul, 1) := by decide +kernel
theorem dX11_book_43 : decode cX11_book 43 = .ok (.iadd, 1) := by decide +kernel
theorem dX11_book_44 : decode cX11_book 44 = .ok (.iload_n 2, 1) := by decide +kernel
theorem dX11_book_45 : decode cX11_book 45 = .ok (.iconst 1, 1) := by decide +kernel
theorem dX11_book_46 : decode cX11_book 46 = .ok (.if_icmp .le 7, 3) := by decide +kernel
theorem dX11_book_49 : decode cX11_book 49 = .ok (.iconst 1, 1) := by decide +kernel
theorem dX11_book_50 : decode cX11_book 50 = .ok (.goto 4, 3) := by decide +kernel
theorem dX11_book_53 : decode cX11_book 53 = .ok (.iconst 0, 1) := by decide +kernel
theorem dX11_book_54 : decode cX11_book 54 = .ok (.iadd, 1) := by decide +kernel
theorem dX11_book_55 : decode cX11_book 55 = .ok (.iaload, 1) := by decide +kernel
theorem dX11_book_56 : decode cX11_book 56 = .ok (.istore_n 3, 1) := by decide +kernel
theorem dX11_book_57 : decode cX11_book 57 = .ok (.iload_n 2, 1) := by decide +kernel
theorem dX11_book_58 : decode cX11_book 58 = .ok (.ifCond .ne 10, 3) := by decide +kernel
theorem dX11_book_61 : decode cX11_book 61 = .ok (.iload_n 3, 1) := by decide +kernel
theorem dX11_book_62 : decode cX11_book 62 = .ok (.bipush 8, 2) := by decide +kernel
theorem dX11_book_64 : decode cX11_book 64 = .ok (.idiv, 1) := by decide +kernel
theorem dX11_book_65 : decode cX11_book 65 = .ok (.goto 43, 3) := by decide +kernel
theorem dX11_book_68 : decode cX11_book 68 = .ok (.iload_n 2, 1) := by decide +kernel
theorem dX11_book_69 : decode cX11_book 69 = .ok (.iconst 1, 1) := by decide +kernel
theorem dX11_book_70 : decode cX11_book 70 = .ok (.if_icmp .ne 10, 3) := by decide +kernel
theorem dX11_book_73 : decode cX11_book 73 = .ok (.iload_n 3, 1) := by decide +kernel
theorem dX11_book_74 : decode cX11_book 74 = .ok (.bipush 8, 2) := by decide +kernel
theorem dX11_book_76 : decode cX11_book 76 = .ok (.irem, 1) := by decide +kernel
theorem dX11_book_77 : decode cX11_book 77 = .ok (.goto 31, 3) := by decide +kernel
theorem dX11_book_80 : decode cX11_book 80 = .ok (.iload_n 2, 1) := by decide +kernel
theorem dX11_book_81 : decode cX11_book 81 = .ok (.iconst 2, 1) := by decide +kernel
theorem dX11_book_82 : decode cX11_book 82 = .ok (.if_icmp .ne 11, 3) := by decide +kernel
theorem dX11_book_85 : decode cX11_book 85 = .ok (.iload_n 3, 1) := by decide +kernel
theorem dX11_book_86 : decode cX11_book 86 = .ok (.sipush 10000, 3) := by decide +kernel
theorem dX11_book_89 : decode cX11_book 89 = .ok (.idiv, 1) := by decide +kernel
theorem dX11_book_90 : decode cX11_book 90 = .ok (.goto 18, 3) := by decide +kernel
theorem dX11_book_93 : decode cX11_book 93 = .ok (.iload_n 2, 1) := by decide +kernel
theorem dX11_book_94 : decode cX11_book 94 = .ok (.iconst 3, 1) := by decide +kernel
theorem dX11_book_95 : decode cX11_book 95 = .ok (.if_icmp .ne 11, 3) := by decide +kernel
theorem dX11_book_98 : decode cX11_book 98 = .ok (.iload_n 3, 1) := by decide +kernel
theorem dX11_book_99 : decode cX11_book 99 = .ok (.sipush 10000, 3) := by decide +kernel
theorem dX11_book_102 : decode cX11_book 102 = .ok (.irem, 1) := by decide +kernel
theorem dX11_book_103 : decode cX11_book 103 = .ok (.goto 5, 3) := by decide +kernel
theorem dX11_book_106 : decode cX11_book 106 = .ok (.bipush (-2), 2) := by decide +kernel
theorem dX11_book_108 : decode cX11_book 108 = .ok (.ireturn, 1) := by decide +kernel
theorem dX11_ledger_0 : decode cX11_ledger 0 = .ok (.iload_n 1, 1) := by decide +kernel
theorem dX11_ledger_1 : decode cX11_ledger 1 = .ok (.iconst (-1), 1) := by decide +kernel
theorem dX11_ledger_2 : decode cX11_ledger 2 = .ok (.if_icmp .eq 14, 3) := by decide +kernel
theorem dX11_ledger_5 : decode cX11_ledger 5 = .ok (.aload_n 0, 1) := by decide +kernel
theorem dX11_ledger_6 : decode cX11_ledger 6 = .ok (.iload_n 1, 1) := by decide +kernel
theorem dX11_ledger_7 : decode cX11_ledger 7 = .ok (.invokevirtual 374, 3) := by decide +kernel
theorem dX11_ledger_10 : decode cX11_ledger 10 = .ok (.ifCond .ne 6, 3) := by decide +kernel
theorem dX11_ledger_13 : decode cX11_ledger 13 = .ok (.bipush (-2), 2) := by decide +kernel
theorem dX11_ledger_15 : decode cX11_ledger 15 = .ok (.ireturn, 1) := by decide +kernel
theorem dX11_ledger_16 : decode cX11_ledger 16 = .ok (.iconst 0, 1) := by decide +kernel
theorem dX11_ledger_17 : decode cX11_ledger 17 = .ok (.istore_n 2, 1) := by decide +kernel
theorem dX11_ledger_18 : decode cX11_ledger 18 = .ok (.iconst 0, 1) := by decide +kernel
theorem dX11_ledger_19 : decode cX11_ledger 19 = .ok (.istore_n 3, 1) := by decide +kernel
theorem dX11_ledger_20 : decode cX11_ledger 20 = .ok (.iload_n 3, 1) := by decide +kernel
theorem dX11_ledger_21 : decode cX11_ledger 21 = .ok (.aload_n 0, 1) := by decide +kernel
theorem dX11_ledger_22 : decode cX11_ledger 22 = .ok (.getfield 7, 3) := by decide +kernel
theorem dX11_ledger_25 : decode cX11_ledger 25 = .ok (.bipush 10, 2) := by decide +kernel
theorem dX11_ledger_27 : decode cX11_ledger 27 = .ok (.iaload, 1) := by decide +kernel
theorem dX11_ledger_28 : decode cX11_ledger 28 = .ok (.if_icmp .ge 32, 3) := by decide +kernel
theorem dX11_ledger_31 : decode cX11_ledger 31 = .ok (.iload_n 2, 1) := by decide +kernel
theorem dX11_ledger_32 : decode cX11_ledger 32 = .ok (.iload_n 1, 1) := by decide +kernel
theorem dX11_ledger_33 : decode cX11_ledger 33 = .ok (.iconst (-1), 1) := by decide +kernel
theorem dX11_ledger_34 : decode cX11_ledger 34 = .ok (.if_icmp .eq 13, 3) := by decide +kernel
theorem dX11_ledger_37 : decode cX11_ledger 37 = .ok (.aload_n 0, 1) := by decide +kernel
theorem dX11_ledger_38 : decode cX11_ledger 38 = .ok (.iload_n 3, 1) := by decide +kernel
theorem dX11_ledger_39 : decode cX11_ledger 39 = .ok (.iconst 1, 1) := by decide +kernel
theorem dX11_ledger_40 : decode cX11_ledger 40 = .ok (.invokevirtual 420, 3) := by decide +kernel
theorem dX11_ledger_43 : decode cX11_ledger 43 = .ok (.iload_n 1, 1) := by decide +kernel
theorem dX11_ledger_44 : decode cX11_ledger 44 = .ok (.if_icmp .ne 7, 3) := by decide +kernel
theorem dX11_ledger_47 : decode cX11_ledger 47 = .ok (.iconst 1, 1) := by decide +kernel
theorem dX11_ledger_48 : decode cX11_ledger 48 = .ok (.goto 4, 3) := by decide +kernel
theorem dX11_ledger_51 : decode cX11_ledger 51 = .ok (.iconst 0, 1) := by decide +kernel
theorem dX11_ledger_52 : decode cX11_ledger 52 = .ok (.iadd, 1) := by decide +kernel
theorem dX11_ledger_53 : decode cX11_ledger 53 = .ok (.istore_n 2, 1) := by decide +kernel
theorem dX11_ledger_54 : decode cX11_ledger 54 = .ok (.iinc 3 1, 3) := by decide +kernel
theorem dX11_ledger_57 : decode cX11_ledger 57 = .ok (.goto (-37), 3) := by decide +kernel
theorem dX11_ledger_60 : decode cX11_ledger 60 = .ok (.iload_n 2, 1) := by decide +kernel
theorem dX11_ledger_61 : decode cX11_ledger 61 = .ok (.ireturn, 1) := by decide +kernel
theorem dX11_snow_0 : decode cX11_snow 0 = .ok (.iconst 0, 1) := by decide +kernel
theorem dX11_snow_1 : decode cX11_snow 1 = .ok (.istore_n 1, 1) := by decide +kernel
theorem dX11_snow_2 : decode cX11_snow 2 = .ok (.iconst 0, 1) := by decide +kernel
theorem dX11_snow_3 : decode cX11_snow 3 = .ok (.istore_n 2, 1) := by decide +kernel
theorem dX11_snow_4 : decode cX11_snow 4 = .ok (.iload_n 2, 1) := by decide +kernel
theorem dX11_snow_5 : decode cX11_snow 5 = .ok (.aload_n 0, 1) := by decide +kernel
theorem dX11_snow_6 : decode cX11_snow 6 = .ok (.getfield 7, 3) := by decide +kernel
theorem dX11_snow_9 : decode cX11_snow 9 = .ok (.iconst 0, 1) := by decide +kernel
theorem dX11_snow_10 : decode cX11_snow 10 = .ok (.iaload, 1) := by decide +kernel
theorem dX11_snow_11 : decode cX11_snow 11 = .ok (.if_icmp .ge 51, 3) := by decide +kernel
theorem dX11_snow_14 : decode cX11_snow 14 = .ok (.iconst 0, 1) := by decide +kernel
theorem dX11_snow_15 : decode cX11_snow 15 = .ok (.istore_n 3, 1) := by decide +kernel
theorem dX11_snow_16 : decode cX11_snow 16 = .ok (.iload_n 3, 1) := by decide +kernel
theorem dX11_snow_17 : decode cX11_snow 17 = .ok (.aload_n 0, 1) := by decide +kernel
theorem dX11_snow_18 : decode cX11_snow 18 = .ok (.iload_n 2, 1) := by decide +kernel
theorem dX11_snow_19 : decode cX11_snow 19 = .ok (.iconst 2, 1) := by decide +kernel
theorem dX11_snow_20 : decode cX11_snow 20 = .ok (.invokevirtual 107, 3) := by decide +kernel
theorem dX11_snow_23 : decode cX11_snow 23 = .ok (.invokestatic 91, 3) := by decide +kernel
theorem dX11_snow_26 : decode cX11_snow 26 = .ok (.if_icmp .ge 30, 3) := by decide +kernel
theorem dX11_snow_29 : decode cX11_snow 29 = .ok (.iload_n 1, 1) := by decide +kernel
theorem dX11_snow_30 : decode cX11_snow 30 = .ok (.aload_n 0, 1) := by decide +kernel
theorem dX11_snow_31 : decode cX11_snow 31 = .ok (.iload_n 2, 1) := by decide +kernel
theorem dX11_snow_32 : decode cX11_snow 32 = .ok (.iconst 2, 1) := by decide +kernel
theorem dX11_snow_33 : decode cX11_snow 33 = .ok (.invokevirtual 107, 3) := by decide +kernel
theorem dX11_snow_36 : decode cX11_snow 36 = .ok (.iload_n 3, 1) := by decide +kernel
theorem dX11_snow_37 : decode cX11_snow 37 = .ok (.invokestatic 344, 3) := by decide +kernel
theorem dX11_snow_40 : decode cX11_snow 40 = .ok (.ifCond .ne 7, 3) := by decide +kernel
theorem dX11_snow_43 : decode cX11_snow 43 = .ok (.iconst 1, 1) := by decide +kernel
theorem dX11_snow_44 : decode cX11_snow 44 = .ok (.goto 4, 3) := by decide +kernel
theorem dX11_snow_47 : decode cX11_snow 47 = .ok (.iconst 0, 1) := by decide +kernel
theorem dX11_snow_48 : decode cX11_snow 48 = .ok (.iadd, 1) := by decide +kernel
theorem dX11_snow_49 : decode cX11_snow 49 = .ok (.istore_n 1, 1) := by decide +kernel
theorem dX11_snow_50 : decode cX11_snow 50 = .ok (.iinc 3 1, 3) := by decide +kernel
theorem dX11_snow_53 : decode cX11_snow 53 = .ok (.goto (-37), 3) := by decide +kernel
theorem dX11_snow_56 : decode cX11_snow 56 = .ok (.iinc 2 1, 3) := by decide +kernel
theorem dX11_snow_59 : decode cX11_snow 59 = .ok (.goto (-55), 3) := by decide +kernel
theorem dX11_snow_62 : decode cX11_snow 62 = .ok (.iload_n 1, 1) := by decide +kernel
theorem dX11_snow_63 : decode cX11_snow 63 = .ok (.ireturn, 1) := by decide +kernel
theorem dX11_worn_0 : decode cX11_worn 0 = .ok (.iconst (-1), 1) := by decide +kernel
theorem dX11_worn_1 : decode cX11_worn 1 = .ok (.istore_n 1, 1) := by decide +kernel
theorem dX11_worn_2 : decode cX11_worn 2 = .ok (.iconst 0, 1) := by decide +kernel
theorem dX11_worn_3 : decode cX11_worn 3 = .ok (.istore_n 2, 1) := by decide +kernel
theorem dX11_worn_4 : decode cX11_worn 4 = .ok (.iload_n 2, 1) := by decide +kernel
theorem dX11_worn_5 : decode cX11_worn 5 = .ok (.aload_n 0, 1) := by decide +kernel
theorem dX11_worn_6 : decode cX11_worn 6 = .ok (.getfield 7, 3) := by decide +kernel
theorem dX11_worn_9 : decode cX11_worn 9 = .ok (.iconst 0, 1) := by decide +kernel
theorem dX11_worn_10 : decode cX11_worn 10 = .ok (.iaload, 1) := by decide +kernel
theorem dX11_worn_11 : decode cX11_worn 11 = .ok (.if_icmp .ge 31, 3) := by decide +kernel
theorem dX11_worn_14 : decode cX11_worn 14 = .ok (.iload_n 1, 1) := by decide +kernel
theorem dX11_worn_15 : decode cX11_worn 15 = .ok (.iconst (-1), 1) := by decide +kernel
theorem dX11_worn_16 : decode cX11_worn 16 = .ok (.if_icmp .eq 18, 3) := by decide +kernel
theorem dX11_worn_19 : decode cX11_worn 19 = .ok (.aload_n 0, 1) := by decide +kernel
theorem dX11_worn_20 : decode cX11_worn 20 = .ok (.iload_n 2, 1) := by decide +kernel
theorem dX11_worn_21 : decode cX11_worn 21 = .ok (.iconst 0, 1) := by decide +kernel
theorem dX11_worn_22 : decode cX11_worn 22 = .ok (.invokevirtual 107, 3) := by decide +kernel
theorem dX11_worn_25 : decode cX11_worn 25 = .ok (.aload_n 0, 1) := by decide +kernel
theorem dX11_worn_26 : decode cX11_worn 26 = .ok (.iload_n 1, 1) := by decide +kernel
theorem dX11_worn_27 : decode cX11_worn 27 = .ok (.iconst 0, 1) := by decide +kernel
theorem dX11_worn_28 : decode cX11_worn 28 = .ok (.invokevirtual 107, 3) := by decide +kernel
theorem dX11_worn_31 : decode cX11_worn 31 = .ok (.if_icmp .le 5, 3) := by decide +kernel
theorem dX11_worn_34 : decode cX11_worn 34 = .ok (.iload_n 2, 1) := by decide +kernel
theorem dX11_worn_35 : decode cX11_worn 35 = .ok (.istore_n 1, 1) := by decide +kernel
theorem dX11_worn_36 : decode cX11_worn 36 = .ok (.iinc 2 1, 3) := by decide +kernel
theorem dX11_worn_39 : decode cX11_worn 39 = .ok (.goto (-35), 3) := by decide +kernel
theorem dX11_worn_42 : decode cX11_worn 42 = .ok (.iload_n 1, 1) := by decide +kernel
theorem dX11_worn_43 : decode cX11_worn 43 = .ok (.ireturn, 1) := by decide +kernel
theorem dX11_blank_0 : decode cX11_blank 0 = .ok (.iconst 0, 1) := by decide +kernel
theorem dX11_blank_1 : decode cX11_blank 1 = .ok (.istore_n 1, 1) := by decide +kernel
theorem dX11_blank_2 : decode cX11_blank 2 = .ok (.iconst 0, 1) := by decide +kernel
theorem dX11_blank_3 : decode cX11_blank 3 = .ok (.istore_n 2, 1) := by decide +kernel
theorem dX11_blank_4 : decode cX11_blank 4 = .ok (.iload_n 2, 1) := by decide +kernel
theorem dX11_blank_5 : decode cX11_blank 5 = .ok (.aload_n 0, 1) := by decide +kernel
theorem dX11_blank_6 : decode cX11_blank 6 = .ok (.getfield 7, 3) := by decide +kernel
theorem dX11_blank_9 : decode cX11_blank 9 = .ok (.iconst 0, 1) := by decide +kernel
theorem dX11_blank_10 : decode cX11_blank 10 = .ok (.iaload, 1) := by decide +kernel
theorem dX11_blank_11 : decode cX11_blank 11 = .ok (.if_icmp .ge 28, 3) := by decide +kernel
theorem dX11_blank_14 : decode cX11_blank 14 = .ok (.iload_n 1, 1) := by decide +kernel
theorem dX11_blank_15 : decode cX11_blank 15 = .ok (.aload_n 0, 1) := by decide +kernel
theorem dX11_blank_16 : decode cX11_blank 16 = .ok (.iload_n 2, 1) := by decide +kernel
theorem dX11_blank_17 : decode cX11_blank 17 = .ok (.iconst 3, 1) := by decide +kernel
theorem dX11_blank_18 : decode cX11_blank 18 = .ok (.invokevirtual 107, 3) := by decide +kernel
theorem dX11_blank_21 : decode cX11_blank 21 = .ok (.ifCond .ne 9, 3) := by decide +kernel
theorem dX11_blank_24 : decode cX11_blank 24 = .ok (.iconst 1, 1) := by decide +kernel
theorem dX11_blank_25 : decode cX11_blank 25 = .ok (.iload_n 2, 1) := by decide +kernel
theorem dX11_blank_26 : decode cX11_blank 26 = .ok (.ishl, 1) := by decide +kernel
theorem dX11_blank_27 : decode cX11_blank 27 = .ok (.goto 4, 3) := by decide +kernel
theorem dX11_blank_30 : decode cX11_blank 30 = .ok (.iconst 0, 1) := by decide +kernel
theorem dX11_blank_31 : decode cX11_blank 31 = .ok (.ior, 1) := by decide +kernel
theorem dX11_blank_32 : decode cX11_blank 32 = .ok (.istore_n 1, 1) := by decide +kernel
theorem dX11_blank_33 : decode cX11_blank 33 = .ok (.iinc 2 1, 3) := by decide +kernel
theorem dX11_blank_36 : decode cX11_blank 36 = .ok (.goto (-32), 3) := by decide +kernel
theorem dX11_blank_39 : decode cX11_blank 39 = .ok (.iload_n 1, 1) := by decide +kernel
theorem dX11_blank_40 : decode cX11_blank 40 = .ok (.ireturn, 1) := by decide +kernel
theorem dX11_sumOf_0 : decode cX11_sumOf 0 = .ok (.iconst 0, 1) := by decide +kernel
theorem dX11_sumOf_1 : decode cX11_sumOf 1 = .ok (.istore_n 2, 1) := by decide +kernel
theorem dX11_sumOf_2 : decode cX11_sumOf 2 = .ok (.iconst 0, 1) := by decide +kernel
theorem dX11_sumOf_3 : decode cX11_sumOf 3 = .ok (.istore_n 3, 1) := by decide +kernel
theorem dX11_sumOf_4 : decode cX11_sumOf 4 = .ok (.iload_n 3, 1) := by decide +kernel
theorem dX11_sumOf_5 : decode cX11_sumOf 5 = .ok (.aload_n 0, 1) := by decide +kernel
theorem dX11_sumOf_6 : decode cX11_sumOf 6 = .ok (.getfield 7, 3) := by decide +kernel
theorem dX11_sumOf_9 : decode cX11_sumOf 9 = .ok (.iconst 0, 1) := by decide +kernel
theorem dX11_sumOf_10 : decode cX11_sumOf 10 = .ok (.iaload, 1) := by decide +kernel
theorem dX11_sumOf_11 : decode cX11_sumOf 11 = .ok (.if_icmp .ge 30, 3) := by decide +kernel
theorem dX11_sumOf_14 : decode cX11_sumOf 14 = .ok (.iload_n 2, 1) := by decide +kernel
theorem dX11_sumOf_15 : decode cX11_sumOf 15 = .ok (.iload_n 1, 1) := by decide +kernel
theorem dX11_sumOf_16 : decode cX11_sumOf 16 = .ok (.iload_n 3, 1) := by decide +kernel
theorem dX11_sumOf_17 : decode cX11_sumOf 17 = .ok (.invokestatic 269, 3) := by decide +kernel
theorem dX11_sumOf_20 : decode cX11_sumOf 20 = .ok (.ifCond .eq 12, 3) := by decide +kernel
theorem dX11_sumOf_23 : decode cX11_sumOf 23 = .ok (.aload_n 0, 1) := by decide +kernel
theorem dX11_sumOf_24 : decode cX11_sumOf 24 = .ok (.iload_n 3, 1) := by decide +kernel
theorem dX11_sumOf_25 : decode cX11_sumOf 25 = .ok (.iconst 2, 1) := by decide +kernel
theorem dX11_sumOf_26 : decode cX11_sumOf 26 = .ok (.invokevirtual 107, 3) := by decide +kernel
theorem dX11_sumOf_29 : decode cX11_sumOf 29 = .ok (.goto 4, 3) := by decide +kernel
theorem dX11_sumOf_32 : decode cX11_sumOf 32 = .ok (.iconst 0, 1) := by decide +kernel
theorem dX11_sumOf_33 : decode cX11_sumOf 33 = .ok (.iadd, 1) := by decide +kernel
theorem dX11_sumOf_34 : decode cX11_sumOf 34 = .ok (.istore_n 2, 1) := by decide +kernel
theorem dX11_sumOf_35 : decode cX11_sumOf 35 = .ok (.iinc 3 1, 3) := by decide +kernel
theorem dX11_sumOf_38 : decode cX11_sumOf 38 = .ok (.goto (-34), 3) := by decide +kernel
theorem dX11_sumOf_41 : decode cX11_sumOf 41 = .ok (.iload_n 2, 1) := by decide +kernel
theorem dX11_sumOf_42 : decode cX11_sumOf 42 = .ok (.ireturn, 1) := by decide +kernel
theorem dX11_forgiven_0 : decode cX11_forgiven 0 = .ok (.iload_n 1, 1) := by decide +kernel
theorem dX11_forgiven_1 : decode cX11_forgiven 1 = .ok (.invokestatic 380, 3) := by decide +kernel
theorem dX11_forgiven_4 : decode cX11_forgiven 4 = .ok (.ifCond .ne 5, 3) := by decide +kernel
theorem dX11_forgiven_7 : decode cX11_forgiven 7 = .ok (.iconst (-1), 1) := by decide +kernel
theorem dX11_forgiven_8 : decode cX11_forgiven 8 = .ok (.ireturn, 1) := by decide +kernel
theorem dX11_forgiven_9 : decode cX11_forgiven 9 = .ok (.iconst 0, 1) := by decide +kernel
theorem dX11_forgiven_10 : decode cX11_forgiven 10 = .ok (.istore_n 2, 1) := by decide +kernel
theorem dX11_forgiven_11 : decode cX11_forgiven 11 = .ok (.iconst 1, 1) := by decide +kernel
theorem dX11_forgiven_12 : decode cX11_forgiven 12 = .ok (.istore_n 3, 1) := by decide +kernel
theorem dX11_forgiven_13 : decode cX11_forgiven 13 = .ok (.iload_n 3, 1) := by decide +kernel
theorem dX11_forgiven_14 : decode cX11_forgiven 14 = .ok (.iconst 1, 1) := by decide +kernel
theorem dX11_forgiven_15 : decode cX11_forgiven 15 = .ok (.aload_n 0, 1) := by decide +kernel
theorem dX11_forgiven_16 : decode cX11_forgiven 16 = .ok (.getfield 7, 3) := by decide +kernel
theorem dX11_forgiven_19 : decode cX11_forgiven 19 = .ok (.iconst 0, 1) := by decide +kernel
theorem dX11_forgiven_20 : decode cX11_forgiven 20 = .ok (.iaload, 1) := by decide +kernel
theorem dX11_forgiven_21 : decode cX11_forgiven 21 = .ok (.ishl, 1) := by decide +kernel
theorem dX11_forgiven_22 : decode cX11_forgiven 22 = .ok (.if_icmp .ge 55, 3) := by decide +kernel
theorem dX11_forgiven_25 : decode cX11_forgiven 25 = .ok (.aload_n 0, 1) := by decide +kernel
theorem dX11_forgiven_26 : decode cX11_forgiven 26 = .ok (.iload_n 3, 1) := by decide +kernel
theorem dX11_forgiven_27 : decode cX11_forgiven 27 = .ok (.invokevirtual 423, 3) := by decide +kernel
theorem dX11_forgiven_30 : decode cX11_forgiven 30 = .ok (.iload_n 1, 1) := by decide +kernel
theorem dX11_forgiven_31 : decode cX11_forgiven 31 = .ok (.if_icmp .gt 40, 3) := by decide +kernel
theorem dX11_forgiven_34 : decode cX11_forgiven 34 = .ok (.iload_n 3, 1) := by decide +kernel
theorem dX11_forgiven_35 : decode cX11_forgiven 35 = .ok (.invokestatic 426, 3) := by decide +kernel
theorem dX11_forgiven_38 : decode cX11_forgiven 38 = .ok (.iload_n 2, 1) := by decide +kernel
theorem dX11_forgiven_39 : decode cX11_forgiven 39 = .ok (.invokestatic 426, 3) := by decide +kernel
theorem dX11_forgiven_42 : decode cX11_forgiven 42 = .ok (.if_icmp .gt 27, 3) := by decide +kernel
theorem dX11_forgiven_45 : decode cX11_forgiven 45 = .ok (.iload_n 3, 1) := by decide +kernel
theorem dX11_forgiven_46 : decode cX11_forgiven 46 = .ok (.invokestatic 426, 3) := by decide +kernel
theorem dX11_forgiven_49 : decode cX11_forgiven 49 = .ok (.iload_n 2, 1) := by decide +kernel
theorem dX11_forgiven_50 : decode cX11_forgiven 50 = .ok (.invokestatic 426, 3) := by decide +kernel
theorem dX11_forgiven_53 : decode cX11_forgiven 53 = .ok (.if_icmp .ne 18, 3) := by decide +kernel
theorem dX11_forgiven_56 : decode cX11_forgiven 56 = .ok (.aload_n 0, 1) := by decide +kernel
theorem dX11_forgiven_57 : decode cX11_forgiven 57 = .ok (.iload_n 3, 1) := by decide +kernel
theorem dX11_forgiven_58 : decode cX11_forgiven 58 = .ok (.invokevirtual 423, 3) := by decide +kernel
theorem dX11_forgiven_61 : decode cX11_forgiven 61 = .ok (.aload_n 0, 1) := by decide +kernel
theorem dX11_forgiven_62 : decode cX11_forgiven 62 = .ok (.iload_n 2, 1) := by decide +kernel
theorem dX11_forgiven_63 : decode cX11_forgiven 63 = .ok (.invokevirtual 423, 3) := by decide +kernel
theorem dX11_forgiven_66 : decode cX11_forgiven 66 = .ok (.if_icmp .ge 5, 3) := by decide +kernel
theorem dX11_forgiven_69 : decode cX11_forgiven 69 = .ok (.iload_n 3, 1) := by decide +kernel
theorem dX11_forgiven_70 : decode cX11_forgiven 70 = .ok (.istore_n 2, 1) := by decide +kernel
theorem dX11_forgiven_71 : decode cX11_forgiven 71 = .ok (.iinc 3 1, 3) := by decide +kernel
theorem dX11_forgiven_74 : decode cX11_forgiven 74 = .ok (.goto (-61), 3) := by decide +kernel
theorem dX11_forgiven_77 : decode cX11_forgiven 77 = .ok (.iload_n 2, 1) := by decide +kernel
theorem dX11_forgiven_78 : decode cX11_forgiven 78 = .ok (.ireturn, 1) := by decide +kernel
theorem dX11_setAside_0 : decode cX11_setAside 0 = .ok (.bipush 8, 2) := by decide +kernel
theorem dX11_setAside_2 : decode cX11_setAside 2 = .ok (.istore_n 1, 1) := by decide +kernel
theorem dX11_setAside_3 : decode cX11_setAside 3 = .ok (.iload_n 1, 1) := by decide +kernel
theorem dX11_setAside_4 : decode cX11_setAside 4 = .ok (.bipush 101, 2) := by decide +kernel
theorem dX11_setAside_6 : decode cX11_setAside 6 = .ok (.if_icmp .ge 21, 3) := by decide +kernel
theorem dX11_setAside_9 : decode cX11_setAside 9 = .ok (.aload_n 0, 1) := by decide +kernel
theorem dX11_setAside_10 : decode cX11_setAside 10 = .ok (.getfield 47, 3) := by decide +kernel
theorem dX11_setAside_13 : decode cX11_setAside 13 = .ok (.iload_n 1, 1) := by decide +kernel
theorem dX11_setAside_14 : decode cX11_setAside 14 = .ok (.aload_n 0, 1) := by decide +kernel
theorem dX11_setAside_15 : decode cX11_setAside 15 = .ok (.getfield 7, 3) := by decide +kernel
theorem dX11_setAside_18 : decode cX11_setAside 18 = .ok (.iload_n 1, 1) := by decide +kernel
theorem dX11_setAside_19 : decode cX11_setAside 19 = .ok (.iaload, 1) := by decide +kernel
theorem dX11_setAside_20 : decode cX11_setAside 20 = .ok (.iastore, 1) := by decide +kernel
theorem dX11_setAside_21 : decode cX11_setAside 21 = .ok (.iinc 1 1, 3) := by decide +kernel
theorem dX11_setAside_24 : decode cX11_setAside 24 = .ok (.goto (-21), 3) := by decide +kernel
theorem dX11_setAside_27 : decode cX11_setAside 27 = .ok (.aload_n 0, 1) := by decide +kernel
theorem dX11_setAside_28 : decode cX11_setAside 28 = .ok (.iconst 0, 1) := by decide +kernel
theorem dX11_setAside_29 : decode cX11_setAside 29 = .ok (.putfield 43, 3) := by decide +kernel
theorem dX11_setAside_32 : decode cX11_setAside 32 = .ok (.return_, 1) := by decide +kernel
theorem dX11_putBack_0 : decode cX11_putBack 0 = .ok (.bipush 8, 2) := by decide +kernel
theorem dX11_putBack_2 : decode cX11_putBack 2 = .ok (.istore_n 1, 1) := by decide +kernel
theorem dX11_putBack_3 : decode cX11_putBack 3 = .ok (.iload_n 1, 1) := by decide +kernel
theorem dX11_putBack_4 : decode cX11_putBack 4 = .ok (.bipush 101, 2) := by decide +kernel
theorem dX11_putBack_6 : decode cX11_putBack 6 = .ok (.if_icmp .ge 21, 3) := by decide +kernel
theorem dX11_putBack_9 : decode cX11_putBack 9 = .ok (.aload_n 0, 1) := by decide +kernel
theorem dX11_putBack_10 : decode cX11_putBack 10 = .ok (.getfield 7, 3) := by decide +kernel
theorem dX11_putBack_13 : decode cX11_putBack 13 = .ok (.iload_n 1, 1) := by decide +kernel
theorem dX11_putBack_14 : decode cX11_putBack 14 = .ok (.aload_n 0, 1) := by decide +kernel
theorem dX11_putBack_15 : decode cX11_putBack 15 = .ok (.getfield 47, 3) := by decide +kernel
theorem dX11_putBack_18 : decode cX11_putBack 18 = .ok (.iload_n 1, 1) := by decide +kernel
theorem dX11_putBack_19 : decode cX11_putBack 19 = .ok (.iaload, 1) := by decide +kernel
theorem dX11_putBack_20 : decode cX11_putBack 20 = .ok (.iastore, 1) := by decide +kernel
theorem dX11_putBack_21 : decode cX11_putBack 21 = .ok (.iinc 1 1, 3) := by decide +kernel
theorem dX11_putBack_24 : decode cX11_putBack 24 = .ok (.goto (-21), 3) := by decide +kernel
theorem dX11_putBack_27 : decode cX11_putBack 27 = .ok (.aload_n 0, 1) := by decide +kernel
theorem dX11_putBack_28 : decode cX11_putBack 28 = .ok (.iconst 1, 1) := by decide +kernel
theorem dX11_putBack_29 : decode cX11_putBack 29 = .ok (.putfield 43, 3) := by decide +kernel
theorem dX11_putBack_32 : decode cX11_putBack 32 = .ok (.return_, 1) := by decide +kernel
theorem dX11_foretold_0 : decode cX11_foretold 0 = .ok (.iload_n 1, 1) := by decide +kernel
theorem dX11_foretold_1 : decode cX11_foretold 1 = .ok (.iconst 1, 1) := by decide +kernel
theorem dX11_foretold_2 : decode cX11_foretold 2 = .ok (.bipush 60, 2) := by decide +kernel
theorem dX11_foretold_4 : decode cX11_foretold 4 = .ok (.invokestatic 87, 3) := by decide +kernel
theorem dX11_foretold_7 : decode cX11_foretold 7 = .ok (.ifCond .eq 20, 3) := by decide +kernel
theorem dX11_foretold_10 : decode cX11_foretold 10 = .ok (.aload_n 0, 1) := by decide +kernel
theorem dX11_foretold_11 : decode cX11_foretold 11 = .ok (.iload_n 2, 1) := by decide +kernel
theorem dX11_foretold_12 : decode cX11_foretold 12 = .ok (.invokevirtual 374, 3) := by decide +kernel
theorem dX11_foretold_15 : decode cX11_foretold 15 = .ok (.ifCond .eq 12, 3) := by decide +kernel
theorem dX11_foretold_18 : decode cX11_foretold 18 = .ok (.iload_n 3, 1) := by decide +kernel
theorem dX11_foretold_19 : decode cX11_foretold 19 = .ok (.iconst 0, 1) := by decide +kernel
theorem dX11_foretold_20 : decode cX11_foretold 20 = .ok (.iconst 2, 1) := by decide +kernel
theorem dX11_foretold_21 : decode cX11_foretold 21 = .ok (.invokestatic 87, 3) := by decide +kernel
theorem dX11_foretold_24 : decode cX11_foretold 24 = .ok (.ifCond .ne 5, 3) := by decide +kernel
theorem dX11_foretold_27 : decode cX11_foretold 27 = .ok (.iconst (-1), 1) := by decide +kernel
theorem dX11_foretold_28 : decode cX11_foretold 28 = .ok (.ireturn, 1) := by decide +kernel
theorem dX11_foretold_29 : decode cX11_foretold 29 = .ok (.aload_n 0, 1) := by decide +kernel
theorem dX11_foretold_30 : decode cX11_foretold 30 = .ok (.invokevirtual 429, 3) := by decide +kernel
theorem dX11_foretold_33 : decode cX11_foretold 33 = .ok (.iconst 0, 1) := by decide +kernel
theorem dX11_foretold_34 : decode cX11_foretold 34 = .ok (.istore 4, 2) := by decide +kernel
theorem dX11_foretold_36 : decode cX11_foretold 36 = .ok (.iload 4, 2) := by decide +kernel
theorem dX11_foretold_38 : decode cX11_foretold 38 = .ok (.iload_n 1, 1) := by decide +kernel
theorem dX11_foretold_39 : decode cX11_foretold 39 = .ok (.if_icmp .ge 26, 3) := by decide +kernel
theorem dX11_foretold_42 : decode cX11_foretold 42 = .ok (.aload_n 0, 1) := by decide +kernel
theorem dX11_foretold_43 : decode cX11_foretold 43 = .ok (.getfield 7, 3) := by decide +kernel
theorem dX11_foretold_46 : decode cX11_foretold 46 = .ok (.bipush 8, 2) := by decide +kernel
theorem dX11_foretold_48 : decode cX11_foretold 48 = .ok (.iaload, 1) := by decide +kernel
theorem dX11_foretold_49 : decode cX11_foretold 49 = .ok (.sipush 9999, 3) := by decide +kernel
theorem dX11_foretold_52 : decode cX11_foretold 52 = .ok (.if_icmp .ge 7, 3) := by decide +kernel
theorem dX11_foretold_55 : decode cX11_foretold 55 = .ok (.aload_n 0, 1) := by decide +kernel
theorem dX11_foretold_56 : decode cX11_foretold 56 = .ok (.invokevirtual 392, 3) := by decide +kernel
theorem dX11_foretold_59 : decode cX11_foretold 59 = .ok (.iinc 4 1, 3) := by decide +kernel
theorem dX11_foretold_62 : decode cX11_foretold 62 = .ok (.goto (-26), 3) := by decide +kernel
theorem dX11_foretold_65 : decode cX11_foretold 65 = .ok (.aload_n 0, 1) := by decide +kernel
theorem dX11_foretold_66 : decode cX11_foretold 66 = .ok (.iload_n 2, 1) := by decide +kernel
theorem dX11_foretold_67 : decode cX11_foretold 67 = .ok (.iload_n 3, 1) := by decide +kernel
theorem dX11_foretold_68 : decode cX11_foretold 68 = .ok (.ifCond .ne 7, 3) := by decide +kernel
theorem dX11_foretold_71 : decode cX11_foretold 71 = .ok (.iconst 2, 1) := by decide +kernel
theorem dX11_foretold_72 : decode cX11_foretold 72 = .ok (.goto 13, 3) := by decide +kernel
theorem dX11_foretold_75 : decode cX11_foretold 75 = .ok (.iload_n 3, 1) := by decide +kernel
theorem dX11_foretold_76 : decode cX11_foretold 76 = .ok (.iconst 1, 1) := by decide +kernel
theorem dX11_foretold_77 : decode cX11_foretold 77 = .ok (.if_icmp .ne 7, 3) := by decide +kernel
theorem dX11_foretold_80 : decode cX11_foretold 80 = .ok (.iconst 0, 1) := by decide +kernel
theorem dX11_foretold_81 : decode cX11_foretold 81 = .ok (.goto 4, 3) := by decide +kernel
theorem dX11_foretold_84 : decode cX11_foretold 84 = .ok (.iconst 3, 1) := by decide +kernel
theorem dX11_foretold_85 : decode cX11_foretold 85 = .ok (.invokevirtual 107, 3) := by decide +kernel
theorem dX11_foretold_88 : decode cX11_foretold 88 = .ok (.istore 4, 2) := by decide +kernel
theorem dX11_foretold_90 : decode cX11_foretold 90 = .ok (.aload_n 0, 1) := by decide +kernel
theorem dX11_foretold_91 : decode cX11_foretold 91 = .ok (.invokevirtual 432, 3) := by decide +kernel
theorem dX11_foretold_94 : decode cX11_foretold 94 = .ok (.iload 4, 2) := by decide +kernel
theorem dX11_foretold_96 : decode cX11_foretold 96 = .ok (.ireturn, 1) := by decide +kernel
theorem dX11_behind_0 : decode cX11_behind 0 = .ok (.iload_n 3, 1) := by decide +kernel
theorem dX11_behind_1 : decode cX11_behind 1 = .ok (.iconst (-1), 1) := by decide +kernel
theorem dX11_behind_2 : decode cX11_behind 2 = .ok (.if_icmp .ne 12, 3) := by decide +kernel
theorem dX11_behind_5 : decode cX11_behind 5 = .ok (.aload_n 0, 1) := by decide +kernel
