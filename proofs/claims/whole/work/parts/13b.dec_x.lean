theorem dX10_init_0 : decode cX10_init 0 = .ok (.aload_n 0, 1) := by decide +kernel
theorem dX10_init_1 : decode cX10_init 1 = .ok (.invokespecial 1, 3) := by decide +kernel
theorem dX10_init_4 : decode cX10_init 4 = .ok (.aload_n 0, 1) := by decide +kernel
theorem dX10_init_5 : decode cX10_init 5 = .ok (.new 7, 3) := by decide +kernel
theorem dX10_init_8 : decode cX10_init 8 = .ok (.dup, 1) := by decide +kernel
theorem dX10_init_9 : decode cX10_init 9 = .ok (.invokespecial 9, 3) := by decide +kernel
theorem dX10_init_12 : decode cX10_init 12 = .ok (.putfield 10, 3) := by decide +kernel
theorem dX10_init_15 : decode cX10_init 15 = .ok (.aload_n 0, 1) := by decide +kernel
theorem dX10_init_16 : decode cX10_init 16 = .ok (.new 7, 3) := by decide +kernel
theorem dX10_init_19 : decode cX10_init 19 = .ok (.dup, 1) := by decide +kernel
theorem dX10_init_20 : decode cX10_init 20 = .ok (.invokespecial 9, 3) := by decide +kernel
theorem dX10_init_23 : decode cX10_init 23 = .ok (.putfield 16, 3) := by decide +kernel
theorem dX10_init_26 : decode cX10_init 26 = .ok (.aload_n 0, 1) := by decide +kernel
theorem dX10_init_27 : decode cX10_init 27 = .ok (.new 19, 3) := by decide +kernel
theorem dX10_init_30 : decode cX10_init 30 = .ok (.dup, 1) := by decide +kernel
theorem dX10_init_31 : decode cX10_init 31 = .ok (.invokespecial 21, 3) := by decide +kernel
theorem dX10_init_34 : decode cX10_init 34 = .ok (.putfield 22, 3) := by decide +kernel
theorem dX10_init_37 : decode cX10_init 37 = .ok (.aload_n 0, 1) := by decide +kernel
theorem dX10_init_38 : decode cX10_init 38 = .ok (.new 26, 3) := by decide +kernel
theorem dX10_init_41 : decode cX10_init 41 = .ok (.dup, 1) := by decide +kernel
theorem dX10_init_42 : decode cX10_init 42 = .ok (.aload_n 0, 1) := by decide +kernel
theorem dX10_init_43 : decode cX10_init 43 = .ok (.getfield 22, 3) := by decide +kernel
theorem dX10_init_46 : decode cX10_init 46 = .ok (.invokespecial 28, 3) := by decide +kernel
theorem dX10_init_49 : decode cX10_init 49 = .ok (.putfield 31, 3) := by decide +kernel
theorem dX10_init_52 : decode cX10_init 52 = .ok (.aload_n 0, 1) := by decide +kernel
theorem dX10_init_53 : decode cX10_init 53 = .ok (.new 35, 3) := by decide +kernel
theorem dX10_init_56 : decode cX10_init 56 = .ok (.dup, 1) := by decide +kernel
theorem dX10_init_57 : decode cX10_init 57 = .ok (.invokespecial 37, 3) := by decide +kernel
theorem dX10_init_60 : decode cX10_init 60 = .ok (.putfield 38, 3) := by decide +kernel
theorem dX10_init_63 : decode cX10_init 63 = .ok (.aload_n 0, 1) := by decide +kernel
theorem dX10_init_64 : decode cX10_init 64 = .ok (.new 42, 3) := by decide +kernel
theorem dX10_init_67 : decode cX10_init 67 = .ok (.dup, 1) := by decide +kernel
theorem dX10_init_68 : decode cX10_init 68 = .ok (.invokespecial 44, 3) := by decide +kernel
theorem dX10_init_71 : decode cX10_init 71 = .ok (.putfield 45, 3) := by decide +kernel
theorem dX10_init_74 : decode cX10_init 74 = .ok (.aload_n 0, 1) := by decide +kernel
theorem dX10_init_75 : decode cX10_init 75 = .ok (.new 49, 3) := by decide +kernel
theorem dX10_init_78 : decode cX10_init 78 = .ok (.dup, 1) := by decide +kernel
theorem dX10_init_79 : decode cX10_init 79 = .ok (.invokespecial 51, 3) := by decide +kernel
theorem dX10_init_82 : decode cX10_init 82 = .ok (.putfield 52, 3) := by decide +kernel
theorem dX10_init_85 : decode cX10_init 85 = .ok (.aload_n 0, 1) := by decide +kernel
theorem dX10_init_86 : decode cX10_init 86 = .ok (.new 56, 3) := by decide +kernel
theorem dX10_init_89 : decode cX10_init 89 = .ok (.dup, 1) := by decide +kernel
theorem dX10_init_90 : decode cX10_init 90 = .ok (.invokespecial 58, 3) := by decide +kernel
theorem dX10_init_93 : decode cX10_init 93 = .ok (.putfield 59, 3) := by decide +kernel
theorem dX10_init_96 : decode cX10_init 96 = .ok (.aload_n 0, 1) := by decide +kernel
theorem dX10_init_97 : decode cX10_init 97 = .ok (.new 63, 3) := by decide +kernel
theorem dX10_init_100 : decode cX10_init 100 = .ok (.dup, 1) := by decide +kernel
theorem dX10_init_101 : decode cX10_init 101 = .ok (.invokespecial 65, 3) := by decide +kernel
theorem dX10_init_104 : decode cX10_init 104 = .ok (.putfield 66, 3) := by decide +kernel
theorem dX10_init_107 : decode cX10_init 107 = .ok (.return_, 1) := by decide +kernel
theorem dX10_machine_0 : decode cX10_machine 0 = .ok (.iload_n 1, 1) := by decide +kernel
theorem dX10_machine_1 : decode cX10_machine 1 = .ok (.iconst 0, 1) := by decide +kernel
theorem dX10_machine_2 : decode cX10_machine 2 = .ok (.bipush 9, 2) := by decide +kernel
theorem dX10_machine_4 : decode cX10_machine 4 = .ok (.invokestatic 70, 3) := by decide +kernel
theorem dX10_machine_7 : decode cX10_machine 7 = .ok (.ifCond .eq 13, 3) := by decide +kernel
theorem dX10_machine_10 : decode cX10_machine 10 = .ok (.iload_n 2, 1) := by decide +kernel
theorem dX10_machine_11 : decode cX10_machine 11 = .ok (.iconst 0, 1) := by decide +kernel
theorem dX10_machine_12 : decode cX10_machine 12 = .ok (.bipush 99, 2) := by decide +kernel
theorem dX10_machine_14 : decode cX10_machine 14 = .ok (.invokestatic 70, 3) := by decide +kernel
theorem dX10_machine_17 : decode cX10_machine 17 = .ok (.ifCond .ne 5, 3) := by decide +kernel
theorem dX10_machine_20 : decode cX10_machine 20 = .ok (.iconst (-1), 1) := by decide +kernel
theorem dX10_machine_21 : decode cX10_machine 21 = .ok (.ireturn, 1) := by decide +kernel
theorem dX10_machine_22 : decode cX10_machine 22 = .ok (.aload_n 0, 1) := by decide +kernel
theorem dX10_machine_23 : decode cX10_machine 23 = .ok (.getfield 10, 3) := by decide +kernel
theorem dX10_machine_26 : decode cX10_machine 26 = .ok (.getfield 74, 3) := by decide +kernel
theorem dX10_machine_29 : decode cX10_machine 29 = .ok (.iload_n 1, 1) := by decide +kernel
theorem dX10_machine_30 : decode cX10_machine 30 = .ok (.iload_n 2, 1) := by decide +kernel
theorem dX10_machine_31 : decode cX10_machine 31 = .ok (.invokevirtual 77, 3) := by decide +kernel
theorem dX10_machine_34 : decode cX10_machine 34 = .ok (.ireturn, 1) := by decide +kernel
theorem dX10_rule_0 : decode cX10_rule 0 = .ok (.iload_n 1, 1) := by decide +kernel
theorem dX10_rule_1 : decode cX10_rule 1 = .ok (.iconst 0, 1) := by decide +kernel
theorem dX10_rule_2 : decode cX10_rule 2 = .ok (.bipush 9, 2) := by decide +kernel
theorem dX10_rule_4 : decode cX10_rule 4 = .ok (.invokestatic 70, 3) := by decide +kernel
theorem dX10_rule_7 : decode cX10_rule 7 = .ok (.ifCond .eq 13, 3) := by decide +kernel
theorem dX10_rule_10 : decode cX10_rule 10 = .ok (.iload_n 3, 1) := by decide +kernel
theorem dX10_rule_11 : decode cX10_rule 11 = .ok (.iconst 0, 1) := by decide +kernel
theorem dX10_rule_12 : decode cX10_rule 12 = .ok (.bipush 110, 2) := by decide +kernel
theorem dX10_rule_14 : decode cX10_rule 14 = .ok (.invokestatic 70, 3) := by decide +kernel
theorem dX10_rule_17 : decode cX10_rule 17 = .ok (.ifCond .ne 5, 3) := by decide +kernel
theorem dX10_rule_20 : decode cX10_rule 20 = .ok (.iconst 0, 1) := by decide +kernel
theorem dX10_rule_21 : decode cX10_rule 21 = .ok (.ireturn, 1) := by decide +kernel
theorem dX10_rule_22 : decode cX10_rule 22 = .ok (.aload_n 0, 1) := by decide +kernel
theorem dX10_rule_23 : decode cX10_rule 23 = .ok (.getfield 10, 3) := by decide +kernel
theorem dX10_rule_26 : decode cX10_rule 26 = .ok (.getfield 81, 3) := by decide +kernel
theorem dX10_rule_29 : decode cX10_rule 29 = .ok (.iload_n 1, 1) := by decide +kernel
theorem dX10_rule_30 : decode cX10_rule 30 = .ok (.iload_n 2, 1) := by decide +kernel
theorem dX10_rule_31 : decode cX10_rule 31 = .ok (.invokestatic 85, 3) := by decide +kernel
theorem dX10_rule_34 : decode cX10_rule 34 = .ok (.iload_n 3, 1) := by decide +kernel
theorem dX10_rule_35 : decode cX10_rule 35 = .ok (.iastore, 1) := by decide +kernel
theorem dX10_rule_36 : decode cX10_rule 36 = .ok (.iconst 1, 1) := by decide +kernel
theorem dX10_rule_37 : decode cX10_rule 37 = .ok (.ireturn, 1) := by decide +kernel
theorem dX10_feed_0 : decode cX10_feed 0 = .ok (.aload_n 0, 1) := by decide +kernel
theorem dX10_feed_1 : decode cX10_feed 1 = .ok (.getfield 22, 3) := by decide +kernel
theorem dX10_feed_4 : decode cX10_feed 4 = .ok (.getfield 89, 3) := by decide +kernel
theorem dX10_feed_7 : decode cX10_feed 7 = .ok (.sipush 280, 3) := by decide +kernel
theorem dX10_feed_10 : decode cX10_feed 10 = .ok (.if_icmp .le 5, 3) := by decide +kernel
theorem dX10_feed_13 : decode cX10_feed 13 = .ok (.iconst (-1), 1) := by decide +kernel
theorem dX10_feed_14 : decode cX10_feed 14 = .ok (.ireturn, 1) := by decide +kernel
theorem dX10_feed_15 : decode cX10_feed 15 = .ok (.aload_n 0, 1) := by decide +kernel
theorem dX10_feed_16 : decode cX10_feed 16 = .ok (.getfield 22, 3) := by decide +kernel
theorem dX10_feed_19 : decode cX10_feed 19 = .ok (.iload_n 1, 1) := by decide +kernel
theorem dX10_feed_20 : decode cX10_feed 20 = .ok (.invokevirtual 93, 3) := by decide +kernel
theorem dX10_feed_23 : decode cX10_feed 23 = .ok (.aload_n 0, 1) := by decide +kernel
theorem dX10_feed_24 : decode cX10_feed 24 = .ok (.getfield 22, 3) := by decide +kernel
theorem dX10_feed_27 : decode cX10_feed 27 = .ok (.iload_n 2, 1) := by decide +kernel
theorem dX10_feed_28 : decode cX10_feed 28 = .ok (.invokevirtual 93, 3) := by decide +kernel
theorem dX10_feed_31 : decode cX10_feed 31 = .ok (.aload_n 0, 1) := by decide +kernel
theorem dX10_feed_32 : decode cX10_feed 32 = .ok (.getfield 22, 3) := by decide +kernel
theorem dX10_feed_35 : decode cX10_feed 35 = .ok (.iload_n 3, 1) := by decide +kernel
theorem dX10_feed_36 : decode cX10_feed 36 = .ok (.invokevirtual 93, 3) := by decide +kernel
theorem dX10_feed_39 : decode cX10_feed 39 = .ok (.aload_n 0, 1) := by decide +kernel
theorem dX10_feed_40 : decode cX10_feed 40 = .ok (.getfield 22, 3) := by decide +kernel
theorem dX10_feed_43 : decode cX10_feed 43 = .ok (.iload 4, 2) := by decide +kernel
theorem dX10_feed_45 : decode cX10_feed 45 = .ok (.invokevirtual 93, 3) := by decide +kernel
theorem dX10_feed_48 : decode cX10_feed 48 = .ok (.aload_n 0, 1) := by decide +kernel
theorem dX10_feed_49 : decode cX10_feed 49 = .ok (.getfield 22, 3) := by decide +kernel
theorem dX10_feed_52 : decode cX10_feed 52 = .ok (.iload 5, 2) := by decide +kernel
theorem dX10_feed_54 : decode cX10_feed 54 = .ok (.invokevirtual 93, 3) := by decide +kernel
theorem dX10_feed_57 : decode cX10_feed 57 = .ok (.aload_n 0, 1) := by decide +kernel
theorem dX10_feed_58 : decode cX10_feed 58 = .ok (.getfield 22, 3) := by decide +kernel
theorem dX10_feed_61 : decode cX10_feed 61 = .ok (.getfield 89, 3) := by decide +kernel
theorem dX10_feed_64 : decode cX10_feed 64 = .ok (.ireturn, 1) := by decide +kernel
theorem dX10_end_0 : decode cX10_end 0 = .ok (.iload_n 1, 1) := by decide +kernel
theorem dX10_end_1 : decode cX10_end 1 = .ok (.iconst 0, 1) := by decide +kernel
theorem dX10_end_2 : decode cX10_end 2 = .ok (.aload_n 0, 1) := by decide +kernel
theorem dX10_end_3 : decode cX10_end 3 = .ok (.getfield 22, 3) := by decide +kernel
theorem dX10_end_6 : decode cX10_end 6 = .ok (.getfield 89, 3) := by decide +kernel
theorem dX10_end_9 : decode cX10_end 9 = .ok (.invokestatic 70, 3) := by decide +kernel
theorem dX10_end_12 : decode cX10_end 12 = .ok (.ifCond .ne 5, 3) := by decide +kernel
theorem dX10_end_15 : decode cX10_end 15 = .ok (.iconst (-1), 1) := by decide +kernel
theorem dX10_end_16 : decode cX10_end 16 = .ok (.ireturn, 1) := by decide +kernel
theorem dX10_end_17 : decode cX10_end 17 = .ok (.aload_n 0, 1) := by decide +kernel
theorem dX10_end_18 : decode cX10_end 18 = .ok (.getfield 22, 3) := by decide +kernel
theorem dX10_end_21 : decode cX10_end 21 = .ok (.iload_n 1, 1) := by decide +kernel
theorem dX10_end_22 : decode cX10_end 22 = .ok (.putfield 89, 3) := by decide +kernel
theorem dX10_end_25 : decode cX10_end 25 = .ok (.iload_n 1, 1) := by decide +kernel
theorem dX10_end_26 : decode cX10_end 26 = .ok (.ireturn, 1) := by decide +kernel
theorem dX10_text_0 : decode cX10_text 0 = .ok (.aload_n 0, 1) := by decide +kernel
theorem dX10_text_1 : decode cX10_text 1 = .ok (.getfield 10, 3) := by decide +kernel
theorem dX10_text_4 : decode cX10_text 4 = .ok (.getfield 97, 3) := by decide +kernel
theorem dX10_text_7 : decode cX10_text 7 = .ok (.iconst 4, 1) := by decide +kernel
theorem dX10_text_8 : decode cX10_text 8 = .ok (.if_icmp .lt 5, 3) := by decide +kernel
theorem dX10_text_11 : decode cX10_text 11 = .ok (.iconst (-1), 1) := by decide +kernel
theorem dX10_text_12 : decode cX10_text 12 = .ok (.ireturn, 1) := by decide +kernel
theorem dX10_text_13 : decode cX10_text 13 = .ok (.aload_n 0, 1) := by decide +kernel
theorem dX10_text_14 : decode cX10_text 14 = .ok (.getfield 31, 3) := by decide +kernel
theorem dX10_text_17 : decode cX10_text 17 = .ok (.invokevirtual 100, 3) := by decide +kernel
theorem dX10_text_20 : decode cX10_text 20 = .ok (.istore_n 1, 1) := by decide +kernel
theorem dX10_text_21 : decode cX10_text 21 = .ok (.aload_n 0, 1) := by decide +kernel
theorem dX10_text_22 : decode cX10_text 22 = .ok (.getfield 22, 3) := by decide +kernel
theorem dX10_text_25 : decode cX10_text 25 = .ok (.iconst 0, 1) := by decide +kernel
theorem dX10_text_26 : decode cX10_text 26 = .ok (.putfield 89, 3) := by decide +kernel
theorem dX10_text_29 : decode cX10_text 29 = .ok (.iload_n 1, 1) := by decide +kernel
theorem dX10_text_30 : decode cX10_text 30 = .ok (.ifCond .ne 5, 3) := by decide +kernel
theorem dX10_text_33 : decode cX10_text 33 = .ok (.iconst (-1), 1) := by decide +kernel
theorem dX10_text_34 : decode cX10_text 34 = .ok (.ireturn, 1) := by decide +kernel
theorem dX10_text_35 : decode cX10_text 35 = .ok (.aload_n 0, 1) := by decide +kernel
theorem dX10_text_36 : decode cX10_text 36 = .ok (.getfield 10, 3) := by decide +kernel
theorem dX10_text_39 : decode cX10_text 39 = .ok (.getfield 104, 3) := by decide +kernel
theorem dX10_text_42 : decode cX10_text 42 = .ok (.aload_n 0, 1) := by decide +kernel
theorem dX10_text_43 : decode cX10_text 43 = .ok (.getfield 10, 3) := by decide +kernel
theorem dX10_text_46 : decode cX10_text 46 = .ok (.getfield 97, 3) := by decide +kernel
theorem dX10_text_49 : decode cX10_text 49 = .ok (.aload_n 0, 1) := by decide +kernel
theorem dX10_text_50 : decode cX10_text 50 = .ok (.getfield 31, 3) := by decide +kernel
theorem dX10_text_53 : decode cX10_text 53 = .ok (.invokevirtual 108, 3) := by decide +kernel
theorem dX10_text_56 : decode cX10_text 56 = .ok (.aastore, 1) := by decide +kernel
theorem dX10_text_57 : decode cX10_text 57 = .ok (.aload_n 0, 1) := by decide +kernel
theorem dX10_text_58 : decode cX10_text 58 = .ok (.getfield 10, 3) := by decide +kernel
theorem dX10_text_61 : decode cX10_text 61 = .ok (.dup, 1) := by decide +kernel
theorem dX10_text_62 : decode cX10_text 62 = .ok (.getfield 97, 3) := by decide +kernel
theorem dX10_text_65 : decode cX10_text 65 = .ok (.iconst 1, 1) := by decide +kernel
theorem dX10_text_66 : decode cX10_text 66 = .ok (.iadd, 1) := by decide +kernel
theorem dX10_text_67 : decode cX10_text 67 = .ok (.putfield 97, 3) := by decide +kernel
theorem dX10_text_70 : decode cX10_text 70 = .ok (.aload_n 0, 1) := by decide +kernel
theorem dX10_text_71 : decode cX10_text 71 = .ok (.getfield 10, 3) := by decide +kernel
theorem dX10_text_74 : decode cX10_text 74 = .ok (.getfield 97, 3) := by decide +kernel
theorem dX10_text_77 : decode cX10_text 77 = .ok (.iconst 1, 1) := by decide +kernel
theorem dX10_text_78 : decode cX10_text 78 = .ok (.isub, 1) := by decide +kernel
theorem dX10_text_79 : decode cX10_text 79 = .ok (.ireturn, 1) := by decide +kernel
theorem dX10_fault_0 : decode cX10_fault 0 = .ok (.iload_n 1, 1) := by decide +kernel
theorem dX10_fault_1 : decode cX10_fault 1 = .ok (.ifCond .ne 11, 3) := by decide +kernel
theorem dX10_fault_4 : decode cX10_fault 4 = .ok (.aload_n 0, 1) := by decide +kernel
theorem dX10_fault_5 : decode cX10_fault 5 = .ok (.getfield 31, 3) := by decide +kernel
theorem dX10_fault_8 : decode cX10_fault 8 = .ok (.getfield 112, 3) := by decide +kernel
theorem dX10_fault_11 : decode cX10_fault 11 = .ok (.ireturn, 1) := by decide +kernel
theorem dX10_fault_12 : decode cX10_fault 12 = .ok (.iload_n 1, 1) := by decide +kernel
theorem dX10_fault_13 : decode cX10_fault 13 = .ok (.iconst 1, 1) := by decide +kernel
theorem dX10_fault_14 : decode cX10_fault 14 = .ok (.if_icmp .ne 13, 3) := by decide +kernel
theorem dX10_fault_17 : decode cX10_fault 17 = .ok (.aload_n 0, 1) := by decide +kernel
theorem dX10_fault_18 : decode cX10_fault 18 = .ok (.getfield 31, 3) := by decide +kernel
theorem dX10_fault_21 : decode cX10_fault 21 = .ok (.getfield 115, 3) := by decide +kernel
theorem dX10_fault_24 : decode cX10_fault 24 = .ok (.goto 4, 3) := by decide +kernel
theorem dX10_fault_27 : decode cX10_fault 27 = .ok (.iconst (-1), 1) := by decide +kernel
theorem dX10_fault_28 : decode cX10_fault 28 = .ok (.ireturn, 1) := by decide +kernel
theorem dX10_by_0 : decode cX10_by 0 = .ok (.iload_n 1, 1) := by decide +kernel
theorem dX10_by_1 : decode cX10_by 1 = .ok (.iconst (-1), 1) := by decide +kernel
theorem dX10_by_2 : decode cX10_by 2 = .ok (.aload_n 0, 1) := by decide +kernel
theorem dX10_by_3 : decode cX10_by 3 = .ok (.getfield 10, 3) := by decide +kernel
theorem dX10_by_6 : decode cX10_by 6 = .ok (.getfield 97, 3) := by decide +kernel
theorem dX10_by_9 : decode cX10_by 9 = .ok (.iconst 1, 1) := by decide +kernel
theorem dX10_by_10 : decode cX10_by 10 = .ok (.isub, 1) := by decide +kernel
theorem dX10_by_11 : decode cX10_by 11 = .ok (.invokestatic 70, 3) := by decide +kernel
theorem dX10_by_14 : decode cX10_by 14 = .ok (.ifCond .ne 5, 3) := by decide +kernel
theorem dX10_by_17 : decode cX10_by 17 = .ok (.iconst 0, 1) := by decide +kernel
theorem dX10_by_18 : decode cX10_by 18 = .ok (.ireturn, 1) := by decide +kernel
theorem dX10_by_19 : decode cX10_by 19 = .ok (.aload_n 0, 1) := by decide +kernel
theorem dX10_by_20 : decode cX10_by 20 = .ok (.getfield 10, 3) := by decide +kernel
theorem dX10_by_23 : decode cX10_by 23 = .ok (.iload_n 1, 1) := by decide +kernel
theorem dX10_by_24 : decode cX10_by 24 = .ok (.putfield 118, 3) := by decide +kernel
theorem dX10_by_27 : decode cX10_by 27 = .ok (.iconst 1, 1) := by decide +kernel
theorem dX10_by_28 : decode cX10_by 28 = .ok (.ireturn, 1) := by decide +kernel
theorem dX10_crank_0 : decode cX10_crank 0 = .ok (.iload_n 2, 1) := by decide +kernel
theorem dX10_crank_1 : decode cX10_crank 1 = .ok (.iconst 0, 1) := by decide +kernel
theorem dX10_crank_2 : decode cX10_crank 2 = .ok (.sipush 9999, 3) := by decide +kernel
theorem dX10_crank_5 : decode cX10_crank 5 = .ok (.invokestatic 70, 3) := by decide +kernel
theorem dX10_crank_8 : decode cX10_crank 8 = .ok (.ifCond .eq 17, 3) := by decide +kernel
theorem dX10_crank_11 : decode cX10_crank 11 = .ok (.aload_n 0, 1) := by decide +kernel
theorem dX10_crank_12 : decode cX10_crank 12 = .ok (.getfield 10, 3) := by decide +kernel
theorem dX10_crank_15 : decode cX10_crank 15 = .ok (.getfield 74, 3) := by decide +kernel
theorem dX10_crank_18 : decode cX10_crank 18 = .ok (.iload_n 1, 1) := by decide +kernel
theorem dX10_crank_19 : decode cX10_crank 19 = .ok (.invokevirtual 121, 3) := by decide +kernel
theorem dX10_crank_22 : decode cX10_crank 22 = .ok (.ifCond .ne 5, 3) := by decide +kernel
theorem dX10_crank_25 : decode cX10_crank 25 = .ok (.iconst (-1), 1) := by decide +kernel
theorem dX10_crank_26 : decode cX10_crank 26 = .ok (.ireturn, 1) := by decide +kernel
theorem dX10_crank_27 : decode cX10_crank 27 = .ok (.aload_n 0, 1) := by decide +kernel
theorem dX10_crank_28 : decode cX10_crank 28 = .ok (.getfield 10, 3) := by decide +kernel
theorem dX10_crank_31 : decode cX10_crank 31 = .ok (.invokevirtual 125, 3) := by decide +kernel
theorem dX10_crank_34 : decode cX10_crank 34 = .ok (.aload_n 0, 1) := by decide +kernel
theorem dX10_crank_35 : decode cX10_crank 35 = .ok (.getfield 10, 3) := by decide +kernel
theorem dX10_crank_38 : decode cX10_crank 38 = .ok (.getfield 74, 3) := by decide +kernel
theorem dX10_crank_41 : decode cX10_crank 41 = .ok (.iload_n 1, 1) := by decide +kernel
theorem dX10_crank_42 : decode cX10_crank 42 = .ok (.iload_n 2, 1) := by decide +kernel
theorem dX10_crank_43 : decode cX10_crank 43 = .ok (.invokevirtual 128, 3) := by decide +kernel
theorem dX10_crank_46 : decode cX10_crank 46 = .ok (.aload_n 0, 1) := by decide +kernel
theorem dX10_crank_47 : decode cX10_crank 47 = .ok (.getfield 10, 3) := by decide +kernel
theorem dX10_crank_50 : decode cX10_crank 50 = .ok (.getfield 74, 3) := by decide +kernel
theorem dX10_crank_53 : decode cX10_crank 53 = .ok (.getfield 132, 3) := by decide +kernel
theorem dX10_crank_56 : decode cX10_crank 56 = .ok (.iload_n 1, 1) := by decide +kernel
theorem dX10_crank_57 : decode cX10_crank 57 = .ok (.iaload, 1) := by decide +kernel
theorem dX10_crank_58 : decode cX10_crank 58 = .ok (.ireturn, 1) := by decide +kernel
theorem dX10_oil_0 : decode cX10_oil 0 = .ok (.iload_n 2, 1) := by decide +kernel
theorem dX10_oil_1 : decode cX10_oil 1 = .ok (.iconst 0, 1) := by decide +kernel
theorem dX10_oil_2 : decode cX10_oil 2 = .ok (.bipush 9, 2) := by decide +kernel
theorem dX10_oil_4 : decode cX10_oil 4 = .ok (.invokestatic 70, 3) := by decide +kernel
theorem dX10_oil_7 : decode cX10_oil 7 = .ok (.ifCond .eq 17, 3) := by decide +kernel
theorem dX10_oil_10 : decode cX10_oil 10 = .ok (.aload_n 0, 1) := by decide +kernel
theorem dX10_oil_11 : decode cX10_oil 11 = .ok (.getfield 10, 3) := by decide +kernel
theorem dX10_oil_14 : decode cX10_oil 14 = .ok (.getfield 74, 3) := by decide +kernel
theorem dX10_oil_17 : decode cX10_oil 17 = .ok (.iload_n 1, 1) := by decide +kernel
theorem dX10_oil_18 : decode cX10_oil 18 = .ok (.invokevirtual 135, 3) := by decide +kernel
theorem dX10_oil_21 : decode cX10_oil 21 = .ok (.ifCond .ne 5, 3) := by decide +kernel
theorem dX10_oil_24 : decode cX10_oil 24 = .ok (.iconst 0, 1) := by decide +kernel
theorem dX10_oil_25 : decode cX10_oil 25 = .ok (.ireturn, 1) := by decide +kernel
theorem dX10_oil_26 : decode cX10_oil 26 = .ok (.aload_n 0, 1) := by decide +kernel
theorem dX10_oil_27 : decode cX10_oil 27 = .ok (.getfield 10, 3) := by decide +kernel
theorem dX10_oil_30 : decode cX10_oil 30 = .ok (.invokevirtual 125, 3) := by decide +kernel
theorem dX10_oil_33 : decode cX10_oil 33 = .ok (.aload_n 0, 1) := by decide +kernel
theorem dX10_oil_34 : decode cX10_oil 34 = .ok (.getfield 10, 3) := by decide +kernel
theorem dX10_oil_37 : decode cX10_oil 37 = .ok (.getfield 74, 3) := by decide +kernel
theorem dX10_oil_40 : decode cX10_oil 40 = .ok (.getfield 138, 3) := by decide +kernel
theorem dX10_oil_43 : decode cX10_oil 43 = .ok (.iload_n 1, 1) := by decide +kernel
theorem dX10_oil_44 : decode cX10_oil 44 = .ok (.iload_n 2, 1) := by decide +kernel
theorem dX10_oil_45 : decode cX10_oil 45 = .ok (.iastore, 1) := by decide +kernel
theorem dX10_oil_46 : decode cX10_oil 46 = .ok (.iconst 1, 1) := by decide +kernel
theorem dX10_oil_47 : decode cX10_oil 47 = .ok (.ireturn, 1) := by decide +kernel
theorem dX10_lift_0 : decode cX10_lift 0 = .ok (.aload_n 0, 1) := by decide +kernel
theorem dX10_lift_1 : decode cX10_lift 1 = .ok (.getfield 10, 3) := by decide +kernel
theorem dX10_lift_4 : decode cX10_lift 4 = .ok (.getfield 74, 3) := by decide +kernel
theorem dX10_lift_7 : decode cX10_lift 7 = .ok (.iload_n 1, 1) := by decide +kernel
theorem dX10_lift_8 : decode cX10_lift 8 = .ok (.invokevirtual 141, 3) := by decide +kernel
theorem dX10_lift_11 : decode cX10_lift 11 = .ok (.ifCond .ne 5, 3) := by decide +kernel
theorem dX10_lift_14 : decode cX10_lift 14 = .ok (.iconst 0, 1) := by decide +kernel
theorem dX10_lift_15 : decode cX10_lift 15 = .ok (.ireturn, 1) := by decide +kernel
theorem dX10_lift_16 : decode cX10_lift 16 = .ok (.aload_n 0, 1) := by decide +kernel
theorem dX10_lift_17 : decode cX10_lift 17 = .ok (.getfield 10, 3) := by decide +kernel
theorem dX10_lift_20 : decode cX10_lift 20 = .ok (.invokevirtual 125, 3) := by decide +kernel
theorem dX10_lift_23 : decode cX10_lift 23 = .ok (.aload_n 0, 1) := by decide +kernel
theorem dX10_lift_24 : decode cX10_lift 24 = .ok (.getfield 10, 3) := by decide +kernel
theorem dX10_lift_27 : decode cX10_lift 27 = .ok (.getfield 74, 3) := by decide +kernel
theorem dX10_lift_30 : decode cX10_lift 30 = .ok (.getfield 144, 3) := by decide +kernel
theorem dX10_lift_33 : decode cX10_lift 33 = .ok (.iload_n 1, 1) := by decide +kernel
theorem dX10_lift_34 : decode cX10_lift 34 = .ok (.iconst 0, 1) := by decide +kernel
theorem dX10_lift_35 : decode cX10_lift 35 = .ok (.iastore, 1) := by decide +kernel
theorem dX10_lift_36 : decode cX10_lift 36 = .ok (.iconst 1, 1) := by decide +kernel
theorem dX10_lift_37 : decode cX10_lift 37 = .ok (.ireturn, 1) := by decide +kernel
theorem dX10_night_0 : decode cX10_night 0 = .ok (.iload_n 1, 1) := by decide +kernel
theorem dX10_night_1 : decode cX10_night 1 = .ok (.iconst 1, 1) := by decide +kernel
theorem dX10_night_2 : decode cX10_night 2 = .ok (.bipush 60, 2) := by decide +kernel
theorem dX10_night_4 : decode cX10_night 4 = .ok (.invokestatic 70, 3) := by decide +kernel
theorem dX10_night_7 : decode cX10_night 7 = .ok (.ifCond .eq 21, 3) := by decide +kernel
theorem dX10_night_10 : decode cX10_night 10 = .ok (.iload_n 1, 1) := by decide +kernel
theorem dX10_night_11 : decode cX10_night 11 = .ok (.sipush 9999, 3) := by decide +kernel
theorem dX10_night_14 : decode cX10_night 14 = .ok (.aload_n 0, 1) := by decide +kernel
theorem dX10_night_15 : decode cX10_night 15 = .ok (.getfield 10, 3) := by decide +kernel
theorem dX10_night_18 : decode cX10_night 18 = .ok (.getfield 74, 3) := by decide +kernel
theorem dX10_night_21 : decode cX10_night 21 = .ok (.getfield 147, 3) := by decide +kernel
theorem dX10_night_24 : decode cX10_night 24 = .ok (.isub, 1) := by decide +kernel
theorem dX10_night_25 : decode cX10_night 25 = .ok (.if_icmp .le 5, 3) := by decide +kernel
theorem dX10_night_28 : decode cX10_night 28 = .ok (.iconst (-1), 1) := by decide +kernel
theorem dX10_night_29 : decode cX10_night 29 = .ok (.ireturn, 1) := by decide +kernel
theorem dX10_night_30 : decode cX10_night 30 = .ok (.aload_n 0, 1) := by decide +kernel
theorem dX10_night_31 : decode cX10_night 31 = .ok (.iload_n 1, 1) := by decide +kernel
theorem dX10_night_32 : decode cX10_night 32 = .ok (.invokevirtual 150, 3) := by decide +kernel
theorem dX10_night_35 : decode cX10_night 35 = .ok (.ireturn, 1) := by decide +kernel
theorem dX10_played_0 : decode cX10_played 0 = .ok (.iload_n 1, 1) := by decide +kernel
theorem dX10_played_1 : decode cX10_played 1 = .ok (.iconst 0, 1) := by decide +kernel
theorem dX10_played_2 : decode cX10_played 2 = .ok (.aload_n 0, 1) := by decide +kernel
theorem dX10_played_3 : decode cX10_played 3 = .ok (.getfield 10, 3) := by decide +kernel
theorem dX10_played_6 : decode cX10_played 6 = .ok (.getfield 97, 3) := by decide +kernel
theorem dX10_played_9 : decode cX10_played 9 = .ok (.iconst 1, 1) := by decide +kernel
theorem dX10_played_10 : decode cX10_played 10 = .ok (.isub, 1) := by decide +kernel
theorem dX10_played_11 : decode cX10_played 11 = .ok (.invokestatic 70, 3) := by decide +kernel
theorem dX10_played_14 : decode cX10_played 14 = .ok (.ifCond .eq 15, 3) := by decide +kernel
theorem dX10_played_17 : decode cX10_played 17 = .ok (.aload_n 0, 1) := by decide +kernel
theorem dX10_played_18 : decode cX10_played 18 = .ok (.getfield 10, 3) := by decide +kernel
theorem dX10_played_21 : decode cX10_played 21 = .ok (.getfield 104, 3) := by decide +kernel
theorem dX10_played_24 : decode cX10_played 24 = .ok (.iload_n 1, 1) := by decide +kernel
theorem dX10_played_25 : decode cX10_played 25 = .ok (.aaload, 1) := by decide +kernel
theorem dX10_played_26 : decode cX10_played 26 = .ok (.ifnonnull 6, 3) := by decide +kernel
theorem dX10_played_29 : decode cX10_played 29 = .ok (.bipush (-2), 2) := by decide +kernel
theorem dX10_played_31 : decode cX10_played 31 = .ok (.ireturn, 1) := by decide +kernel
theorem dX10_played_32 : decode cX10_played 32 = .ok (.aload_n 0, 1) := by decide +kernel
theorem dX10_played_33 : decode cX10_played 33 = .ok (.getfield 10, 3) := by decide +kernel
theorem dX10_played_36 : decode cX10_played 36 = .ok (.getfield 104, 3) := by decide +kernel
theorem dX10_played_39 : decode cX10_played 39 = .ok (.iload_n 1, 1) := by decide +kernel
theorem dX10_played_40 : decode cX10_played 40 = .ok (.aaload, 1) := by decide +kernel
theorem dX10_played_41 : decode cX10_played 41 = .ok (.astore_n 2, 1) := by decide +kernel
theorem dX10_played_42 : decode cX10_played 42 = .ok (.iconst 0, 1) := by decide +kernel
theorem dX10_played_43 : decode cX10_played 43 = .ok (.istore_n 3, 1) := by decide +kernel
theorem dX10_played_44 : decode cX10_played 44 = .ok (.iload_n 3, 1) := by decide +kernel
theorem dX10_played_45 : decode cX10_played 45 = .ok (.aload_n 2, 1) := by decide +kernel
theorem dX10_played_46 : decode cX10_played 46 = .ok (.getfield 154, 3) := by decide +kernel
theorem dX10_played_49 : decode cX10_played 49 = .ok (.if_icmp .ge 20, 3) := by decide +kernel
theorem dX10_played_52 : decode cX10_played 52 = .ok (.aload_n 0, 1) := by decide +kernel
theorem dX10_played_53 : decode cX10_played 53 = .ok (.aload_n 2, 1) := by decide +kernel
theorem dX10_played_54 : decode cX10_played 54 = .ok (.iload_n 3, 1) := by decide +kernel
theorem dX10_played_55 : decode cX10_played 55 = .ok (.invokevirtual 159, 3) := by decide +kernel
theorem dX10_played_58 : decode cX10_played 58 = .ok (.ifCond .ne 5, 3) := by decide +kernel
theorem dX10_played_61 : decode cX10_played 61 = .ok (.iload_n 3, 1) := by decide +kernel
theorem dX10_played_62 : decode cX10_played 62 = .ok (.ireturn, 1) := by decide +kernel
theorem dX10_played_63 : decode cX10_played 63 = .ok (.iinc 3 1, 3) := by decide +kernel
theorem dX10_played_66 : decode cX10_played 66 = .ok (.goto (-22), 3) := by decide +kernel
theorem dX10_played_69 : decode cX10_played 69 = .ok (.iconst (-1), 1) := by decide +kernel
theorem dX10_played_70 : decode cX10_played 70 = .ok (.ireturn, 1) := by decide +kernel
theorem dX10_decades_0 : decode cX10_decades 0 = .ok (.iload_n 1, 1) := by decide +kernel
theorem dX10_decades_1 : decode cX10_decades 1 = .ok (.iconst 0, 1) := by decide +kernel
theorem dX10_decades_2 : decode cX10_decades 2 = .ok (.sipush 9999, 3) := by decide +kernel
theorem dX10_decades_5 : decode cX10_decades 5 = .ok (.invokestatic 70, 3) := by decide +kernel
theorem dX10_decades_8 : decode cX10_decades 8 = .ok (.ifCond .eq 13, 3) := by decide +kernel
theorem dX10_decades_11 : decode cX10_decades 11 = .ok (.iload_n 2, 1) := by decide +kernel
theorem dX10_decades_12 : decode cX10_decades 12 = .ok (.iconst 1, 1) := by decide +kernel
theorem dX10_decades_13 : decode cX10_decades 13 = .ok (.bipush 40, 2) := by decide +kernel
theorem dX10_decades_15 : decode cX10_decades 15 = .ok (.invokestatic 70, 3) := by decide +kernel
theorem dX10_decades_18 : decode cX10_decades 18 = .ok (.ifCond .ne 5, 3) := by decide +kernel
theorem dX10_decades_21 : decode cX10_decades 21 = .ok (.iconst (-1), 1) := by decide +kernel
theorem dX10_decades_22 : decode cX10_decades 22 = .ok (.ireturn, 1) := by decide +kernel
theorem dX10_decades_23 : decode cX10_decades 23 = .ok (.aload_n 0, 1) := by decide +kernel
theorem dX10_decades_24 : decode cX10_decades 24 = .ok (.getfield 10, 3) := by decide +kernel
theorem dX10_decades_27 : decode cX10_decades 27 = .ok (.invokevirtual 125, 3) := by decide +kernel
theorem dX10_decades_30 : decode cX10_decades 30 = .ok (.aload_n 0, 1) := by decide +kernel
theorem dX10_decades_31 : decode cX10_decades 31 = .ok (.getfield 10, 3) := by decide +kernel
theorem dX10_decades_34 : decode cX10_decades 34 = .ok (.getfield 74, 3) := by decide +kernel
theorem dX10_decades_37 : decode cX10_decades 37 = .ok (.iload_n 1, 1) := by decide +kernel
theorem dX10_decades_38 : decode cX10_decades 38 = .ok (.iconst 2, 1) := by decide +kernel
theorem dX10_decades_39 : decode cX10_decades 39 = .ok (.imul, 1) := by decide +kernel
theorem dX10_decades_40 : decode cX10_decades 40 = .ok (.sipush 193, 3) := by decide +kernel
theorem dX10_decades_43 : decode cX10_decades 43 = .ok (.iadd, 1) := by decide +kernel
theorem dX10_decades_44 : decode cX10_decades 44 = .ok (.putfield 163, 3) := by decide +kernel
theorem dX10_decades_47 : decode cX10_decades 47 = .ok (.iconst 0, 1) := by decide +kernel
theorem dX10_decades_48 : decode cX10_decades 48 = .ok (.istore_n 3, 1) := by decide +kernel
theorem dX10_decades_49 : decode cX10_decades 49 = .ok (.iload_n 3, 1) := by decide +kernel
theorem dX10_decades_50 : decode cX10_decades 50 = .ok (.iload_n 2, 1) := by decide +kernel
theorem dX10_decades_51 : decode cX10_decades 51 = .ok (.if_icmp .ge 119, 3) := by decide +kernel
theorem dX10_decades_54 : decode cX10_decades 54 = .ok (.aload_n 0, 1) := by decide +kernel
theorem dX10_decades_55 : decode cX10_decades 55 = .ok (.getfield 10, 3) := by decide +kernel
theorem dX10_decades_58 : decode cX10_decades 58 = .ok (.getfield 74, 3) := by decide +kernel
theorem dX10_decades_61 : decode cX10_decades 61 = .ok (.getfield 163, 3) := by decide +kernel
theorem dX10_decades_64 : decode cX10_decades 64 = .ok (.istore 4, 2) := by decide +kernel
theorem dX10_decades_66 : decode cX10_decades 66 = .ok (.aload_n 0, 1) := by decide +kernel
theorem dX10_decades_67 : decode cX10_decades 67 = .ok (.getfield 10, 3) := by decide +kernel
theorem dX10_decades_70 : decode cX10_decades 70 = .ok (.getfield 74, 3) := by decide +kernel
theorem dX10_decades_73 : decode cX10_decades 73 = .ok (.invokevirtual 166, 3) := by decide +kernel
theorem dX10_decades_76 : decode cX10_decades 76 = .ok (.iload 4, 2) := by decide +kernel
theorem dX10_decades_78 : decode cX10_decades 78 = .ok (.iconst 5, 1) := by decide +kernel
theorem dX10_decades_79 : decode cX10_decades 79 = .ok (.irem, 1) := by decide +kernel
theorem dX10_decades_80 : decode cX10_decades 80 = .ok (.iconst 4, 1) := by decide +kernel
theorem dX10_decades_81 : decode cX10_decades 81 = .ok (.if_icmp .ne 51, 3) := by decide +kernel
theorem dX10_decades_84 : decode cX10_decades 84 = .ok (.aload_n 0, 1) := by decide +kernel
theorem dX10_decades_85 : decode cX10_decades 85 = .ok (.getfield 10, 3) := by decide +kernel
theorem dX10_decades_88 : decode cX10_decades 88 = .ok (.getfield 74, 3) := by decide +kernel
theorem dX10_decades_91 : decode cX10_decades 91 = .ok (.getfield 147, 3) := by decide +kernel
theorem dX10_decades_94 : decode cX10_decades 94 = .ok (.sipush 9999, 3) := by decide +kernel
theorem dX10_decades_97 : decode cX10_decades 97 = .ok (.if_icmp .ge 67, 3) := by decide +kernel
theorem dX10_decades_100 : decode cX10_decades 100 = .ok (.aload_n 0, 1) := by decide +kernel
theorem dX10_decades_101 : decode cX10_decades 101 = .ok (.getfield 38, 3) := by decide +kernel
theorem dX10_decades_104 : decode cX10_decades 104 = .ok (.aload_n 0, 1) := by decide +kernel
theorem dX10_decades_105 : decode cX10_decades 105 = .ok (.getfield 10, 3) := by decide +kernel
theorem dX10_decades_108 : decode cX10_decades 108 = .ok (.getfield 74, 3) := by decide +kernel
theorem dX10_decades_111 : decode cX10_decades 111 = .ok (.aload_n 0, 1) := by decide +kernel
theorem dX10_decades_112 : decode cX10_decades 112 = .ok (.getfield 10, 3) := by decide +kernel
theorem dX10_decades_115 : decode cX10_decades 115 = .ok (.getfield 81, 3) := by decide +kernel
theorem dX10_decades_118 : decode cX10_decades 118 = .ok (.aload_n 0, 1) := by decide +kernel
theorem dX10_decades_119 : decode cX10_decades 119 = .ok (.getfield 10, 3) := by decide +kernel
theorem dX10_decades_122 : decode cX10_decades 122 = .ok (.invokevirtual 169, 3) := by decide +kernel
theorem dX10_decades_125 : decode cX10_decades 125 = .ok (.invokevirtual 172, 3) := by decide +kernel
theorem dX10_decades_128 : decode cX10_decades 128 = .ok (.pop, 1) := by decide +kernel
theorem dX10_decades_129 : decode cX10_decades 129 = .ok (.goto 35, 3) := by decide +kernel
theorem dX10_decades_132 : decode cX10_decades 132 = .ok (.aload_n 0, 1) := by decide +kernel
theorem dX10_decades_133 : decode cX10_decades 133 = .ok (.getfield 10, 3) := by decide +kernel
theorem dX10_decades_136 : decode cX10_decades 136 = .ok (.getfield 74, 3) := by decide +kernel
theorem dX10_decades_139 : decode cX10_decades 139 = .ok (.getfield 176, 3) := by decide +kernel
theorem dX10_decades_142 : decode cX10_decades 142 = .ok (.ifCond .le 22, 3) := by decide +kernel
theorem dX10_decades_145 : decode cX10_decades 145 = .ok (.aload_n 0, 1) := by decide +kernel
theorem dX10_decades_146 : decode cX10_decades 146 = .ok (.iload 4, 2) := by decide +kernel
theorem dX10_decades_148 : decode cX10_decades 148 = .ok (.aload_n 0, 1) := by decide +kernel
theorem dX10_decades_149 : decode cX10_decades 149 = .ok (.getfield 10, 3) := by decide +kernel
theorem dX10_decades_152 : decode cX10_decades 152 = .ok (.getfield 74, 3) := by decide +kernel
theorem dX10_decades_155 : decode cX10_decades 155 = .ok (.getfield 176, 3) := by decide +kernel
theorem dX10_decades_158 : decode cX10_decades 158 = .ok (.irem, 1) := by decide +kernel
theorem dX10_decades_159 : decode cX10_decades 159 = .ok (.iload 4, 2) := by decide +kernel
theorem dX10_decades_161 : decode cX10_decades 161 = .ok (.invokevirtual 179, 3) := by decide +kernel
theorem dX10_decades_164 : decode cX10_decades 164 = .ok (.iinc 3 1, 3) := by decide +kernel
theorem dX10_decades_167 : decode cX10_decades 167 = .ok (.goto (-118), 3) := by decide +kernel
theorem dX10_decades_170 : decode cX10_decades 170 = .ok (.aload_n 0, 1) := by decide +kernel
theorem dX10_decades_171 : decode cX10_decades 171 = .ok (.getfield 10, 3) := by decide +kernel
theorem dX10_decades_174 : decode cX10_decades 174 = .ok (.getfield 74, 3) := by decide +kernel
theorem dX10_decades_177 : decode cX10_decades 177 = .ok (.getfield 147, 3) := by decide +kernel
theorem dX10_decades_180 : decode cX10_decades 180 = .ok (.ireturn, 1) := by decide +kernel
theorem dX10_undo_0 : decode cX10_undo 0 = .ok (.aload_n 0, 1) := by decide +kernel
theorem dX10_undo_1 : decode cX10_undo 1 = .ok (.getfield 10, 3) := by decide +kernel
theorem dX10_undo_4 : decode cX10_undo 4 = .ok (.invokevirtual 182, 3) := by decide +kernel
theorem dX10_undo_7 : decode cX10_undo 7 = .ok (.ifCond .eq 13, 3) := by decide +kernel
theorem dX10_undo_10 : decode cX10_undo 10 = .ok (.aload_n 0, 1) := by decide +kernel
theorem dX10_undo_11 : decode cX10_undo 11 = .ok (.getfield 10, 3) := by decide +kernel
theorem dX10_undo_14 : decode cX10_undo 14 = .ok (.getfield 185, 3) := by decide +kernel
theorem dX10_undo_17 : decode cX10_undo 17 = .ok (.goto 4, 3) := by decide +kernel
theorem dX10_undo_20 : decode cX10_undo 20 = .ok (.iconst (-1), 1) := by decide +kernel
theorem dX10_undo_21 : decode cX10_undo 21 = .ok (.ireturn, 1) := by decide +kernel
theorem dX10_of_0 : decode cX10_of 0 = .ok (.aload_n 0, 1) := by decide +kernel
theorem dX10_of_1 : decode cX10_of 1 = .ok (.getfield 10, 3) := by decide +kernel
theorem dX10_of_4 : decode cX10_of 4 = .ok (.getfield 74, 3) := by decide +kernel
theorem dX10_of_7 : decode cX10_of 7 = .ok (.astore_n 3, 1) := by decide +kernel
theorem dX10_of_8 : decode cX10_of 8 = .ok (.aload_n 3, 1) := by decide +kernel
theorem dX10_of_9 : decode cX10_of 9 = .ok (.iload_n 1, 1) := by decide +kernel
theorem dX10_of_10 : decode cX10_of 10 = .ok (.invokevirtual 135, 3) := by decide +kernel
theorem dX10_of_13 : decode cX10_of 13 = .ok (.ifCond .ne 5, 3) := by decide +kernel
theorem dX10_of_16 : decode cX10_of 16 = .ok (.iconst (-1), 1) := by decide +kernel
theorem dX10_of_17 : decode cX10_of 17 = .ok (.ireturn, 1) := by decide +kernel
theorem dX10_of_18 : decode cX10_of 18 = .ok (.iload_n 2, 1) := by decide +kernel
theorem dX10_of_19 : decode cX10_of 19 = .ok (.tableswitch 131 0 7 #[45, 52, 59, 66, 73, 80, 97, 114], 45) := by decide +kernel
theorem dX10_of_64 : decode cX10_of 64 = .ok (.aload_n 3, 1) := by decide +kernel
theorem dX10_of_65 : decode cX10_of 65 = .ok (.getfield 188, 3) := by decide +kernel
theorem dX10_of_68 : decode cX10_of 68 = .ok (.iload_n 1, 1) := by decide +kernel
theorem dX10_of_69 : decode cX10_of 69 = .ok (.iaload, 1) := by decide +kernel
theorem dX10_of_70 : decode cX10_of 70 = .ok (.ireturn, 1) := by decide +kernel
theorem dX10_of_71 : decode cX10_of 71 = .ok (.aload_n 3, 1) := by decide +kernel
theorem dX10_of_72 : decode cX10_of 72 = .ok (.getfield 191, 3) := by decide +kernel
theorem dX10_of_75 : decode cX10_of 75 = .ok (.iload_n 1, 1) := by decide +kernel
theorem dX10_of_76 : decode cX10_of 76 = .ok (.iaload, 1) := by decide +kernel
theorem dX10_of_77 : decode cX10_of 77 = .ok (.ireturn, 1) := by decide +kernel
theorem dX10_of_78 : decode cX10_of 78 = .ok (.aload_n 3, 1) := by decide +kernel
theorem dX10_of_79 : decode cX10_of 79 = .ok (.getfield 138, 3) := by decide +kernel
theorem dX10_of_82 : decode cX10_of 82 = .ok (.iload_n 1, 1) := by decide +kernel
theorem dX10_of_83 : decode cX10_of 83 = .ok (.iaload, 1) := by decide +kernel
theorem dX10_of_84 : decode cX10_of 84 = .ok (.ireturn, 1) := by decide +kernel
theorem dX10_of_85 : decode cX10_of 85 = .ok (.aload_n 3, 1) := by decide +kernel
theorem dX10_of_86 : decode cX10_of 86 = .ok (.getfield 132, 3) := by decide +kernel
theorem dX10_of_89 : decode cX10_of 89 = .ok (.iload_n 1, 1) := by decide +kernel
theorem dX10_of_90 : decode cX10_of 90 = .ok (.iaload, 1) := by decide +kernel
theorem dX10_of_91 : decode cX10_of 91 = .ok (.ireturn, 1) := by decide +kernel
theorem dX10_of_92 : decode cX10_of 92 = .ok (.aload_n 3, 1) := by decide +kernel
theorem dX10_of_93 : decode cX10_of 93 = .ok (.getfield 144, 3) := by decide +kernel
theorem dX10_of_96 : decode cX10_of 96 = .ok (.iload_n 1, 1) := by decide +kernel
theorem dX10_of_97 : decode cX10_of 97 = .ok (.iaload, 1) := by decide +kernel
theorem dX10_of_98 : decode cX10_of 98 = .ok (.ireturn, 1) := by decide +kernel
theorem dX10_of_99 : decode cX10_of 99 = .ok (.aload_n 0, 1) := by decide +kernel
theorem dX10_of_100 : decode cX10_of 100 = .ok (.getfield 38, 3) := by decide +kernel
theorem dX10_of_103 : decode cX10_of 103 = .ok (.aload_n 0, 1) := by decide +kernel
theorem dX10_of_104 : decode cX10_of 104 = .ok (.getfield 10, 3) := by decide +kernel
theorem dX10_of_107 : decode cX10_of 107 = .ok (.invokevirtual 169, 3) := by decide +kernel
theorem dX10_of_110 : decode cX10_of 110 = .ok (.aload_n 3, 1) := by decide +kernel
theorem dX10_of_111 : decode cX10_of 111 = .ok (.iload_n 1, 1) := by decide +kernel
theorem dX10_of_112 : decode cX10_of 112 = .ok (.invokevirtual 194, 3) := by decide +kernel
theorem dX10_of_115 : decode cX10_of 115 = .ok (.ireturn, 1) := by decide +kernel
theorem dX10_of_116 : decode cX10_of 116 = .ok (.aload_n 0, 1) := by decide +kernel
theorem dX10_of_117 : decode cX10_of 117 = .ok (.getfield 38, 3) := by decide +kernel
theorem dX10_of_120 : decode cX10_of 120 = .ok (.aload_n 0, 1) := by decide +kernel
theorem dX10_of_121 : decode cX10_of 121 = .ok (.getfield 10, 3) := by decide +kernel
theorem dX10_of_124 : decode cX10_of 124 = .ok (.invokevirtual 169, 3) := by decide +kernel
theorem dX10_of_127 : decode cX10_of 127 = .ok (.aload_n 3, 1) := by decide +kernel
theorem dX10_of_128 : decode cX10_of 128 = .ok (.iload_n 1, 1) := by decide +kernel
theorem dX10_of_129 : decode cX10_of 129 = .ok (.invokevirtual 198, 3) := by decide +kernel
theorem dX10_of_132 : decode cX10_of 132 = .ok (.ireturn, 1) := by decide +kernel
theorem dX10_of_133 : decode cX10_of 133 = .ok (.aload_n 0, 1) := by decide +kernel
theorem dX10_of_134 : decode cX10_of 134 = .ok (.getfield 38, 3) := by decide +kernel
theorem dX10_of_137 : decode cX10_of 137 = .ok (.aload_n 0, 1) := by decide +kernel
theorem dX10_of_138 : decode cX10_of 138 = .ok (.getfield 10, 3) := by decide +kernel
theorem dX10_of_141 : decode cX10_of 141 = .ok (.invokevirtual 169, 3) := by decide +kernel
theorem dX10_of_144 : decode cX10_of 144 = .ok (.aload_n 3, 1) := by decide +kernel
theorem dX10_of_145 : decode cX10_of 145 = .ok (.iload_n 1, 1) := by decide +kernel
theorem dX10_of_146 : decode cX10_of 146 = .ok (.invokevirtual 201, 3) := by decide +kernel
theorem dX10_of_149 : decode cX10_of 149 = .ok (.ireturn, 1) := by decide +kernel
theorem dX10_of_150 : decode cX10_of 150 = .ok (.iload_n 2, 1) := by decide +kernel
theorem dX10_of_151 : decode cX10_of 151 = .ok (.bipush 10, 2) := by decide +kernel
theorem dX10_of_153 : decode cX10_of 153 = .ok (.if_icmp .ge 7, 3) := by decide +kernel
theorem dX10_of_156 : decode cX10_of 156 = .ok (.iconst (-1), 1) := by decide +kernel
theorem dX10_of_157 : decode cX10_of 157 = .ok (.goto 12, 3) := by decide +kernel
theorem dX10_of_160 : decode cX10_of 160 = .ok (.aload_n 3, 1) := by decide +kernel
theorem dX10_of_161 : decode cX10_of 161 = .ok (.iload_n 1, 1) := by decide +kernel
theorem dX10_of_162 : decode cX10_of 162 = .ok (.iload_n 2, 1) := by decide +kernel
theorem dX10_of_163 : decode cX10_of 163 = .ok (.bipush 10, 2) := by decide +kernel
theorem dX10_of_165 : decode cX10_of 165 = .ok (.isub, 1) := by decide +kernel
theorem dX10_of_166 : decode cX10_of 166 = .ok (.invokevirtual 204, 3) := by decide +kernel
theorem dX10_of_169 : decode cX10_of 169 = .ok (.ireturn, 1) := by decide +kernel
theorem dX10_told_0 : decode cX10_told 0 = .ok (.iload_n 1, 1) := by decide +kernel
theorem dX10_told_1 : decode cX10_told 1 = .ok (.iconst 0, 1) := by decide +kernel
theorem dX10_told_2 : decode cX10_told 2 = .ok (.bipush 9, 2) := by decide +kernel
theorem dX10_told_4 : decode cX10_told 4 = .ok (.invokestatic 70, 3) := by decide +kernel
theorem dX10_told_7 : decode cX10_told 7 = .ok (.ifCond .eq 19, 3) := by decide +kernel
theorem dX10_told_10 : decode cX10_told 10 = .ok (.aload_n 0, 1) := by decide +kernel
theorem dX10_told_11 : decode cX10_told 11 = .ok (.getfield 10, 3) := by decide +kernel
theorem dX10_told_14 : decode cX10_told 14 = .ok (.getfield 81, 3) := by decide +kernel
theorem dX10_told_17 : decode cX10_told 17 = .ok (.iload_n 1, 1) := by decide +kernel
theorem dX10_told_18 : decode cX10_told 18 = .ok (.iload_n 2, 1) := by decide +kernel
theorem dX10_told_19 : decode cX10_told 19 = .ok (.invokestatic 85, 3) := by decide +kernel
theorem dX10_told_22 : decode cX10_told 22 = .ok (.iaload, 1) := by decide +kernel
theorem dX10_told_23 : decode cX10_told 23 = .ok (.goto 4, 3) := by decide +kernel
theorem dX10_told_26 : decode cX10_told 26 = .ok (.iconst (-1), 1) := by decide +kernel
theorem dX10_told_27 : decode cX10_told 27 = .ok (.ireturn, 1) := by decide +kernel
theorem dX10_is_0 : decode cX10_is 0 = .ok (.iload_n 1, 1) := by decide +kernel
theorem dX10_is_1 : decode cX10_is 1 = .ok (.ifCond .ne 14, 3) := by decide +kernel
theorem dX10_is_4 : decode cX10_is 4 = .ok (.aload_n 0, 1) := by decide +kernel
theorem dX10_is_5 : decode cX10_is 5 = .ok (.getfield 10, 3) := by decide +kernel
theorem dX10_is_8 : decode cX10_is 8 = .ok (.getfield 74, 3) := by decide +kernel
theorem dX10_is_11 : decode cX10_is 11 = .ok (.getfield 147, 3) := by decide +kernel
theorem dX10_is_14 : decode cX10_is 14 = .ok (.ireturn, 1) := by decide +kernel
theorem dX10_is_15 : decode cX10_is 15 = .ok (.iload_n 1, 1) := by decide +kernel
theorem dX10_is_16 : decode cX10_is 16 = .ok (.iconst 1, 1) := by decide +kernel
theorem dX10_is_17 : decode cX10_is 17 = .ok (.if_icmp .ne 16, 3) := by decide +kernel
theorem dX10_is_20 : decode cX10_is 20 = .ok (.aload_n 0, 1) := by decide +kernel
theorem dX10_is_21 : decode cX10_is 21 = .ok (.getfield 10, 3) := by decide +kernel
theorem dX10_is_24 : decode cX10_is 24 = .ok (.getfield 74, 3) := by decide +kernel
theorem dX10_is_27 : decode cX10_is 27 = .ok (.getfield 163, 3) := by decide +kernel
theorem dX10_is_30 : decode cX10_is 30 = .ok (.goto 5, 3) := by decide +kernel
theorem dX10_is_33 : decode cX10_is 33 = .ok (.bipush (-2), 2) := by decide +kernel
theorem dX10_is_35 : decode cX10_is 35 = .ok (.ireturn, 1) := by decide +kernel
theorem dX10_book_0 : decode cX10_book 0 = .ok (.iload_n 1, 1) := by decide +kernel
theorem dX10_book_1 : decode cX10_book 1 = .ok (.iconst (-1), 1) := by decide +kernel
theorem dX10_book_2 : decode cX10_book 2 = .ok (.if_icmp .ne 14, 3) := by decide +kernel
theorem dX10_book_5 : decode cX10_book 5 = .ok (.aload_n 0, 1) := by decide +kernel
theorem dX10_book_6 : decode cX10_book 6 = .ok (.getfield 10, 3) := by decide +kernel
theorem dX10_book_9 : decode cX10_book 9 = .ok (.getfield 74, 3) := by decide +kernel
theorem dX10_book_12 : decode cX10_book 12 = .ok (.getfield 207, 3) := by decide +kernel
theorem dX10_book_15 : decode cX10_book 15 = .ok (.ireturn, 1) := by decide +kernel
theorem dX10_book_16 : decode cX10_book 16 = .ok (.iload_n 1, 1) := by decide +kernel
theorem dX10_book_17 : decode cX10_book 17 = .ok (.iconst 0, 1) := by decide +kernel
theorem dX10_book_18 : decode cX10_book 18 = .ok (.aload_n 0, 1) := by decide +kernel
theorem dX10_book_19 : decode cX10_book 19 = .ok (.getfield 10, 3) := by decide +kernel
theorem dX10_book_22 : decode cX10_book 22 = .ok (.getfield 74, 3) := by decide +kernel
theorem dX10_book_25 : decode cX10_book 25 = .ok (.getfield 207, 3) := by decide +kernel
theorem dX10_book_28 : decode cX10_book 28 = .ok (.iconst 1, 1) := by decide +kernel
theorem dX10_book_29 : decode cX10_book 29 = .ok (.isub, 1) := by decide +kernel
theorem dX10_book_30 : decode cX10_book 30 = .ok (.invokestatic 70, 3) := by decide +kernel
theorem dX10_book_33 : decode cX10_book 33 = .ok (.ifCond .eq 12, 3) := by decide +kernel
theorem dX10_book_36 : decode cX10_book 36 = .ok (.iload_n 2, 1) := by decide +kernel
theorem dX10_book_37 : decode cX10_book 37 = .ok (.iconst 0, 1) := by decide +kernel
theorem dX10_book_38 : decode cX10_book 38 = .ok (.iconst 3, 1) := by decide +kernel
theorem dX10_book_39 : decode cX10_book 39 = .ok (.invokestatic 70, 3) := by decide +kernel
theorem dX10_book_42 : decode cX10_book 42 = .ok (.ifCond .ne 6, 3) := by decide +kernel
theorem dX10_book_45 : decode cX10_book 45 = .ok (.bipush (-2), 2) := by decide +kernel
theorem dX10_book_47 : decode cX10_book 47 = .ok (.ireturn, 1) := by decide +kernel
theorem dX10_book_48 : decode cX10_book 48 = .ok (.aload_n 0, 1) := by decide +kernel
theorem dX10_book_49 : decode cX10_book 49 = .ok (.getfield 10, 3) := by decide +kernel
theorem dX10_book_52 : decode cX10_book 52 = .ok (.getfield 74, 3) := by decide +kernel
theorem dX10_book_55 : decode cX10_book 55 = .ok (.getfield 210, 3) := by decide +kernel
theorem dX10_book_58 : decode cX10_book 58 = .ok (.iload_n 1, 1) := by decide +kernel
theorem dX10_book_59 : decode cX10_book 59 = .ok (.iconst 4, 1) := by decide +kernel
theorem dX10_book_60 : decode cX10_book 60 = .ok (.imul, 1) := by decide +kernel
theorem dX10_book_61 : decode cX10_book 61 = .ok (.iload_n 2, 1) := by decide +kernel
theorem dX10_book_62 : decode cX10_book 62 = .ok (.iadd, 1) := by decide +kernel
theorem dX10_book_63 : decode cX10_book 63 = .ok (.iaload, 1) := by decide +kernel
theorem dX10_book_64 : decode cX10_book 64 = .ok (.ireturn, 1) := by decide +kernel
theorem dX10_foretold_0 : decode cX10_foretold 0 = .ok (.iload_n 1, 1) := by decide +kernel
theorem dX10_foretold_1 : decode cX10_foretold 1 = .ok (.iconst 1, 1) := by decide +kernel
theorem dX10_foretold_2 : decode cX10_foretold 2 = .ok (.bipush 60, 2) := by decide +kernel
theorem dX10_foretold_4 : decode cX10_foretold 4 = .ok (.invokestatic 70, 3) := by decide +kernel
theorem dX10_foretold_7 : decode cX10_foretold 7 = .ok (.ifCond .eq 26, 3) := by decide +kernel
theorem dX10_foretold_10 : decode cX10_foretold 10 = .ok (.aload_n 0, 1) := by decide +kernel
theorem dX10_foretold_11 : decode cX10_foretold 11 = .ok (.getfield 10, 3) := by decide +kernel
theorem dX10_foretold_14 : decode cX10_foretold 14 = .ok (.getfield 74, 3) := by decide +kernel
theorem dX10_foretold_17 : decode cX10_foretold 17 = .ok (.iload_n 2, 1) := by decide +kernel
theorem dX10_foretold_18 : decode cX10_foretold 18 = .ok (.invokevirtual 135, 3) := by decide +kernel
theorem dX10_foretold_21 : decode cX10_foretold 21 = .ok (.ifCond .eq 12, 3) := by decide +kernel
theorem dX10_foretold_24 : decode cX10_foretold 24 = .ok (.iload_n 3, 1) := by decide +kernel
theorem dX10_foretold_25 : decode cX10_foretold 25 = .ok (.iconst 0, 1) := by decide +kernel
theorem dX10_foretold_26 : decode cX10_foretold 26 = .ok (.iconst 2, 1) := by decide +kernel
theorem dX10_foretold_27 : decode cX10_foretold 27 = .ok (.invokestatic 70, 3) := by decide +kernel
theorem dX10_foretold_30 : decode cX10_foretold 30 = .ok (.ifCond .ne 5, 3) := by decide +kernel
theorem dX10_foretold_33 : decode cX10_foretold 33 = .ok (.iconst (-1), 1) := by decide +kernel
theorem dX10_foretold_34 : decode cX10_foretold 34 = .ok (.ireturn, 1) := by decide +kernel
theorem dX10_foretold_35 : decode cX10_foretold 35 = .ok (.aload_n 0, 1) := by decide +kernel
theorem dX10_foretold_36 : decode cX10_foretold 36 = .ok (.getfield 66, 3) := by decide +kernel
theorem dX10_foretold_39 : decode cX10_foretold 39 = .ok (.aload_n 0, 1) := by decide +kernel
theorem dX10_foretold_40 : decode cX10_foretold 40 = .ok (.getfield 10, 3) := by decide +kernel
theorem dX10_foretold_43 : decode cX10_foretold 43 = .ok (.getfield 74, 3) := by decide +kernel
theorem dX10_foretold_46 : decode cX10_foretold 46 = .ok (.invokevirtual 213, 3) := by decide +kernel
theorem dX10_foretold_49 : decode cX10_foretold 49 = .ok (.iload_n 1, 1) := by decide +kernel
theorem dX10_foretold_50 : decode cX10_foretold 50 = .ok (.sipush 9999, 3) := by decide +kernel
theorem dX10_foretold_53 : decode cX10_foretold 53 = .ok (.aload_n 0, 1) := by decide +kernel
theorem dX10_foretold_54 : decode cX10_foretold 54 = .ok (.getfield 66, 3) := by decide +kernel
theorem dX10_foretold_57 : decode cX10_foretold 57 = .ok (.getfield 147, 3) := by decide +kernel
theorem dX10_foretold_60 : decode cX10_foretold 60 = .ok (.isub, 1) := by decide +kernel
theorem dX10_foretold_61 : decode cX10_foretold 61 = .ok (.invokestatic 217, 3) := by decide +kernel
theorem dX10_foretold_64 : decode cX10_foretold 64 = .ok (.istore 4, 2) := by decide +kernel
theorem dX10_foretold_66 : decode cX10_foretold 66 = .ok (.iconst 0, 1) := by decide +kernel
theorem dX10_foretold_67 : decode cX10_foretold 67 = .ok (.istore 5, 2) := by decide +kernel
theorem dX10_foretold_69 : decode cX10_foretold 69 = .ok (.iload 5, 2) := by decide +kernel
theorem dX10_foretold_71 : decode cX10_foretold 71 = .ok (.iload 4, 2) := by decide +kernel
theorem dX10_foretold_73 : decode cX10_foretold 73 = .ok (.if_icmp .ge 35, 3) := by decide +kernel
theorem dX10_foretold_76 : decode cX10_foretold 76 = .ok (.aload_n 0, 1) := by decide +kernel
theorem dX10_foretold_77 : decode cX10_foretold 77 = .ok (.getfield 38, 3) := by decide +kernel
theorem dX10_foretold_80 : decode cX10_foretold 80 = .ok (.aload_n 0, 1) := by decide +kernel
theorem dX10_foretold_81 : decode cX10_foretold 81 = .ok (.getfield 66, 3) := by decide +kernel
theorem dX10_foretold_84 : decode cX10_foretold 84 = .ok (.aload_n 0, 1) := by decide +kernel
theorem dX10_foretold_85 : decode cX10_foretold 85 = .ok (.getfield 10, 3) := by decide +kernel
theorem dX10_foretold_88 : decode cX10_foretold 88 = .ok (.getfield 81, 3) := by decide +kernel
theorem dX10_foretold_91 : decode cX10_foretold 91 = .ok (.aload_n 0, 1) := by decide +kernel
theorem dX10_foretold_92 : decode cX10_foretold 92 = .ok (.getfield 10, 3) := by decide +kernel
theorem dX10_foretold_95 : decode cX10_foretold 95 = .ok (.invokevirtual 169, 3) := by decide +kernel
theorem dX10_foretold_98 : decode cX10_foretold 98 = .ok (.invokevirtual 172, 3) := by decide +kernel
theorem dX10_foretold_101 : decode cX10_foretold 101 = .ok (.pop, 1) := by decide +kernel
theorem dX10_foretold_102 : decode cX10_foretold 102 = .ok (.iinc 5 1, 3) := by decide +kernel
theorem dX10_foretold_105 : decode cX10_foretold 105 = .ok (.goto (-36), 3) := by decide +kernel
theorem dX10_foretold_108 : decode cX10_foretold 108 = .ok (.iload_n 3, 1) := by decide +kernel
theorem dX10_foretold_109 : decode cX10_foretold 109 = .ok (.ifCond .ne 13, 3) := by decide +kernel
theorem dX10_foretold_112 : decode cX10_foretold 112 = .ok (.aload_n 0, 1) := by decide +kernel
theorem dX10_foretold_113 : decode cX10_foretold 113 = .ok (.getfield 66, 3) := by decide +kernel
theorem dX10_foretold_116 : decode cX10_foretold 116 = .ok (.getfield 132, 3) := by decide +kernel
theorem dX10_foretold_119 : decode cX10_foretold 119 = .ok (.iload_n 2, 1) := by decide +kernel
theorem dX10_foretold_120 : decode cX10_foretold 120 = .ok (.iaload, 1) := by decide +kernel
theorem dX10_foretold_121 : decode cX10_foretold 121 = .ok (.ireturn, 1) := by decide +kernel
theorem dX10_foretold_122 : decode cX10_foretold 122 = .ok (.iload_n 3, 1) := by decide +kernel
theorem dX10_foretold_123 : decode cX10_foretold 123 = .ok (.iconst 1, 1) := by decide +kernel
theorem dX10_foretold_124 : decode cX10_foretold 124 = .ok (.if_icmp .ne 15, 3) := by decide +kernel
theorem dX10_foretold_127 : decode cX10_foretold 127 = .ok (.aload_n 0, 1) := by decide +kernel
theorem dX10_foretold_128 : decode cX10_foretold 128 = .ok (.getfield 66, 3) := by decide +kernel
theorem dX10_foretold_131 : decode cX10_foretold 131 = .ok (.getfield 191, 3) := by decide +kernel
theorem dX10_foretold_134 : decode cX10_foretold 134 = .ok (.iload_n 2, 1) := by decide +kernel
theorem dX10_foretold_135 : decode cX10_foretold 135 = .ok (.iaload, 1) := by decide +kernel
theorem dX10_foretold_136 : decode cX10_foretold 136 = .ok (.goto 12, 3) := by decide +kernel
theorem dX10_foretold_139 : decode cX10_foretold 139 = .ok (.aload_n 0, 1) := by decide +kernel
theorem dX10_foretold_140 : decode cX10_foretold 140 = .ok (.getfield 66, 3) := by decide +kernel
theorem dX10_foretold_143 : decode cX10_foretold 143 = .ok (.getfield 144, 3) := by decide +kernel
theorem dX10_foretold_146 : decode cX10_foretold 146 = .ok (.iload_n 2, 1) := by decide +kernel
theorem dX10_foretold_147 : decode cX10_foretold 147 = .ok (.iaload, 1) := by decide +kernel
theorem dX10_foretold_148 : decode cX10_foretold 148 = .ok (.ireturn, 1) := by decide +kernel
theorem dX10_put_0 : decode cX10_put 0 = .ok (.aload_n 0, 1) := by decide +kernel
theorem dX10_put_1 : decode cX10_put 1 = .ok (.getfield 10, 3) := by decide +kernel
theorem dX10_put_4 : decode cX10_put 4 = .ok (.getfield 222, 3) := by decide +kernel
theorem dX10_put_7 : decode cX10_put 7 = .ok (.iload_n 1, 1) := by decide +kernel
theorem dX10_put_8 : decode cX10_put 8 = .ok (.invokestatic 226, 3) := by decide +kernel
theorem dX10_put_11 : decode cX10_put 11 = .ok (.ireturn, 1) := by decide +kernel
theorem dX10_may_0 : decode cX10_may 0 = .ok (.iload_n 1, 1) := by decide +kernel
theorem dX10_may_1 : decode cX10_may 1 = .ok (.iconst 0, 1) := by decide +kernel
theorem dX10_may_2 : decode cX10_may 2 = .ok (.sipush 9999, 3) := by decide +kernel
theorem dX10_may_5 : decode cX10_may 5 = .ok (.invokestatic 70, 3) := by decide +kernel
theorem dX10_may_8 : decode cX10_may 8 = .ok (.ifCond .ne 7, 3) := by decide +kernel
theorem dX10_may_11 : decode cX10_may 11 = .ok (.ldc2_w 230, 3) := by decide +kernel
theorem dX10_may_14 : decode cX10_may 14 = .ok (.lreturn, 1) := by decide +kernel
theorem dX10_may_15 : decode cX10_may 15 = .ok (.aload_n 0, 1) := by decide +kernel
theorem dX10_may_16 : decode cX10_may 16 = .ok (.getfield 45, 3) := by decide +kernel
theorem dX10_may_19 : decode cX10_may 19 = .ok (.iload_n 1, 1) := by decide +kernel
theorem dX10_may_20 : decode cX10_may 20 = .ok (.aload_n 0, 1) := by decide +kernel
theorem dX10_may_21 : decode cX10_may 21 = .ok (.getfield 10, 3) := by decide +kernel
theorem dX10_may_24 : decode cX10_may 24 = .ok (.getfield 222, 3) := by decide +kernel
theorem dX10_may_27 : decode cX10_may 27 = .ok (.aload_n 0, 1) := by decide +kernel
theorem dX10_may_28 : decode cX10_may 28 = .ok (.getfield 10, 3) := by decide +kernel
theorem dX10_may_31 : decode cX10_may 31 = .ok (.getfield 81, 3) := by decide +kernel
theorem dX10_may_34 : decode cX10_may 34 = .ok (.iconst 1, 1) := by decide +kernel
theorem dX10_may_35 : decode cX10_may 35 = .ok (.iconst 1, 1) := by decide +kernel
theorem dX10_may_36 : decode cX10_may 36 = .ok (.invokevirtual 232, 3) := by decide +kernel
theorem dX10_may_39 : decode cX10_may 39 = .ok (.i2l, 1) := by decide +kernel
theorem dX10_may_40 : decode cX10_may 40 = .ok (.lreturn, 1) := by decide +kernel
theorem dX10_odds_0 : decode cX10_odds 0 = .ok (.iload_n 1, 1) := by decide +kernel
theorem dX10_odds_1 : decode cX10_odds 1 = .ok (.iconst 0, 1) := by decide +kernel
theorem dX10_odds_2 : decode cX10_odds 2 = .ok (.sipush 9999, 3) := by decide +kernel
theorem dX10_odds_5 : decode cX10_odds 5 = .ok (.invokestatic 70, 3) := by decide +kernel
theorem dX10_odds_8 : decode cX10_odds 8 = .ok (.ifCond .eq 13, 3) := by decide +kernel
theorem dX10_odds_11 : decode cX10_odds 11 = .ok (.iload_n 2, 1) := by decide +kernel
theorem dX10_odds_12 : decode cX10_odds 12 = .ok (.iconst 0, 1) := by decide +kernel
theorem dX10_odds_13 : decode cX10_odds 13 = .ok (.bipush 10, 2) := by decide +kernel
theorem dX10_odds_15 : decode cX10_odds 15 = .ok (.invokestatic 70, 3) := by decide +kernel
theorem dX10_odds_18 : decode cX10_odds 18 = .ok (.ifCond .ne 7, 3) := by decide +kernel
theorem dX10_odds_21 : decode cX10_odds 21 = .ok (.ldc2_w 230, 3) := by decide +kernel
theorem dX10_odds_24 : decode cX10_odds 24 = .ok (.lreturn, 1) := by decide +kernel
theorem dX10_odds_25 : decode cX10_odds 25 = .ok (.aload_n 0, 1) := by decide +kernel
theorem dX10_odds_26 : decode cX10_odds 26 = .ok (.getfield 45, 3) := by decide +kernel
theorem dX10_odds_29 : decode cX10_odds 29 = .ok (.iload_n 1, 1) := by decide +kernel
theorem dX10_odds_30 : decode cX10_odds 30 = .ok (.aload_n 0, 1) := by decide +kernel
theorem dX10_odds_31 : decode cX10_odds 31 = .ok (.getfield 10, 3) := by decide +kernel
theorem dX10_odds_34 : decode cX10_odds 34 = .ok (.getfield 222, 3) := by decide +kernel
theorem dX10_odds_37 : decode cX10_odds 37 = .ok (.aload_n 0, 1) := by decide +kernel
theorem dX10_odds_38 : decode cX10_odds 38 = .ok (.getfield 10, 3) := by decide +kernel
theorem dX10_odds_41 : decode cX10_odds 41 = .ok (.getfield 81, 3) := by decide +kernel
theorem dX10_odds_44 : decode cX10_odds 44 = .ok (.iload_n 2, 1) := by decide +kernel
theorem dX10_odds_45 : decode cX10_odds 45 = .ok (.invokevirtual 236, 3) := by decide +kernel
theorem dX10_odds_48 : decode cX10_odds 48 = .ok (.istore 4, 2) := by decide +kernel
theorem dX10_odds_50 : decode cX10_odds 50 = .ok (.iload 4, 2) := by decide +kernel
theorem dX10_odds_52 : decode cX10_odds 52 = .ok (.sipush 10000, 3) := by decide +kernel
theorem dX10_odds_55 : decode cX10_odds 55 = .ok (.invokestatic 240, 3) := by decide +kernel
theorem dX10_odds_58 : decode cX10_odds 58 = .ok (.istore 5, 2) := by decide +kernel
theorem dX10_odds_60 : decode cX10_odds 60 = .ok (.iload_n 3, 1) := by decide +kernel
theorem dX10_odds_61 : decode cX10_odds 61 = .ok (.ifCond .eq 9, 3) := by decide +kernel
theorem dX10_odds_64 : decode cX10_odds 64 = .ok (.sipush 10000, 3) := by decide +kernel
theorem dX10_odds_67 : decode cX10_odds 67 = .ok (.goto 5, 3) := by decide +kernel
theorem dX10_odds_70 : decode cX10_odds 70 = .ok (.iload 4, 2) := by decide +kernel
theorem dX10_odds_72 : decode cX10_odds 72 = .ok (.iload 5, 2) := by decide +kernel
theorem dX10_odds_74 : decode cX10_odds 74 = .ok (.idiv, 1) := by decide +kernel
theorem dX10_odds_75 : decode cX10_odds 75 = .ok (.i2l, 1) := by decide +kernel
theorem dX10_odds_76 : decode cX10_odds 76 = .ok (.lreturn, 1) := by decide +kernel
theorem dX10_day_0 : decode cX10_day 0 = .ok (.iload_n 1, 1) := by decide +kernel
theorem dX10_day_1 : decode cX10_day 1 = .ok (.iconst (-1), 1) := by decide +kernel
theorem dX10_day_2 : decode cX10_day 2 = .ok (.if_icmp .ne 16, 3) := by decide +kernel
theorem dX10_day_5 : decode cX10_day 5 = .ok (.aload_n 0, 1) := by decide +kernel
theorem dX10_day_6 : decode cX10_day 6 = .ok (.getfield 10, 3) := by decide +kernel
theorem dX10_day_9 : decode cX10_day 9 = .ok (.getfield 243, 3) := by decide +kernel
theorem dX10_day_12 : decode cX10_day 12 = .ok (.iconst 0, 1) := by decide +kernel
theorem dX10_day_13 : decode cX10_day 13 = .ok (.putfield 246, 3) := by decide +kernel
theorem dX10_day_16 : decode cX10_day 16 = .ok (.iconst 0, 1) := by decide +kernel
theorem dX10_day_17 : decode cX10_day 17 = .ok (.ireturn, 1) := by decide +kernel
theorem dX10_day_18 : decode cX10_day 18 = .ok (.iload_n 1, 1) := by decide +kernel
theorem dX10_day_19 : decode cX10_day 19 = .ok (.iconst 0, 1) := by decide +kernel
theorem dX10_day_20 : decode cX10_day 20 = .ok (.sipush 9999, 3) := by decide +kernel
theorem dX10_day_23 : decode cX10_day 23 = .ok (.invokestatic 70, 3) := by decide +kernel
theorem dX10_day_26 : decode cX10_day 26 = .ok (.ifCond .eq 17, 3) := by decide +kernel
theorem dX10_day_29 : decode cX10_day 29 = .ok (.aload_n 0, 1) := by decide +kernel
theorem dX10_day_30 : decode cX10_day 30 = .ok (.getfield 10, 3) := by decide +kernel
theorem dX10_day_33 : decode cX10_day 33 = .ok (.getfield 243, 3) := by decide +kernel
theorem dX10_day_36 : decode cX10_day 36 = .ok (.iload_n 1, 1) := by decide +kernel
theorem dX10_day_37 : decode cX10_day 37 = .ok (.invokevirtual 251, 3) := by decide +kernel
theorem dX10_day_40 : decode cX10_day 40 = .ok (.ifCond .ne 6, 3) := by decide +kernel
theorem dX10_day_43 : decode cX10_day 43 = .ok (.bipush (-2), 2) := by decide +kernel
theorem dX10_day_45 : decode cX10_day 45 = .ok (.ireturn, 1) := by decide +kernel
theorem dX10_day_46 : decode cX10_day 46 = .ok (.aload_n 0, 1) := by decide +kernel
theorem dX10_day_47 : decode cX10_day 47 = .ok (.getfield 10, 3) := by decide +kernel
theorem dX10_day_50 : decode cX10_day 50 = .ok (.getfield 243, 3) := by decide +kernel
theorem dX10_day_53 : decode cX10_day 53 = .ok (.getfield 246, 3) := by decide +kernel
theorem dX10_day_56 : decode cX10_day 56 = .ok (.ireturn, 1) := by decide +kernel
theorem dX10_fits_0 : decode cX10_fits 0 = .ok (.iconst 0, 1) := by decide +kernel
theorem dX10_fits_1 : decode cX10_fits 1 = .ok (.istore_n 1, 1) := by decide +kernel
theorem dX10_fits_2 : decode cX10_fits 2 = .ok (.iconst 0, 1) := by decide +kernel
theorem dX10_fits_3 : decode cX10_fits 3 = .ok (.istore_n 2, 1) := by decide +kernel
theorem dX10_fits_4 : decode cX10_fits 4 = .ok (.iload_n 2, 1) := by decide +kernel
theorem dX10_fits_5 : decode cX10_fits 5 = .ok (.aload_n 0, 1) := by decide +kernel
theorem dX10_fits_6 : decode cX10_fits 6 = .ok (.getfield 10, 3) := by decide +kernel
theorem dX10_fits_9 : decode cX10_fits 9 = .ok (.getfield 243, 3) := by decide +kernel
theorem dX10_fits_12 : decode cX10_fits 12 = .ok (.getfield 246, 3) := by decide +kernel
theorem dX10_fits_15 : decode cX10_fits 15 = .ok (.if_icmp .ge 52, 3) := by decide +kernel
theorem dX10_fits_18 : decode cX10_fits 18 = .ok (.aload_n 0, 1) := by decide +kernel
theorem dX10_fits_19 : decode cX10_fits 19 = .ok (.getfield 45, 3) := by decide +kernel
theorem dX10_fits_22 : decode cX10_fits 22 = .ok (.aload_n 0, 1) := by decide +kernel
theorem dX10_fits_23 : decode cX10_fits 23 = .ok (.getfield 10, 3) := by decide +kernel
theorem dX10_fits_26 : decode cX10_fits 26 = .ok (.getfield 243, 3) := by decide +kernel
theorem dX10_fits_29 : decode cX10_fits 29 = .ok (.iload_n 2, 1) := by decide +kernel
theorem dX10_fits_30 : decode cX10_fits 30 = .ok (.invokevirtual 253, 3) := by decide +kernel
theorem dX10_fits_33 : decode cX10_fits 33 = .ok (.aload_n 0, 1) := by decide +kernel
theorem dX10_fits_34 : decode cX10_fits 34 = .ok (.getfield 10, 3) := by decide +kernel
theorem dX10_fits_37 : decode cX10_fits 37 = .ok (.getfield 222, 3) := by decide +kernel
theorem dX10_fits_40 : decode cX10_fits 40 = .ok (.aload_n 0, 1) := by decide +kernel
theorem dX10_fits_41 : decode cX10_fits 41 = .ok (.getfield 10, 3) := by decide +kernel
theorem dX10_fits_44 : decode cX10_fits 44 = .ok (.getfield 81, 3) := by decide +kernel
theorem dX10_fits_47 : decode cX10_fits 47 = .ok (.iconst 1, 1) := by decide +kernel
theorem dX10_fits_48 : decode cX10_fits 48 = .ok (.iconst 1, 1) := by decide +kernel
theorem dX10_fits_49 : decode cX10_fits 49 = .ok (.invokevirtual 232, 3) := by decide +kernel
theorem dX10_fits_52 : decode cX10_fits 52 = .ok (.ifCond .le 9, 3) := by decide +kernel
theorem dX10_fits_55 : decode cX10_fits 55 = .ok (.iload_n 1, 1) := by decide +kernel
theorem dX10_fits_56 : decode cX10_fits 56 = .ok (.iconst 1, 1) := by decide +kernel
theorem dX10_fits_57 : decode cX10_fits 57 = .ok (.iload_n 2, 1) := by decide +kernel
theorem dX10_fits_58 : decode cX10_fits 58 = .ok (.ishl, 1) := by decide +kernel
theorem dX10_fits_59 : decode cX10_fits 59 = .ok (.ior, 1) := by decide +kernel
theorem dX10_fits_60 : decode cX10_fits 60 = .ok (.istore_n 1, 1) := by decide +kernel
theorem dX10_fits_61 : decode cX10_fits 61 = .ok (.iinc 2 1, 3) := by decide +kernel
theorem dX10_fits_64 : decode cX10_fits 64 = .ok (.goto (-60), 3) := by decide +kernel
theorem dX10_fits_67 : decode cX10_fits 67 = .ok (.iload_n 1, 1) := by decide +kernel
theorem dX10_fits_68 : decode cX10_fits 68 = .ok (.ireturn, 1) := by decide +kernel
theorem dX10_likeliest_0 : decode cX10_likeliest 0 = .ok (.iload_n 1, 1) := by decide +kernel
theorem dX10_likeliest_1 : decode cX10_likeliest 1 = .ok (.iconst 0, 1) := by decide +kernel
theorem dX10_likeliest_2 : decode cX10_likeliest 2 = .ok (.bipush 10, 2) := by decide +kernel
theorem dX10_likeliest_4 : decode cX10_likeliest 4 = .ok (.invokestatic 70, 3) := by decide +kernel
theorem dX10_likeliest_7 : decode cX10_likeliest 7 = .ok (.ifCond .ne 5, 3) := by decide +kernel
theorem dX10_likeliest_10 : decode cX10_likeliest 10 = .ok (.iconst (-1), 1) := by decide +kernel
theorem dX10_likeliest_11 : decode cX10_likeliest 11 = .ok (.ireturn, 1) := by decide +kernel
theorem dX10_likeliest_12 : decode cX10_likeliest 12 = .ok (.iconst (-1), 1) := by decide +kernel
theorem dX10_likeliest_13 : decode cX10_likeliest 13 = .ok (.istore_n 2, 1) := by decide +kernel
theorem dX10_likeliest_14 : decode cX10_likeliest 14 = .ok (.iconst 0, 1) := by decide +kernel
theorem dX10_likeliest_15 : decode cX10_likeliest 15 = .ok (.istore_n 3, 1) := by decide +kernel
theorem dX10_likeliest_16 : decode cX10_likeliest 16 = .ok (.iconst 0, 1) := by decide +kernel
theorem dX10_likeliest_17 : decode cX10_likeliest 17 = .ok (.istore 4, 2) := by decide +kernel
theorem dX10_likeliest_19 : decode cX10_likeliest 19 = .ok (.iload 4, 2) := by decide +kernel
theorem dX10_likeliest_21 : decode cX10_likeliest 21 = .ok (.aload_n 0, 1) := by decide +kernel
theorem dX10_likeliest_22 : decode cX10_likeliest 22 = .ok (.getfield 10, 3) := by decide +kernel
theorem dX10_likeliest_25 : decode cX10_likeliest 25 = .ok (.getfield 243, 3) := by decide +kernel
theorem dX10_likeliest_28 : decode cX10_likeliest 28 = .ok (.getfield 246, 3) := by decide +kernel
theorem dX10_likeliest_31 : decode cX10_likeliest 31 = .ok (.if_icmp .ge 57, 3) := by decide +kernel
theorem dX10_likeliest_34 : decode cX10_likeliest 34 = .ok (.aload_n 0, 1) := by decide +kernel
theorem dX10_likeliest_35 : decode cX10_likeliest 35 = .ok (.getfield 45, 3) := by decide +kernel
theorem dX10_likeliest_38 : decode cX10_likeliest 38 = .ok (.aload_n 0, 1) := by decide +kernel
theorem dX10_likeliest_39 : decode cX10_likeliest 39 = .ok (.getfield 10, 3) := by decide +kernel
theorem dX10_likeliest_42 : decode cX10_likeliest 42 = .ok (.getfield 243, 3) := by decide +kernel
theorem dX10_likeliest_45 : decode cX10_likeliest 45 = .ok (.iload 4, 2) := by decide +kernel
theorem dX10_likeliest_47 : decode cX10_likeliest 47 = .ok (.invokevirtual 253, 3) := by decide +kernel
theorem dX10_likeliest_50 : decode cX10_likeliest 50 = .ok (.aload_n 0, 1) := by decide +kernel
theorem dX10_likeliest_51 : decode cX10_likeliest 51 = .ok (.getfield 10, 3) := by decide +kernel
theorem dX10_likeliest_54 : decode cX10_likeliest 54 = .ok (.getfield 222, 3) := by decide +kernel
theorem dX10_likeliest_57 : decode cX10_likeliest 57 = .ok (.aload_n 0, 1) := by decide +kernel
theorem dX10_likeliest_58 : decode cX10_likeliest 58 = .ok (.getfield 10, 3) := by decide +kernel
theorem dX10_likeliest_61 : decode cX10_likeliest 61 = .ok (.getfield 81, 3) := by decide +kernel
theorem dX10_likeliest_64 : decode cX10_likeliest 64 = .ok (.iload_n 1, 1) := by decide +kernel
theorem dX10_likeliest_65 : decode cX10_likeliest 65 = .ok (.invokevirtual 236, 3) := by decide +kernel
theorem dX10_likeliest_68 : decode cX10_likeliest 68 = .ok (.istore 5, 2) := by decide +kernel
theorem dX10_likeliest_70 : decode cX10_likeliest 70 = .ok (.iload 5, 2) := by decide +kernel
theorem dX10_likeliest_72 : decode cX10_likeliest 72 = .ok (.iload_n 3, 1) := by decide +kernel
theorem dX10_likeliest_73 : decode cX10_likeliest 73 = .ok (.if_icmp .le 9, 3) := by decide +kernel
theorem dX10_likeliest_76 : decode cX10_likeliest 76 = .ok (.iload 5, 2) := by decide +kernel
theorem dX10_likeliest_78 : decode cX10_likeliest 78 = .ok (.istore_n 3, 1) := by decide +kernel
theorem dX10_likeliest_79 : decode cX10_likeliest 79 = .ok (.iload 4, 2) := by decide +kernel
theorem dX10_likeliest_81 : decode cX10_likeliest 81 = .ok (.istore_n 2, 1) := by decide +kernel
theorem dX10_likeliest_82 : decode cX10_likeliest 82 = .ok (.iinc 4 1, 3) := by decide +kernel
theorem dX10_likeliest_85 : decode cX10_likeliest 85 = .ok (.goto (-66), 3) := by decide +kernel
theorem dX10_likeliest_88 : decode cX10_likeliest 88 = .ok (.iload_n 2, 1) := by decide +kernel
theorem dX10_likeliest_89 : decode cX10_likeliest 89 = .ok (.ireturn, 1) := by decide +kernel
theorem dX10_add_0 : decode cX10_add 0 = .ok (.aload_n 0, 1) := by decide +kernel
theorem dX10_add_1 : decode cX10_add 1 = .ok (.getfield 45, 3) := by decide +kernel
theorem dX10_add_4 : decode cX10_add 4 = .ok (.aload_n 0, 1) := by decide +kernel
theorem dX10_add_5 : decode cX10_add 5 = .ok (.getfield 10, 3) := by decide +kernel
theorem dX10_add_8 : decode cX10_add 8 = .ok (.getfield 222, 3) := by decide +kernel
theorem dX10_add_11 : decode cX10_add 11 = .ok (.aload_n 0, 1) := by decide +kernel
theorem dX10_add_12 : decode cX10_add 12 = .ok (.getfield 10, 3) := by decide +kernel
theorem dX10_add_15 : decode cX10_add 15 = .ok (.getfield 81, 3) := by decide +kernel
theorem dX10_add_18 : decode cX10_add 18 = .ok (.invokevirtual 256, 3) := by decide +kernel
theorem dX10_add_21 : decode cX10_add 21 = .ok (.iload_n 1, 1) := by decide +kernel
theorem dX10_add_22 : decode cX10_add 22 = .ok (.iconst (-1), 1) := by decide +kernel
theorem dX10_add_23 : decode cX10_add 23 = .ok (.if_icmp .ne 32, 3) := by decide +kernel
theorem dX10_add_26 : decode cX10_add 26 = .ok (.aload_n 0, 1) := by decide +kernel
theorem dX10_add_27 : decode cX10_add 27 = .ok (.getfield 45, 3) := by decide +kernel
theorem dX10_add_30 : decode cX10_add 30 = .ok (.getfield 260, 3) := by decide +kernel
theorem dX10_add_33 : decode cX10_add 33 = .ok (.getfield 246, 3) := by decide +kernel
theorem dX10_add_36 : decode cX10_add 36 = .ok (.ifCond .le 16, 3) := by decide +kernel
theorem dX10_add_39 : decode cX10_add 39 = .ok (.aload_n 0, 1) := by decide +kernel
theorem dX10_add_40 : decode cX10_add 40 = .ok (.getfield 45, 3) := by decide +kernel
theorem dX10_add_43 : decode cX10_add 43 = .ok (.getfield 260, 3) := by decide +kernel
theorem dX10_add_46 : decode cX10_add 46 = .ok (.getfield 246, 3) := by decide +kernel
theorem dX10_add_49 : decode cX10_add 49 = .ok (.goto 5, 3) := by decide +kernel
theorem dX10_add_52 : decode cX10_add 52 = .ok (.bipush (-2), 2) := by decide +kernel
theorem dX10_add_54 : decode cX10_add 54 = .ok (.ireturn, 1) := by decide +kernel
theorem dX10_add_55 : decode cX10_add 55 = .ok (.aload_n 0, 1) := by decide +kernel
theorem dX10_add_56 : decode cX10_add 56 = .ok (.getfield 45, 3) := by decide +kernel
theorem dX10_add_59 : decode cX10_add 59 = .ok (.getfield 260, 3) := by decide +kernel
theorem dX10_add_62 : decode cX10_add 62 = .ok (.iload_n 1, 1) := by decide +kernel
theorem dX10_add_63 : decode cX10_add 63 = .ok (.invokevirtual 263, 3) := by decide +kernel
theorem dX10_add_66 : decode cX10_add 66 = .ok (.ifCond .eq 17, 3) := by decide +kernel
theorem dX10_add_69 : decode cX10_add 69 = .ok (.aload_n 0, 1) := by decide +kernel
theorem dX10_add_70 : decode cX10_add 70 = .ok (.getfield 45, 3) := by decide +kernel
theorem dX10_add_73 : decode cX10_add 73 = .ok (.getfield 260, 3) := by decide +kernel
theorem dX10_add_76 : decode cX10_add 76 = .ok (.iload_n 1, 1) := by decide +kernel
theorem dX10_add_77 : decode cX10_add 77 = .ok (.invokevirtual 253, 3) := by decide +kernel
theorem dX10_add_80 : decode cX10_add 80 = .ok (.goto 5, 3) := by decide +kernel
theorem dX10_add_83 : decode cX10_add 83 = .ok (.bipush (-2), 2) := by decide +kernel
theorem dX10_add_85 : decode cX10_add 85 = .ok (.ireturn, 1) := by decide +kernel
theorem dX10_second_0 : decode cX10_second 0 = .ok (.aload_n 0, 1) := by decide +kernel
theorem dX10_second_1 : decode cX10_second 1 = .ok (.getfield 10, 3) := by decide +kernel
theorem dX10_second_4 : decode cX10_second 4 = .ok (.getfield 264, 3) := by decide +kernel
theorem dX10_second_7 : decode cX10_second 7 = .ok (.iload_n 1, 1) := by decide +kernel
theorem dX10_second_8 : decode cX10_second 8 = .ok (.invokestatic 226, 3) := by decide +kernel
theorem dX10_second_11 : decode cX10_second 11 = .ok (.ireturn, 1) := by decide +kernel
theorem dX10_duet_0 : decode cX10_duet 0 = .ok (.iload_n 1, 1) := by decide +kernel
theorem dX10_duet_1 : decode cX10_duet 1 = .ok (.iconst 0, 1) := by decide +kernel
theorem dX10_duet_2 : decode cX10_duet 2 = .ok (.sipush 9999, 3) := by decide +kernel
theorem dX10_duet_5 : decode cX10_duet 5 = .ok (.invokestatic 70, 3) := by decide +kernel
theorem dX10_duet_8 : decode cX10_duet 8 = .ok (.ifCond .eq 14, 3) := by decide +kernel
theorem dX10_duet_11 : decode cX10_duet 11 = .ok (.iload_n 2, 1) := by decide +kernel
theorem dX10_duet_12 : decode cX10_duet 12 = .ok (.iconst 0, 1) := by decide +kernel
theorem dX10_duet_13 : decode cX10_duet 13 = .ok (.sipush 9999, 3) := by decide +kernel
theorem dX10_duet_16 : decode cX10_duet 16 = .ok (.invokestatic 70, 3) := by decide +kernel
theorem dX10_duet_19 : decode cX10_duet 19 = .ok (.ifCond .ne 5, 3) := by decide +kernel
theorem dX10_duet_22 : decode cX10_duet 22 = .ok (.iconst (-1), 1) := by decide +kernel
theorem dX10_duet_23 : decode cX10_duet 23 = .ok (.ireturn, 1) := by decide +kernel
theorem dX10_duet_24 : decode cX10_duet 24 = .ok (.aload_n 0, 1) := by decide +kernel
theorem dX10_duet_25 : decode cX10_duet 25 = .ok (.getfield 45, 3) := by decide +kernel
theorem dX10_duet_28 : decode cX10_duet 28 = .ok (.iload_n 1, 1) := by decide +kernel
theorem dX10_duet_29 : decode cX10_duet 29 = .ok (.iload_n 2, 1) := by decide +kernel
theorem dX10_duet_30 : decode cX10_duet 30 = .ok (.aload_n 0, 1) := by decide +kernel
theorem dX10_duet_31 : decode cX10_duet 31 = .ok (.getfield 10, 3) := by decide +kernel
theorem dX10_duet_34 : decode cX10_duet 34 = .ok (.getfield 222, 3) := by decide +kernel
theorem dX10_duet_37 : decode cX10_duet 37 = .ok (.invokevirtual 267, 3) := by decide +kernel
theorem dX10_duet_40 : decode cX10_duet 40 = .ok (.ireturn, 1) := by decide +kernel
theorem dX10_common_0 : decode cX10_common 0 = .ok (.aload_n 0, 1) := by decide +kernel
theorem dX10_common_1 : decode cX10_common 1 = .ok (.getfield 45, 3) := by decide +kernel
theorem dX10_common_4 : decode cX10_common 4 = .ok (.aload_n 0, 1) := by decide +kernel
theorem dX10_common_5 : decode cX10_common 5 = .ok (.getfield 10, 3) := by decide +kernel
theorem dX10_common_8 : decode cX10_common 8 = .ok (.getfield 222, 3) := by decide +kernel
theorem dX10_common_11 : decode cX10_common 11 = .ok (.aload_n 0, 1) := by decide +kernel
theorem dX10_common_12 : decode cX10_common 12 = .ok (.getfield 10, 3) := by decide +kernel
theorem dX10_common_15 : decode cX10_common 15 = .ok (.getfield 264, 3) := by decide +kernel
theorem dX10_common_18 : decode cX10_common 18 = .ok (.invokevirtual 271, 3) := by decide +kernel
theorem dX10_common_21 : decode cX10_common 21 = .ok (.iload_n 1, 1) := by decide +kernel
theorem dX10_common_22 : decode cX10_common 22 = .ok (.iconst (-1), 1) := by decide +kernel
theorem dX10_common_23 : decode cX10_common 23 = .ok (.if_icmp .ne 14, 3) := by decide +kernel
theorem dX10_common_26 : decode cX10_common 26 = .ok (.aload_n 0, 1) := by decide +kernel
theorem dX10_common_27 : decode cX10_common 27 = .ok (.getfield 45, 3) := by decide +kernel
theorem dX10_common_30 : decode cX10_common 30 = .ok (.getfield 260, 3) := by decide +kernel
theorem dX10_common_33 : decode cX10_common 33 = .ok (.getfield 246, 3) := by decide +kernel
theorem dX10_common_36 : decode cX10_common 36 = .ok (.ireturn, 1) := by decide +kernel
theorem dX10_common_37 : decode cX10_common 37 = .ok (.aload_n 0, 1) := by decide +kernel
theorem dX10_common_38 : decode cX10_common 38 = .ok (.getfield 45, 3) := by decide +kernel
theorem dX10_common_41 : decode cX10_common 41 = .ok (.getfield 260, 3) := by decide +kernel
theorem dX10_common_44 : decode cX10_common 44 = .ok (.iload_n 1, 1) := by decide +kernel
theorem dX10_common_45 : decode cX10_common 45 = .ok (.invokevirtual 263, 3) := by decide +kernel
theorem dX10_common_48 : decode cX10_common 48 = .ok (.ifCond .eq 17, 3) := by decide +kernel
theorem dX10_common_51 : decode cX10_common 51 = .ok (.aload_n 0, 1) := by decide +kernel
theorem dX10_common_52 : decode cX10_common 52 = .ok (.getfield 45, 3) := by decide +kernel
theorem dX10_common_55 : decode cX10_common 55 = .ok (.getfield 260, 3) := by decide +kernel
theorem dX10_common_58 : decode cX10_common 58 = .ok (.iload_n 1, 1) := by decide +kernel
theorem dX10_common_59 : decode cX10_common 59 = .ok (.invokevirtual 253, 3) := by decide +kernel
theorem dX10_common_62 : decode cX10_common 62 = .ok (.goto 5, 3) := by decide +kernel
theorem dX10_common_65 : decode cX10_common 65 = .ok (.bipush (-2), 2) := by decide +kernel
theorem dX10_common_67 : decode cX10_common 67 = .ok (.ireturn, 1) := by decide +kernel
theorem dX10_apart_0 : decode cX10_apart 0 = .ok (.aload_n 0, 1) := by decide +kernel
theorem dX10_apart_1 : decode cX10_apart 1 = .ok (.getfield 45, 3) := by decide +kernel
theorem dX10_apart_4 : decode cX10_apart 4 = .ok (.aload_n 0, 1) := by decide +kernel
theorem dX10_apart_5 : decode cX10_apart 5 = .ok (.getfield 10, 3) := by decide +kernel
theorem dX10_apart_8 : decode cX10_apart 8 = .ok (.getfield 222, 3) := by decide +kernel
theorem dX10_apart_11 : decode cX10_apart 11 = .ok (.aload_n 0, 1) := by decide +kernel
theorem dX10_apart_12 : decode cX10_apart 12 = .ok (.getfield 10, 3) := by decide +kernel
theorem dX10_apart_15 : decode cX10_apart 15 = .ok (.getfield 264, 3) := by decide +kernel
theorem dX10_apart_18 : decode cX10_apart 18 = .ok (.invokevirtual 275, 3) := by decide +kernel
theorem dX10_apart_21 : decode cX10_apart 21 = .ok (.ireturn, 1) := by decide +kernel
theorem dX10_grows_0 : decode cX10_grows 0 = .ok (.iload_n 1, 1) := by decide +kernel
theorem dX10_grows_1 : decode cX10_grows 1 = .ok (.iconst 0, 1) := by decide +kernel
theorem dX10_grows_2 : decode cX10_grows 2 = .ok (.sipush 9999, 3) := by decide +kernel
theorem dX10_grows_5 : decode cX10_grows 5 = .ok (.invokestatic 70, 3) := by decide +kernel
theorem dX10_grows_8 : decode cX10_grows 8 = .ok (.ifCond .eq 13, 3) := by decide +kernel
theorem dX10_grows_11 : decode cX10_grows 11 = .ok (.iload_n 2, 1) := by decide +kernel
theorem dX10_grows_12 : decode cX10_grows 12 = .ok (.iconst 0, 1) := by decide +kernel
theorem dX10_grows_13 : decode cX10_grows 13 = .ok (.bipush 12, 2) := by decide +kernel
theorem dX10_grows_15 : decode cX10_grows 15 = .ok (.invokestatic 70, 3) := by decide +kernel
theorem dX10_grows_18 : decode cX10_grows 18 = .ok (.ifCond .ne 5, 3) := by decide +kernel
theorem dX10_grows_21 : decode cX10_grows 21 = .ok (.iconst (-1), 1) := by decide +kernel
theorem dX10_grows_22 : decode cX10_grows 22 = .ok (.ireturn, 1) := by decide +kernel
theorem dX10_grows_23 : decode cX10_grows 23 = .ok (.aload_n 0, 1) := by decide +kernel
theorem dX10_grows_24 : decode cX10_grows 24 = .ok (.getfield 45, 3) := by decide +kernel
theorem dX10_grows_27 : decode cX10_grows 27 = .ok (.iload_n 1, 1) := by decide +kernel
theorem dX10_grows_28 : decode cX10_grows 28 = .ok (.iload_n 2, 1) := by decide +kernel
theorem dX10_grows_29 : decode cX10_grows 29 = .ok (.aload_n 0, 1) := by decide +kernel
theorem dX10_grows_30 : decode cX10_grows 30 = .ok (.getfield 10, 3) := by decide +kernel
theorem dX10_grows_33 : decode cX10_grows 33 = .ok (.getfield 81, 3) := by decide +kernel
theorem dX10_grows_36 : decode cX10_grows 36 = .ok (.invokevirtual 279, 3) := by decide +kernel
theorem dX10_grows_39 : decode cX10_grows 39 = .ok (.ireturn, 1) := by decide +kernel
theorem dX10_stays_0 : decode cX10_stays 0 = .ok (.iconst 0, 1) := by decide +kernel
theorem dX10_stays_1 : decode cX10_stays 1 = .ok (.istore_n 2, 1) := by decide +kernel
theorem dX10_stays_2 : decode cX10_stays 2 = .ok (.iconst 0, 1) := by decide +kernel
theorem dX10_stays_3 : decode cX10_stays 3 = .ok (.istore_n 3, 1) := by decide +kernel
theorem dX10_stays_4 : decode cX10_stays 4 = .ok (.iload_n 3, 1) := by decide +kernel
theorem dX10_stays_5 : decode cX10_stays 5 = .ok (.bipush 10, 2) := by decide +kernel
theorem dX10_stays_7 : decode cX10_stays 7 = .ok (.if_icmp .ge 24, 3) := by decide +kernel
theorem dX10_stays_10 : decode cX10_stays 10 = .ok (.aload_n 0, 1) := by decide +kernel
theorem dX10_stays_11 : decode cX10_stays 11 = .ok (.iload_n 3, 1) := by decide +kernel
theorem dX10_stays_12 : decode cX10_stays 12 = .ok (.iload_n 1, 1) := by decide +kernel
theorem dX10_stays_13 : decode cX10_stays 13 = .ok (.invokevirtual 283, 3) := by decide +kernel
theorem dX10_stays_16 : decode cX10_stays 16 = .ok (.ifCond .eq 9, 3) := by decide +kernel
theorem dX10_stays_19 : decode cX10_stays 19 = .ok (.iload_n 2, 1) := by decide +kernel
theorem dX10_stays_20 : decode cX10_stays 20 = .ok (.iconst 1, 1) := by decide +kernel
theorem dX10_stays_21 : decode cX10_stays 21 = .ok (.iload_n 3, 1) := by decide +kernel
theorem dX10_stays_22 : decode cX10_stays 22 = .ok (.ishl, 1) := by decide +kernel
theorem dX10_stays_23 : decode cX10_stays 23 = .ok (.ior, 1) := by decide +kernel
theorem dX10_stays_24 : decode cX10_stays 24 = .ok (.istore_n 2, 1) := by decide +kernel
theorem dX10_stays_25 : decode cX10_stays 25 = .ok (.iinc 3 1, 3) := by decide +kernel
theorem dX10_stays_28 : decode cX10_stays 28 = .ok (.goto (-24), 3) := by decide +kernel
theorem dX10_stays_31 : decode cX10_stays 31 = .ok (.iload_n 2, 1) := by decide +kernel
theorem dX10_stays_32 : decode cX10_stays 32 = .ok (.ireturn, 1) := by decide +kernel
theorem dX10_likes_0 : decode cX10_likes 0 = .ok (.iload_n 2, 1) := by decide +kernel
theorem dX10_likes_1 : decode cX10_likes 1 = .ok (.iconst 0, 1) := by decide +kernel
theorem dX10_likes_2 : decode cX10_likes 2 = .ok (.iconst 4, 1) := by decide +kernel
theorem dX10_likes_3 : decode cX10_likes 3 = .ok (.invokestatic 70, 3) := by decide +kernel
theorem dX10_likes_6 : decode cX10_likes 6 = .ok (.ifCond .eq 23, 3) := by decide +kernel
theorem dX10_likes_9 : decode cX10_likes 9 = .ok (.iload_n 3, 1) := by decide +kernel
theorem dX10_likes_10 : decode cX10_likes 10 = .ok (.iconst 0, 1) := by decide +kernel
theorem dX10_likes_11 : decode cX10_likes 11 = .ok (.iconst 4, 1) := by decide +kernel
theorem dX10_likes_12 : decode cX10_likes 12 = .ok (.invokestatic 70, 3) := by decide +kernel
theorem dX10_likes_15 : decode cX10_likes 15 = .ok (.ifCond .eq 14, 3) := by decide +kernel
theorem dX10_likes_18 : decode cX10_likes 18 = .ok (.iload 4, 2) := by decide +kernel
theorem dX10_likes_20 : decode cX10_likes 20 = .ok (.iconst 0, 1) := by decide +kernel
theorem dX10_likes_21 : decode cX10_likes 21 = .ok (.bipush 9, 2) := by decide +kernel
theorem dX10_likes_23 : decode cX10_likes 23 = .ok (.invokestatic 70, 3) := by decide +kernel
theorem dX10_likes_26 : decode cX10_likes 26 = .ok (.ifCond .ne 5, 3) := by decide +kernel
theorem dX10_likes_29 : decode cX10_likes 29 = .ok (.iconst 0, 1) := by decide +kernel
theorem dX10_likes_30 : decode cX10_likes 30 = .ok (.ireturn, 1) := by decide +kernel
theorem dX10_likes_31 : decode cX10_likes 31 = .ok (.iload_n 1, 1) := by decide +kernel
theorem dX10_likes_32 : decode cX10_likes 32 = .ok (.ifCond .eq 13, 3) := by decide +kernel
theorem dX10_likes_35 : decode cX10_likes 35 = .ok (.aload_n 0, 1) := by decide +kernel
theorem dX10_likes_36 : decode cX10_likes 36 = .ok (.getfield 10, 3) := by decide +kernel
theorem dX10_likes_39 : decode cX10_likes 39 = .ok (.getfield 287, 3) := by decide +kernel
theorem dX10_likes_42 : decode cX10_likes 42 = .ok (.goto 10, 3) := by decide +kernel
theorem dX10_likes_45 : decode cX10_likes 45 = .ok (.aload_n 0, 1) := by decide +kernel
theorem dX10_likes_46 : decode cX10_likes 46 = .ok (.getfield 10, 3) := by decide +kernel
theorem dX10_likes_49 : decode cX10_likes 49 = .ok (.getfield 290, 3) := by decide +kernel
theorem dX10_likes_52 : decode cX10_likes 52 = .ok (.astore 5, 2) := by decide +kernel
theorem dX10_likes_54 : decode cX10_likes 54 = .ok (.aload 5, 2) := by decide +kernel
theorem dX10_likes_56 : decode cX10_likes 56 = .ok (.iload_n 2, 1) := by decide +kernel
theorem dX10_likes_57 : decode cX10_likes 57 = .ok (.iconst 5, 1) := by decide +kernel
theorem dX10_likes_58 : decode cX10_likes 58 = .ok (.imul, 1) := by decide +kernel
theorem dX10_likes_59 : decode cX10_likes 59 = .ok (.iload_n 3, 1) := by decide +kernel
theorem dX10_likes_60 : decode cX10_likes 60 = .ok (.iadd, 1) := by decide +kernel
theorem dX10_likes_61 : decode cX10_likes 61 = .ok (.iload 4, 2) := by decide +kernel
theorem dX10_likes_63 : decode cX10_likes 63 = .ok (.iastore, 1) := by decide +kernel
theorem dX10_likes_64 : decode cX10_likes 64 = .ok (.iconst 1, 1) := by decide +kernel
theorem dX10_likes_65 : decode cX10_likes 65 = .ok (.ireturn, 1) := by decide +kernel
theorem dX10_paired_0 : decode cX10_paired 0 = .ok (.iload_n 1, 1) := by decide +kernel
theorem dX10_paired_1 : decode cX10_paired 1 = .ok (.iconst 0, 1) := by decide +kernel
theorem dX10_paired_2 : decode cX10_paired 2 = .ok (.iconst 4, 1) := by decide +kernel
theorem dX10_paired_3 : decode cX10_paired 3 = .ok (.invokestatic 70, 3) := by decide +kernel
theorem dX10_paired_6 : decode cX10_paired 6 = .ok (.ifCond .ne 5, 3) := by decide +kernel
theorem dX10_paired_9 : decode cX10_paired 9 = .ok (.iconst (-1), 1) := by decide +kernel
theorem dX10_paired_10 : decode cX10_paired 10 = .ok (.ireturn, 1) := by decide +kernel
theorem dX10_paired_11 : decode cX10_paired 11 = .ok (.aload_n 0, 1) := by decide +kernel
theorem dX10_paired_12 : decode cX10_paired 12 = .ok (.getfield 52, 3) := by decide +kernel
theorem dX10_paired_15 : decode cX10_paired 15 = .ok (.aload_n 0, 1) := by decide +kernel
theorem dX10_paired_16 : decode cX10_paired 16 = .ok (.getfield 10, 3) := by decide +kernel
theorem dX10_paired_19 : decode cX10_paired 19 = .ok (.getfield 287, 3) := by decide +kernel
theorem dX10_paired_22 : decode cX10_paired 22 = .ok (.aload_n 0, 1) := by decide +kernel
theorem dX10_paired_23 : decode cX10_paired 23 = .ok (.getfield 10, 3) := by decide +kernel
theorem dX10_paired_26 : decode cX10_paired 26 = .ok (.getfield 290, 3) := by decide +kernel
theorem dX10_paired_29 : decode cX10_paired 29 = .ok (.invokevirtual 293, 3) := by decide +kernel
theorem dX10_paired_32 : decode cX10_paired 32 = .ok (.aload_n 0, 1) := by decide +kernel
theorem dX10_paired_33 : decode cX10_paired 33 = .ok (.getfield 52, 3) := by decide +kernel
theorem dX10_paired_36 : decode cX10_paired 36 = .ok (.getfield 297, 3) := by decide +kernel
theorem dX10_paired_39 : decode cX10_paired 39 = .ok (.iload_n 1, 1) := by decide +kernel
theorem dX10_paired_40 : decode cX10_paired 40 = .ok (.iaload, 1) := by decide +kernel
theorem dX10_paired_41 : decode cX10_paired 41 = .ok (.ireturn, 1) := by decide +kernel
theorem dX10_blocks_0 : decode cX10_blocks 0 = .ok (.iload_n 1, 1) := by decide +kernel
theorem dX10_blocks_1 : decode cX10_blocks 1 = .ok (.iconst 0, 1) := by decide +kernel
theorem dX10_blocks_2 : decode cX10_blocks 2 = .ok (.iconst 4, 1) := by decide +kernel
theorem dX10_blocks_3 : decode cX10_blocks 3 = .ok (.invokestatic 70, 3) := by decide +kernel
theorem dX10_blocks_6 : decode cX10_blocks 6 = .ok (.ifCond .eq 12, 3) := by decide +kernel
theorem dX10_blocks_9 : decode cX10_blocks 9 = .ok (.iload_n 2, 1) := by decide +kernel
theorem dX10_blocks_10 : decode cX10_blocks 10 = .ok (.iconst 0, 1) := by decide +kernel
theorem dX10_blocks_11 : decode cX10_blocks 11 = .ok (.iconst 4, 1) := by decide +kernel
theorem dX10_blocks_12 : decode cX10_blocks 12 = .ok (.invokestatic 70, 3) := by decide +kernel
theorem dX10_blocks_15 : decode cX10_blocks 15 = .ok (.ifCond .ne 5, 3) := by decide +kernel
theorem dX10_blocks_18 : decode cX10_blocks 18 = .ok (.iconst (-1), 1) := by decide +kernel
theorem dX10_blocks_19 : decode cX10_blocks 19 = .ok (.ireturn, 1) := by decide +kernel
theorem dX10_blocks_20 : decode cX10_blocks 20 = .ok (.aload_n 0, 1) := by decide +kernel
theorem dX10_blocks_21 : decode cX10_blocks 21 = .ok (.getfield 10, 3) := by decide +kernel
theorem dX10_blocks_24 : decode cX10_blocks 24 = .ok (.getfield 287, 3) := by decide +kernel
theorem dX10_blocks_27 : decode cX10_blocks 27 = .ok (.iload_n 1, 1) := by decide +kernel
theorem dX10_blocks_28 : decode cX10_blocks 28 = .ok (.iload_n 2, 1) := by decide +kernel
theorem dX10_blocks_29 : decode cX10_blocks 29 = .ok (.iload_n 1, 1) := by decide +kernel
theorem dX10_blocks_30 : decode cX10_blocks 30 = .ok (.invokestatic 300, 3) := by decide +kernel
theorem dX10_blocks_33 : decode cX10_blocks 33 = .ok (.ifCond .eq 23, 3) := by decide +kernel
theorem dX10_blocks_36 : decode cX10_blocks 36 = .ok (.aload_n 0, 1) := by decide +kernel
theorem dX10_blocks_37 : decode cX10_blocks 37 = .ok (.getfield 10, 3) := by decide +kernel
theorem dX10_blocks_40 : decode cX10_blocks 40 = .ok (.getfield 290, 3) := by decide +kernel
theorem dX10_blocks_43 : decode cX10_blocks 43 = .ok (.iload_n 2, 1) := by decide +kernel
theorem dX10_blocks_44 : decode cX10_blocks 44 = .ok (.iload_n 1, 1) := by decide +kernel
theorem dX10_blocks_45 : decode cX10_blocks 45 = .ok (.iload_n 2, 1) := by decide +kernel
theorem dX10_blocks_46 : decode cX10_blocks 46 = .ok (.invokestatic 300, 3) := by decide +kernel
theorem dX10_blocks_49 : decode cX10_blocks 49 = .ok (.ifCond .eq 7, 3) := by decide +kernel
theorem dX10_blocks_52 : decode cX10_blocks 52 = .ok (.iconst 1, 1) := by decide +kernel
theorem dX10_blocks_53 : decode cX10_blocks 53 = .ok (.goto 4, 3) := by decide +kernel
theorem dX10_blocks_56 : decode cX10_blocks 56 = .ok (.iconst 0, 1) := by decide +kernel
theorem dX10_blocks_57 : decode cX10_blocks 57 = .ok (.istore_n 3, 1) := by decide +kernel
theorem dX10_blocks_58 : decode cX10_blocks 58 = .ok (.iload_n 3, 1) := by decide +kernel
theorem dX10_blocks_59 : decode cX10_blocks 59 = .ok (.ifCond .eq 7, 3) := by decide +kernel
theorem dX10_blocks_62 : decode cX10_blocks 62 = .ok (.iconst 1, 1) := by decide +kernel
theorem dX10_blocks_63 : decode cX10_blocks 63 = .ok (.goto 4, 3) := by decide +kernel
theorem dX10_blocks_66 : decode cX10_blocks 66 = .ok (.iconst 0, 1) := by decide +kernel
theorem dX10_blocks_67 : decode cX10_blocks 67 = .ok (.ireturn, 1) := by decide +kernel
theorem dX10_needs_0 : decode cX10_needs 0 = .ok (.iload_n 1, 1) := by decide +kernel
theorem dX10_needs_1 : decode cX10_needs 1 = .ok (.iconst 0, 1) := by decide +kernel
theorem dX10_needs_2 : decode cX10_needs 2 = .ok (.bipush 7, 2) := by decide +kernel
theorem dX10_needs_4 : decode cX10_needs 4 = .ok (.invokestatic 70, 3) := by decide +kernel
theorem dX10_needs_7 : decode cX10_needs 7 = .ok (.ifCond .eq 13, 3) := by decide +kernel
theorem dX10_needs_10 : decode cX10_needs 10 = .ok (.iload_n 2, 1) := by decide +kernel
theorem dX10_needs_11 : decode cX10_needs 11 = .ok (.iconst 0, 1) := by decide +kernel
theorem dX10_needs_12 : decode cX10_needs 12 = .ok (.bipush 99, 2) := by decide +kernel
theorem dX10_needs_14 : decode cX10_needs 14 = .ok (.invokestatic 70, 3) := by decide +kernel
theorem dX10_needs_17 : decode cX10_needs 17 = .ok (.ifCond .ne 5, 3) := by decide +kernel
theorem dX10_needs_20 : decode cX10_needs 20 = .ok (.iconst 0, 1) := by decide +kernel
theorem dX10_needs_21 : decode cX10_needs 21 = .ok (.ireturn, 1) := by decide +kernel
theorem dX10_needs_22 : decode cX10_needs 22 = .ok (.aload_n 0, 1) := by decide +kernel
theorem dX10_needs_23 : decode cX10_needs 23 = .ok (.getfield 10, 3) := by decide +kernel
theorem dX10_needs_26 : decode cX10_needs 26 = .ok (.getfield 304, 3) := by decide +kernel
theorem dX10_needs_29 : decode cX10_needs 29 = .ok (.iload_n 1, 1) := by decide +kernel
theorem dX10_needs_30 : decode cX10_needs 30 = .ok (.iload_n 2, 1) := by decide +kernel
theorem dX10_needs_31 : decode cX10_needs 31 = .ok (.iastore, 1) := by decide +kernel
theorem dX10_needs_32 : decode cX10_needs 32 = .ok (.iconst 1, 1) := by decide +kernel
theorem dX10_needs_33 : decode cX10_needs 33 = .ok (.ireturn, 1) := by decide +kernel
theorem dX10_stock_0 : decode cX10_stock 0 = .ok (.iload_n 1, 1) := by decide +kernel
theorem dX10_stock_1 : decode cX10_stock 1 = .ok (.iconst 0, 1) := by decide +kernel
theorem dX10_stock_2 : decode cX10_stock 2 = .ok (.sipush 999, 3) := by decide +kernel
theorem dX10_stock_5 : decode cX10_stock 5 = .ok (.invokestatic 70, 3) := by decide +kernel
theorem dX10_stock_8 : decode cX10_stock 8 = .ok (.ifCond .eq 23, 3) := by decide +kernel
theorem dX10_stock_11 : decode cX10_stock 11 = .ok (.iload_n 2, 1) := by decide +kernel
theorem dX10_stock_12 : decode cX10_stock 12 = .ok (.iconst 0, 1) := by decide +kernel
theorem dX10_stock_13 : decode cX10_stock 13 = .ok (.bipush 99, 2) := by decide +kernel
theorem dX10_stock_15 : decode cX10_stock 15 = .ok (.invokestatic 70, 3) := by decide +kernel
theorem dX10_stock_18 : decode cX10_stock 18 = .ok (.ifCond .eq 13, 3) := by decide +kernel
theorem dX10_stock_21 : decode cX10_stock 21 = .ok (.iload_n 3, 1) := by decide +kernel
theorem dX10_stock_22 : decode cX10_stock 22 = .ok (.iconst (-1), 1) := by decide +kernel
theorem dX10_stock_23 : decode cX10_stock 23 = .ok (.bipush 7, 2) := by decide +kernel
theorem dX10_stock_25 : decode cX10_stock 25 = .ok (.invokestatic 70, 3) := by decide +kernel
theorem dX10_stock_28 : decode cX10_stock 28 = .ok (.ifCond .ne 5, 3) := by decide +kernel
theorem dX10_stock_31 : decode cX10_stock 31 = .ok (.iconst (-1), 1) := by decide +kernel
theorem dX10_stock_32 : decode cX10_stock 32 = .ok (.ireturn, 1) := by decide +kernel
theorem dX10_stock_33 : decode cX10_stock 33 = .ok (.aload_n 0, 1) := by decide +kernel
theorem dX10_stock_34 : decode cX10_stock 34 = .ok (.getfield 59, 3) := by decide +kernel
theorem dX10_stock_37 : decode cX10_stock 37 = .ok (.aload_n 0, 1) := by decide +kernel
theorem dX10_stock_38 : decode cX10_stock 38 = .ok (.getfield 10, 3) := by decide +kernel
theorem dX10_stock_41 : decode cX10_stock 41 = .ok (.getfield 304, 3) := by decide +kernel
theorem dX10_stock_44 : decode cX10_stock 44 = .ok (.iload_n 1, 1) := by decide +kernel
theorem dX10_stock_45 : decode cX10_stock 45 = .ok (.iload_n 2, 1) := by decide +kernel
theorem dX10_stock_46 : decode cX10_stock 46 = .ok (.invokevirtual 307, 3) := by decide +kernel
theorem dX10_stock_49 : decode cX10_stock 49 = .ok (.iload_n 3, 1) := by decide +kernel
theorem dX10_stock_50 : decode cX10_stock 50 = .ok (.iconst (-1), 1) := by decide +kernel
theorem dX10_stock_51 : decode cX10_stock 51 = .ok (.if_icmp .ne 15, 3) := by decide +kernel
theorem dX10_stock_54 : decode cX10_stock 54 = .ok (.aload_n 0, 1) := by decide +kernel
theorem dX10_stock_55 : decode cX10_stock 55 = .ok (.getfield 59, 3) := by decide +kernel
theorem dX10_stock_58 : decode cX10_stock 58 = .ok (.getfield 311, 3) := by decide +kernel
theorem dX10_stock_61 : decode cX10_stock 61 = .ok (.iconst 0, 1) := by decide +kernel
theorem dX10_stock_62 : decode cX10_stock 62 = .ok (.iaload, 1) := by decide +kernel
theorem dX10_stock_63 : decode cX10_stock 63 = .ok (.goto 12, 3) := by decide +kernel
theorem dX10_stock_66 : decode cX10_stock 66 = .ok (.aload_n 0, 1) := by decide +kernel
theorem dX10_stock_67 : decode cX10_stock 67 = .ok (.getfield 59, 3) := by decide +kernel
theorem dX10_stock_70 : decode cX10_stock 70 = .ok (.getfield 314, 3) := by decide +kernel
theorem dX10_stock_73 : decode cX10_stock 73 = .ok (.iload_n 3, 1) := by decide +kernel
theorem dX10_stock_74 : decode cX10_stock 74 = .ok (.iaload, 1) := by decide +kernel
theorem dX10_stock_75 : decode cX10_stock 75 = .ok (.ireturn, 1) := by decide +kernel
theorem dX10_looser_0 : decode cX10_looser 0 = .ok (.iload_n 1, 1) := by decide +kernel
theorem dX10_looser_1 : decode cX10_looser 1 = .ok (.iconst (-1), 1) := by decide +kernel
theorem dX10_looser_2 : decode cX10_looser 2 = .ok (.if_icmp .ne 27, 3) := by decide +kernel
theorem dX10_looser_5 : decode cX10_looser 5 = .ok (.aload_n 0, 1) := by decide +kernel
theorem dX10_looser_6 : decode cX10_looser 6 = .ok (.getfield 10, 3) := by decide +kernel
theorem dX10_looser_9 : decode cX10_looser 9 = .ok (.getfield 317, 3) := by decide +kernel
theorem dX10_looser_12 : decode cX10_looser 12 = .ok (.iconst 0, 1) := by decide +kernel
theorem dX10_looser_13 : decode cX10_looser 13 = .ok (.putfield 246, 3) := by decide +kernel
theorem dX10_looser_16 : decode cX10_looser 16 = .ok (.aload_n 0, 1) := by decide +kernel
theorem dX10_looser_17 : decode cX10_looser 17 = .ok (.getfield 10, 3) := by decide +kernel
theorem dX10_looser_20 : decode cX10_looser 20 = .ok (.getfield 320, 3) := by decide +kernel
theorem dX10_looser_23 : decode cX10_looser 23 = .ok (.iconst 0, 1) := by decide +kernel
theorem dX10_looser_24 : decode cX10_looser 24 = .ok (.putfield 246, 3) := by decide +kernel
theorem dX10_looser_27 : decode cX10_looser 27 = .ok (.iconst 0, 1) := by decide +kernel
theorem dX10_looser_28 : decode cX10_looser 28 = .ok (.ireturn, 1) := by decide +kernel
theorem dX10_looser_29 : decode cX10_looser 29 = .ok (.aload_n 0, 1) := by decide +kernel
theorem dX10_looser_30 : decode cX10_looser 30 = .ok (.getfield 10, 3) := by decide +kernel
theorem dX10_looser_33 : decode cX10_looser 33 = .ok (.getfield 74, 3) := by decide +kernel
theorem dX10_looser_36 : decode cX10_looser 36 = .ok (.iload_n 1, 1) := by decide +kernel
theorem dX10_looser_37 : decode cX10_looser 37 = .ok (.invokevirtual 135, 3) := by decide +kernel
theorem dX10_looser_40 : decode cX10_looser 40 = .ok (.ifCond .eq 27, 3) := by decide +kernel
theorem dX10_looser_43 : decode cX10_looser 43 = .ok (.iload_n 2, 1) := by decide +kernel
theorem dX10_looser_44 : decode cX10_looser 44 = .ok (.iconst 0, 1) := by decide +kernel
theorem dX10_looser_45 : decode cX10_looser 45 = .ok (.bipush 10, 2) := by decide +kernel
theorem dX10_looser_47 : decode cX10_looser 47 = .ok (.invokestatic 70, 3) := by decide +kernel
theorem dX10_looser_50 : decode cX10_looser 50 = .ok (.ifCond .eq 17, 3) := by decide +kernel
theorem dX10_looser_53 : decode cX10_looser 53 = .ok (.aload_n 0, 1) := by decide +kernel
theorem dX10_looser_54 : decode cX10_looser 54 = .ok (.getfield 10, 3) := by decide +kernel
theorem dX10_looser_57 : decode cX10_looser 57 = .ok (.getfield 317, 3) := by decide +kernel
theorem dX10_looser_60 : decode cX10_looser 60 = .ok (.iload_n 1, 1) := by decide +kernel
theorem dX10_looser_61 : decode cX10_looser 61 = .ok (.invokevirtual 251, 3) := by decide +kernel
theorem dX10_looser_64 : decode cX10_looser 64 = .ok (.ifCond .ne 6, 3) := by decide +kernel
theorem dX10_looser_67 : decode cX10_looser 67 = .ok (.bipush (-2), 2) := by decide +kernel
theorem dX10_looser_69 : decode cX10_looser 69 = .ok (.ireturn, 1) := by decide +kernel
theorem dX10_looser_70 : decode cX10_looser 70 = .ok (.aload_n 0, 1) := by decide +kernel
theorem dX10_looser_71 : decode cX10_looser 71 = .ok (.getfield 10, 3) := by decide +kernel
theorem dX10_looser_74 : decode cX10_looser 74 = .ok (.getfield 320, 3) := by decide +kernel
theorem dX10_looser_77 : decode cX10_looser 77 = .ok (.iload_n 2, 1) := by decide +kernel
theorem dX10_looser_78 : decode cX10_looser 78 = .ok (.invokevirtual 251, 3) := by decide +kernel
theorem dX10_looser_81 : decode cX10_looser 81 = .ok (.pop, 1) := by decide +kernel
theorem dX10_looser_82 : decode cX10_looser 82 = .ok (.aload_n 0, 1) := by decide +kernel
theorem dX10_looser_83 : decode cX10_looser 83 = .ok (.getfield 10, 3) := by decide +kernel
theorem dX10_looser_86 : decode cX10_looser 86 = .ok (.getfield 317, 3) := by decide +kernel
theorem dX10_looser_89 : decode cX10_looser 89 = .ok (.getfield 246, 3) := by decide +kernel
theorem dX10_looser_92 : decode cX10_looser 92 = .ok (.ireturn, 1) := by decide +kernel
theorem dX10_whose_0 : decode cX10_whose 0 = .ok (.iconst 0, 1) := by decide +kernel
theorem dX10_whose_1 : decode cX10_whose 1 = .ok (.istore_n 1, 1) := by decide +kernel
theorem dX10_whose_2 : decode cX10_whose 2 = .ok (.iconst 0, 1) := by decide +kernel
theorem dX10_whose_3 : decode cX10_whose 3 = .ok (.istore_n 2, 1) := by decide +kernel
theorem dX10_whose_4 : decode cX10_whose 4 = .ok (.iload_n 2, 1) := by decide +kernel
theorem dX10_whose_5 : decode cX10_whose 5 = .ok (.aload_n 0, 1) := by decide +kernel
theorem dX10_whose_6 : decode cX10_whose 6 = .ok (.getfield 10, 3) := by decide +kernel
theorem dX10_whose_9 : decode cX10_whose 9 = .ok (.getfield 97, 3) := by decide +kernel
theorem dX10_whose_12 : decode cX10_whose 12 = .ok (.if_icmp .ge 31, 3) := by decide +kernel
theorem dX10_whose_15 : decode cX10_whose 15 = .ok (.aload_n 0, 1) := by decide +kernel
theorem dX10_whose_16 : decode cX10_whose 16 = .ok (.aload_n 0, 1) := by decide +kernel
theorem dX10_whose_17 : decode cX10_whose 17 = .ok (.getfield 10, 3) := by decide +kernel
theorem dX10_whose_20 : decode cX10_whose 20 = .ok (.getfield 104, 3) := by decide +kernel
theorem dX10_whose_23 : decode cX10_whose 23 = .ok (.iload_n 2, 1) := by decide +kernel
theorem dX10_whose_24 : decode cX10_whose 24 = .ok (.aaload, 1) := by decide +kernel
theorem dX10_whose_25 : decode cX10_whose 25 = .ok (.invokevirtual 323, 3) := by decide +kernel
theorem dX10_whose_28 : decode cX10_whose 28 = .ok (.ifCond .eq 9, 3) := by decide +kernel
theorem dX10_whose_31 : decode cX10_whose 31 = .ok (.iload_n 1, 1) := by decide +kernel
theorem dX10_whose_32 : decode cX10_whose 32 = .ok (.iconst 1, 1) := by decide +kernel
theorem dX10_whose_33 : decode cX10_whose 33 = .ok (.iload_n 2, 1) := by decide +kernel
theorem dX10_whose_34 : decode cX10_whose 34 = .ok (.ishl, 1) := by decide +kernel
theorem dX10_whose_35 : decode cX10_whose 35 = .ok (.ior, 1) := by decide +kernel
theorem dX10_whose_36 : decode cX10_whose 36 = .ok (.istore_n 1, 1) := by decide +kernel
theorem dX10_whose_37 : decode cX10_whose 37 = .ok (.iinc 2 1, 3) := by decide +kernel
theorem dX10_whose_40 : decode cX10_whose 40 = .ok (.goto (-36), 3) := by decide +kernel
theorem dX10_whose_43 : decode cX10_whose 43 = .ok (.iload_n 1, 1) := by decide +kernel
theorem dX10_whose_44 : decode cX10_whose 44 = .ok (.ireturn, 1) := by decide +kernel
theorem dX10_forgiven_0 : decode cX10_forgiven 0 = .ok (.iload_n 1, 1) := by decide +kernel
theorem dX10_forgiven_1 : decode cX10_forgiven 1 = .ok (.iconst 0, 1) := by decide +kernel
theorem dX10_forgiven_2 : decode cX10_forgiven 2 = .ok (.sipush 9999, 3) := by decide +kernel
theorem dX10_forgiven_5 : decode cX10_forgiven 5 = .ok (.invokestatic 70, 3) := by decide +kernel
theorem dX10_forgiven_8 : decode cX10_forgiven 8 = .ok (.ifCond .ne 5, 3) := by decide +kernel
theorem dX10_forgiven_11 : decode cX10_forgiven 11 = .ok (.iconst (-1), 1) := by decide +kernel
theorem dX10_forgiven_12 : decode cX10_forgiven 12 = .ok (.ireturn, 1) := by decide +kernel
theorem dX10_forgiven_13 : decode cX10_forgiven 13 = .ok (.iconst 0, 1) := by decide +kernel
theorem dX10_forgiven_14 : decode cX10_forgiven 14 = .ok (.istore_n 2, 1) := by decide +kernel
theorem dX10_forgiven_15 : decode cX10_forgiven 15 = .ok (.iconst 0, 1) := by decide +kernel
theorem dX10_forgiven_16 : decode cX10_forgiven 16 = .ok (.istore_n 3, 1) := by decide +kernel
theorem dX10_forgiven_17 : decode cX10_forgiven 17 = .ok (.iconst 1, 1) := by decide +kernel
theorem dX10_forgiven_18 : decode cX10_forgiven 18 = .ok (.istore 4, 2) := by decide +kernel
theorem dX10_forgiven_20 : decode cX10_forgiven 20 = .ok (.iload 4, 2) := by decide +kernel
theorem dX10_forgiven_22 : decode cX10_forgiven 22 = .ok (.iconst 1, 1) := by decide +kernel
theorem dX10_forgiven_23 : decode cX10_forgiven 23 = .ok (.aload_n 0, 1) := by decide +kernel
theorem dX10_forgiven_24 : decode cX10_forgiven 24 = .ok (.getfield 10, 3) := by decide +kernel
theorem dX10_forgiven_27 : decode cX10_forgiven 27 = .ok (.getfield 74, 3) := by decide +kernel
theorem dX10_forgiven_30 : decode cX10_forgiven 30 = .ok (.getfield 176, 3) := by decide +kernel
theorem dX10_forgiven_33 : decode cX10_forgiven 33 = .ok (.ishl, 1) := by decide +kernel
theorem dX10_forgiven_34 : decode cX10_forgiven 34 = .ok (.if_icmp .ge 63, 3) := by decide +kernel
theorem dX10_forgiven_37 : decode cX10_forgiven 37 = .ok (.aload_n 0, 1) := by decide +kernel
theorem dX10_forgiven_38 : decode cX10_forgiven 38 = .ok (.getfield 10, 3) := by decide +kernel
theorem dX10_forgiven_41 : decode cX10_forgiven 41 = .ok (.getfield 74, 3) := by decide +kernel
theorem dX10_forgiven_44 : decode cX10_forgiven 44 = .ok (.iload 4, 2) := by decide +kernel
theorem dX10_forgiven_46 : decode cX10_forgiven 46 = .ok (.invokevirtual 327, 3) := by decide +kernel
theorem dX10_forgiven_49 : decode cX10_forgiven 49 = .ok (.istore 5, 2) := by decide +kernel
theorem dX10_forgiven_51 : decode cX10_forgiven 51 = .ok (.iload 4, 2) := by decide +kernel
theorem dX10_forgiven_53 : decode cX10_forgiven 53 = .ok (.invokestatic 330, 3) := by decide +kernel
theorem dX10_forgiven_56 : decode cX10_forgiven 56 = .ok (.iload_n 2, 1) := by decide +kernel
theorem dX10_forgiven_57 : decode cX10_forgiven 57 = .ok (.invokestatic 330, 3) := by decide +kernel
theorem dX10_forgiven_60 : decode cX10_forgiven 60 = .ok (.isub, 1) := by decide +kernel
theorem dX10_forgiven_61 : decode cX10_forgiven 61 = .ok (.istore 6, 2) := by decide +kernel
theorem dX10_forgiven_63 : decode cX10_forgiven 63 = .ok (.iload 5, 2) := by decide +kernel
theorem dX10_forgiven_65 : decode cX10_forgiven 65 = .ok (.iload_n 1, 1) := by decide +kernel
theorem dX10_forgiven_66 : decode cX10_forgiven 66 = .ok (.if_icmp .gt 25, 3) := by decide +kernel
theorem dX10_forgiven_69 : decode cX10_forgiven 69 = .ok (.iload 6, 2) := by decide +kernel
theorem dX10_forgiven_71 : decode cX10_forgiven 71 = .ok (.ifCond .gt 14, 3) := by decide +kernel
theorem dX10_forgiven_74 : decode cX10_forgiven 74 = .ok (.iload 6, 2) := by decide +kernel
theorem dX10_forgiven_76 : decode cX10_forgiven 76 = .ok (.ifCond .ne 15, 3) := by decide +kernel
theorem dX10_forgiven_79 : decode cX10_forgiven 79 = .ok (.iload 5, 2) := by decide +kernel
theorem dX10_forgiven_81 : decode cX10_forgiven 81 = .ok (.iload_n 3, 1) := by decide +kernel
theorem dX10_forgiven_82 : decode cX10_forgiven 82 = .ok (.if_icmp .ge 9, 3) := by decide +kernel
theorem dX10_forgiven_85 : decode cX10_forgiven 85 = .ok (.iload 4, 2) := by decide +kernel
theorem dX10_forgiven_87 : decode cX10_forgiven 87 = .ok (.istore_n 2, 1) := by decide +kernel
theorem dX10_forgiven_88 : decode cX10_forgiven 88 = .ok (.iload 5, 2) := by decide +kernel
theorem dX10_forgiven_90 : decode cX10_forgiven 90 = .ok (.istore_n 3, 1) := by decide +kernel
theorem dX10_forgiven_91 : decode cX10_forgiven 91 = .ok (.iinc 4 1, 3) := by decide +kernel
theorem dX10_forgiven_94 : decode cX10_forgiven 94 = .ok (.goto (-74), 3) := by decide +kernel
theorem dX10_forgiven_97 : decode cX10_forgiven 97 = .ok (.iload_n 2, 1) := by decide +kernel
theorem dX10_forgiven_98 : decode cX10_forgiven 98 = .ok (.ireturn, 1) := by decide +kernel
theorem dX10_snow_0 : decode cX10_snow 0 = .ok (.iconst 0, 1) := by decide +kernel
theorem dX10_snow_1 : decode cX10_snow 1 = .ok (.istore_n 1, 1) := by decide +kernel
theorem dX10_snow_2 : decode cX10_snow 2 = .ok (.iconst 0, 1) := by decide +kernel
theorem dX10_snow_3 : decode cX10_snow 3 = .ok (.istore_n 2, 1) := by decide +kernel
theorem dX10_snow_4 : decode cX10_snow 4 = .ok (.iload_n 2, 1) := by decide +kernel
theorem dX10_snow_5 : decode cX10_snow 5 = .ok (.aload_n 0, 1) := by decide +kernel
theorem dX10_snow_6 : decode cX10_snow 6 = .ok (.getfield 10, 3) := by decide +kernel
theorem dX10_snow_9 : decode cX10_snow 9 = .ok (.getfield 74, 3) := by decide +kernel
theorem dX10_snow_12 : decode cX10_snow 12 = .ok (.getfield 176, 3) := by decide +kernel
theorem dX10_snow_15 : decode cX10_snow 15 = .ok (.if_icmp .ge 63, 3) := by decide +kernel
theorem dX10_snow_18 : decode cX10_snow 18 = .ok (.aload_n 0, 1) := by decide +kernel
theorem dX10_snow_19 : decode cX10_snow 19 = .ok (.getfield 10, 3) := by decide +kernel
theorem dX10_snow_22 : decode cX10_snow 22 = .ok (.getfield 74, 3) := by decide +kernel
theorem dX10_snow_25 : decode cX10_snow 25 = .ok (.getfield 132, 3) := by decide +kernel
theorem dX10_snow_28 : decode cX10_snow 28 = .ok (.iload_n 2, 1) := by decide +kernel
theorem dX10_snow_29 : decode cX10_snow 29 = .ok (.iaload, 1) := by decide +kernel
theorem dX10_snow_30 : decode cX10_snow 30 = .ok (.invokestatic 335, 3) := by decide +kernel
theorem dX10_snow_33 : decode cX10_snow 33 = .ok (.istore_n 3, 1) := by decide +kernel
theorem dX10_snow_34 : decode cX10_snow 34 = .ok (.iconst 0, 1) := by decide +kernel
theorem dX10_snow_35 : decode cX10_snow 35 = .ok (.istore 4, 2) := by decide +kernel
theorem dX10_snow_37 : decode cX10_snow 37 = .ok (.iload 4, 2) := by decide +kernel
theorem dX10_snow_39 : decode cX10_snow 39 = .ok (.iload_n 3, 1) := by decide +kernel
theorem dX10_snow_40 : decode cX10_snow 40 = .ok (.if_icmp .ge 32, 3) := by decide +kernel
theorem dX10_snow_43 : decode cX10_snow 43 = .ok (.aload_n 0, 1) := by decide +kernel
theorem dX10_snow_44 : decode cX10_snow 44 = .ok (.getfield 10, 3) := by decide +kernel
theorem dX10_snow_47 : decode cX10_snow 47 = .ok (.getfield 74, 3) := by decide +kernel
theorem dX10_snow_50 : decode cX10_snow 50 = .ok (.getfield 132, 3) := by decide +kernel
theorem dX10_snow_53 : decode cX10_snow 53 = .ok (.iload_n 2, 1) := by decide +kernel
theorem dX10_snow_54 : decode cX10_snow 54 = .ok (.iaload, 1) := by decide +kernel
theorem dX10_snow_55 : decode cX10_snow 55 = .ok (.iload 4, 2) := by decide +kernel
theorem dX10_snow_57 : decode cX10_snow 57 = .ok (.invokestatic 338, 3) := by decide +kernel
theorem dX10_snow_60 : decode cX10_snow 60 = .ok (.ifCond .ne 6, 3) := by decide +kernel
theorem dX10_snow_63 : decode cX10_snow 63 = .ok (.iinc 1 1, 3) := by decide +kernel
theorem dX10_snow_66 : decode cX10_snow 66 = .ok (.iinc 4 1, 3) := by decide +kernel
theorem dX10_snow_69 : decode cX10_snow 69 = .ok (.goto (-32), 3) := by decide +kernel
theorem dX10_snow_72 : decode cX10_snow 72 = .ok (.iinc 2 1, 3) := by decide +kernel
theorem dX10_snow_75 : decode cX10_snow 75 = .ok (.goto (-71), 3) := by decide +kernel
theorem dX10_snow_78 : decode cX10_snow 78 = .ok (.iload_n 1, 1) := by decide +kernel
theorem dX10_snow_79 : decode cX10_snow 79 = .ok (.ireturn, 1) := by decide +kernel
theorem dX10_worn_0 : decode cX10_worn 0 = .ok (.iconst (-1), 1) := by decide +kernel
theorem dX10_worn_1 : decode cX10_worn 1 = .ok (.istore_n 1, 1) := by decide +kernel
theorem dX10_worn_2 : decode cX10_worn 2 = .ok (.iconst 0, 1) := by decide +kernel
theorem dX10_worn_3 : decode cX10_worn 3 = .ok (.istore_n 2, 1) := by decide +kernel
theorem dX10_worn_4 : decode cX10_worn 4 = .ok (.iload_n 2, 1) := by decide +kernel
theorem dX10_worn_5 : decode cX10_worn 5 = .ok (.aload_n 0, 1) := by decide +kernel
theorem dX10_worn_6 : decode cX10_worn 6 = .ok (.getfield 10, 3) := by decide +kernel
theorem dX10_worn_9 : decode cX10_worn 9 = .ok (.getfield 74, 3) := by decide +kernel
theorem dX10_worn_12 : decode cX10_worn 12 = .ok (.getfield 176, 3) := by decide +kernel
theorem dX10_worn_15 : decode cX10_worn 15 = .ok (.if_icmp .ge 43, 3) := by decide +kernel
theorem dX10_worn_18 : decode cX10_worn 18 = .ok (.iload_n 1, 1) := by decide +kernel
theorem dX10_worn_19 : decode cX10_worn 19 = .ok (.iconst (-1), 1) := by decide +kernel
theorem dX10_worn_20 : decode cX10_worn 20 = .ok (.if_icmp .eq 30, 3) := by decide +kernel
theorem dX10_worn_23 : decode cX10_worn 23 = .ok (.aload_n 0, 1) := by decide +kernel
theorem dX10_worn_24 : decode cX10_worn 24 = .ok (.getfield 10, 3) := by decide +kernel
theorem dX10_worn_27 : decode cX10_worn 27 = .ok (.getfield 74, 3) := by decide +kernel
theorem dX10_worn_30 : decode cX10_worn 30 = .ok (.getfield 191, 3) := by decide +kernel
theorem dX10_worn_33 : decode cX10_worn 33 = .ok (.iload_n 2, 1) := by decide +kernel
theorem dX10_worn_34 : decode cX10_worn 34 = .ok (.iaload, 1) := by decide +kernel
theorem dX10_worn_35 : decode cX10_worn 35 = .ok (.aload_n 0, 1) := by decide +kernel
theorem dX10_worn_36 : decode cX10_worn 36 = .ok (.getfield 10, 3) := by decide +kernel
theorem dX10_worn_39 : decode cX10_worn 39 = .ok (.getfield 74, 3) := by decide +kernel
theorem dX10_worn_42 : decode cX10_worn 42 = .ok (.getfield 191, 3) := by decide +kernel
theorem dX10_worn_45 : decode cX10_worn 45 = .ok (.iload_n 1, 1) := by decide +kernel
theorem dX10_worn_46 : decode cX10_worn 46 = .ok (.iaload, 1) := by decide +kernel
theorem dX10_worn_47 : decode cX10_worn 47 = .ok (.if_icmp .le 5, 3) := by decide +kernel
theorem dX10_worn_50 : decode cX10_worn 50 = .ok (.iload_n 2, 1) := by decide +kernel
theorem dX10_worn_51 : decode cX10_worn 51 = .ok (.istore_n 1, 1) := by decide +kernel
theorem dX10_worn_52 : decode cX10_worn 52 = .ok (.iinc 2 1, 3) := by decide +kernel
theorem dX10_worn_55 : decode cX10_worn 55 = .ok (.goto (-51), 3) := by decide +kernel
theorem dX10_worn_58 : decode cX10_worn 58 = .ok (.iload_n 1, 1) := by decide +kernel
theorem dX10_worn_59 : decode cX10_worn 59 = .ok (.ireturn, 1) := by decide +kernel
theorem dX10_blank_0 : decode cX10_blank 0 = .ok (.iconst 0, 1) := by decide +kernel
theorem dX10_blank_1 : decode cX10_blank 1 = .ok (.istore_n 1, 1) := by decide +kernel
theorem dX10_blank_2 : decode cX10_blank 2 = .ok (.iconst 0, 1) := by decide +kernel
theorem dX10_blank_3 : decode cX10_blank 3 = .ok (.istore_n 2, 1) := by decide +kernel
theorem dX10_blank_4 : decode cX10_blank 4 = .ok (.iload_n 2, 1) := by decide +kernel
theorem dX10_blank_5 : decode cX10_blank 5 = .ok (.aload_n 0, 1) := by decide +kernel
theorem dX10_blank_6 : decode cX10_blank 6 = .ok (.getfield 10, 3) := by decide +kernel
theorem dX10_blank_9 : decode cX10_blank 9 = .ok (.getfield 74, 3) := by decide +kernel
theorem dX10_blank_12 : decode cX10_blank 12 = .ok (.getfield 176, 3) := by decide +kernel
theorem dX10_blank_15 : decode cX10_blank 15 = .ok (.if_icmp .ge 29, 3) := by decide +kernel
theorem dX10_blank_18 : decode cX10_blank 18 = .ok (.aload_n 0, 1) := by decide +kernel
theorem dX10_blank_19 : decode cX10_blank 19 = .ok (.getfield 10, 3) := by decide +kernel
theorem dX10_blank_22 : decode cX10_blank 22 = .ok (.getfield 74, 3) := by decide +kernel
theorem dX10_blank_25 : decode cX10_blank 25 = .ok (.iload_n 2, 1) := by decide +kernel
theorem dX10_blank_26 : decode cX10_blank 26 = .ok (.invokevirtual 141, 3) := by decide +kernel
theorem dX10_blank_29 : decode cX10_blank 29 = .ok (.ifCond .ne 9, 3) := by decide +kernel
theorem dX10_blank_32 : decode cX10_blank 32 = .ok (.iload_n 1, 1) := by decide +kernel
theorem dX10_blank_33 : decode cX10_blank 33 = .ok (.iconst 1, 1) := by decide +kernel
theorem dX10_blank_34 : decode cX10_blank 34 = .ok (.iload_n 2, 1) := by decide +kernel
theorem dX10_blank_35 : decode cX10_blank 35 = .ok (.ishl, 1) := by decide +kernel
theorem dX10_blank_36 : decode cX10_blank 36 = .ok (.ior, 1) := by decide +kernel
theorem dX10_blank_37 : decode cX10_blank 37 = .ok (.istore_n 1, 1) := by decide +kernel
theorem dX10_blank_38 : decode cX10_blank 38 = .ok (.iinc 2 1, 3) := by decide +kernel
theorem dX10_blank_41 : decode cX10_blank 41 = .ok (.goto (-37), 3) := by decide +kernel
theorem dX10_blank_44 : decode cX10_blank 44 = .ok (.iload_n 1, 1) := by decide +kernel
theorem dX10_blank_45 : decode cX10_blank 45 = .ok (.ireturn, 1) := by decide +kernel
theorem dX10_ledger_0 : decode cX10_ledger 0 = .ok (.iload_n 1, 1) := by decide +kernel
theorem dX10_ledger_1 : decode cX10_ledger 1 = .ok (.iconst (-1), 1) := by decide +kernel
theorem dX10_ledger_2 : decode cX10_ledger 2 = .ok (.if_icmp .ne 14, 3) := by decide +kernel
theorem dX10_ledger_5 : decode cX10_ledger 5 = .ok (.aload_n 0, 1) := by decide +kernel
theorem dX10_ledger_6 : decode cX10_ledger 6 = .ok (.getfield 10, 3) := by decide +kernel
theorem dX10_ledger_9 : decode cX10_ledger 9 = .ok (.getfield 74, 3) := by decide +kernel
theorem dX10_ledger_12 : decode cX10_ledger 12 = .ok (.getfield 207, 3) := by decide +kernel
theorem dX10_ledger_15 : decode cX10_ledger 15 = .ok (.ireturn, 1) := by decide +kernel
theorem dX10_ledger_16 : decode cX10_ledger 16 = .ok (.aload_n 0, 1) := by decide +kernel
theorem dX10_ledger_17 : decode cX10_ledger 17 = .ok (.getfield 10, 3) := by decide +kernel
theorem dX10_ledger_20 : decode cX10_ledger 20 = .ok (.getfield 74, 3) := by decide +kernel
theorem dX10_ledger_23 : decode cX10_ledger 23 = .ok (.iload_n 1, 1) := by decide +kernel
theorem dX10_ledger_24 : decode cX10_ledger 24 = .ok (.invokevirtual 135, 3) := by decide +kernel
theorem dX10_ledger_27 : decode cX10_ledger 27 = .ok (.ifCond .eq 17, 3) := by decide +kernel
theorem dX10_ledger_30 : decode cX10_ledger 30 = .ok (.aload_n 0, 1) := by decide +kernel
theorem dX10_ledger_31 : decode cX10_ledger 31 = .ok (.getfield 10, 3) := by decide +kernel
theorem dX10_ledger_34 : decode cX10_ledger 34 = .ok (.getfield 74, 3) := by decide +kernel
theorem dX10_ledger_37 : decode cX10_ledger 37 = .ok (.iload_n 1, 1) := by decide +kernel
theorem dX10_ledger_38 : decode cX10_ledger 38 = .ok (.invokevirtual 341, 3) := by decide +kernel
theorem dX10_ledger_41 : decode cX10_ledger 41 = .ok (.goto 5, 3) := by decide +kernel
theorem dX10_ledger_44 : decode cX10_ledger 44 = .ok (.bipush (-2), 2) := by decide +kernel
theorem dX10_ledger_46 : decode cX10_ledger 46 = .ok (.ireturn, 1) := by decide +kernel
theorem dX10_image_0 : decode cX10_image 0 = .ok (.aload_n 0, 1) := by decide +kernel
theorem dX10_image_1 : decode cX10_image 1 = .ok (.getfield 16, 3) := by decide +kernel
theorem dX10_image_4 : decode cX10_image 4 = .ok (.aload_n 0, 1) := by decide +kernel
theorem dX10_image_5 : decode cX10_image 5 = .ok (.getfield 10, 3) := by decide +kernel
theorem dX10_image_8 : decode cX10_image 8 = .ok (.invokevirtual 344, 3) := by decide +kernel
theorem dX10_image_11 : decode cX10_image 11 = .ok (.aload_n 0, 1) := by decide +kernel
theorem dX10_image_12 : decode cX10_image 12 = .ok (.getfield 10, 3) := by decide +kernel
theorem dX10_image_15 : decode cX10_image 15 = .ok (.getfield 74, 3) := by decide +kernel
theorem dX10_image_18 : decode cX10_image 18 = .ok (.getfield 147, 3) := by decide +kernel
theorem dX10_image_21 : decode cX10_image 21 = .ok (.ireturn, 1) := by decide +kernel
theorem dX10_back_0 : decode cX10_back 0 = .ok (.aload_n 0, 1) := by decide +kernel
theorem dX10_back_1 : decode cX10_back 1 = .ok (.getfield 10, 3) := by decide +kernel
theorem dX10_back_4 : decode cX10_back 4 = .ok (.aload_n 0, 1) := by decide +kernel
theorem dX10_back_5 : decode cX10_back 5 = .ok (.getfield 16, 3) := by decide +kernel
theorem dX10_back_8 : decode cX10_back 8 = .ok (.invokevirtual 344, 3) := by decide +kernel
theorem dX10_back_11 : decode cX10_back 11 = .ok (.aload_n 0, 1) := by decide +kernel
theorem dX10_back_12 : decode cX10_back 12 = .ok (.getfield 10, 3) := by decide +kernel
theorem dX10_back_15 : decode cX10_back 15 = .ok (.getfield 74, 3) := by decide +kernel
theorem dX10_back_18 : decode cX10_back 18 = .ok (.getfield 147, 3) := by decide +kernel
theorem dX10_back_21 : decode cX10_back 21 = .ok (.ireturn, 1) := by decide +kernel
theorem dX10_about_0 : decode cX10_about 0 = .ok (.iload_n 1, 1) := by decide +kernel
theorem dX10_about_1 : decode cX10_about 1 = .ok (.tableswitch 138 0 8 #[51, 62, 70, 78, 86, 97, 108, 119, 130], 51) := by decide +kernel
theorem dX10_about_52 : decode cX10_about 52 = .ok (.aload_n 0, 1) := by decide +kernel
theorem dX10_about_53 : decode cX10_about 53 = .ok (.getfield 10, 3) := by decide +kernel
theorem dX10_about_56 : decode cX10_about 56 = .ok (.getfield 74, 3) := by decide +kernel
theorem dX10_about_59 : decode cX10_about 59 = .ok (.getfield 176, 3) := by decide +kernel
theorem dX10_about_62 : decode cX10_about 62 = .ok (.ireturn, 1) := by decide +kernel
theorem dX10_about_63 : decode cX10_about 63 = .ok (.aload_n 0, 1) := by decide +kernel
theorem dX10_about_64 : decode cX10_about 64 = .ok (.getfield 10, 3) := by decide +kernel
theorem dX10_about_67 : decode cX10_about 67 = .ok (.getfield 97, 3) := by decide +kernel
theorem dX10_about_70 : decode cX10_about 70 = .ok (.ireturn, 1) := by decide +kernel
theorem dX10_about_71 : decode cX10_about 71 = .ok (.aload_n 0, 1) := by decide +kernel
theorem dX10_about_72 : decode cX10_about 72 = .ok (.getfield 10, 3) := by decide +kernel
theorem dX10_about_75 : decode cX10_about 75 = .ok (.getfield 118, 3) := by decide +kernel
theorem dX10_about_78 : decode cX10_about 78 = .ok (.ireturn, 1) := by decide +kernel
theorem dX10_about_79 : decode cX10_about 79 = .ok (.aload_n 0, 1) := by decide +kernel
theorem dX10_about_80 : decode cX10_about 80 = .ok (.getfield 10, 3) := by decide +kernel
theorem dX10_about_83 : decode cX10_about 83 = .ok (.getfield 185, 3) := by decide +kernel
theorem dX10_about_86 : decode cX10_about 86 = .ok (.ireturn, 1) := by decide +kernel
theorem dX10_about_87 : decode cX10_about 87 = .ok (.aload_n 0, 1) := by decide +kernel
theorem dX10_about_88 : decode cX10_about 88 = .ok (.getfield 10, 3) := by decide +kernel
theorem dX10_about_91 : decode cX10_about 91 = .ok (.getfield 222, 3) := by decide +kernel
theorem dX10_about_94 : decode cX10_about 94 = .ok (.getfield 246, 3) := by decide +kernel
theorem dX10_about_97 : decode cX10_about 97 = .ok (.ireturn, 1) := by decide +kernel
theorem dX10_about_98 : decode cX10_about 98 = .ok (.aload_n 0, 1) := by decide +kernel
theorem dX10_about_99 : decode cX10_about 99 = .ok (.getfield 10, 3) := by decide +kernel
theorem dX10_about_102 : decode cX10_about 102 = .ok (.getfield 264, 3) := by decide +kernel
theorem dX10_about_105 : decode cX10_about 105 = .ok (.getfield 246, 3) := by decide +kernel
theorem dX10_about_108 : decode cX10_about 108 = .ok (.ireturn, 1) := by decide +kernel
theorem dX10_about_109 : decode cX10_about 109 = .ok (.aload_n 0, 1) := by decide +kernel
theorem dX10_about_110 : decode cX10_about 110 = .ok (.getfield 10, 3) := by decide +kernel
theorem dX10_about_113 : decode cX10_about 113 = .ok (.getfield 243, 3) := by decide +kernel
theorem dX10_about_116 : decode cX10_about 116 = .ok (.getfield 246, 3) := by decide +kernel
theorem dX10_about_119 : decode cX10_about 119 = .ok (.ireturn, 1) := by decide +kernel
theorem dX10_about_120 : decode cX10_about 120 = .ok (.aload_n 0, 1) := by decide +kernel
theorem dX10_about_121 : decode cX10_about 121 = .ok (.getfield 10, 3) := by decide +kernel
theorem dX10_about_124 : decode cX10_about 124 = .ok (.getfield 317, 3) := by decide +kernel
theorem dX10_about_127 : decode cX10_about 127 = .ok (.getfield 246, 3) := by decide +kernel
theorem dX10_about_130 : decode cX10_about 130 = .ok (.ireturn, 1) := by decide +kernel
theorem dX10_about_131 : decode cX10_about 131 = .ok (.aload_n 0, 1) := by decide +kernel
theorem dX10_about_132 : decode cX10_about 132 = .ok (.getfield 22, 3) := by decide +kernel
theorem dX10_about_135 : decode cX10_about 135 = .ok (.getfield 89, 3) := by decide +kernel
theorem dX10_about_138 : decode cX10_about 138 = .ok (.ireturn, 1) := by decide +kernel
theorem dX10_about_139 : decode cX10_about 139 = .ok (.bipush (-2), 2) := by decide +kernel
theorem dX10_about_141 : decode cX10_about 141 = .ok (.ireturn, 1) := by decide +kernel
theorem dX10_passNights_0 : decode cX10_passNights 0 = .ok (.iconst 0, 1) := by decide +kernel
theorem dX10_passNights_1 : decode cX10_passNights 1 = .ok (.istore_n 2, 1) := by decide +kernel
theorem dX10_passNights_2 : decode cX10_passNights 2 = .ok (.iload_n 1, 1) := by decide +kernel
theorem dX10_passNights_3 : decode cX10_passNights 3 = .ok (.sipush 9999, 3) := by decide +kernel
theorem dX10_passNights_6 : decode cX10_passNights 6 = .ok (.aload_n 0, 1) := by decide +kernel
theorem dX10_passNights_7 : decode cX10_passNights 7 = .ok (.getfield 10, 3) := by decide +kernel
theorem dX10_passNights_10 : decode cX10_passNights 10 = .ok (.getfield 74, 3) := by decide +kernel
theorem dX10_passNights_13 : decode cX10_passNights 13 = .ok (.getfield 147, 3) := by decide +kernel
theorem dX10_passNights_16 : decode cX10_passNights 16 = .ok (.isub, 1) := by decide +kernel
theorem dX10_passNights_17 : decode cX10_passNights 17 = .ok (.invokestatic 217, 3) := by decide +kernel
theorem dX10_passNights_20 : decode cX10_passNights 20 = .ok (.istore_n 3, 1) := by decide +kernel
theorem dX10_passNights_21 : decode cX10_passNights 21 = .ok (.iconst 0, 1) := by decide +kernel
theorem dX10_passNights_22 : decode cX10_passNights 22 = .ok (.istore 4, 2) := by decide +kernel
theorem dX10_passNights_24 : decode cX10_passNights 24 = .ok (.iload 4, 2) := by decide +kernel
theorem dX10_passNights_26 : decode cX10_passNights 26 = .ok (.iload_n 3, 1) := by decide +kernel
theorem dX10_passNights_27 : decode cX10_passNights 27 = .ok (.if_icmp .ge 47, 3) := by decide +kernel
theorem dX10_passNights_30 : decode cX10_passNights 30 = .ok (.aload_n 0, 1) := by decide +kernel
theorem dX10_passNights_31 : decode cX10_passNights 31 = .ok (.getfield 10, 3) := by decide +kernel
theorem dX10_passNights_34 : decode cX10_passNights 34 = .ok (.invokevirtual 125, 3) := by decide +kernel
theorem dX10_passNights_37 : decode cX10_passNights 37 = .ok (.iload_n 2, 1) := by decide +kernel
theorem dX10_passNights_38 : decode cX10_passNights 38 = .ok (.aload_n 0, 1) := by decide +kernel
theorem dX10_passNights_39 : decode cX10_passNights 39 = .ok (.getfield 38, 3) := by decide +kernel
theorem dX10_passNights_42 : decode cX10_passNights 42 = .ok (.aload_n 0, 1) := by decide +kernel
theorem dX10_passNights_43 : decode cX10_passNights 43 = .ok (.getfield 10, 3) := by decide +kernel
theorem dX10_passNights_46 : decode cX10_passNights 46 = .ok (.getfield 74, 3) := by decide +kernel
theorem dX10_passNights_49 : decode cX10_passNights 49 = .ok (.aload_n 0, 1) := by decide +kernel
theorem dX10_passNights_50 : decode cX10_passNights 50 = .ok (.getfield 10, 3) := by decide +kernel
theorem dX10_passNights_53 : decode cX10_passNights 53 = .ok (.getfield 81, 3) := by decide +kernel
theorem dX10_passNights_56 : decode cX10_passNights 56 = .ok (.aload_n 0, 1) := by decide +kernel
theorem dX10_passNights_57 : decode cX10_passNights 57 = .ok (.getfield 10, 3) := by decide +kernel
theorem dX10_passNights_60 : decode cX10_passNights 60 = .ok (.invokevirtual 169, 3) := by decide +kernel
theorem dX10_passNights_63 : decode cX10_passNights 63 = .ok (.invokevirtual 172, 3) := by decide +kernel
theorem dX10_passNights_66 : decode cX10_passNights 66 = .ok (.iadd, 1) := by decide +kernel
theorem dX10_passNights_67 : decode cX10_passNights 67 = .ok (.istore_n 2, 1) := by decide +kernel
theorem dX10_passNights_68 : decode cX10_passNights 68 = .ok (.iinc 4 1, 3) := by decide +kernel
theorem dX10_passNights_71 : decode cX10_passNights 71 = .ok (.goto (-47), 3) := by decide +kernel
theorem dX10_passNights_74 : decode cX10_passNights 74 = .ok (.iload_n 2, 1) := by decide +kernel
theorem dX10_passNights_75 : decode cX10_passNights 75 = .ok (.ireturn, 1) := by decide +kernel
theorem dX10_playClause_0 : decode cX10_playClause 0 = .ok (.aload_n 1, 1) := by decide +kernel
theorem dX10_playClause_1 : decode cX10_playClause 1 = .ok (.iload_n 2, 1) := by decide +kernel
theorem dX10_playClause_2 : decode cX10_playClause 2 = .ok (.iconst 1, 1) := by decide +kernel
theorem dX10_playClause_3 : decode cX10_playClause 3 = .ok (.invokevirtual 347, 3) := by decide +kernel
theorem dX10_playClause_6 : decode cX10_playClause 6 = .ok (.istore_n 3, 1) := by decide +kernel
theorem dX10_playClause_7 : decode cX10_playClause 7 = .ok (.aload_n 1, 1) := by decide +kernel
theorem dX10_playClause_8 : decode cX10_playClause 8 = .ok (.iload_n 2, 1) := by decide +kernel
theorem dX10_playClause_9 : decode cX10_playClause 9 = .ok (.iconst 2, 1) := by decide +kernel
theorem dX10_playClause_10 : decode cX10_playClause 10 = .ok (.invokevirtual 347, 3) := by decide +kernel
theorem dX10_playClause_13 : decode cX10_playClause 13 = .ok (.istore 4, 2) := by decide +kernel
theorem dX10_playClause_15 : decode cX10_playClause 15 = .ok (.aload_n 0, 1) := by decide +kernel
theorem dX10_playClause_16 : decode cX10_playClause 16 = .ok (.getfield 10, 3) := by decide +kernel
theorem dX10_playClause_19 : decode cX10_playClause 19 = .ok (.getfield 74, 3) := by decide +kernel
theorem dX10_playClause_22 : decode cX10_playClause 22 = .ok (.getfield 147, 3) := by decide +kernel
theorem dX10_playClause_25 : decode cX10_playClause 25 = .ok (.istore 5, 2) := by decide +kernel
theorem dX10_playClause_27 : decode cX10_playClause 27 = .ok (.aload_n 1, 1) := by decide +kernel
theorem dX10_playClause_28 : decode cX10_playClause 28 = .ok (.iload_n 2, 1) := by decide +kernel
theorem dX10_playClause_29 : decode cX10_playClause 29 = .ok (.iconst 0, 1) := by decide +kernel
theorem dX10_playClause_30 : decode cX10_playClause 30 = .ok (.invokevirtual 347, 3) := by decide +kernel
theorem dX10_playClause_33 : decode cX10_playClause 33 = .ok (.tableswitch 138 3 9 #[43, 60, 69, 78, 103, 95, 109], 43) := by decide +kernel
theorem dX10_playClause_76 : decode cX10_playClause 76 = .ok (.aload_n 0, 1) := by decide +kernel
theorem dX10_playClause_77 : decode cX10_playClause 77 = .ok (.iload_n 3, 1) := by decide +kernel
theorem dX10_playClause_78 : decode cX10_playClause 78 = .ok (.iload 4, 2) := by decide +kernel
theorem dX10_playClause_80 : decode cX10_playClause 80 = .ok (.invokevirtual 350, 3) := by decide +kernel
theorem dX10_playClause_83 : decode cX10_playClause 83 = .ok (.iconst (-1), 1) := by decide +kernel
theorem dX10_playClause_84 : decode cX10_playClause 84 = .ok (.if_icmp .eq 7, 3) := by decide +kernel
theorem dX10_playClause_87 : decode cX10_playClause 87 = .ok (.iconst 1, 1) := by decide +kernel
theorem dX10_playClause_88 : decode cX10_playClause 88 = .ok (.goto 4, 3) := by decide +kernel
theorem dX10_playClause_91 : decode cX10_playClause 91 = .ok (.iconst 0, 1) := by decide +kernel
theorem dX10_playClause_92 : decode cX10_playClause 92 = .ok (.ireturn, 1) := by decide +kernel
theorem dX10_playClause_93 : decode cX10_playClause 93 = .ok (.aload_n 0, 1) := by decide +kernel
theorem dX10_playClause_94 : decode cX10_playClause 94 = .ok (.iload_n 3, 1) := by decide +kernel
theorem dX10_playClause_95 : decode cX10_playClause 95 = .ok (.iconst 0, 1) := by decide +kernel
theorem dX10_playClause_96 : decode cX10_playClause 96 = .ok (.iload 4, 2) := by decide +kernel
theorem dX10_playClause_98 : decode cX10_playClause 98 = .ok (.invokevirtual 353, 3) := by decide +kernel
theorem dX10_playClause_101 : decode cX10_playClause 101 = .ok (.ireturn, 1) := by decide +kernel
theorem dX10_playClause_102 : decode cX10_playClause 102 = .ok (.aload_n 0, 1) := by decide +kernel
theorem dX10_playClause_103 : decode cX10_playClause 103 = .ok (.iload_n 3, 1) := by decide +kernel
theorem dX10_playClause_104 : decode cX10_playClause 104 = .ok (.iconst 1, 1) := by decide +kernel
theorem dX10_playClause_105 : decode cX10_playClause 105 = .ok (.iload 4, 2) := by decide +kernel
theorem dX10_playClause_107 : decode cX10_playClause 107 = .ok (.invokevirtual 353, 3) := by decide +kernel
theorem dX10_playClause_110 : decode cX10_playClause 110 = .ok (.ireturn, 1) := by decide +kernel
theorem dX10_playClause_111 : decode cX10_playClause 111 = .ok (.aload_n 0, 1) := by decide +kernel
theorem dX10_playClause_112 : decode cX10_playClause 112 = .ok (.iload 4, 2) := by decide +kernel
theorem dX10_playClause_114 : decode cX10_playClause 114 = .ok (.iload_n 3, 1) := by decide +kernel
theorem dX10_playClause_115 : decode cX10_playClause 115 = .ok (.invokevirtual 357, 3) := by decide +kernel
theorem dX10_playClause_118 : decode cX10_playClause 118 = .ok (.iconst (-1), 1) := by decide +kernel
theorem dX10_playClause_119 : decode cX10_playClause 119 = .ok (.if_icmp .eq 7, 3) := by decide +kernel
theorem dX10_playClause_122 : decode cX10_playClause 122 = .ok (.iconst 1, 1) := by decide +kernel
theorem dX10_playClause_123 : decode cX10_playClause 123 = .ok (.goto 4, 3) := by decide +kernel
theorem dX10_playClause_126 : decode cX10_playClause 126 = .ok (.iconst 0, 1) := by decide +kernel
theorem dX10_playClause_127 : decode cX10_playClause 127 = .ok (.ireturn, 1) := by decide +kernel
theorem dX10_playClause_128 : decode cX10_playClause 128 = .ok (.aload_n 0, 1) := by decide +kernel
theorem dX10_playClause_129 : decode cX10_playClause 129 = .ok (.iload_n 3, 1) := by decide +kernel
theorem dX10_playClause_130 : decode cX10_playClause 130 = .ok (.iload 4, 2) := by decide +kernel
theorem dX10_playClause_132 : decode cX10_playClause 132 = .ok (.invokevirtual 360, 3) := by decide +kernel
theorem dX10_playClause_135 : decode cX10_playClause 135 = .ok (.ireturn, 1) := by decide +kernel
theorem dX10_playClause_136 : decode cX10_playClause 136 = .ok (.aload_n 0, 1) := by decide +kernel
theorem dX10_playClause_137 : decode cX10_playClause 137 = .ok (.iload_n 3, 1) := by decide +kernel
theorem dX10_playClause_138 : decode cX10_playClause 138 = .ok (.invokevirtual 363, 3) := by decide +kernel
theorem dX10_playClause_141 : decode cX10_playClause 141 = .ok (.ireturn, 1) := by decide +kernel
theorem dX10_playClause_142 : decode cX10_playClause 142 = .ok (.aload_n 0, 1) := by decide +kernel
theorem dX10_playClause_143 : decode cX10_playClause 143 = .ok (.iload_n 3, 1) := by decide +kernel
theorem dX10_playClause_144 : decode cX10_playClause 144 = .ok (.invokevirtual 150, 3) := by decide +kernel
theorem dX10_playClause_147 : decode cX10_playClause 147 = .ok (.pop, 1) := by decide +kernel
theorem dX10_playClause_148 : decode cX10_playClause 148 = .ok (.aload_n 0, 1) := by decide +kernel
theorem dX10_playClause_149 : decode cX10_playClause 149 = .ok (.getfield 10, 3) := by decide +kernel
theorem dX10_playClause_152 : decode cX10_playClause 152 = .ok (.getfield 74, 3) := by decide +kernel
theorem dX10_playClause_155 : decode cX10_playClause 155 = .ok (.getfield 147, 3) := by decide +kernel
theorem dX10_playClause_158 : decode cX10_playClause 158 = .ok (.iload 5, 2) := by decide +kernel
theorem dX10_playClause_160 : decode cX10_playClause 160 = .ok (.isub, 1) := by decide +kernel
theorem dX10_playClause_161 : decode cX10_playClause 161 = .ok (.iload_n 3, 1) := by decide +kernel
theorem dX10_playClause_162 : decode cX10_playClause 162 = .ok (.if_icmp .ne 7, 3) := by decide +kernel
theorem dX10_playClause_165 : decode cX10_playClause 165 = .ok (.iconst 1, 1) := by decide +kernel
theorem dX10_playClause_166 : decode cX10_playClause 166 = .ok (.goto 4, 3) := by decide +kernel
theorem dX10_playClause_169 : decode cX10_playClause 169 = .ok (.iconst 0, 1) := by decide +kernel
theorem dX10_playClause_170 : decode cX10_playClause 170 = .ok (.ireturn, 1) := by decide +kernel
theorem dX10_playClause_171 : decode cX10_playClause 171 = .ok (.iconst 1, 1) := by decide +kernel
theorem dX10_playClause_172 : decode cX10_playClause 172 = .ok (.ireturn, 1) := by decide +kernel
theorem dX10_handle_0 : decode cX10_handle 0 = .ok (.aload_n 0, 1) := by decide +kernel
theorem dX10_handle_1 : decode cX10_handle 1 = .ok (.getfield 10, 3) := by decide +kernel
theorem dX10_handle_4 : decode cX10_handle 4 = .ok (.getfield 74, 3) := by decide +kernel
theorem dX10_handle_7 : decode cX10_handle 7 = .ok (.astore_n 3, 1) := by decide +kernel
theorem dX10_handle_8 : decode cX10_handle 8 = .ok (.aload_n 3, 1) := by decide +kernel
theorem dX10_handle_9 : decode cX10_handle 9 = .ok (.iload_n 1, 1) := by decide +kernel
theorem dX10_handle_10 : decode cX10_handle 10 = .ok (.invokevirtual 135, 3) := by decide +kernel
theorem dX10_handle_13 : decode cX10_handle 13 = .ok (.ifCond .ne 4, 3) := by decide +kernel
theorem dX10_handle_16 : decode cX10_handle 16 = .ok (.return_, 1) := by decide +kernel
theorem dX10_handle_17 : decode cX10_handle 17 = .ok (.iload_n 2, 1) := by decide +kernel
theorem dX10_handle_18 : decode cX10_handle 18 = .ok (.iconst 5, 1) := by decide +kernel
theorem dX10_handle_19 : decode cX10_handle 19 = .ok (.irem, 1) := by decide +kernel
theorem dX10_handle_20 : decode cX10_handle 20 = .ok (.istore 4, 2) := by decide +kernel
theorem dX10_handle_22 : decode cX10_handle 22 = .ok (.iload 4, 2) := by decide +kernel
theorem dX10_handle_24 : decode cX10_handle 24 = .ok (.iconst 1, 1) := by decide +kernel
theorem dX10_handle_25 : decode cX10_handle 25 = .ok (.if_icmp .gt 24, 3) := by decide +kernel
theorem dX10_handle_28 : decode cX10_handle 28 = .ok (.aload_n 3, 1) := by decide +kernel
theorem dX10_handle_29 : decode cX10_handle 29 = .ok (.iload_n 1, 1) := by decide +kernel
theorem dX10_handle_30 : decode cX10_handle 30 = .ok (.invokevirtual 121, 3) := by decide +kernel
theorem dX10_handle_33 : decode cX10_handle 33 = .ok (.ifCond .eq 42, 3) := by decide +kernel
theorem dX10_handle_36 : decode cX10_handle 36 = .ok (.aload_n 3, 1) := by decide +kernel
theorem dX10_handle_37 : decode cX10_handle 37 = .ok (.iload_n 1, 1) := by decide +kernel
theorem dX10_handle_38 : decode cX10_handle 38 = .ok (.iload_n 2, 1) := by decide +kernel
theorem dX10_handle_39 : decode cX10_handle 39 = .ok (.sipush 997, 3) := by decide +kernel
theorem dX10_handle_42 : decode cX10_handle 42 = .ok (.irem, 1) := by decide +kernel
theorem dX10_handle_43 : decode cX10_handle 43 = .ok (.invokevirtual 128, 3) := by decide +kernel
theorem dX10_handle_46 : decode cX10_handle 46 = .ok (.goto 29, 3) := by decide +kernel
theorem dX10_handle_49 : decode cX10_handle 49 = .ok (.iload 4, 2) := by decide +kernel
theorem dX10_handle_51 : decode cX10_handle 51 = .ok (.iconst 2, 1) := by decide +kernel
theorem dX10_handle_52 : decode cX10_handle 52 = .ok (.if_icmp .ne 16, 3) := by decide +kernel
theorem dX10_handle_55 : decode cX10_handle 55 = .ok (.aload_n 3, 1) := by decide +kernel
theorem dX10_handle_56 : decode cX10_handle 56 = .ok (.getfield 138, 3) := by decide +kernel
theorem dX10_handle_59 : decode cX10_handle 59 = .ok (.iload_n 1, 1) := by decide +kernel
theorem dX10_handle_60 : decode cX10_handle 60 = .ok (.iload_n 2, 1) := by decide +kernel
theorem dX10_handle_61 : decode cX10_handle 61 = .ok (.bipush 10, 2) := by decide +kernel
theorem dX10_handle_63 : decode cX10_handle 63 = .ok (.irem, 1) := by decide +kernel
theorem dX10_handle_64 : decode cX10_handle 64 = .ok (.iastore, 1) := by decide +kernel
theorem dX10_handle_65 : decode cX10_handle 65 = .ok (.goto 10, 3) := by decide +kernel
theorem dX10_handle_68 : decode cX10_handle 68 = .ok (.aload_n 3, 1) := by decide +kernel
theorem dX10_handle_69 : decode cX10_handle 69 = .ok (.getfield 144, 3) := by decide +kernel
theorem dX10_handle_72 : decode cX10_handle 72 = .ok (.iload_n 1, 1) := by decide +kernel
theorem dX10_handle_73 : decode cX10_handle 73 = .ok (.iconst 0, 1) := by decide +kernel
theorem dX10_handle_74 : decode cX10_handle 74 = .ok (.iastore, 1) := by decide +kernel
theorem dX10_handle_75 : decode cX10_handle 75 = .ok (.return_, 1) := by decide +kernel
theorem dX10_lengthen_0 : decode cX10_lengthen 0 = .ok (.iload_n 1, 1) := by decide +kernel
theorem dX10_lengthen_1 : decode cX10_lengthen 1 = .ok (.iconst (-1), 1) := by decide +kernel
theorem dX10_lengthen_2 : decode cX10_lengthen 2 = .ok (.if_icmp .ne 10, 3) := by decide +kernel
theorem dX10_lengthen_5 : decode cX10_lengthen 5 = .ok (.aload_n 0, 1) := by decide +kernel
theorem dX10_lengthen_6 : decode cX10_lengthen 6 = .ok (.iconst 0, 1) := by decide +kernel
theorem dX10_lengthen_7 : decode cX10_lengthen 7 = .ok (.putfield 246, 3) := by decide +kernel
theorem dX10_lengthen_10 : decode cX10_lengthen 10 = .ok (.iconst 0, 1) := by decide +kernel
theorem dX10_lengthen_11 : decode cX10_lengthen 11 = .ok (.ireturn, 1) := by decide +kernel
theorem dX10_lengthen_12 : decode cX10_lengthen 12 = .ok (.iload_n 1, 1) := by decide +kernel
theorem dX10_lengthen_13 : decode cX10_lengthen 13 = .ok (.iconst 0, 1) := by decide +kernel
theorem dX10_lengthen_14 : decode cX10_lengthen 14 = .ok (.bipush 9, 2) := by decide +kernel
theorem dX10_lengthen_16 : decode cX10_lengthen 16 = .ok (.invokestatic 70, 3) := by decide +kernel
theorem dX10_lengthen_19 : decode cX10_lengthen 19 = .ok (.ifCond .eq 11, 3) := by decide +kernel
theorem dX10_lengthen_22 : decode cX10_lengthen 22 = .ok (.aload_n 0, 1) := by decide +kernel
theorem dX10_lengthen_23 : decode cX10_lengthen 23 = .ok (.iload_n 1, 1) := by decide +kernel
theorem dX10_lengthen_24 : decode cX10_lengthen 24 = .ok (.invokevirtual 251, 3) := by decide +kernel
theorem dX10_lengthen_27 : decode cX10_lengthen 27 = .ok (.ifCond .ne 6, 3) := by decide +kernel
theorem dX10_lengthen_30 : decode cX10_lengthen 30 = .ok (.bipush (-2), 2) := by decide +kernel
theorem dX10_lengthen_32 : decode cX10_lengthen 32 = .ok (.ireturn, 1) := by decide +kernel
theorem dX10_lengthen_33 : decode cX10_lengthen 33 = .ok (.aload_n 0, 1) := by decide +kernel
theorem dX10_lengthen_34 : decode cX10_lengthen 34 = .ok (.getfield 246, 3) := by decide +kernel
theorem dX10_lengthen_37 : decode cX10_lengthen 37 = .ok (.ireturn, 1) := by decide +kernel
theorem dX10_comesBack_0 : decode cX10_comesBack 0 = .ok (.iload_n 1, 1) := by decide +kernel
theorem dX10_comesBack_1 : decode cX10_comesBack 1 = .ok (.istore_n 3, 1) := by decide +kernel
theorem dX10_comesBack_2 : decode cX10_comesBack 2 = .ok (.iconst 0, 1) := by decide +kernel
theorem dX10_comesBack_3 : decode cX10_comesBack 3 = .ok (.istore 4, 2) := by decide +kernel
theorem dX10_comesBack_5 : decode cX10_comesBack 5 = .ok (.iload 4, 2) := by decide +kernel
theorem dX10_comesBack_7 : decode cX10_comesBack 7 = .ok (.bipush 9, 2) := by decide +kernel
theorem dX10_comesBack_9 : decode cX10_comesBack 9 = .ok (.if_icmp .ge 49, 3) := by decide +kernel
theorem dX10_comesBack_12 : decode cX10_comesBack 12 = .ok (.aload_n 0, 1) := by decide +kernel
theorem dX10_comesBack_13 : decode cX10_comesBack 13 = .ok (.getfield 10, 3) := by decide +kernel
theorem dX10_comesBack_16 : decode cX10_comesBack 16 = .ok (.getfield 81, 3) := by decide +kernel
theorem dX10_comesBack_19 : decode cX10_comesBack 19 = .ok (.iload_n 3, 1) := by decide +kernel
theorem dX10_comesBack_20 : decode cX10_comesBack 20 = .ok (.iload_n 2, 1) := by decide +kernel
theorem dX10_comesBack_21 : decode cX10_comesBack 21 = .ok (.invokestatic 85, 3) := by decide +kernel
theorem dX10_comesBack_24 : decode cX10_comesBack 24 = .ok (.iaload, 1) := by decide +kernel
theorem dX10_comesBack_25 : decode cX10_comesBack 25 = .ok (.istore 5, 2) := by decide +kernel
theorem dX10_comesBack_27 : decode cX10_comesBack 27 = .ok (.iload 5, 2) := by decide +kernel
theorem dX10_comesBack_29 : decode cX10_comesBack 29 = .ok (.iconst 1, 1) := by decide +kernel
theorem dX10_comesBack_30 : decode cX10_comesBack 30 = .ok (.bipush 10, 2) := by decide +kernel
theorem dX10_comesBack_32 : decode cX10_comesBack 32 = .ok (.invokestatic 70, 3) := by decide +kernel
theorem dX10_comesBack_35 : decode cX10_comesBack 35 = .ok (.ifCond .ne 5, 3) := by decide +kernel
theorem dX10_comesBack_38 : decode cX10_comesBack 38 = .ok (.iconst 0, 1) := by decide +kernel
theorem dX10_comesBack_39 : decode cX10_comesBack 39 = .ok (.ireturn, 1) := by decide +kernel
theorem dX10_comesBack_40 : decode cX10_comesBack 40 = .ok (.iload 5, 2) := by decide +kernel
theorem dX10_comesBack_42 : decode cX10_comesBack 42 = .ok (.iconst 1, 1) := by decide +kernel
theorem dX10_comesBack_43 : decode cX10_comesBack 43 = .ok (.isub, 1) := by decide +kernel
theorem dX10_comesBack_44 : decode cX10_comesBack 44 = .ok (.istore_n 3, 1) := by decide +kernel
theorem dX10_comesBack_45 : decode cX10_comesBack 45 = .ok (.iload_n 3, 1) := by decide +kernel
theorem dX10_comesBack_46 : decode cX10_comesBack 46 = .ok (.iload_n 1, 1) := by decide +kernel
theorem dX10_comesBack_47 : decode cX10_comesBack 47 = .ok (.if_icmp .ne 5, 3) := by decide +kernel
theorem dX10_comesBack_50 : decode cX10_comesBack 50 = .ok (.iconst 1, 1) := by decide +kernel
theorem dX10_comesBack_51 : decode cX10_comesBack 51 = .ok (.ireturn, 1) := by decide +kernel
theorem dX10_comesBack_52 : decode cX10_comesBack 52 = .ok (.iinc 4 1, 3) := by decide +kernel
theorem dX10_comesBack_55 : decode cX10_comesBack 55 = .ok (.goto (-50), 3) := by decide +kernel
theorem dX10_comesBack_58 : decode cX10_comesBack 58 = .ok (.iconst 0, 1) := by decide +kernel
theorem dX10_comesBack_59 : decode cX10_comesBack 59 = .ok (.ireturn, 1) := by decide +kernel
theorem dX10_agrees_0 : decode cX10_agrees 0 = .ok (.iconst 0, 1) := by decide +kernel
theorem dX10_agrees_1 : decode cX10_agrees 1 = .ok (.istore_n 2, 1) := by decide +kernel
theorem dX10_agrees_2 : decode cX10_agrees 2 = .ok (.iload_n 2, 1) := by decide +kernel
theorem dX10_agrees_3 : decode cX10_agrees 3 = .ok (.aload_n 0, 1) := by decide +kernel
theorem dX10_agrees_4 : decode cX10_agrees 4 = .ok (.getfield 10, 3) := by decide +kernel
theorem dX10_agrees_7 : decode cX10_agrees 7 = .ok (.getfield 317, 3) := by decide +kernel
theorem dX10_agrees_10 : decode cX10_agrees 10 = .ok (.getfield 246, 3) := by decide +kernel
theorem dX10_agrees_13 : decode cX10_agrees 13 = .ok (.if_icmp .ge 67, 3) := by decide +kernel
theorem dX10_agrees_16 : decode cX10_agrees 16 = .ok (.aload_n 0, 1) := by decide +kernel
theorem dX10_agrees_17 : decode cX10_agrees 17 = .ok (.getfield 10, 3) := by decide +kernel
theorem dX10_agrees_20 : decode cX10_agrees 20 = .ok (.getfield 317, 3) := by decide +kernel
theorem dX10_agrees_23 : decode cX10_agrees 23 = .ok (.iload_n 2, 1) := by decide +kernel
theorem dX10_agrees_24 : decode cX10_agrees 24 = .ok (.invokevirtual 253, 3) := by decide +kernel
theorem dX10_agrees_27 : decode cX10_agrees 27 = .ok (.istore_n 3, 1) := by decide +kernel
theorem dX10_agrees_28 : decode cX10_agrees 28 = .ok (.aload_n 0, 1) := by decide +kernel
theorem dX10_agrees_29 : decode cX10_agrees 29 = .ok (.getfield 10, 3) := by decide +kernel
theorem dX10_agrees_32 : decode cX10_agrees 32 = .ok (.getfield 74, 3) := by decide +kernel
theorem dX10_agrees_35 : decode cX10_agrees 35 = .ok (.iload_n 3, 1) := by decide +kernel
theorem dX10_agrees_36 : decode cX10_agrees 36 = .ok (.invokevirtual 135, 3) := by decide +kernel
theorem dX10_agrees_39 : decode cX10_agrees 39 = .ok (.ifCond .eq 35, 3) := by decide +kernel
theorem dX10_agrees_42 : decode cX10_agrees 42 = .ok (.aload_n 0, 1) := by decide +kernel
theorem dX10_agrees_43 : decode cX10_agrees 43 = .ok (.getfield 38, 3) := by decide +kernel
theorem dX10_agrees_46 : decode cX10_agrees 46 = .ok (.aload_n 1, 1) := by decide +kernel
theorem dX10_agrees_47 : decode cX10_agrees 47 = .ok (.aload_n 0, 1) := by decide +kernel
theorem dX10_agrees_48 : decode cX10_agrees 48 = .ok (.getfield 10, 3) := by decide +kernel
theorem dX10_agrees_51 : decode cX10_agrees 51 = .ok (.getfield 74, 3) := by decide +kernel
theorem dX10_agrees_54 : decode cX10_agrees 54 = .ok (.iload_n 3, 1) := by decide +kernel
theorem dX10_agrees_55 : decode cX10_agrees 55 = .ok (.invokevirtual 194, 3) := by decide +kernel
theorem dX10_agrees_58 : decode cX10_agrees 58 = .ok (.aload_n 0, 1) := by decide +kernel
theorem dX10_agrees_59 : decode cX10_agrees 59 = .ok (.getfield 10, 3) := by decide +kernel
theorem dX10_agrees_62 : decode cX10_agrees 62 = .ok (.getfield 320, 3) := by decide +kernel
theorem dX10_agrees_65 : decode cX10_agrees 65 = .ok (.iload_n 2, 1) := by decide +kernel
theorem dX10_agrees_66 : decode cX10_agrees 66 = .ok (.invokevirtual 253, 3) := by decide +kernel
theorem dX10_agrees_69 : decode cX10_agrees 69 = .ok (.if_icmp .eq 5, 3) := by decide +kernel
theorem dX10_agrees_72 : decode cX10_agrees 72 = .ok (.iconst 0, 1) := by decide +kernel
theorem dX10_agrees_73 : decode cX10_agrees 73 = .ok (.ireturn, 1) := by decide +kernel
theorem dX10_agrees_74 : decode cX10_agrees 74 = .ok (.iinc 2 1, 3) := by decide +kernel
theorem dX10_agrees_77 : decode cX10_agrees 77 = .ok (.goto (-75), 3) := by decide +kernel
theorem dX10_agrees_80 : decode cX10_agrees 80 = .ok (.iconst 1, 1) := by decide +kernel
theorem dX10_agrees_81 : decode cX10_agrees 81 = .ok (.ireturn, 1) := by decide +kernel
theorem dX10_within_0 : decode cX10_within 0 = .ok (.iload_n 0, 1) := by decide +kernel
theorem dX10_within_1 : decode cX10_within 1 = .ok (.iload_n 1, 1) := by decide +kernel
theorem dX10_within_2 : decode cX10_within 2 = .ok (.if_icmp .lt 12, 3) := by decide +kernel
theorem dX10_within_5 : decode cX10_within 5 = .ok (.iload_n 0, 1) := by decide +kernel
theorem dX10_within_6 : decode cX10_within 6 = .ok (.iload_n 2, 1) := by decide +kernel
theorem dX10_within_7 : decode cX10_within 7 = .ok (.if_icmp .gt 7, 3) := by decide +kernel
theorem dX10_within_10 : decode cX10_within 10 = .ok (.iconst 1, 1) := by decide +kernel
theorem dX10_within_11 : decode cX10_within 11 = .ok (.goto 4, 3) := by decide +kernel
theorem dX10_within_14 : decode cX10_within 14 = .ok (.iconst 0, 1) := by decide +kernel
theorem dX10_within_15 : decode cX10_within 15 = .ok (.ireturn, 1) := by decide +kernel
theorem dX10_ruleIndex_0 : decode cX10_ruleIndex 0 = .ok (.iload_n 0, 1) := by decide +kernel
theorem dX10_ruleIndex_1 : decode cX10_ruleIndex 1 = .ok (.iconst 2, 1) := by decide +kernel
theorem dX10_ruleIndex_2 : decode cX10_ruleIndex 2 = .ok (.imul, 1) := by decide +kernel
theorem dX10_ruleIndex_3 : decode cX10_ruleIndex 3 = .ok (.iload_n 1, 1) := by decide +kernel
theorem dX10_ruleIndex_4 : decode cX10_ruleIndex 4 = .ok (.ifCond .eq 7, 3) := by decide +kernel
theorem dX10_ruleIndex_7 : decode cX10_ruleIndex 7 = .ok (.iconst 1, 1) := by decide +kernel
theorem dX10_ruleIndex_8 : decode cX10_ruleIndex 8 = .ok (.goto 4, 3) := by decide +kernel
theorem dX10_ruleIndex_11 : decode cX10_ruleIndex 11 = .ok (.iconst 0, 1) := by decide +kernel
theorem dX10_ruleIndex_12 : decode cX10_ruleIndex 12 = .ok (.iadd, 1) := by decide +kernel
theorem dX10_ruleIndex_13 : decode cX10_ruleIndex 13 = .ok (.ireturn, 1) := by decide +kernel
theorem dX10_commonDivisor_0 : decode cX10_commonDivisor 0 = .ok (.iload_n 1, 1) := by decide +kernel
theorem dX10_commonDivisor_1 : decode cX10_commonDivisor 1 = .ok (.istore_n 2, 1) := by decide +kernel
theorem dX10_commonDivisor_2 : decode cX10_commonDivisor 2 = .ok (.iload_n 0, 1) := by decide +kernel
theorem dX10_commonDivisor_3 : decode cX10_commonDivisor 3 = .ok (.istore_n 3, 1) := by decide +kernel
theorem dX10_commonDivisor_4 : decode cX10_commonDivisor 4 = .ok (.iconst 0, 1) := by decide +kernel
theorem dX10_commonDivisor_5 : decode cX10_commonDivisor 5 = .ok (.istore 4, 2) := by decide +kernel
theorem dX10_commonDivisor_7 : decode cX10_commonDivisor 7 = .ok (.iload 4, 2) := by decide +kernel
theorem dX10_commonDivisor_9 : decode cX10_commonDivisor 9 = .ok (.bipush 64, 2) := by decide +kernel
theorem dX10_commonDivisor_11 : decode cX10_commonDivisor 11 = .ok (.if_icmp .ge 23, 3) := by decide +kernel
theorem dX10_commonDivisor_14 : decode cX10_commonDivisor 14 = .ok (.iload_n 3, 1) := by decide +kernel
theorem dX10_commonDivisor_15 : decode cX10_commonDivisor 15 = .ok (.ifCond .eq 19, 3) := by decide +kernel
theorem dX10_commonDivisor_18 : decode cX10_commonDivisor 18 = .ok (.iload_n 2, 1) := by decide +kernel
theorem dX10_commonDivisor_19 : decode cX10_commonDivisor 19 = .ok (.iload_n 3, 1) := by decide +kernel
theorem dX10_commonDivisor_20 : decode cX10_commonDivisor 20 = .ok (.irem, 1) := by decide +kernel
theorem dX10_commonDivisor_21 : decode cX10_commonDivisor 21 = .ok (.istore 5, 2) := by decide +kernel
theorem dX10_commonDivisor_23 : decode cX10_commonDivisor 23 = .ok (.iload_n 3, 1) := by decide +kernel
theorem dX10_commonDivisor_24 : decode cX10_commonDivisor 24 = .ok (.istore_n 2, 1) := by decide +kernel
theorem dX10_commonDivisor_25 : decode cX10_commonDivisor 25 = .ok (.iload 5, 2) := by decide +kernel
theorem dX10_commonDivisor_27 : decode cX10_commonDivisor 27 = .ok (.istore_n 3, 1) := by decide +kernel
theorem dX10_commonDivisor_28 : decode cX10_commonDivisor 28 = .ok (.iinc 4 1, 3) := by decide +kernel
theorem dX10_commonDivisor_31 : decode cX10_commonDivisor 31 = .ok (.goto (-24), 3) := by decide +kernel
theorem dX10_commonDivisor_34 : decode cX10_commonDivisor 34 = .ok (.iload_n 2, 1) := by decide +kernel
theorem dX10_commonDivisor_35 : decode cX10_commonDivisor 35 = .ok (.ifCond .ne 7, 3) := by decide +kernel
theorem dX10_commonDivisor_38 : decode cX10_commonDivisor 38 = .ok (.iconst 1, 1) := by decide +kernel
theorem dX10_commonDivisor_39 : decode cX10_commonDivisor 39 = .ok (.goto 4, 3) := by decide +kernel
theorem dX10_commonDivisor_42 : decode cX10_commonDivisor 42 = .ok (.iload_n 2, 1) := by decide +kernel
theorem dX10_commonDivisor_43 : decode cX10_commonDivisor 43 = .ok (.ireturn, 1) := by decide +kernel
theorem dX10_digitCount_0 : decode cX10_digitCount 0 = .ok (.iconst 1, 1) := by decide +kernel
theorem dX10_digitCount_1 : decode cX10_digitCount 1 = .ok (.istore_n 1, 1) := by decide +kernel
theorem dX10_digitCount_2 : decode cX10_digitCount 2 = .ok (.iconst 1, 1) := by decide +kernel
theorem dX10_digitCount_3 : decode cX10_digitCount 3 = .ok (.istore_n 2, 1) := by decide +kernel
theorem dX10_digitCount_4 : decode cX10_digitCount 4 = .ok (.iload_n 2, 1) := by decide +kernel
theorem dX10_digitCount_5 : decode cX10_digitCount 5 = .ok (.getstatic 366, 3) := by decide +kernel
theorem dX10_digitCount_8 : decode cX10_digitCount 8 = .ok (.arraylength, 1) := by decide +kernel
theorem dX10_digitCount_9 : decode cX10_digitCount 9 = .ok (.if_icmp .ge 22, 3) := by decide +kernel
theorem dX10_digitCount_12 : decode cX10_digitCount 12 = .ok (.iload_n 0, 1) := by decide +kernel
theorem dX10_digitCount_13 : decode cX10_digitCount 13 = .ok (.getstatic 366, 3) := by decide +kernel
theorem dX10_digitCount_16 : decode cX10_digitCount 16 = .ok (.iload_n 2, 1) := by decide +kernel
theorem dX10_digitCount_17 : decode cX10_digitCount 17 = .ok (.iaload, 1) := by decide +kernel
theorem dX10_digitCount_18 : decode cX10_digitCount 18 = .ok (.if_icmp .lt 7, 3) := by decide +kernel
theorem dX10_digitCount_21 : decode cX10_digitCount 21 = .ok (.iload_n 2, 1) := by decide +kernel
theorem dX10_digitCount_22 : decode cX10_digitCount 22 = .ok (.iconst 1, 1) := by decide +kernel
theorem dX10_digitCount_23 : decode cX10_digitCount 23 = .ok (.iadd, 1) := by decide +kernel
theorem dX10_digitCount_24 : decode cX10_digitCount 24 = .ok (.istore_n 1, 1) := by decide +kernel
theorem dX10_digitCount_25 : decode cX10_digitCount 25 = .ok (.iinc 2 1, 3) := by decide +kernel
theorem dX10_digitCount_28 : decode cX10_digitCount 28 = .ok (.goto (-24), 3) := by decide +kernel
theorem dX10_digitCount_31 : decode cX10_digitCount 31 = .ok (.iload_n 1, 1) := by decide +kernel
theorem dX10_digitCount_32 : decode cX10_digitCount 32 = .ok (.ireturn, 1) := by decide +kernel
theorem dX10_digitAt_0 : decode cX10_digitAt 0 = .ok (.iload_n 0, 1) := by decide +kernel
theorem dX10_digitAt_1 : decode cX10_digitAt 1 = .ok (.invokestatic 335, 3) := by decide +kernel
theorem dX10_digitAt_4 : decode cX10_digitAt 4 = .ok (.iconst 1, 1) := by decide +kernel
theorem dX10_digitAt_5 : decode cX10_digitAt 5 = .ok (.isub, 1) := by decide +kernel
theorem dX10_digitAt_6 : decode cX10_digitAt 6 = .ok (.iload_n 1, 1) := by decide +kernel
theorem dX10_digitAt_7 : decode cX10_digitAt 7 = .ok (.isub, 1) := by decide +kernel
theorem dX10_digitAt_8 : decode cX10_digitAt 8 = .ok (.istore_n 2, 1) := by decide +kernel
theorem dX10_digitAt_9 : decode cX10_digitAt 9 = .ok (.iload_n 2, 1) := by decide +kernel
theorem dX10_digitAt_10 : decode cX10_digitAt 10 = .ok (.iconst 0, 1) := by decide +kernel
theorem dX10_digitAt_11 : decode cX10_digitAt 11 = .ok (.getstatic 366, 3) := by decide +kernel
theorem dX10_digitAt_14 : decode cX10_digitAt 14 = .ok (.arraylength, 1) := by decide +kernel
theorem dX10_digitAt_15 : decode cX10_digitAt 15 = .ok (.iconst 1, 1) := by decide +kernel
theorem dX10_digitAt_16 : decode cX10_digitAt 16 = .ok (.isub, 1) := by decide +kernel
theorem dX10_digitAt_17 : decode cX10_digitAt 17 = .ok (.invokestatic 70, 3) := by decide +kernel
theorem dX10_digitAt_20 : decode cX10_digitAt 20 = .ok (.ifCond .eq 16, 3) := by decide +kernel
theorem dX10_digitAt_23 : decode cX10_digitAt 23 = .ok (.iload_n 0, 1) := by decide +kernel
theorem dX10_digitAt_24 : decode cX10_digitAt 24 = .ok (.getstatic 366, 3) := by decide +kernel
theorem dX10_digitAt_27 : decode cX10_digitAt 27 = .ok (.iload_n 2, 1) := by decide +kernel
theorem dX10_digitAt_28 : decode cX10_digitAt 28 = .ok (.iaload, 1) := by decide +kernel
theorem dX10_digitAt_29 : decode cX10_digitAt 29 = .ok (.idiv, 1) := by decide +kernel
theorem dX10_digitAt_30 : decode cX10_digitAt 30 = .ok (.bipush 10, 2) := by decide +kernel
theorem dX10_digitAt_32 : decode cX10_digitAt 32 = .ok (.irem, 1) := by decide +kernel
theorem dX10_digitAt_33 : decode cX10_digitAt 33 = .ok (.goto 4, 3) := by decide +kernel
theorem dX10_digitAt_36 : decode cX10_digitAt 36 = .ok (.iconst 0, 1) := by decide +kernel
theorem dX10_digitAt_37 : decode cX10_digitAt 37 = .ok (.ireturn, 1) := by decide +kernel
