theorem dX3_ill_109 : decode cX3_ill 109 = .ok (.iload 5, 2) := by decide +kernel
theorem dX3_ill_111 : decode cX3_ill 111 = .ok (.istore 4, 2) := by decide +kernel
theorem dX3_ill_113 : decode cX3_ill 113 = .ok (.iinc 5 1, 3) := by decide +kernel
theorem dX3_ill_116 : decode cX3_ill 116 = .ok (.goto (-67), 3) := by decide +kernel
theorem dX3_ill_119 : decode cX3_ill 119 = .ok (.iload_n 1, 1) := by decide +kernel
theorem dX3_ill_120 : decode cX3_ill 120 = .ok (.ifCond .ne 7, 3) := by decide +kernel
theorem dX3_ill_123 : decode cX3_ill 123 = .ok (.iload_n 3, 1) := by decide +kernel
theorem dX3_ill_124 : decode cX3_ill 124 = .ok (.goto 5, 3) := by decide +kernel
theorem dX3_ill_127 : decode cX3_ill 127 = .ok (.iload 4, 2) := by decide +kernel
theorem dX3_ill_129 : decode cX3_ill 129 = .ok (.ireturn, 1) := by decide +kernel
theorem dX3_isRowOfPairs_0 : decode cX3_isRowOfPairs 0 = .ok (.aload_n 0, 1) := by decide +kernel
theorem dX3_isRowOfPairs_1 : decode cX3_isRowOfPairs 1 = .ok (.getfield 37, 3) := by decide +kernel
theorem dX3_isRowOfPairs_4 : decode cX3_isRowOfPairs 4 = .ok (.iconst 2, 1) := by decide +kernel
theorem dX3_isRowOfPairs_5 : decode cX3_isRowOfPairs 5 = .ok (.irem, 1) := by decide +kernel
theorem dX3_isRowOfPairs_6 : decode cX3_isRowOfPairs 6 = .ok (.ifCond .eq 5, 3) := by decide +kernel
theorem dX3_isRowOfPairs_9 : decode cX3_isRowOfPairs 9 = .ok (.iconst 0, 1) := by decide +kernel
theorem dX3_isRowOfPairs_10 : decode cX3_isRowOfPairs 10 = .ok (.ireturn, 1) := by decide +kernel
theorem dX3_isRowOfPairs_11 : decode cX3_isRowOfPairs 11 = .ok (.iconst 1, 1) := by decide +kernel
theorem dX3_isRowOfPairs_12 : decode cX3_isRowOfPairs 12 = .ok (.istore_n 1, 1) := by decide +kernel
theorem dX3_isRowOfPairs_13 : decode cX3_isRowOfPairs 13 = .ok (.iload_n 1, 1) := by decide +kernel
theorem dX3_isRowOfPairs_14 : decode cX3_isRowOfPairs 14 = .ok (.aload_n 0, 1) := by decide +kernel
theorem dX3_isRowOfPairs_15 : decode cX3_isRowOfPairs 15 = .ok (.getfield 37, 3) := by decide +kernel
theorem dX3_isRowOfPairs_18 : decode cX3_isRowOfPairs 18 = .ok (.if_icmp .ge 26, 3) := by decide +kernel
theorem dX3_isRowOfPairs_21 : decode cX3_isRowOfPairs 21 = .ok (.aload_n 0, 1) := by decide +kernel
theorem dX3_isRowOfPairs_22 : decode cX3_isRowOfPairs 22 = .ok (.getfield 34, 3) := by decide +kernel
theorem dX3_isRowOfPairs_25 : decode cX3_isRowOfPairs 25 = .ok (.iload_n 1, 1) := by decide +kernel
theorem dX3_isRowOfPairs_26 : decode cX3_isRowOfPairs 26 = .ok (.invokestatic 136, 3) := by decide +kernel
theorem dX3_isRowOfPairs_29 : decode cX3_isRowOfPairs 29 = .ok (.iconst 2, 1) := by decide +kernel
theorem dX3_isRowOfPairs_30 : decode cX3_isRowOfPairs 30 = .ok (.invokestatic 70, 3) := by decide +kernel
theorem dX3_isRowOfPairs_33 : decode cX3_isRowOfPairs 33 = .ok (.ifCond .ne 5, 3) := by decide +kernel
theorem dX3_isRowOfPairs_36 : decode cX3_isRowOfPairs 36 = .ok (.iconst 0, 1) := by decide +kernel
theorem dX3_isRowOfPairs_37 : decode cX3_isRowOfPairs 37 = .ok (.ireturn, 1) := by decide +kernel
theorem dX3_isRowOfPairs_38 : decode cX3_isRowOfPairs 38 = .ok (.iinc 1 2, 3) := by decide +kernel
theorem dX3_isRowOfPairs_41 : decode cX3_isRowOfPairs 41 = .ok (.goto (-28), 3) := by decide +kernel
theorem dX3_isRowOfPairs_44 : decode cX3_isRowOfPairs 44 = .ok (.iconst 1, 1) := by decide +kernel
theorem dX3_isRowOfPairs_45 : decode cX3_isRowOfPairs 45 = .ok (.ireturn, 1) := by decide +kernel
theorem dX3_kindsThatFit_0 : decode cX3_kindsThatFit 0 = .ok (.iconst 0, 1) := by decide +kernel
theorem dX3_kindsThatFit_1 : decode cX3_kindsThatFit 1 = .ok (.istore 4, 2) := by decide +kernel
theorem dX3_kindsThatFit_3 : decode cX3_kindsThatFit 3 = .ok (.iconst 0, 1) := by decide +kernel
theorem dX3_kindsThatFit_4 : decode cX3_kindsThatFit 4 = .ok (.istore 5, 2) := by decide +kernel
theorem dX3_kindsThatFit_6 : decode cX3_kindsThatFit 6 = .ok (.iload 5, 2) := by decide +kernel
theorem dX3_kindsThatFit_8 : decode cX3_kindsThatFit 8 = .ok (.bipush 6, 2) := by decide +kernel
theorem dX3_kindsThatFit_10 : decode cX3_kindsThatFit 10 = .ok (.if_icmp .ge 70, 3) := by decide +kernel
theorem dX3_kindsThatFit_13 : decode cX3_kindsThatFit 13 = .ok (.aload_n 0, 1) := by decide +kernel
theorem dX3_kindsThatFit_14 : decode cX3_kindsThatFit 14 = .ok (.getfield 50, 3) := by decide +kernel
theorem dX3_kindsThatFit_17 : decode cX3_kindsThatFit 17 = .ok (.iload 5, 2) := by decide +kernel
theorem dX3_kindsThatFit_19 : decode cX3_kindsThatFit 19 = .ok (.iload_n 1, 1) := by decide +kernel
theorem dX3_kindsThatFit_20 : decode cX3_kindsThatFit 20 = .ok (.iconst 1, 1) := by decide +kernel
theorem dX3_kindsThatFit_21 : decode cX3_kindsThatFit 21 = .ok (.iconst 0, 1) := by decide +kernel
theorem dX3_kindsThatFit_22 : decode cX3_kindsThatFit 22 = .ok (.invokevirtual 330, 3) := by decide +kernel
theorem dX3_kindsThatFit_25 : decode cX3_kindsThatFit 25 = .ok (.aload_n 0, 1) := by decide +kernel
theorem dX3_kindsThatFit_26 : decode cX3_kindsThatFit 26 = .ok (.getfield 50, 3) := by decide +kernel
theorem dX3_kindsThatFit_29 : decode cX3_kindsThatFit 29 = .ok (.iload_n 2, 1) := by decide +kernel
theorem dX3_kindsThatFit_30 : decode cX3_kindsThatFit 30 = .ok (.aload_n 0, 1) := by decide +kernel
theorem dX3_kindsThatFit_31 : decode cX3_kindsThatFit 31 = .ok (.getfield 50, 3) := by decide +kernel
theorem dX3_kindsThatFit_34 : decode cX3_kindsThatFit 34 = .ok (.invokevirtual 160, 3) := by decide +kernel
theorem dX3_kindsThatFit_37 : decode cX3_kindsThatFit 37 = .ok (.imul, 1) := by decide +kernel
theorem dX3_kindsThatFit_38 : decode cX3_kindsThatFit 38 = .ok (.invokevirtual 169, 3) := by decide +kernel
theorem dX3_kindsThatFit_41 : decode cX3_kindsThatFit 41 = .ok (.aload_n 0, 1) := by decide +kernel
theorem dX3_kindsThatFit_42 : decode cX3_kindsThatFit 42 = .ok (.getfield 50, 3) := by decide +kernel
theorem dX3_kindsThatFit_45 : decode cX3_kindsThatFit 45 = .ok (.invokevirtual 156, 3) := by decide +kernel
theorem dX3_kindsThatFit_48 : decode cX3_kindsThatFit 48 = .ok (.iconst 3, 1) := by decide +kernel
theorem dX3_kindsThatFit_49 : decode cX3_kindsThatFit 49 = .ok (.if_icmp .lt 7, 3) := by decide +kernel
theorem dX3_kindsThatFit_52 : decode cX3_kindsThatFit 52 = .ok (.iconst 1, 1) := by decide +kernel
theorem dX3_kindsThatFit_53 : decode cX3_kindsThatFit 53 = .ok (.goto 4, 3) := by decide +kernel
theorem dX3_kindsThatFit_56 : decode cX3_kindsThatFit 56 = .ok (.iconst 0, 1) := by decide +kernel
theorem dX3_kindsThatFit_57 : decode cX3_kindsThatFit 57 = .ok (.istore 6, 2) := by decide +kernel
theorem dX3_kindsThatFit_59 : decode cX3_kindsThatFit 59 = .ok (.iload 6, 2) := by decide +kernel
theorem dX3_kindsThatFit_61 : decode cX3_kindsThatFit 61 = .ok (.iload_n 3, 1) := by decide +kernel
theorem dX3_kindsThatFit_62 : decode cX3_kindsThatFit 62 = .ok (.if_icmp .ne 12, 3) := by decide +kernel
theorem dX3_kindsThatFit_65 : decode cX3_kindsThatFit 65 = .ok (.iload 4, 2) := by decide +kernel
theorem dX3_kindsThatFit_67 : decode cX3_kindsThatFit 67 = .ok (.iconst 1, 1) := by decide +kernel
theorem dX3_kindsThatFit_68 : decode cX3_kindsThatFit 68 = .ok (.iload 5, 2) := by decide +kernel
theorem dX3_kindsThatFit_70 : decode cX3_kindsThatFit 70 = .ok (.ishl, 1) := by decide +kernel
theorem dX3_kindsThatFit_71 : decode cX3_kindsThatFit 71 = .ok (.ior, 1) := by decide +kernel
theorem dX3_kindsThatFit_72 : decode cX3_kindsThatFit 72 = .ok (.istore 4, 2) := by decide +kernel
theorem dX3_kindsThatFit_74 : decode cX3_kindsThatFit 74 = .ok (.iinc 5 1, 3) := by decide +kernel
theorem dX3_kindsThatFit_77 : decode cX3_kindsThatFit 77 = .ok (.goto (-71), 3) := by decide +kernel
theorem dX3_kindsThatFit_80 : decode cX3_kindsThatFit 80 = .ok (.iload 4, 2) := by decide +kernel
theorem dX3_kindsThatFit_82 : decode cX3_kindsThatFit 82 = .ok (.ireturn, 1) := by decide +kernel
theorem dX3_row_0 : decode cX3_row 0 = .ok (.iload_n 1, 1) := by decide +kernel
theorem dX3_row_1 : decode cX3_row 1 = .ok (.iconst 0, 1) := by decide +kernel
theorem dX3_row_2 : decode cX3_row 2 = .ok (.bipush 99, 2) := by decide +kernel
theorem dX3_row_4 : decode cX3_row 4 = .ok (.invokestatic 66, 3) := by decide +kernel
theorem dX3_row_7 : decode cX3_row 7 = .ok (.istore_n 2, 1) := by decide +kernel
theorem dX3_row_8 : decode cX3_row 8 = .ok (.iload_n 2, 1) := by decide +kernel
theorem dX3_row_9 : decode cX3_row 9 = .ok (.ifCond .ne 21, 3) := by decide +kernel
theorem dX3_row_12 : decode cX3_row 12 = .ok (.aload_n 0, 1) := by decide +kernel
theorem dX3_row_13 : decode cX3_row 13 = .ok (.getfield 37, 3) := by decide +kernel
theorem dX3_row_16 : decode cX3_row 16 = .ok (.aload_n 0, 1) := by decide +kernel
theorem dX3_row_17 : decode cX3_row 17 = .ok (.getfield 34, 3) := by decide +kernel
theorem dX3_row_20 : decode cX3_row 20 = .ok (.arraylength, 1) := by decide +kernel
theorem dX3_row_21 : decode cX3_row 21 = .ok (.invokestatic 70, 3) := by decide +kernel
theorem dX3_row_24 : decode cX3_row 24 = .ok (.ifCond .ne 6, 3) := by decide +kernel
theorem dX3_row_27 : decode cX3_row 27 = .ok (.bipush (-6), 2) := by decide +kernel
theorem dX3_row_29 : decode cX3_row 29 = .ok (.istore_n 2, 1) := by decide +kernel
theorem dX3_row_30 : decode cX3_row 30 = .ok (.iload_n 2, 1) := by decide +kernel
theorem dX3_row_31 : decode cX3_row 31 = .ok (.ifCond .eq 9, 3) := by decide +kernel
theorem dX3_row_34 : decode cX3_row 34 = .ok (.aload_n 0, 1) := by decide +kernel
theorem dX3_row_35 : decode cX3_row 35 = .ok (.iload_n 2, 1) := by decide +kernel
theorem dX3_row_36 : decode cX3_row 36 = .ok (.invokevirtual 74, 3) := by decide +kernel
theorem dX3_row_39 : decode cX3_row 39 = .ok (.ireturn, 1) := by decide +kernel
theorem dX3_row_40 : decode cX3_row 40 = .ok (.aload_n 0, 1) := by decide +kernel
theorem dX3_row_41 : decode cX3_row 41 = .ok (.getfield 34, 3) := by decide +kernel
theorem dX3_row_44 : decode cX3_row 44 = .ok (.aload_n 0, 1) := by decide +kernel
theorem dX3_row_45 : decode cX3_row 45 = .ok (.getfield 37, 3) := by decide +kernel
theorem dX3_row_48 : decode cX3_row 48 = .ok (.iload_n 1, 1) := by decide +kernel
theorem dX3_row_49 : decode cX3_row 49 = .ok (.iastore, 1) := by decide +kernel
theorem dX3_row_50 : decode cX3_row 50 = .ok (.aload_n 0, 1) := by decide +kernel
theorem dX3_row_51 : decode cX3_row 51 = .ok (.dup, 1) := by decide +kernel
theorem dX3_row_52 : decode cX3_row 52 = .ok (.getfield 37, 3) := by decide +kernel
theorem dX3_row_55 : decode cX3_row 55 = .ok (.iconst 1, 1) := by decide +kernel
theorem dX3_row_56 : decode cX3_row 56 = .ok (.iadd, 1) := by decide +kernel
theorem dX3_row_57 : decode cX3_row 57 = .ok (.putfield 37, 3) := by decide +kernel
theorem dX3_row_60 : decode cX3_row 60 = .ok (.aload_n 0, 1) := by decide +kernel
theorem dX3_row_61 : decode cX3_row 61 = .ok (.getfield 37, 3) := by decide +kernel
theorem dX3_row_64 : decode cX3_row 64 = .ok (.ireturn, 1) := by decide +kernel
theorem dX3_judge_0 : decode cX3_judge 0 = .ok (.aload_n 0, 1) := by decide +kernel
theorem dX3_judge_1 : decode cX3_judge 1 = .ok (.iconst 1, 1) := by decide +kernel
theorem dX3_judge_2 : decode cX3_judge 2 = .ok (.iconst 1, 1) := by decide +kernel
theorem dX3_judge_3 : decode cX3_judge 3 = .ok (.invokevirtual 175, 3) := by decide +kernel
theorem dX3_judge_6 : decode cX3_judge 6 = .ok (.istore_n 1, 1) := by decide +kernel
theorem dX3_judge_7 : decode cX3_judge 7 = .ok (.iload_n 1, 1) := by decide +kernel
theorem dX3_judge_8 : decode cX3_judge 8 = .ok (.ifCond .eq 9, 3) := by decide +kernel
theorem dX3_judge_11 : decode cX3_judge 11 = .ok (.aload_n 0, 1) := by decide +kernel
theorem dX3_judge_12 : decode cX3_judge 12 = .ok (.iload_n 1, 1) := by decide +kernel
theorem dX3_judge_13 : decode cX3_judge 13 = .ok (.invokevirtual 74, 3) := by decide +kernel
theorem dX3_judge_16 : decode cX3_judge 16 = .ok (.ireturn, 1) := by decide +kernel
theorem dX3_judge_17 : decode cX3_judge 17 = .ok (.aload_n 0, 1) := by decide +kernel
theorem dX3_judge_18 : decode cX3_judge 18 = .ok (.invokevirtual 189, 3) := by decide +kernel
theorem dX3_judge_21 : decode cX3_judge 21 = .ok (.aload_n 0, 1) := by decide +kernel
theorem dX3_judge_22 : decode cX3_judge 22 = .ok (.getfield 50, 3) := by decide +kernel
theorem dX3_judge_25 : decode cX3_judge 25 = .ok (.aload_n 0, 1) := by decide +kernel
theorem dX3_judge_26 : decode cX3_judge 26 = .ok (.getfield 46, 3) := by decide +kernel
theorem dX3_judge_29 : decode cX3_judge 29 = .ok (.invokevirtual 223, 3) := by decide +kernel
theorem dX3_judge_32 : decode cX3_judge 32 = .ok (.bipush (-9), 2) := by decide +kernel
theorem dX3_judge_34 : decode cX3_judge 34 = .ok (.istore_n 2, 1) := by decide +kernel
theorem dX3_judge_35 : decode cX3_judge 35 = .ok (.iconst 0, 1) := by decide +kernel
theorem dX3_judge_36 : decode cX3_judge 36 = .ok (.istore_n 3, 1) := by decide +kernel
theorem dX3_judge_37 : decode cX3_judge 37 = .ok (.iload_n 3, 1) := by decide +kernel
theorem dX3_judge_38 : decode cX3_judge 38 = .ok (.aload_n 0, 1) := by decide +kernel
theorem dX3_judge_39 : decode cX3_judge 39 = .ok (.getfield 37, 3) := by decide +kernel
theorem dX3_judge_42 : decode cX3_judge 42 = .ok (.if_icmp .ge 52, 3) := by decide +kernel
theorem dX3_judge_45 : decode cX3_judge 45 = .ok (.iload_n 2, 1) := by decide +kernel
theorem dX3_judge_46 : decode cX3_judge 46 = .ok (.bipush (-9), 2) := by decide +kernel
theorem dX3_judge_48 : decode cX3_judge 48 = .ok (.if_icmp .ne 23, 3) := by decide +kernel
theorem dX3_judge_51 : decode cX3_judge 51 = .ok (.aload_n 0, 1) := by decide +kernel
theorem dX3_judge_52 : decode cX3_judge 52 = .ok (.getfield 34, 3) := by decide +kernel
theorem dX3_judge_55 : decode cX3_judge 55 = .ok (.iload_n 3, 1) := by decide +kernel
theorem dX3_judge_56 : decode cX3_judge 56 = .ok (.invokestatic 136, 3) := by decide +kernel
theorem dX3_judge_59 : decode cX3_judge 59 = .ok (.aload_n 0, 1) := by decide +kernel
theorem dX3_judge_60 : decode cX3_judge 60 = .ok (.getfield 50, 3) := by decide +kernel
theorem dX3_judge_63 : decode cX3_judge 63 = .ok (.invokevirtual 156, 3) := by decide +kernel
theorem dX3_judge_66 : decode cX3_judge 66 = .ok (.if_icmp .eq 5, 3) := by decide +kernel
theorem dX3_judge_69 : decode cX3_judge 69 = .ok (.iload_n 3, 1) := by decide +kernel
theorem dX3_judge_70 : decode cX3_judge 70 = .ok (.istore_n 2, 1) := by decide +kernel
theorem dX3_judge_71 : decode cX3_judge 71 = .ok (.aload_n 0, 1) := by decide +kernel
theorem dX3_judge_72 : decode cX3_judge 72 = .ok (.getfield 50, 3) := by decide +kernel
theorem dX3_judge_75 : decode cX3_judge 75 = .ok (.bipush 24, 2) := by decide +kernel
theorem dX3_judge_77 : decode cX3_judge 77 = .ok (.aload_n 0, 1) := by decide +kernel
theorem dX3_judge_78 : decode cX3_judge 78 = .ok (.getfield 50, 3) := by decide +kernel
theorem dX3_judge_81 : decode cX3_judge 81 = .ok (.invokevirtual 160, 3) := by decide +kernel
theorem dX3_judge_84 : decode cX3_judge 84 = .ok (.imul, 1) := by decide +kernel
theorem dX3_judge_85 : decode cX3_judge 85 = .ok (.invokevirtual 169, 3) := by decide +kernel
theorem dX3_judge_88 : decode cX3_judge 88 = .ok (.iinc 3 1, 3) := by decide +kernel
theorem dX3_judge_91 : decode cX3_judge 91 = .ok (.goto (-54), 3) := by decide +kernel
theorem dX3_judge_94 : decode cX3_judge 94 = .ok (.aload_n 0, 1) := by decide +kernel
theorem dX3_judge_95 : decode cX3_judge 95 = .ok (.iconst 0, 1) := by decide +kernel
theorem dX3_judge_96 : decode cX3_judge 96 = .ok (.putfield 37, 3) := by decide +kernel
theorem dX3_judge_99 : decode cX3_judge 99 = .ok (.iload_n 2, 1) := by decide +kernel
theorem dX3_judge_100 : decode cX3_judge 100 = .ok (.ireturn, 1) := by decide +kernel
theorem dX3_clear_0 : decode cX3_clear 0 = .ok (.aload_n 0, 1) := by decide +kernel
theorem dX3_clear_1 : decode cX3_clear 1 = .ok (.getfield 37, 3) := by decide +kernel
theorem dX3_clear_4 : decode cX3_clear 4 = .ok (.istore_n 1, 1) := by decide +kernel
theorem dX3_clear_5 : decode cX3_clear 5 = .ok (.aload_n 0, 1) := by decide +kernel
theorem dX3_clear_6 : decode cX3_clear 6 = .ok (.iconst 0, 1) := by decide +kernel
theorem dX3_clear_7 : decode cX3_clear 7 = .ok (.putfield 37, 3) := by decide +kernel
theorem dX3_clear_10 : decode cX3_clear 10 = .ok (.iload_n 1, 1) := by decide +kernel
theorem dX3_clear_11 : decode cX3_clear 11 = .ok (.ireturn, 1) := by decide +kernel
theorem dX3_seeds_0 : decode cX3_seeds 0 = .ok (.aload_n 0, 1) := by decide +kernel
theorem dX3_seeds_1 : decode cX3_seeds 1 = .ok (.iload_n 1, 1) := by decide +kernel
theorem dX3_seeds_2 : decode cX3_seeds 2 = .ok (.iconst 3, 1) := by decide +kernel
theorem dX3_seeds_3 : decode cX3_seeds 3 = .ok (.invokestatic 70, 3) := by decide +kernel
theorem dX3_seeds_6 : decode cX3_seeds 6 = .ok (.iconst 1, 1) := by decide +kernel
theorem dX3_seeds_7 : decode cX3_seeds 7 = .ok (.invokevirtual 175, 3) := by decide +kernel
theorem dX3_seeds_10 : decode cX3_seeds 10 = .ok (.istore 5, 2) := by decide +kernel
theorem dX3_seeds_12 : decode cX3_seeds 12 = .ok (.iload 5, 2) := by decide +kernel
theorem dX3_seeds_14 : decode cX3_seeds 14 = .ok (.ifCond .ne 12, 3) := by decide +kernel
theorem dX3_seeds_17 : decode cX3_seeds 17 = .ok (.iload_n 2, 1) := by decide +kernel
theorem dX3_seeds_18 : decode cX3_seeds 18 = .ok (.iconst 1, 1) := by decide +kernel
theorem dX3_seeds_19 : decode cX3_seeds 19 = .ok (.bipush 20, 2) := by decide +kernel
theorem dX3_seeds_21 : decode cX3_seeds 21 = .ok (.invokestatic 66, 3) := by decide +kernel
theorem dX3_seeds_24 : decode cX3_seeds 24 = .ok (.istore 5, 2) := by decide +kernel
theorem dX3_seeds_26 : decode cX3_seeds 26 = .ok (.iload 5, 2) := by decide +kernel
theorem dX3_seeds_28 : decode cX3_seeds 28 = .ok (.ifCond .ne 16, 3) := by decide +kernel
theorem dX3_seeds_31 : decode cX3_seeds 31 = .ok (.iload 4, 2) := by decide +kernel
theorem dX3_seeds_33 : decode cX3_seeds 33 = .ok (.iconst 2, 1) := by decide +kernel
theorem dX3_seeds_34 : decode cX3_seeds 34 = .ok (.invokestatic 70, 3) := by decide +kernel
theorem dX3_seeds_37 : decode cX3_seeds 37 = .ok (.ifCond .ne 7, 3) := by decide +kernel
theorem dX3_seeds_40 : decode cX3_seeds 40 = .ok (.bipush (-2), 2) := by decide +kernel
theorem dX3_seeds_42 : decode cX3_seeds 42 = .ok (.istore 5, 2) := by decide +kernel
theorem dX3_seeds_44 : decode cX3_seeds 44 = .ok (.iload 5, 2) := by decide +kernel
theorem dX3_seeds_46 : decode cX3_seeds 46 = .ok (.ifCond .eq 10, 3) := by decide +kernel
theorem dX3_seeds_49 : decode cX3_seeds 49 = .ok (.aload_n 0, 1) := by decide +kernel
theorem dX3_seeds_50 : decode cX3_seeds 50 = .ok (.iload 5, 2) := by decide +kernel
theorem dX3_seeds_52 : decode cX3_seeds 52 = .ok (.invokevirtual 304, 3) := by decide +kernel
theorem dX3_seeds_55 : decode cX3_seeds 55 = .ok (.ireturn, 1) := by decide +kernel
theorem dX3_seeds_56 : decode cX3_seeds 56 = .ok (.aload_n 0, 1) := by decide +kernel
theorem dX3_seeds_57 : decode cX3_seeds 57 = .ok (.invokevirtual 189, 3) := by decide +kernel
theorem dX3_seeds_60 : decode cX3_seeds 60 = .ok (.iload_n 3, 1) := by decide +kernel
theorem dX3_seeds_61 : decode cX3_seeds 61 = .ok (.istore 6, 2) := by decide +kernel
theorem dX3_seeds_63 : decode cX3_seeds 63 = .ok (.iconst 0, 1) := by decide +kernel
theorem dX3_seeds_64 : decode cX3_seeds 64 = .ok (.istore 7, 2) := by decide +kernel
theorem dX3_seeds_66 : decode cX3_seeds 66 = .ok (.iconst 0, 1) := by decide +kernel
theorem dX3_seeds_67 : decode cX3_seeds 67 = .ok (.istore 8, 2) := by decide +kernel
theorem dX3_seeds_69 : decode cX3_seeds 69 = .ok (.iconst 0, 1) := by decide +kernel
theorem dX3_seeds_70 : decode cX3_seeds 70 = .ok (.istore 9, 2) := by decide +kernel
theorem dX3_seeds_72 : decode cX3_seeds 72 = .ok (.iload 9, 2) := by decide +kernel
theorem dX3_seeds_74 : decode cX3_seeds 74 = .ok (.iload_n 2, 1) := by decide +kernel
theorem dX3_seeds_75 : decode cX3_seeds 75 = .ok (.if_icmp .ge 148, 3) := by decide +kernel
theorem dX3_seeds_78 : decode cX3_seeds 78 = .ok (.aload_n 0, 1) := by decide +kernel
theorem dX3_seeds_79 : decode cX3_seeds 79 = .ok (.getfield 50, 3) := by decide +kernel
theorem dX3_seeds_82 : decode cX3_seeds 82 = .ok (.aload_n 0, 1) := by decide +kernel
theorem dX3_seeds_83 : decode cX3_seeds 83 = .ok (.getfield 46, 3) := by decide +kernel
theorem dX3_seeds_86 : decode cX3_seeds 86 = .ok (.invokevirtual 223, 3) := by decide +kernel
theorem dX3_seeds_89 : decode cX3_seeds 89 = .ok (.iconst 0, 1) := by decide +kernel
theorem dX3_seeds_90 : decode cX3_seeds 90 = .ok (.istore 10, 2) := by decide +kernel
theorem dX3_seeds_92 : decode cX3_seeds 92 = .ok (.iconst 0, 1) := by decide +kernel
theorem dX3_seeds_93 : decode cX3_seeds 93 = .ok (.istore 11, 2) := by decide +kernel
theorem dX3_seeds_95 : decode cX3_seeds 95 = .ok (.iload 11, 2) := by decide +kernel
theorem dX3_seeds_97 : decode cX3_seeds 97 = .ok (.bipush 7, 2) := by decide +kernel
theorem dX3_seeds_99 : decode cX3_seeds 99 = .ok (.if_icmp .ge 86, 3) := by decide +kernel
theorem dX3_seeds_102 : decode cX3_seeds 102 = .ok (.iload 10, 2) := by decide +kernel
theorem dX3_seeds_104 : decode cX3_seeds 104 = .ok (.ifCond .ne 81, 3) := by decide +kernel
theorem dX3_seeds_107 : decode cX3_seeds 107 = .ok (.iload 6, 2) := by decide +kernel
theorem dX3_seeds_109 : decode cX3_seeds 109 = .ok (.invokestatic 334, 3) := by decide +kernel
theorem dX3_seeds_112 : decode cX3_seeds 112 = .ok (.istore 6, 2) := by decide +kernel
theorem dX3_seeds_114 : decode cX3_seeds 114 = .ok (.iload 6, 2) := by decide +kernel
theorem dX3_seeds_116 : decode cX3_seeds 116 = .ok (.bipush 7, 2) := by decide +kernel
theorem dX3_seeds_118 : decode cX3_seeds 118 = .ok (.invokestatic 337, 3) := by decide +kernel
theorem dX3_seeds_121 : decode cX3_seeds 121 = .ok (.istore 12, 2) := by decide +kernel
theorem dX3_seeds_123 : decode cX3_seeds 123 = .ok (.aload_n 0, 1) := by decide +kernel
theorem dX3_seeds_124 : decode cX3_seeds 124 = .ok (.getfield 50, 3) := by decide +kernel
theorem dX3_seeds_127 : decode cX3_seeds 127 = .ok (.iload 12, 2) := by decide +kernel
theorem dX3_seeds_129 : decode cX3_seeds 129 = .ok (.aload_n 0, 1) := by decide +kernel
theorem dX3_seeds_130 : decode cX3_seeds 130 = .ok (.getfield 50, 3) := by decide +kernel
theorem dX3_seeds_133 : decode cX3_seeds 133 = .ok (.invokevirtual 163, 3) := by decide +kernel
theorem dX3_seeds_136 : decode cX3_seeds 136 = .ok (.imul, 1) := by decide +kernel
theorem dX3_seeds_137 : decode cX3_seeds 137 = .ok (.bipush 24, 2) := by decide +kernel
theorem dX3_seeds_139 : decode cX3_seeds 139 = .ok (.iload 12, 2) := by decide +kernel
theorem dX3_seeds_141 : decode cX3_seeds 141 = .ok (.isub, 1) := by decide +kernel
theorem dX3_seeds_142 : decode cX3_seeds 142 = .ok (.aload_n 0, 1) := by decide +kernel
theorem dX3_seeds_143 : decode cX3_seeds 143 = .ok (.getfield 50, 3) := by decide +kernel
theorem dX3_seeds_146 : decode cX3_seeds 146 = .ok (.invokevirtual 160, 3) := by decide +kernel
theorem dX3_seeds_149 : decode cX3_seeds 149 = .ok (.imul, 1) := by decide +kernel
theorem dX3_seeds_150 : decode cX3_seeds 150 = .ok (.iadd, 1) := by decide +kernel
theorem dX3_seeds_151 : decode cX3_seeds 151 = .ok (.invokevirtual 169, 3) := by decide +kernel
theorem dX3_seeds_154 : decode cX3_seeds 154 = .ok (.aload_n 0, 1) := by decide +kernel
theorem dX3_seeds_155 : decode cX3_seeds 155 = .ok (.getfield 60, 3) := by decide +kernel
theorem dX3_seeds_158 : decode cX3_seeds 158 = .ok (.aload_n 0, 1) := by decide +kernel
theorem dX3_seeds_159 : decode cX3_seeds 159 = .ok (.getfield 50, 3) := by decide +kernel
theorem dX3_seeds_162 : decode cX3_seeds 162 = .ok (.invokevirtual 227, 3) := by decide +kernel
theorem dX3_seeds_165 : decode cX3_seeds 165 = .ok (.aload_n 0, 1) := by decide +kernel
theorem dX3_seeds_166 : decode cX3_seeds 166 = .ok (.getfield 12, 3) := by decide +kernel
theorem dX3_seeds_169 : decode cX3_seeds 169 = .ok (.iload_n 1, 1) := by decide +kernel
theorem dX3_seeds_170 : decode cX3_seeds 170 = .ok (.aload_n 0, 1) := by decide +kernel
theorem dX3_seeds_171 : decode cX3_seeds 171 = .ok (.getfield 60, 3) := by decide +kernel
theorem dX3_seeds_174 : decode cX3_seeds 174 = .ok (.invokevirtual 215, 3) := by decide +kernel
theorem dX3_seeds_177 : decode cX3_seeds 177 = .ok (.istore 10, 2) := by decide +kernel
theorem dX3_seeds_179 : decode cX3_seeds 179 = .ok (.iinc 11 1, 3) := by decide +kernel
theorem dX3_seeds_182 : decode cX3_seeds 182 = .ok (.goto (-87), 3) := by decide +kernel
theorem dX3_seeds_185 : decode cX3_seeds 185 = .ok (.iload 7, 2) := by decide +kernel
theorem dX3_seeds_187 : decode cX3_seeds 187 = .ok (.aload_n 0, 1) := by decide +kernel
theorem dX3_seeds_188 : decode cX3_seeds 188 = .ok (.aload_n 0, 1) := by decide +kernel
theorem dX3_seeds_189 : decode cX3_seeds 189 = .ok (.getfield 50, 3) := by decide +kernel
theorem dX3_seeds_192 : decode cX3_seeds 192 = .ok (.iload 10, 2) := by decide +kernel
theorem dX3_seeds_194 : decode cX3_seeds 194 = .ok (.iload_n 1, 1) := by decide +kernel
theorem dX3_seeds_195 : decode cX3_seeds 195 = .ok (.invokevirtual 311, 3) := by decide +kernel
theorem dX3_seeds_198 : decode cX3_seeds 198 = .ok (.iadd, 1) := by decide +kernel
theorem dX3_seeds_199 : decode cX3_seeds 199 = .ok (.istore 7, 2) := by decide +kernel
theorem dX3_seeds_201 : decode cX3_seeds 201 = .ok (.iload 8, 2) := by decide +kernel
theorem dX3_seeds_203 : decode cX3_seeds 203 = .ok (.iload 10, 2) := by decide +kernel
theorem dX3_seeds_205 : decode cX3_seeds 205 = .ok (.iconst 4, 1) := by decide +kernel
theorem dX3_seeds_206 : decode cX3_seeds 206 = .ok (.if_icmp .ne 7, 3) := by decide +kernel
theorem dX3_seeds_209 : decode cX3_seeds 209 = .ok (.iconst 1, 1) := by decide +kernel
theorem dX3_seeds_210 : decode cX3_seeds 210 = .ok (.goto 4, 3) := by decide +kernel
theorem dX3_seeds_213 : decode cX3_seeds 213 = .ok (.iconst 0, 1) := by decide +kernel
theorem dX3_seeds_214 : decode cX3_seeds 214 = .ok (.iadd, 1) := by decide +kernel
theorem dX3_seeds_215 : decode cX3_seeds 215 = .ok (.istore 8, 2) := by decide +kernel
theorem dX3_seeds_217 : decode cX3_seeds 217 = .ok (.iinc 9 1, 3) := by decide +kernel
theorem dX3_seeds_220 : decode cX3_seeds 220 = .ok (.goto (-148), 3) := by decide +kernel
theorem dX3_seeds_223 : decode cX3_seeds 223 = .ok (.iload 4, 2) := by decide +kernel
theorem dX3_seeds_225 : decode cX3_seeds 225 = .ok (.ifCond .ne 8, 3) := by decide +kernel
theorem dX3_seeds_228 : decode cX3_seeds 228 = .ok (.iload 7, 2) := by decide +kernel
theorem dX3_seeds_230 : decode cX3_seeds 230 = .ok (.goto 5, 3) := by decide +kernel
theorem dX3_seeds_233 : decode cX3_seeds 233 = .ok (.iload 8, 2) := by decide +kernel
theorem dX3_seeds_235 : decode cX3_seeds 235 = .ok (.ireturn, 1) := by decide +kernel
theorem dX3_nextSeed_0 : decode cX3_nextSeed 0 = .ok (.iload_n 0, 1) := by decide +kernel
theorem dX3_nextSeed_1 : decode cX3_nextSeed 1 = .ok (.ldc_w 340, 3) := by decide +kernel
theorem dX3_nextSeed_4 : decode cX3_nextSeed 4 = .ok (.imul, 1) := by decide +kernel
theorem dX3_nextSeed_5 : decode cX3_nextSeed 5 = .ok (.sipush 12345, 3) := by decide +kernel
theorem dX3_nextSeed_8 : decode cX3_nextSeed 8 = .ok (.iadd, 1) := by decide +kernel
theorem dX3_nextSeed_9 : decode cX3_nextSeed 9 = .ok (.ireturn, 1) := by decide +kernel
theorem dX3_draw_0 : decode cX3_draw 0 = .ok (.iload_n 1, 1) := by decide +kernel
theorem dX3_draw_1 : decode cX3_draw 1 = .ok (.ifCond .le 17, 3) := by decide +kernel
theorem dX3_draw_4 : decode cX3_draw 4 = .ok (.iload_n 0, 1) := by decide +kernel
theorem dX3_draw_5 : decode cX3_draw 5 = .ok (.ldc_w 341, 3) := by decide +kernel
theorem dX3_draw_8 : decode cX3_draw 8 = .ok (.iand, 1) := by decide +kernel
theorem dX3_draw_9 : decode cX3_draw 9 = .ok (.ldc_w 342, 3) := by decide +kernel
theorem dX3_draw_12 : decode cX3_draw 12 = .ok (.idiv, 1) := by decide +kernel
theorem dX3_draw_13 : decode cX3_draw 13 = .ok (.iload_n 1, 1) := by decide +kernel
theorem dX3_draw_14 : decode cX3_draw 14 = .ok (.irem, 1) := by decide +kernel
theorem dX3_draw_15 : decode cX3_draw 15 = .ok (.goto 4, 3) := by decide +kernel
theorem dX3_draw_18 : decode cX3_draw 18 = .ok (.iconst 0, 1) := by decide +kernel
theorem dX3_draw_19 : decode cX3_draw 19 = .ok (.ireturn, 1) := by decide +kernel
theorem dX3_image_0 : decode cX3_image 0 = .ok (.aload_n 0, 1) := by decide +kernel
theorem dX3_image_1 : decode cX3_image 1 = .ok (.getfield 19, 3) := by decide +kernel
theorem dX3_image_4 : decode cX3_image 4 = .ok (.aload_n 0, 1) := by decide +kernel
theorem dX3_image_5 : decode cX3_image 5 = .ok (.getfield 12, 3) := by decide +kernel
theorem dX3_image_8 : decode cX3_image 8 = .ok (.invokevirtual 81, 3) := by decide +kernel
theorem dX3_image_11 : decode cX3_image 11 = .ok (.aload_n 0, 1) := by decide +kernel
theorem dX3_image_12 : decode cX3_image 12 = .ok (.iconst 1, 1) := by decide +kernel
theorem dX3_image_13 : decode cX3_image 13 = .ok (.putfield 22, 3) := by decide +kernel
theorem dX3_image_16 : decode cX3_image 16 = .ok (.aload_n 0, 1) := by decide +kernel
theorem dX3_image_17 : decode cX3_image 17 = .ok (.getfield 12, 3) := by decide +kernel
theorem dX3_image_20 : decode cX3_image 20 = .ok (.getfield 314, 3) := by decide +kernel
theorem dX3_image_23 : decode cX3_image 23 = .ok (.ireturn, 1) := by decide +kernel
theorem dX3_restore_0 : decode cX3_restore 0 = .ok (.aload_n 0, 1) := by decide +kernel
theorem dX3_restore_1 : decode cX3_restore 1 = .ok (.getfield 22, 3) := by decide +kernel
theorem dX3_restore_4 : decode cX3_restore 4 = .ok (.ifCond .ne 10, 3) := by decide +kernel
theorem dX3_restore_7 : decode cX3_restore 7 = .ok (.aload_n 0, 1) := by decide +kernel
theorem dX3_restore_8 : decode cX3_restore 8 = .ok (.bipush (-3), 2) := by decide +kernel
theorem dX3_restore_10 : decode cX3_restore 10 = .ok (.invokevirtual 74, 3) := by decide +kernel
theorem dX3_restore_13 : decode cX3_restore 13 = .ok (.ireturn, 1) := by decide +kernel
theorem dX3_restore_14 : decode cX3_restore 14 = .ok (.aload_n 0, 1) := by decide +kernel
theorem dX3_restore_15 : decode cX3_restore 15 = .ok (.getfield 12, 3) := by decide +kernel
theorem dX3_restore_18 : decode cX3_restore 18 = .ok (.aload_n 0, 1) := by decide +kernel
theorem dX3_restore_19 : decode cX3_restore 19 = .ok (.getfield 19, 3) := by decide +kernel
theorem dX3_restore_22 : decode cX3_restore 22 = .ok (.invokevirtual 81, 3) := by decide +kernel
theorem dX3_restore_25 : decode cX3_restore 25 = .ok (.aload_n 0, 1) := by decide +kernel
theorem dX3_restore_26 : decode cX3_restore 26 = .ok (.getfield 12, 3) := by decide +kernel
theorem dX3_restore_29 : decode cX3_restore 29 = .ok (.getfield 314, 3) := by decide +kernel
theorem dX3_restore_32 : decode cX3_restore 32 = .ok (.ireturn, 1) := by decide +kernel
theorem dX3_count_0 : decode cX3_count 0 = .ok (.iload_n 1, 1) := by decide +kernel
theorem dX3_count_1 : decode cX3_count 1 = .ok (.bipush 11, 2) := by decide +kernel
theorem dX3_count_3 : decode cX3_count 3 = .ok (.if_icmp .lt 21, 3) := by decide +kernel
theorem dX3_count_6 : decode cX3_count 6 = .ok (.iload_n 1, 1) := by decide +kernel
theorem dX3_count_7 : decode cX3_count 7 = .ok (.bipush 16, 2) := by decide +kernel
theorem dX3_count_9 : decode cX3_count 9 = .ok (.if_icmp .gt 15, 3) := by decide +kernel
theorem dX3_count_12 : decode cX3_count 12 = .ok (.aload_n 0, 1) := by decide +kernel
theorem dX3_count_13 : decode cX3_count 13 = .ok (.getfield 40, 3) := by decide +kernel
theorem dX3_count_16 : decode cX3_count 16 = .ok (.iload_n 1, 1) := by decide +kernel
theorem dX3_count_17 : decode cX3_count 17 = .ok (.bipush 10, 2) := by decide +kernel
theorem dX3_count_19 : decode cX3_count 19 = .ok (.isub, 1) := by decide +kernel
theorem dX3_count_20 : decode cX3_count 20 = .ok (.invokestatic 136, 3) := by decide +kernel
theorem dX3_count_23 : decode cX3_count 23 = .ok (.ireturn, 1) := by decide +kernel
theorem dX3_count_24 : decode cX3_count 24 = .ok (.iload_n 1, 1) := by decide +kernel
theorem dX3_count_25 : decode cX3_count 25 = .ok (.bipush 20, 2) := by decide +kernel
theorem dX3_count_27 : decode cX3_count 27 = .ok (.if_icmp .lt 21, 3) := by decide +kernel
theorem dX3_count_30 : decode cX3_count 30 = .ok (.iload_n 1, 1) := by decide +kernel
theorem dX3_count_31 : decode cX3_count 31 = .ok (.bipush 23, 2) := by decide +kernel
theorem dX3_count_33 : decode cX3_count 33 = .ok (.if_icmp .gt 15, 3) := by decide +kernel
theorem dX3_count_36 : decode cX3_count 36 = .ok (.aload_n 0, 1) := by decide +kernel
theorem dX3_count_37 : decode cX3_count 37 = .ok (.getfield 12, 3) := by decide +kernel
theorem dX3_count_40 : decode cX3_count 40 = .ok (.iload_n 1, 1) := by decide +kernel
theorem dX3_count_41 : decode cX3_count 41 = .ok (.bipush 20, 2) := by decide +kernel
theorem dX3_count_43 : decode cX3_count 43 = .ok (.isub, 1) := by decide +kernel
theorem dX3_count_44 : decode cX3_count 44 = .ok (.invokevirtual 186, 3) := by decide +kernel
theorem dX3_count_47 : decode cX3_count 47 = .ok (.ireturn, 1) := by decide +kernel
theorem dX3_count_48 : decode cX3_count 48 = .ok (.iload_n 1, 1) := by decide +kernel
theorem dX3_count_49 : decode cX3_count 49 = .ok (.tableswitch 117 0 8 #[51, 59, 67, 75, 83, 91, 99, 107, 112], 51) := by decide +kernel
theorem dX3_count_100 : decode cX3_count 100 = .ok (.aload_n 0, 1) := by decide +kernel
theorem dX3_count_101 : decode cX3_count 101 = .ok (.getfield 12, 3) := by decide +kernel
theorem dX3_count_104 : decode cX3_count 104 = .ok (.getfield 314, 3) := by decide +kernel
theorem dX3_count_107 : decode cX3_count 107 = .ok (.ireturn, 1) := by decide +kernel
theorem dX3_count_108 : decode cX3_count 108 = .ok (.aload_n 0, 1) := by decide +kernel
theorem dX3_count_109 : decode cX3_count 109 = .ok (.getfield 12, 3) := by decide +kernel
theorem dX3_count_112 : decode cX3_count 112 = .ok (.getfield 172, 3) := by decide +kernel
theorem dX3_count_115 : decode cX3_count 115 = .ok (.ireturn, 1) := by decide +kernel
theorem dX3_count_116 : decode cX3_count 116 = .ok (.aload_n 0, 1) := by decide +kernel
theorem dX3_count_117 : decode cX3_count 117 = .ok (.getfield 12, 3) := by decide +kernel
theorem dX3_count_120 : decode cX3_count 120 = .ok (.getfield 179, 3) := by decide +kernel
theorem dX3_count_123 : decode cX3_count 123 = .ok (.ireturn, 1) := by decide +kernel
theorem dX3_count_124 : decode cX3_count 124 = .ok (.aload_n 0, 1) := by decide +kernel
theorem dX3_count_125 : decode cX3_count 125 = .ok (.getfield 12, 3) := by decide +kernel
theorem dX3_count_128 : decode cX3_count 128 = .ok (.getfield 269, 3) := by decide +kernel
theorem dX3_count_131 : decode cX3_count 131 = .ok (.ireturn, 1) := by decide +kernel
theorem dX3_count_132 : decode cX3_count 132 = .ok (.aload_n 0, 1) := by decide +kernel
theorem dX3_count_133 : decode cX3_count 133 = .ok (.getfield 12, 3) := by decide +kernel
theorem dX3_count_136 : decode cX3_count 136 = .ok (.getfield 124, 3) := by decide +kernel
theorem dX3_count_139 : decode cX3_count 139 = .ok (.ireturn, 1) := by decide +kernel
theorem dX3_count_140 : decode cX3_count 140 = .ok (.aload_n 0, 1) := by decide +kernel
theorem dX3_count_141 : decode cX3_count 141 = .ok (.getfield 12, 3) := by decide +kernel
theorem dX3_count_144 : decode cX3_count 144 = .ok (.invokevirtual 343, 3) := by decide +kernel
theorem dX3_count_147 : decode cX3_count 147 = .ok (.ireturn, 1) := by decide +kernel
theorem dX3_count_148 : decode cX3_count 148 = .ok (.aload_n 0, 1) := by decide +kernel
theorem dX3_count_149 : decode cX3_count 149 = .ok (.getfield 12, 3) := by decide +kernel
theorem dX3_count_152 : decode cX3_count 152 = .ok (.invokevirtual 166, 3) := by decide +kernel
theorem dX3_count_155 : decode cX3_count 155 = .ok (.ireturn, 1) := by decide +kernel
theorem dX3_count_156 : decode cX3_count 156 = .ok (.aload_n 0, 1) := by decide +kernel
theorem dX3_count_157 : decode cX3_count 157 = .ok (.getfield 30, 3) := by decide +kernel
theorem dX3_count_160 : decode cX3_count 160 = .ok (.ireturn, 1) := by decide +kernel
theorem dX3_count_161 : decode cX3_count 161 = .ok (.aload_n 0, 1) := by decide +kernel
theorem dX3_count_162 : decode cX3_count 162 = .ok (.getfield 37, 3) := by decide +kernel
theorem dX3_count_165 : decode cX3_count 165 = .ok (.ireturn, 1) := by decide +kernel
theorem dX3_count_166 : decode cX3_count 166 = .ok (.bipush (-9), 2) := by decide +kernel
theorem dX3_count_168 : decode cX3_count 168 = .ok (.ireturn, 1) := by decide +kernel
theorem dX3_refuse_0 : decode cX3_refuse 0 = .ok (.iload_n 1, 1) := by decide +kernel
theorem dX3_refuse_1 : decode cX3_refuse 1 = .ok (.ineg, 1) := by decide +kernel
theorem dX3_refuse_2 : decode cX3_refuse 2 = .ok (.istore_n 2, 1) := by decide +kernel
theorem dX3_refuse_3 : decode cX3_refuse 3 = .ok (.iload_n 2, 1) := by decide +kernel
theorem dX3_refuse_4 : decode cX3_refuse 4 = .ok (.ifCond .lt 22, 3) := by decide +kernel
theorem dX3_refuse_7 : decode cX3_refuse 7 = .ok (.iload_n 2, 1) := by decide +kernel
theorem dX3_refuse_8 : decode cX3_refuse 8 = .ok (.aload_n 0, 1) := by decide +kernel
theorem dX3_refuse_9 : decode cX3_refuse 9 = .ok (.getfield 40, 3) := by decide +kernel
theorem dX3_refuse_12 : decode cX3_refuse 12 = .ok (.arraylength, 1) := by decide +kernel
theorem dX3_refuse_13 : decode cX3_refuse 13 = .ok (.if_icmp .ge 13, 3) := by decide +kernel
theorem dX3_refuse_16 : decode cX3_refuse 16 = .ok (.aload_n 0, 1) := by decide +kernel
theorem dX3_refuse_17 : decode cX3_refuse 17 = .ok (.getfield 40, 3) := by decide +kernel
theorem dX3_refuse_20 : decode cX3_refuse 20 = .ok (.iload_n 2, 1) := by decide +kernel
theorem dX3_refuse_21 : decode cX3_refuse 21 = .ok (.dup2, 1) := by decide +kernel
theorem dX3_refuse_22 : decode cX3_refuse 22 = .ok (.iaload, 1) := by decide +kernel
theorem dX3_refuse_23 : decode cX3_refuse 23 = .ok (.iconst 1, 1) := by decide +kernel
theorem dX3_refuse_24 : decode cX3_refuse 24 = .ok (.iadd, 1) := by decide +kernel
theorem dX3_refuse_25 : decode cX3_refuse 25 = .ok (.iastore, 1) := by decide +kernel
theorem dX3_refuse_26 : decode cX3_refuse 26 = .ok (.iload_n 1, 1) := by decide +kernel
theorem dX3_refuse_27 : decode cX3_refuse 27 = .ok (.ireturn, 1) := by decide +kernel
theorem dX3_refusalInHand_0 : decode cX3_refusalInHand 0 = .ok (.iload_n 1, 1) := by decide +kernel
theorem dX3_refusalInHand_1 : decode cX3_refusalInHand 1 = .ok (.ifCond .ne 5, 3) := by decide +kernel
theorem dX3_refusalInHand_4 : decode cX3_refusalInHand 4 = .ok (.iconst (-1), 1) := by decide +kernel
theorem dX3_refusalInHand_5 : decode cX3_refusalInHand 5 = .ok (.ireturn, 1) := by decide +kernel
theorem dX3_refusalInHand_6 : decode cX3_refusalInHand 6 = .ok (.iload_n 2, 1) := by decide +kernel
theorem dX3_refusalInHand_7 : decode cX3_refusalInHand 7 = .ok (.ifCond .ne 6, 3) := by decide +kernel
theorem dX3_refusalInHand_10 : decode cX3_refusalInHand 10 = .ok (.bipush (-2), 2) := by decide +kernel
theorem dX3_refusalInHand_12 : decode cX3_refusalInHand 12 = .ok (.ireturn, 1) := by decide +kernel
theorem dX3_refusalInHand_13 : decode cX3_refusalInHand 13 = .ok (.aload_n 0, 1) := by decide +kernel
theorem dX3_refusalInHand_14 : decode cX3_refusalInHand 14 = .ok (.getfield 12, 3) := by decide +kernel
theorem dX3_refusalInHand_17 : decode cX3_refusalInHand 17 = .ok (.invokevirtual 182, 3) := by decide +kernel
theorem dX3_refusalInHand_20 : decode cX3_refusalInHand 20 = .ok (.ifnonnull 8, 3) := by decide +kernel
theorem dX3_refusalInHand_23 : decode cX3_refusalInHand 23 = .ok (.bipush (-3), 2) := by decide +kernel
theorem dX3_refusalInHand_25 : decode cX3_refusalInHand 25 = .ok (.goto 4, 3) := by decide +kernel
theorem dX3_refusalInHand_28 : decode cX3_refusalInHand 28 = .ok (.iconst 0, 1) := by decide +kernel
theorem dX3_refusalInHand_29 : decode cX3_refusalInHand 29 = .ok (.ireturn, 1) := by decide +kernel
theorem dX3_refusalOutside_0 : decode cX3_refusalOutside 0 = .ok (.iload_n 0, 1) := by decide +kernel
theorem dX3_refusalOutside_1 : decode cX3_refusalOutside 1 = .ok (.iload_n 1, 1) := by decide +kernel
theorem dX3_refusalOutside_2 : decode cX3_refusalOutside 2 = .ok (.if_icmp .ge 6, 3) := by decide +kernel
theorem dX3_refusalOutside_5 : decode cX3_refusalOutside 5 = .ok (.bipush (-4), 2) := by decide +kernel
theorem dX3_refusalOutside_7 : decode cX3_refusalOutside 7 = .ok (.ireturn, 1) := by decide +kernel
theorem dX3_refusalOutside_8 : decode cX3_refusalOutside 8 = .ok (.iload_n 0, 1) := by decide +kernel
theorem dX3_refusalOutside_9 : decode cX3_refusalOutside 9 = .ok (.iload_n 2, 1) := by decide +kernel
theorem dX3_refusalOutside_10 : decode cX3_refusalOutside 10 = .ok (.if_icmp .le 8, 3) := by decide +kernel
theorem dX3_refusalOutside_13 : decode cX3_refusalOutside 13 = .ok (.bipush (-6), 2) := by decide +kernel
theorem dX3_refusalOutside_15 : decode cX3_refusalOutside 15 = .ok (.goto 4, 3) := by decide +kernel
theorem dX3_refusalOutside_18 : decode cX3_refusalOutside 18 = .ok (.iconst 0, 1) := by decide +kernel
theorem dX3_refusalOutside_19 : decode cX3_refusalOutside 19 = .ok (.ireturn, 1) := by decide +kernel
theorem dX3_refuseBig_0 : decode cX3_refuseBig 0 = .ok (.ldc_w 346, 3) := by decide +kernel
theorem dX3_refuseBig_3 : decode cX3_refuseBig 3 = .ok (.aload_n 0, 1) := by decide +kernel
theorem dX3_refuseBig_4 : decode cX3_refuseBig 4 = .ok (.iload_n 1, 1) := by decide +kernel
theorem dX3_refuseBig_5 : decode cX3_refuseBig 5 = .ok (.invokevirtual 74, 3) := by decide +kernel
theorem dX3_refuseBig_8 : decode cX3_refuseBig 8 = .ok (.isub, 1) := by decide +kernel
theorem dX3_refuseBig_9 : decode cX3_refuseBig 9 = .ok (.ireturn, 1) := by decide +kernel
theorem dX3_refuseLong_0 : decode cX3_refuseLong 0 = .ok (.ldc2_w 347, 3) := by decide +kernel
theorem dX3_refuseLong_3 : decode cX3_refuseLong 3 = .ok (.aload_n 0, 1) := by decide +kernel
theorem dX3_refuseLong_4 : decode cX3_refuseLong 4 = .ok (.iload_n 1, 1) := by decide +kernel
theorem dX3_refuseLong_5 : decode cX3_refuseLong 5 = .ok (.invokevirtual 74, 3) := by decide +kernel
theorem dX3_refuseLong_8 : decode cX3_refuseLong 8 = .ok (.i2l, 1) := by decide +kernel
theorem dX3_refuseLong_9 : decode cX3_refuseLong 9 = .ok (.lsub, 1) := by decide +kernel
theorem dX3_refuseLong_10 : decode cX3_refuseLong 10 = .ok (.lreturn, 1) := by decide +kernel
theorem dX3_isOneOf_0 : decode cX3_isOneOf 0 = .ok (.iload_n 0, 1) := by decide +kernel
theorem dX3_isOneOf_1 : decode cX3_isOneOf 1 = .ok (.ifCond .lt 12, 3) := by decide +kernel
theorem dX3_isOneOf_4 : decode cX3_isOneOf 4 = .ok (.iload_n 0, 1) := by decide +kernel
theorem dX3_isOneOf_5 : decode cX3_isOneOf 5 = .ok (.iload_n 1, 1) := by decide +kernel
theorem dX3_isOneOf_6 : decode cX3_isOneOf 6 = .ok (.if_icmp .ge 7, 3) := by decide +kernel
theorem dX3_isOneOf_9 : decode cX3_isOneOf 9 = .ok (.iconst 1, 1) := by decide +kernel
theorem dX3_isOneOf_10 : decode cX3_isOneOf 10 = .ok (.goto 4, 3) := by decide +kernel
theorem dX3_isOneOf_13 : decode cX3_isOneOf 13 = .ok (.iconst 0, 1) := by decide +kernel
theorem dX3_isOneOf_14 : decode cX3_isOneOf 14 = .ok (.ireturn, 1) := by decide +kernel
theorem dX3_at_0 : decode cX3_at 0 = .ok (.iload_n 1, 1) := by decide +kernel
theorem dX3_at_1 : decode cX3_at 1 = .ok (.ifCond .lt 15, 3) := by decide +kernel
theorem dX3_at_4 : decode cX3_at 4 = .ok (.iload_n 1, 1) := by decide +kernel
theorem dX3_at_5 : decode cX3_at 5 = .ok (.aload_n 0, 1) := by decide +kernel
theorem dX3_at_6 : decode cX3_at 6 = .ok (.arraylength, 1) := by decide +kernel
theorem dX3_at_7 : decode cX3_at 7 = .ok (.if_icmp .ge 9, 3) := by decide +kernel
theorem dX3_at_10 : decode cX3_at 10 = .ok (.aload_n 0, 1) := by decide +kernel
theorem dX3_at_11 : decode cX3_at 11 = .ok (.iload_n 1, 1) := by decide +kernel
theorem dX3_at_12 : decode cX3_at 12 = .ok (.iaload, 1) := by decide +kernel
theorem dX3_at_13 : decode cX3_at 13 = .ok (.goto 4, 3) := by decide +kernel
theorem dX3_at_16 : decode cX3_at 16 = .ok (.iconst 0, 1) := by decide +kernel
theorem dX3_at_17 : decode cX3_at 17 = .ok (.ireturn, 1) := by decide +kernel
theorem dX3_heldTenths_0 : decode cX3_heldTenths 0 = .ok (.iconst 0, 1) := by decide +kernel
theorem dX3_heldTenths_1 : decode cX3_heldTenths 1 = .ok (.bipush 10, 2) := by decide +kernel
theorem dX3_heldTenths_3 : decode cX3_heldTenths 3 = .ok (.iload_n 0, 1) := by decide +kernel
theorem dX3_heldTenths_4 : decode cX3_heldTenths 4 = .ok (.invokestatic 301, 3) := by decide +kernel
theorem dX3_heldTenths_7 : decode cX3_heldTenths 7 = .ok (.invokestatic 95, 3) := by decide +kernel
theorem dX3_heldTenths_10 : decode cX3_heldTenths 10 = .ok (.ireturn, 1) := by decide +kernel
theorem dX3_harmOf_0 : decode cX3_harmOf 0 = .ok (.getstatic 349, 3) := by decide +kernel
theorem dX3_harmOf_3 : decode cX3_harmOf 3 = .ok (.iload_n 0, 1) := by decide +kernel
theorem dX3_harmOf_4 : decode cX3_harmOf 4 = .ok (.iconst 5, 1) := by decide +kernel
theorem dX3_harmOf_5 : decode cX3_harmOf 5 = .ok (.imul, 1) := by decide +kernel
theorem dX3_harmOf_6 : decode cX3_harmOf 6 = .ok (.iload_n 1, 1) := by decide +kernel
theorem dX3_harmOf_7 : decode cX3_harmOf 7 = .ok (.iadd, 1) := by decide +kernel
theorem dX3_harmOf_8 : decode cX3_harmOf 8 = .ok (.invokestatic 136, 3) := by decide +kernel
theorem dX3_harmOf_11 : decode cX3_harmOf 11 = .ok (.ireturn, 1) := by decide +kernel
theorem dX3_inLeastTerms_0 : decode cX3_inLeastTerms 0 = .ok (.lload_n 2, 1) := by decide +kernel
theorem dX3_inLeastTerms_1 : decode cX3_inLeastTerms 1 = .ok (.lconst 0, 1) := by decide +kernel
theorem dX3_inLeastTerms_2 : decode cX3_inLeastTerms 2 = .ok (.lcmp, 1) := by decide +kernel
theorem dX3_inLeastTerms_3 : decode cX3_inLeastTerms 3 = .ok (.ifCond .ne 7, 3) := by decide +kernel
theorem dX3_inLeastTerms_6 : decode cX3_inLeastTerms 6 = .ok (.iload 4, 2) := by decide +kernel
theorem dX3_inLeastTerms_8 : decode cX3_inLeastTerms 8 = .ok (.i2l, 1) := by decide +kernel
theorem dX3_inLeastTerms_9 : decode cX3_inLeastTerms 9 = .ok (.lreturn, 1) := by decide +kernel
theorem dX3_inLeastTerms_10 : decode cX3_inLeastTerms 10 = .ok (.lload_n 0, 1) := by decide +kernel
theorem dX3_inLeastTerms_11 : decode cX3_inLeastTerms 11 = .ok (.invokestatic 352, 3) := by decide +kernel
theorem dX3_inLeastTerms_14 : decode cX3_inLeastTerms 14 = .ok (.lstore 5, 2) := by decide +kernel
theorem dX3_inLeastTerms_16 : decode cX3_inLeastTerms 16 = .ok (.lload_n 2, 1) := by decide +kernel
theorem dX3_inLeastTerms_17 : decode cX3_inLeastTerms 17 = .ok (.lstore 7, 2) := by decide +kernel
theorem dX3_inLeastTerms_19 : decode cX3_inLeastTerms 19 = .ok (.iconst 0, 1) := by decide +kernel
theorem dX3_inLeastTerms_20 : decode cX3_inLeastTerms 20 = .ok (.istore 9, 2) := by decide +kernel
theorem dX3_inLeastTerms_22 : decode cX3_inLeastTerms 22 = .ok (.iload 9, 2) := by decide +kernel
theorem dX3_inLeastTerms_24 : decode cX3_inLeastTerms 24 = .ok (.sipush 200, 3) := by decide +kernel
theorem dX3_inLeastTerms_27 : decode cX3_inLeastTerms 27 = .ok (.if_icmp .ge 31, 3) := by decide +kernel
theorem dX3_inLeastTerms_30 : decode cX3_inLeastTerms 30 = .ok (.lload 7, 2) := by decide +kernel
theorem dX3_inLeastTerms_32 : decode cX3_inLeastTerms 32 = .ok (.lconst 0, 1) := by decide +kernel
theorem dX3_inLeastTerms_33 : decode cX3_inLeastTerms 33 = .ok (.lcmp, 1) := by decide +kernel
theorem dX3_inLeastTerms_34 : decode cX3_inLeastTerms 34 = .ok (.ifCond .eq 24, 3) := by decide +kernel
theorem dX3_inLeastTerms_37 : decode cX3_inLeastTerms 37 = .ok (.lload 5, 2) := by decide +kernel
theorem dX3_inLeastTerms_39 : decode cX3_inLeastTerms 39 = .ok (.lload 7, 2) := by decide +kernel
theorem dX3_inLeastTerms_41 : decode cX3_inLeastTerms 41 = .ok (.lrem, 1) := by decide +kernel
theorem dX3_inLeastTerms_42 : decode cX3_inLeastTerms 42 = .ok (.lstore 10, 2) := by decide +kernel
theorem dX3_inLeastTerms_44 : decode cX3_inLeastTerms 44 = .ok (.lload 7, 2) := by decide +kernel
theorem dX3_inLeastTerms_46 : decode cX3_inLeastTerms 46 = .ok (.lstore 5, 2) := by decide +kernel
theorem dX3_inLeastTerms_48 : decode cX3_inLeastTerms 48 = .ok (.lload 10, 2) := by decide +kernel
theorem dX3_inLeastTerms_50 : decode cX3_inLeastTerms 50 = .ok (.lstore 7, 2) := by decide +kernel
theorem dX3_inLeastTerms_52 : decode cX3_inLeastTerms 52 = .ok (.iinc 9 1, 3) := by decide +kernel
theorem dX3_inLeastTerms_55 : decode cX3_inLeastTerms 55 = .ok (.goto (-33), 3) := by decide +kernel
theorem dX3_inLeastTerms_58 : decode cX3_inLeastTerms 58 = .ok (.iload 4, 2) := by decide +kernel
theorem dX3_inLeastTerms_60 : decode cX3_inLeastTerms 60 = .ok (.ifCond .ne 7, 3) := by decide +kernel
theorem dX3_inLeastTerms_63 : decode cX3_inLeastTerms 63 = .ok (.lload_n 0, 1) := by decide +kernel
theorem dX3_inLeastTerms_64 : decode cX3_inLeastTerms 64 = .ok (.goto 4, 3) := by decide +kernel
theorem dX3_inLeastTerms_67 : decode cX3_inLeastTerms 67 = .ok (.lload_n 2, 1) := by decide +kernel
theorem dX3_inLeastTerms_68 : decode cX3_inLeastTerms 68 = .ok (.lstore 9, 2) := by decide +kernel
theorem dX3_inLeastTerms_70 : decode cX3_inLeastTerms 70 = .ok (.lload 5, 2) := by decide +kernel
theorem dX3_inLeastTerms_72 : decode cX3_inLeastTerms 72 = .ok (.lconst 0, 1) := by decide +kernel
theorem dX3_inLeastTerms_73 : decode cX3_inLeastTerms 73 = .ok (.lcmp, 1) := by decide +kernel
theorem dX3_inLeastTerms_74 : decode cX3_inLeastTerms 74 = .ok (.ifCond .ne 8, 3) := by decide +kernel
theorem dX3_inLeastTerms_77 : decode cX3_inLeastTerms 77 = .ok (.lload 9, 2) := by decide +kernel
theorem dX3_inLeastTerms_79 : decode cX3_inLeastTerms 79 = .ok (.goto 8, 3) := by decide +kernel
theorem dX3_inLeastTerms_82 : decode cX3_inLeastTerms 82 = .ok (.lload 9, 2) := by decide +kernel
theorem dX3_inLeastTerms_84 : decode cX3_inLeastTerms 84 = .ok (.lload 5, 2) := by decide +kernel
theorem dX3_inLeastTerms_86 : decode cX3_inLeastTerms 86 = .ok (.ldiv, 1) := by decide +kernel
theorem dX3_inLeastTerms_87 : decode cX3_inLeastTerms 87 = .ok (.lreturn, 1) := by decide +kernel
theorem dX4_init_0 : decode cX4_init 0 = .ok (.aload_n 0, 1) := by decide +kernel
theorem dX4_init_1 : decode cX4_init 1 = .ok (.invokespecial 1, 3) := by decide +kernel
theorem dX4_init_4 : decode cX4_init 4 = .ok (.aload_n 0, 1) := by decide +kernel
theorem dX4_init_5 : decode cX4_init 5 = .ok (.bipush 7, 2) := by decide +kernel
theorem dX4_init_7 : decode cX4_init 7 = .ok (.newarray .int, 2) := by decide +kernel
theorem dX4_init_9 : decode cX4_init 9 = .ok (.putfield 7, 3) := by decide +kernel
theorem dX4_init_12 : decode cX4_init 12 = .ok (.aload_n 0, 1) := by decide +kernel
theorem dX4_init_13 : decode cX4_init 13 = .ok (.iconst 5, 1) := by decide +kernel
theorem dX4_init_14 : decode cX4_init 14 = .ok (.newarray .int, 2) := by decide +kernel
theorem dX4_init_16 : decode cX4_init 16 = .ok (.putfield 13, 3) := by decide +kernel
theorem dX4_init_19 : decode cX4_init 19 = .ok (.aload_n 0, 1) := by decide +kernel
theorem dX4_init_20 : decode cX4_init 20 = .ok (.iconst 5, 1) := by decide +kernel
theorem dX4_init_21 : decode cX4_init 21 = .ok (.newarray .int, 2) := by decide +kernel
theorem dX4_init_23 : decode cX4_init 23 = .ok (.putfield 16, 3) := by decide +kernel
theorem dX4_init_26 : decode cX4_init 26 = .ok (.aload_n 0, 1) := by decide +kernel
theorem dX4_init_27 : decode cX4_init 27 = .ok (.iconst 5, 1) := by decide +kernel
theorem dX4_init_28 : decode cX4_init 28 = .ok (.newarray .int, 2) := by decide +kernel
theorem dX4_init_30 : decode cX4_init 30 = .ok (.putfield 19, 3) := by decide +kernel
theorem dX4_init_33 : decode cX4_init 33 = .ok (.aload_n 0, 1) := by decide +kernel
theorem dX4_init_34 : decode cX4_init 34 = .ok (.iconst 5, 1) := by decide +kernel
theorem dX4_init_35 : decode cX4_init 35 = .ok (.newarray .int, 2) := by decide +kernel
theorem dX4_init_37 : decode cX4_init 37 = .ok (.putfield 22, 3) := by decide +kernel
theorem dX4_init_40 : decode cX4_init 40 = .ok (.aload_n 0, 1) := by decide +kernel
theorem dX4_init_41 : decode cX4_init 41 = .ok (.iconst 4, 1) := by decide +kernel
theorem dX4_init_42 : decode cX4_init 42 = .ok (.newarray .int, 2) := by decide +kernel
theorem dX4_init_44 : decode cX4_init 44 = .ok (.putfield 25, 3) := by decide +kernel
theorem dX4_init_47 : decode cX4_init 47 = .ok (.aload_n 0, 1) := by decide +kernel
theorem dX4_init_48 : decode cX4_init 48 = .ok (.bipush 8, 2) := by decide +kernel
theorem dX4_init_50 : decode cX4_init 50 = .ok (.newarray .int, 2) := by decide +kernel
theorem dX4_init_52 : decode cX4_init 52 = .ok (.putfield 28, 3) := by decide +kernel
theorem dX4_init_55 : decode cX4_init 55 = .ok (.aload_n 0, 1) := by decide +kernel
theorem dX4_init_56 : decode cX4_init 56 = .ok (.bipush 8, 2) := by decide +kernel
theorem dX4_init_58 : decode cX4_init 58 = .ok (.newarray .int, 2) := by decide +kernel
theorem dX4_init_60 : decode cX4_init 60 = .ok (.putfield 31, 3) := by decide +kernel
theorem dX4_init_63 : decode cX4_init 63 = .ok (.aload_n 0, 1) := by decide +kernel
theorem dX4_init_64 : decode cX4_init 64 = .ok (.iconst 4, 1) := by decide +kernel
theorem dX4_init_65 : decode cX4_init 65 = .ok (.newarray .int, 2) := by decide +kernel
theorem dX4_init_67 : decode cX4_init 67 = .ok (.putfield 34, 3) := by decide +kernel
theorem dX4_init_70 : decode cX4_init 70 = .ok (.aload_n 0, 1) := by decide +kernel
theorem dX4_init_71 : decode cX4_init 71 = .ok (.bipush 96, 2) := by decide +kernel
theorem dX4_init_73 : decode cX4_init 73 = .ok (.newarray .int, 2) := by decide +kernel
theorem dX4_init_75 : decode cX4_init 75 = .ok (.putfield 37, 3) := by decide +kernel
theorem dX4_init_78 : decode cX4_init 78 = .ok (.aload_n 0, 1) := by decide +kernel
theorem dX4_init_79 : decode cX4_init 79 = .ok (.bipush 48, 2) := by decide +kernel
theorem dX4_init_81 : decode cX4_init 81 = .ok (.newarray .int, 2) := by decide +kernel
theorem dX4_init_83 : decode cX4_init 83 = .ok (.putfield 40, 3) := by decide +kernel
theorem dX4_init_86 : decode cX4_init 86 = .ok (.aload_n 0, 1) := by decide +kernel
theorem dX4_init_87 : decode cX4_init 87 = .ok (.bipush 48, 2) := by decide +kernel
theorem dX4_init_89 : decode cX4_init 89 = .ok (.newarray .int, 2) := by decide +kernel
theorem dX4_init_91 : decode cX4_init 91 = .ok (.putfield 43, 3) := by decide +kernel
theorem dX4_init_94 : decode cX4_init 94 = .ok (.aload_n 0, 1) := by decide +kernel
theorem dX4_init_95 : decode cX4_init 95 = .ok (.sipush 192, 3) := by decide +kernel
theorem dX4_init_98 : decode cX4_init 98 = .ok (.newarray .int, 2) := by decide +kernel
theorem dX4_init_100 : decode cX4_init 100 = .ok (.putfield 46, 3) := by decide +kernel
theorem dX4_init_103 : decode cX4_init 103 = .ok (.aload_n 0, 1) := by decide +kernel
theorem dX4_init_104 : decode cX4_init 104 = .ok (.bipush 120, 2) := by decide +kernel
theorem dX4_init_106 : decode cX4_init 106 = .ok (.newarray .int, 2) := by decide +kernel
theorem dX4_init_108 : decode cX4_init 108 = .ok (.putfield 49, 3) := by decide +kernel
theorem dX4_init_111 : decode cX4_init 111 = .ok (.aload_n 0, 1) := by decide +kernel
theorem dX4_init_112 : decode cX4_init 112 = .ok (.iconst 5, 1) := by decide +kernel
theorem dX4_init_113 : decode cX4_init 113 = .ok (.newarray .long, 2) := by decide +kernel
theorem dX4_init_115 : decode cX4_init 115 = .ok (.putfield 52, 3) := by decide +kernel
theorem dX4_init_118 : decode cX4_init 118 = .ok (.aload_n 0, 1) := by decide +kernel
theorem dX4_init_119 : decode cX4_init 119 = .ok (.iconst 5, 1) := by decide +kernel
theorem dX4_init_120 : decode cX4_init 120 = .ok (.newarray .long, 2) := by decide +kernel
theorem dX4_init_122 : decode cX4_init 122 = .ok (.putfield 56, 3) := by decide +kernel
theorem dX4_init_125 : decode cX4_init 125 = .ok (.aload_n 0, 1) := by decide +kernel
theorem dX4_init_126 : decode cX4_init 126 = .ok (.iconst 5, 1) := by decide +kernel
theorem dX4_init_127 : decode cX4_init 127 = .ok (.newarray .long, 2) := by decide +kernel
theorem dX4_init_129 : decode cX4_init 129 = .ok (.putfield 59, 3) := by decide +kernel
theorem dX4_init_132 : decode cX4_init 132 = .ok (.aload_n 0, 1) := by decide +kernel
theorem dX4_init_133 : decode cX4_init 133 = .ok (.bipush 12, 2) := by decide +kernel
theorem dX4_init_135 : decode cX4_init 135 = .ok (.newarray .int, 2) := by decide +kernel
theorem dX4_init_137 : decode cX4_init 137 = .ok (.putfield 62, 3) := by decide +kernel
theorem dX4_init_140 : decode cX4_init 140 = .ok (.aload_n 0, 1) := by decide +kernel
theorem dX4_init_141 : decode cX4_init 141 = .ok (.iconst 4, 1) := by decide +kernel
theorem dX4_init_142 : decode cX4_init 142 = .ok (.newarray .int, 2) := by decide +kernel
theorem dX4_init_144 : decode cX4_init 144 = .ok (.putfield 65, 3) := by decide +kernel
theorem dX4_init_147 : decode cX4_init 147 = .ok (.aload_n 0, 1) := by decide +kernel
theorem dX4_init_148 : decode cX4_init 148 = .ok (.getfield 25, 3) := by decide +kernel
theorem dX4_init_151 : decode cX4_init 151 = .ok (.iconst 0, 1) := by decide +kernel
theorem dX4_init_152 : decode cX4_init 152 = .ok (.iconst 1, 1) := by decide +kernel
theorem dX4_init_153 : decode cX4_init 153 = .ok (.iastore, 1) := by decide +kernel
theorem dX4_init_154 : decode cX4_init 154 = .ok (.aload_n 0, 1) := by decide +kernel
theorem dX4_init_155 : decode cX4_init 155 = .ok (.getfield 25, 3) := by decide +kernel
theorem dX4_init_158 : decode cX4_init 158 = .ok (.iconst 1, 1) := by decide +kernel
theorem dX4_init_159 : decode cX4_init 159 = .ok (.iconst 2, 1) := by decide +kernel
theorem dX4_init_160 : decode cX4_init 160 = .ok (.iastore, 1) := by decide +kernel
theorem dX4_init_161 : decode cX4_init 161 = .ok (.aload_n 0, 1) := by decide +kernel
theorem dX4_init_162 : decode cX4_init 162 = .ok (.getfield 25, 3) := by decide +kernel
theorem dX4_init_165 : decode cX4_init 165 = .ok (.iconst 2, 1) := by decide +kernel
theorem dX4_init_166 : decode cX4_init 166 = .ok (.iconst 3, 1) := by decide +kernel
theorem dX4_init_167 : decode cX4_init 167 = .ok (.iastore, 1) := by decide +kernel
theorem dX4_init_168 : decode cX4_init 168 = .ok (.aload_n 0, 1) := by decide +kernel
theorem dX4_init_169 : decode cX4_init 169 = .ok (.iconst 1, 1) := by decide +kernel
theorem dX4_init_170 : decode cX4_init 170 = .ok (.putfield 68, 3) := by decide +kernel
theorem dX4_init_173 : decode cX4_init 173 = .ok (.return_, 1) := by decide +kernel
theorem dX4_no_0 : decode cX4_no 0 = .ok (.aload_n 0, 1) := by decide +kernel
theorem dX4_no_1 : decode cX4_no 1 = .ok (.getfield 7, 3) := by decide +kernel
theorem dX4_no_4 : decode cX4_no 4 = .ok (.iload_n 1, 1) := by decide +kernel
theorem dX4_no_5 : decode cX4_no 5 = .ok (.ineg, 1) := by decide +kernel
theorem dX4_no_6 : decode cX4_no 6 = .ok (.dup2, 1) := by decide +kernel
theorem dX4_no_7 : decode cX4_no 7 = .ok (.iaload, 1) := by decide +kernel
theorem dX4_no_8 : decode cX4_no 8 = .ok (.iconst 1, 1) := by decide +kernel
theorem dX4_no_9 : decode cX4_no 9 = .ok (.iadd, 1) := by decide +kernel
theorem dX4_no_10 : decode cX4_no 10 = .ok (.iastore, 1) := by decide +kernel
theorem dX4_no_11 : decode cX4_no 11 = .ok (.iload_n 1, 1) := by decide +kernel
theorem dX4_no_12 : decode cX4_no 12 = .ok (.ireturn, 1) := by decide +kernel
theorem dX4_lower_0 : decode cX4_lower 0 = .ok (.aload_n 0, 1) := by decide +kernel
theorem dX4_lower_1 : decode cX4_lower 1 = .ok (.getfield 7, 3) := by decide +kernel
theorem dX4_lower_4 : decode cX4_lower 4 = .ok (.iload_n 1, 1) := by decide +kernel
theorem dX4_lower_5 : decode cX4_lower 5 = .ok (.ineg, 1) := by decide +kernel
theorem dX4_lower_6 : decode cX4_lower 6 = .ok (.dup2, 1) := by decide +kernel
theorem dX4_lower_7 : decode cX4_lower 7 = .ok (.iaload, 1) := by decide +kernel
theorem dX4_lower_8 : decode cX4_lower 8 = .ok (.iconst 1, 1) := by decide +kernel
theorem dX4_lower_9 : decode cX4_lower 9 = .ok (.iadd, 1) := by decide +kernel
theorem dX4_lower_10 : decode cX4_lower 10 = .ok (.iastore, 1) := by decide +kernel
theorem dX4_lower_11 : decode cX4_lower 11 = .ok (.ldc 72, 2) := by decide +kernel
theorem dX4_lower_13 : decode cX4_lower 13 = .ok (.iload_n 1, 1) := by decide +kernel
theorem dX4_lower_14 : decode cX4_lower 14 = .ok (.isub, 1) := by decide +kernel
theorem dX4_lower_15 : decode cX4_lower 15 = .ok (.ireturn, 1) := by decide +kernel
theorem dX4_lowest_0 : decode cX4_lowest 0 = .ok (.aload_n 0, 1) := by decide +kernel
theorem dX4_lowest_1 : decode cX4_lowest 1 = .ok (.getfield 7, 3) := by decide +kernel
theorem dX4_lowest_4 : decode cX4_lowest 4 = .ok (.iload_n 1, 1) := by decide +kernel
theorem dX4_lowest_5 : decode cX4_lowest 5 = .ok (.ineg, 1) := by decide +kernel
theorem dX4_lowest_6 : decode cX4_lowest 6 = .ok (.dup2, 1) := by decide +kernel
theorem dX4_lowest_7 : decode cX4_lowest 7 = .ok (.iaload, 1) := by decide +kernel
theorem dX4_lowest_8 : decode cX4_lowest 8 = .ok (.iconst 1, 1) := by decide +kernel
theorem dX4_lowest_9 : decode cX4_lowest 9 = .ok (.iadd, 1) := by decide +kernel
theorem dX4_lowest_10 : decode cX4_lowest 10 = .ok (.iastore, 1) := by decide +kernel
theorem dX4_lowest_11 : decode cX4_lowest 11 = .ok (.ldc2_w 73, 3) := by decide +kernel
theorem dX4_lowest_14 : decode cX4_lowest 14 = .ok (.iload_n 1, 1) := by decide +kernel
theorem dX4_lowest_15 : decode cX4_lowest 15 = .ok (.i2l, 1) := by decide +kernel
theorem dX4_lowest_16 : decode cX4_lowest 16 = .ok (.lsub, 1) := by decide +kernel
theorem dX4_lowest_17 : decode cX4_lowest 17 = .ok (.lreturn, 1) := by decide +kernel
theorem dX4_isIn_0 : decode cX4_isIn 0 = .ok (.iload_n 0, 1) := by decide +kernel
theorem dX4_isIn_1 : decode cX4_isIn 1 = .ok (.iload_n 1, 1) := by decide +kernel
theorem dX4_isIn_2 : decode cX4_isIn 2 = .ok (.if_icmp .lt 12, 3) := by decide +kernel
theorem dX4_isIn_5 : decode cX4_isIn 5 = .ok (.iload_n 0, 1) := by decide +kernel
theorem dX4_isIn_6 : decode cX4_isIn 6 = .ok (.iload_n 2, 1) := by decide +kernel
theorem dX4_isIn_7 : decode cX4_isIn 7 = .ok (.if_icmp .gt 7, 3) := by decide +kernel
theorem dX4_isIn_10 : decode cX4_isIn 10 = .ok (.iconst 1, 1) := by decide +kernel
theorem dX4_isIn_11 : decode cX4_isIn 11 = .ok (.goto 4, 3) := by decide +kernel
theorem dX4_isIn_14 : decode cX4_isIn 14 = .ok (.iconst 0, 1) := by decide +kernel
theorem dX4_isIn_15 : decode cX4_isIn 15 = .ok (.ireturn, 1) := by decide +kernel
theorem dX4_bound_0 : decode cX4_bound 0 = .ok (.iload_n 0, 1) := by decide +kernel
theorem dX4_bound_1 : decode cX4_bound 1 = .ok (.iload_n 1, 1) := by decide +kernel
theorem dX4_bound_2 : decode cX4_bound 2 = .ok (.if_icmp .ge 8, 3) := by decide +kernel
theorem dX4_bound_5 : decode cX4_bound 5 = .ok (.bipush (-4), 2) := by decide +kernel
theorem dX4_bound_7 : decode cX4_bound 7 = .ok (.goto 14, 3) := by decide +kernel
theorem dX4_bound_10 : decode cX4_bound 10 = .ok (.iload_n 0, 1) := by decide +kernel
theorem dX4_bound_11 : decode cX4_bound 11 = .ok (.iload_n 2, 1) := by decide +kernel
theorem dX4_bound_12 : decode cX4_bound 12 = .ok (.if_icmp .le 8, 3) := by decide +kernel
theorem dX4_bound_15 : decode cX4_bound 15 = .ok (.bipush (-6), 2) := by decide +kernel
theorem dX4_bound_17 : decode cX4_bound 17 = .ok (.goto 4, 3) := by decide +kernel
theorem dX4_bound_20 : decode cX4_bound 20 = .ok (.iconst 0, 1) := by decide +kernel
theorem dX4_bound_21 : decode cX4_bound 21 = .ok (.ireturn, 1) := by decide +kernel
theorem dX4_isJug_0 : decode cX4_isJug 0 = .ok (.iload_n 1, 1) := by decide +kernel
theorem dX4_isJug_1 : decode cX4_isJug 1 = .ok (.ifCond .lt 15, 3) := by decide +kernel
theorem dX4_isJug_4 : decode cX4_isJug 4 = .ok (.iload_n 1, 1) := by decide +kernel
theorem dX4_isJug_5 : decode cX4_isJug 5 = .ok (.aload_n 0, 1) := by decide +kernel
theorem dX4_isJug_6 : decode cX4_isJug 6 = .ok (.getfield 75, 3) := by decide +kernel
theorem dX4_isJug_9 : decode cX4_isJug 9 = .ok (.if_icmp .ge 7, 3) := by decide +kernel
theorem dX4_isJug_12 : decode cX4_isJug 12 = .ok (.iconst 1, 1) := by decide +kernel
theorem dX4_isJug_13 : decode cX4_isJug 13 = .ok (.goto 4, 3) := by decide +kernel
theorem dX4_isJug_16 : decode cX4_isJug 16 = .ok (.iconst 0, 1) := by decide +kernel
theorem dX4_isJug_17 : decode cX4_isJug 17 = .ok (.ireturn, 1) := by decide +kernel
theorem dX4_isWhom_0 : decode cX4_isWhom 0 = .ok (.iload_n 0, 1) := by decide +kernel
theorem dX4_isWhom_1 : decode cX4_isWhom 1 = .ok (.ifCond .lt 12, 3) := by decide +kernel
theorem dX4_isWhom_4 : decode cX4_isWhom 4 = .ok (.iload_n 0, 1) := by decide +kernel
theorem dX4_isWhom_5 : decode cX4_isWhom 5 = .ok (.iconst 3, 1) := by decide +kernel
theorem dX4_isWhom_6 : decode cX4_isWhom 6 = .ok (.if_icmp .ge 7, 3) := by decide +kernel
theorem dX4_isWhom_9 : decode cX4_isWhom 9 = .ok (.iconst 1, 1) := by decide +kernel
theorem dX4_isWhom_10 : decode cX4_isWhom 10 = .ok (.goto 4, 3) := by decide +kernel
theorem dX4_isWhom_13 : decode cX4_isWhom 13 = .ok (.iconst 0, 1) := by decide +kernel
theorem dX4_isWhom_14 : decode cX4_isWhom 14 = .ok (.ireturn, 1) := by decide +kernel
theorem dX4_feed_0 : decode cX4_feed 0 = .ok (.iload_n 1, 1) := by decide +kernel
theorem dX4_feed_1 : decode cX4_feed 1 = .ok (.iconst 0, 1) := by decide +kernel
theorem dX4_feed_2 : decode cX4_feed 2 = .ok (.sipush 255, 3) := by decide +kernel
theorem dX4_feed_5 : decode cX4_feed 5 = .ok (.invokestatic 78, 3) := by decide +kernel
theorem dX4_feed_8 : decode cX4_feed 8 = .ok (.istore_n 2, 1) := by decide +kernel
theorem dX4_feed_9 : decode cX4_feed 9 = .ok (.iload_n 2, 1) := by decide +kernel
theorem dX4_feed_10 : decode cX4_feed 10 = .ok (.ifCond .ne 15, 3) := by decide +kernel
theorem dX4_feed_13 : decode cX4_feed 13 = .ok (.aload_n 0, 1) := by decide +kernel
theorem dX4_feed_14 : decode cX4_feed 14 = .ok (.getfield 82, 3) := by decide +kernel
theorem dX4_feed_17 : decode cX4_feed 17 = .ok (.bipush 96, 2) := by decide +kernel
theorem dX4_feed_19 : decode cX4_feed 19 = .ok (.if_icmp .ne 6, 3) := by decide +kernel
theorem dX4_feed_22 : decode cX4_feed 22 = .ok (.bipush (-6), 2) := by decide +kernel
theorem dX4_feed_24 : decode cX4_feed 24 = .ok (.istore_n 2, 1) := by decide +kernel
theorem dX4_feed_25 : decode cX4_feed 25 = .ok (.iload_n 2, 1) := by decide +kernel
theorem dX4_feed_26 : decode cX4_feed 26 = .ok (.ifCond .eq 9, 3) := by decide +kernel
theorem dX4_feed_29 : decode cX4_feed 29 = .ok (.aload_n 0, 1) := by decide +kernel
theorem dX4_feed_30 : decode cX4_feed 30 = .ok (.iload_n 2, 1) := by decide +kernel
theorem dX4_feed_31 : decode cX4_feed 31 = .ok (.invokevirtual 85, 3) := by decide +kernel
theorem dX4_feed_34 : decode cX4_feed 34 = .ok (.ireturn, 1) := by decide +kernel
theorem dX4_feed_35 : decode cX4_feed 35 = .ok (.aload_n 0, 1) := by decide +kernel
theorem dX4_feed_36 : decode cX4_feed 36 = .ok (.getfield 37, 3) := by decide +kernel
theorem dX4_feed_39 : decode cX4_feed 39 = .ok (.aload_n 0, 1) := by decide +kernel
theorem dX4_feed_40 : decode cX4_feed 40 = .ok (.getfield 82, 3) := by decide +kernel
theorem dX4_feed_43 : decode cX4_feed 43 = .ok (.iload_n 1, 1) := by decide +kernel
theorem dX4_feed_44 : decode cX4_feed 44 = .ok (.iastore, 1) := by decide +kernel
theorem dX4_feed_45 : decode cX4_feed 45 = .ok (.aload_n 0, 1) := by decide +kernel
theorem dX4_feed_46 : decode cX4_feed 46 = .ok (.dup, 1) := by decide +kernel
theorem dX4_feed_47 : decode cX4_feed 47 = .ok (.getfield 82, 3) := by decide +kernel
theorem dX4_feed_50 : decode cX4_feed 50 = .ok (.iconst 1, 1) := by decide +kernel
theorem dX4_feed_51 : decode cX4_feed 51 = .ok (.iadd, 1) := by decide +kernel
theorem dX4_feed_52 : decode cX4_feed 52 = .ok (.putfield 82, 3) := by decide +kernel
theorem dX4_feed_55 : decode cX4_feed 55 = .ok (.aload_n 0, 1) := by decide +kernel
theorem dX4_feed_56 : decode cX4_feed 56 = .ok (.getfield 82, 3) := by decide +kernel
theorem dX4_feed_59 : decode cX4_feed 59 = .ok (.ireturn, 1) := by decide +kernel
theorem dX4_next_0 : decode cX4_next 0 = .ok (.aload_n 0, 1) := by decide +kernel
theorem dX4_next_1 : decode cX4_next 1 = .ok (.getfield 89, 3) := by decide +kernel
theorem dX4_next_4 : decode cX4_next 4 = .ok (.aload_n 0, 1) := by decide +kernel
theorem dX4_next_5 : decode cX4_next 5 = .ok (.getfield 82, 3) := by decide +kernel
theorem dX4_next_8 : decode cX4_next 8 = .ok (.if_icmp .ge 15, 3) := by decide +kernel
theorem dX4_next_11 : decode cX4_next 11 = .ok (.aload_n 0, 1) := by decide +kernel
theorem dX4_next_12 : decode cX4_next 12 = .ok (.getfield 37, 3) := by decide +kernel
theorem dX4_next_15 : decode cX4_next 15 = .ok (.aload_n 0, 1) := by decide +kernel
theorem dX4_next_16 : decode cX4_next 16 = .ok (.getfield 89, 3) := by decide +kernel
theorem dX4_next_19 : decode cX4_next 19 = .ok (.iaload, 1) := by decide +kernel
theorem dX4_next_20 : decode cX4_next 20 = .ok (.goto 4, 3) := by decide +kernel
theorem dX4_next_23 : decode cX4_next 23 = .ok (.iconst (-1), 1) := by decide +kernel
theorem dX4_next_24 : decode cX4_next 24 = .ok (.ireturn, 1) := by decide +kernel
theorem dX4_readsDigits_0 : decode cX4_readsDigits 0 = .ok (.iconst 0, 1) := by decide +kernel
theorem dX4_readsDigits_1 : decode cX4_readsDigits 1 = .ok (.istore_n 3, 1) := by decide +kernel
theorem dX4_readsDigits_2 : decode cX4_readsDigits 2 = .ok (.iconst 0, 1) := by decide +kernel
theorem dX4_readsDigits_3 : decode cX4_readsDigits 3 = .ok (.istore 4, 2) := by decide +kernel
theorem dX4_readsDigits_5 : decode cX4_readsDigits 5 = .ok (.iload 4, 2) := by decide +kernel
theorem dX4_readsDigits_7 : decode cX4_readsDigits 7 = .ok (.iload_n 2, 1) := by decide +kernel
theorem dX4_readsDigits_8 : decode cX4_readsDigits 8 = .ok (.if_icmp .ge 48, 3) := by decide +kernel
theorem dX4_readsDigits_11 : decode cX4_readsDigits 11 = .ok (.aload_n 0, 1) := by decide +kernel
theorem dX4_readsDigits_12 : decode cX4_readsDigits 12 = .ok (.invokevirtual 92, 3) := by decide +kernel
theorem dX4_readsDigits_15 : decode cX4_readsDigits 15 = .ok (.bipush 48, 2) := by decide +kernel
theorem dX4_readsDigits_17 : decode cX4_readsDigits 17 = .ok (.bipush 57, 2) := by decide +kernel
theorem dX4_readsDigits_19 : decode cX4_readsDigits 19 = .ok (.invokestatic 96, 3) := by decide +kernel
theorem dX4_readsDigits_22 : decode cX4_readsDigits 22 = .ok (.ifCond .ne 5, 3) := by decide +kernel
theorem dX4_readsDigits_25 : decode cX4_readsDigits 25 = .ok (.iconst 0, 1) := by decide +kernel
theorem dX4_readsDigits_26 : decode cX4_readsDigits 26 = .ok (.ireturn, 1) := by decide +kernel
theorem dX4_readsDigits_27 : decode cX4_readsDigits 27 = .ok (.bipush 10, 2) := by decide +kernel
theorem dX4_readsDigits_29 : decode cX4_readsDigits 29 = .ok (.iload_n 3, 1) := by decide +kernel
theorem dX4_readsDigits_30 : decode cX4_readsDigits 30 = .ok (.imul, 1) := by decide +kernel
theorem dX4_readsDigits_31 : decode cX4_readsDigits 31 = .ok (.aload_n 0, 1) := by decide +kernel
theorem dX4_readsDigits_32 : decode cX4_readsDigits 32 = .ok (.invokevirtual 92, 3) := by decide +kernel
theorem dX4_readsDigits_35 : decode cX4_readsDigits 35 = .ok (.iadd, 1) := by decide +kernel
theorem dX4_readsDigits_36 : decode cX4_readsDigits 36 = .ok (.bipush 48, 2) := by decide +kernel
theorem dX4_readsDigits_38 : decode cX4_readsDigits 38 = .ok (.isub, 1) := by decide +kernel
theorem dX4_readsDigits_39 : decode cX4_readsDigits 39 = .ok (.istore_n 3, 1) := by decide +kernel
theorem dX4_readsDigits_40 : decode cX4_readsDigits 40 = .ok (.aload_n 0, 1) := by decide +kernel
theorem dX4_readsDigits_41 : decode cX4_readsDigits 41 = .ok (.dup, 1) := by decide +kernel
theorem dX4_readsDigits_42 : decode cX4_readsDigits 42 = .ok (.getfield 89, 3) := by decide +kernel
theorem dX4_readsDigits_45 : decode cX4_readsDigits 45 = .ok (.iconst 1, 1) := by decide +kernel
theorem dX4_readsDigits_46 : decode cX4_readsDigits 46 = .ok (.iadd, 1) := by decide +kernel
theorem dX4_readsDigits_47 : decode cX4_readsDigits 47 = .ok (.putfield 89, 3) := by decide +kernel
theorem dX4_readsDigits_50 : decode cX4_readsDigits 50 = .ok (.iinc 4 1, 3) := by decide +kernel
theorem dX4_readsDigits_53 : decode cX4_readsDigits 53 = .ok (.goto (-48), 3) := by decide +kernel
theorem dX4_readsDigits_56 : decode cX4_readsDigits 56 = .ok (.aload_n 0, 1) := by decide +kernel
theorem dX4_readsDigits_57 : decode cX4_readsDigits 57 = .ok (.getfield 46, 3) := by decide +kernel
theorem dX4_readsDigits_60 : decode cX4_readsDigits 60 = .ok (.iload_n 1, 1) := by decide +kernel
theorem dX4_readsDigits_61 : decode cX4_readsDigits 61 = .ok (.iload_n 3, 1) := by decide +kernel
theorem dX4_readsDigits_62 : decode cX4_readsDigits 62 = .ok (.iastore, 1) := by decide +kernel
theorem dX4_readsDigits_63 : decode cX4_readsDigits 63 = .ok (.iconst 1, 1) := by decide +kernel
theorem dX4_readsDigits_64 : decode cX4_readsDigits 64 = .ok (.ireturn, 1) := by decide +kernel
theorem dX4_readsAll_0 : decode cX4_readsAll 0 = .ok (.iload_n 1, 1) := by decide +kernel
theorem dX4_readsAll_1 : decode cX4_readsAll 1 = .ok (.lookupswitch 158 #[(99, 99), (106, 51), (115, 132), (116, 132), (119, 106)], 51) := by decide +kernel
theorem dX4_readsAll_52 : decode cX4_readsAll 52 = .ok (.aload_n 0, 1) := by decide +kernel
theorem dX4_readsAll_53 : decode cX4_readsAll 53 = .ok (.iload_n 2, 1) := by decide +kernel
theorem dX4_readsAll_54 : decode cX4_readsAll 54 = .ok (.iconst 1, 1) := by decide +kernel
theorem dX4_readsAll_55 : decode cX4_readsAll 55 = .ok (.invokevirtual 100, 3) := by decide +kernel
theorem dX4_readsAll_58 : decode cX4_readsAll 58 = .ok (.ifCond .eq 40, 3) := by decide +kernel
theorem dX4_readsAll_61 : decode cX4_readsAll 61 = .ok (.aload_n 0, 1) := by decide +kernel
theorem dX4_readsAll_62 : decode cX4_readsAll 62 = .ok (.iload_n 2, 1) := by decide +kernel
theorem dX4_readsAll_63 : decode cX4_readsAll 63 = .ok (.iconst 1, 1) := by decide +kernel
theorem dX4_readsAll_64 : decode cX4_readsAll 64 = .ok (.iadd, 1) := by decide +kernel
theorem dX4_readsAll_65 : decode cX4_readsAll 65 = .ok (.iconst 1, 1) := by decide +kernel
theorem dX4_readsAll_66 : decode cX4_readsAll 66 = .ok (.invokevirtual 100, 3) := by decide +kernel
theorem dX4_readsAll_69 : decode cX4_readsAll 69 = .ok (.ifCond .eq 29, 3) := by decide +kernel
theorem dX4_readsAll_72 : decode cX4_readsAll 72 = .ok (.aload_n 0, 1) := by decide +kernel
theorem dX4_readsAll_73 : decode cX4_readsAll 73 = .ok (.iload_n 2, 1) := by decide +kernel
theorem dX4_readsAll_74 : decode cX4_readsAll 74 = .ok (.iconst 2, 1) := by decide +kernel
theorem dX4_readsAll_75 : decode cX4_readsAll 75 = .ok (.iadd, 1) := by decide +kernel
theorem dX4_readsAll_76 : decode cX4_readsAll 76 = .ok (.iconst 1, 1) := by decide +kernel
theorem dX4_readsAll_77 : decode cX4_readsAll 77 = .ok (.invokevirtual 100, 3) := by decide +kernel
theorem dX4_readsAll_80 : decode cX4_readsAll 80 = .ok (.ifCond .eq 18, 3) := by decide +kernel
theorem dX4_readsAll_83 : decode cX4_readsAll 83 = .ok (.aload_n 0, 1) := by decide +kernel
theorem dX4_readsAll_84 : decode cX4_readsAll 84 = .ok (.iload_n 2, 1) := by decide +kernel
theorem dX4_readsAll_85 : decode cX4_readsAll 85 = .ok (.iconst 3, 1) := by decide +kernel
theorem dX4_readsAll_86 : decode cX4_readsAll 86 = .ok (.iadd, 1) := by decide +kernel
theorem dX4_readsAll_87 : decode cX4_readsAll 87 = .ok (.iconst 3, 1) := by decide +kernel
theorem dX4_readsAll_88 : decode cX4_readsAll 88 = .ok (.invokevirtual 100, 3) := by decide +kernel
theorem dX4_readsAll_91 : decode cX4_readsAll 91 = .ok (.ifCond .eq 7, 3) := by decide +kernel
theorem dX4_readsAll_94 : decode cX4_readsAll 94 = .ok (.iconst 1, 1) := by decide +kernel
theorem dX4_readsAll_95 : decode cX4_readsAll 95 = .ok (.goto 4, 3) := by decide +kernel
theorem dX4_readsAll_98 : decode cX4_readsAll 98 = .ok (.iconst 0, 1) := by decide +kernel
theorem dX4_readsAll_99 : decode cX4_readsAll 99 = .ok (.ireturn, 1) := by decide +kernel
theorem dX4_readsAll_100 : decode cX4_readsAll 100 = .ok (.aload_n 0, 1) := by decide +kernel
theorem dX4_readsAll_101 : decode cX4_readsAll 101 = .ok (.iload_n 2, 1) := by decide +kernel
theorem dX4_readsAll_102 : decode cX4_readsAll 102 = .ok (.iconst 2, 1) := by decide +kernel
theorem dX4_readsAll_103 : decode cX4_readsAll 103 = .ok (.invokevirtual 100, 3) := by decide +kernel
theorem dX4_readsAll_106 : decode cX4_readsAll 106 = .ok (.ireturn, 1) := by decide +kernel
theorem dX4_readsAll_107 : decode cX4_readsAll 107 = .ok (.aload_n 0, 1) := by decide +kernel
theorem dX4_readsAll_108 : decode cX4_readsAll 108 = .ok (.iload_n 2, 1) := by decide +kernel
theorem dX4_readsAll_109 : decode cX4_readsAll 109 = .ok (.iconst 1, 1) := by decide +kernel
theorem dX4_readsAll_110 : decode cX4_readsAll 110 = .ok (.invokevirtual 100, 3) := by decide +kernel
theorem dX4_readsAll_113 : decode cX4_readsAll 113 = .ok (.ifCond .eq 18, 3) := by decide +kernel
theorem dX4_readsAll_116 : decode cX4_readsAll 116 = .ok (.aload_n 0, 1) := by decide +kernel
theorem dX4_readsAll_117 : decode cX4_readsAll 117 = .ok (.iload_n 2, 1) := by decide +kernel
theorem dX4_readsAll_118 : decode cX4_readsAll 118 = .ok (.iconst 1, 1) := by decide +kernel
theorem dX4_readsAll_119 : decode cX4_readsAll 119 = .ok (.iadd, 1) := by decide +kernel
theorem dX4_readsAll_120 : decode cX4_readsAll 120 = .ok (.iconst 2, 1) := by decide +kernel
theorem dX4_readsAll_121 : decode cX4_readsAll 121 = .ok (.invokevirtual 100, 3) := by decide +kernel
theorem dX4_readsAll_124 : decode cX4_readsAll 124 = .ok (.ifCond .eq 7, 3) := by decide +kernel
theorem dX4_readsAll_127 : decode cX4_readsAll 127 = .ok (.iconst 1, 1) := by decide +kernel
theorem dX4_readsAll_128 : decode cX4_readsAll 128 = .ok (.goto 4, 3) := by decide +kernel
theorem dX4_readsAll_131 : decode cX4_readsAll 131 = .ok (.iconst 0, 1) := by decide +kernel
theorem dX4_readsAll_132 : decode cX4_readsAll 132 = .ok (.ireturn, 1) := by decide +kernel
theorem dX4_readsAll_133 : decode cX4_readsAll 133 = .ok (.aload_n 0, 1) := by decide +kernel
theorem dX4_readsAll_134 : decode cX4_readsAll 134 = .ok (.iload_n 2, 1) := by decide +kernel
theorem dX4_readsAll_135 : decode cX4_readsAll 135 = .ok (.iconst 1, 1) := by decide +kernel
theorem dX4_readsAll_136 : decode cX4_readsAll 136 = .ok (.invokevirtual 100, 3) := by decide +kernel
theorem dX4_readsAll_139 : decode cX4_readsAll 139 = .ok (.ifCond .eq 18, 3) := by decide +kernel
theorem dX4_readsAll_142 : decode cX4_readsAll 142 = .ok (.aload_n 0, 1) := by decide +kernel
theorem dX4_readsAll_143 : decode cX4_readsAll 143 = .ok (.iload_n 2, 1) := by decide +kernel
theorem dX4_readsAll_144 : decode cX4_readsAll 144 = .ok (.iconst 1, 1) := by decide +kernel
theorem dX4_readsAll_145 : decode cX4_readsAll 145 = .ok (.iadd, 1) := by decide +kernel
theorem dX4_readsAll_146 : decode cX4_readsAll 146 = .ok (.iconst 1, 1) := by decide +kernel
theorem dX4_readsAll_147 : decode cX4_readsAll 147 = .ok (.invokevirtual 100, 3) := by decide +kernel
theorem dX4_readsAll_150 : decode cX4_readsAll 150 = .ok (.ifCond .eq 7, 3) := by decide +kernel
theorem dX4_readsAll_153 : decode cX4_readsAll 153 = .ok (.iconst 1, 1) := by decide +kernel
theorem dX4_readsAll_154 : decode cX4_readsAll 154 = .ok (.goto 4, 3) := by decide +kernel
theorem dX4_readsAll_157 : decode cX4_readsAll 157 = .ok (.iconst 0, 1) := by decide +kernel
theorem dX4_readsAll_158 : decode cX4_readsAll 158 = .ok (.ireturn, 1) := by decide +kernel
theorem dX4_readsAll_159 : decode cX4_readsAll 159 = .ok (.aload_n 0, 1) := by decide +kernel
theorem dX4_readsAll_160 : decode cX4_readsAll 160 = .ok (.iload_n 2, 1) := by decide +kernel
theorem dX4_readsAll_161 : decode cX4_readsAll 161 = .ok (.iconst 1, 1) := by decide +kernel
theorem dX4_readsAll_162 : decode cX4_readsAll 162 = .ok (.invokevirtual 100, 3) := by decide +kernel
theorem dX4_readsAll_165 : decode cX4_readsAll 165 = .ok (.ireturn, 1) := by decide +kernel
theorem dX4_statement_0 : decode cX4_statement 0 = .ok (.aload_n 0, 1) := by decide +kernel
theorem dX4_statement_1 : decode cX4_statement 1 = .ok (.invokevirtual 92, 3) := by decide +kernel
theorem dX4_statement_4 : decode cX4_statement 4 = .ok (.istore_n 1, 1) := by decide +kernel
theorem dX4_statement_5 : decode cX4_statement 5 = .ok (.iload_n 1, 1) := by decide +kernel
theorem dX4_statement_6 : decode cX4_statement 6 = .ok (.bipush 106, 2) := by decide +kernel
theorem dX4_statement_8 : decode cX4_statement 8 = .ok (.if_icmp .eq 47, 3) := by decide +kernel
theorem dX4_statement_11 : decode cX4_statement 11 = .ok (.iload_n 1, 1) := by decide +kernel
theorem dX4_statement_12 : decode cX4_statement 12 = .ok (.bipush 99, 2) := by decide +kernel
theorem dX4_statement_14 : decode cX4_statement 14 = .ok (.if_icmp .eq 41, 3) := by decide +kernel
theorem dX4_statement_17 : decode cX4_statement 17 = .ok (.iload_n 1, 1) := by decide +kernel
theorem dX4_statement_18 : decode cX4_statement 18 = .ok (.bipush 119, 2) := by decide +kernel
theorem dX4_statement_20 : decode cX4_statement 20 = .ok (.if_icmp .eq 35, 3) := by decide +kernel
theorem dX4_statement_23 : decode cX4_statement 23 = .ok (.iload_n 1, 1) := by decide +kernel
theorem dX4_statement_24 : decode cX4_statement 24 = .ok (.bipush 116, 2) := by decide +kernel
theorem dX4_statement_26 : decode cX4_statement 26 = .ok (.if_icmp .eq 29, 3) := by decide +kernel
theorem dX4_statement_29 : decode cX4_statement 29 = .ok (.iload_n 1, 1) := by decide +kernel
theorem dX4_statement_30 : decode cX4_statement 30 = .ok (.bipush 112, 2) := by decide +kernel
theorem dX4_statement_32 : decode cX4_statement 32 = .ok (.if_icmp .eq 23, 3) := by decide +kernel
theorem dX4_statement_35 : decode cX4_statement 35 = .ok (.iload_n 1, 1) := by decide +kernel
theorem dX4_statement_36 : decode cX4_statement 36 = .ok (.bipush 104, 2) := by decide +kernel
theorem dX4_statement_38 : decode cX4_statement 38 = .ok (.if_icmp .eq 17, 3) := by decide +kernel
theorem dX4_statement_41 : decode cX4_statement 41 = .ok (.iload_n 1, 1) := by decide +kernel
theorem dX4_statement_42 : decode cX4_statement 42 = .ok (.bipush 115, 2) := by decide +kernel
theorem dX4_statement_44 : decode cX4_statement 44 = .ok (.if_icmp .eq 11, 3) := by decide +kernel
theorem dX4_statement_47 : decode cX4_statement 47 = .ok (.iload_n 1, 1) := by decide +kernel
theorem dX4_statement_48 : decode cX4_statement 48 = .ok (.bipush 117, 2) := by decide +kernel
theorem dX4_statement_50 : decode cX4_statement 50 = .ok (.if_icmp .eq 5, 3) := by decide +kernel
theorem dX4_statement_53 : decode cX4_statement 53 = .ok (.iconst 0, 1) := by decide +kernel
theorem dX4_statement_54 : decode cX4_statement 54 = .ok (.ireturn, 1) := by decide +kernel
theorem dX4_statement_55 : decode cX4_statement 55 = .ok (.aload_n 0, 1) := by decide +kernel
theorem dX4_statement_56 : decode cX4_statement 56 = .ok (.getfield 40, 3) := by decide +kernel
theorem dX4_statement_59 : decode cX4_statement 59 = .ok (.aload_n 0, 1) := by decide +kernel
theorem dX4_statement_60 : decode cX4_statement 60 = .ok (.getfield 104, 3) := by decide +kernel
theorem dX4_statement_63 : decode cX4_statement 63 = .ok (.iload_n 1, 1) := by decide +kernel
theorem dX4_statement_64 : decode cX4_statement 64 = .ok (.iastore, 1) := by decide +kernel
theorem dX4_statement_65 : decode cX4_statement 65 = .ok (.aload_n 0, 1) := by decide +kernel
theorem dX4_statement_66 : decode cX4_statement 66 = .ok (.getfield 43, 3) := by decide +kernel
theorem dX4_statement_69 : decode cX4_statement 69 = .ok (.aload_n 0, 1) := by decide +kernel
theorem dX4_statement_70 : decode cX4_statement 70 = .ok (.getfield 104, 3) := by decide +kernel
theorem dX4_statement_73 : decode cX4_statement 73 = .ok (.aload_n 0, 1) := by decide +kernel
theorem dX4_statement_74 : decode cX4_statement 74 = .ok (.getfield 89, 3) := by decide +kernel
theorem dX4_statement_77 : decode cX4_statement 77 = .ok (.iastore, 1) := by decide +kernel
theorem dX4_statement_78 : decode cX4_statement 78 = .ok (.aload_n 0, 1) := by decide +kernel
theorem dX4_statement_79 : decode cX4_statement 79 = .ok (.dup, 1) := by decide +kernel
theorem dX4_statement_80 : decode cX4_statement 80 = .ok (.getfield 89, 3) := by decide +kernel
theorem dX4_statement_83 : decode cX4_statement 83 = .ok (.iconst 1, 1) := by decide +kernel
theorem dX4_statement_84 : decode cX4_statement 84 = .ok (.iadd, 1) := by decide +kernel
theorem dX4_statement_85 : decode cX4_statement 85 = .ok (.putfield 89, 3) := by decide +kernel
theorem dX4_statement_88 : decode cX4_statement 88 = .ok (.aload_n 0, 1) := by decide +kernel
theorem dX4_statement_89 : decode cX4_statement 89 = .ok (.iload_n 1, 1) := by decide +kernel
theorem dX4_statement_90 : decode cX4_statement 90 = .ok (.iconst 4, 1) := by decide +kernel
theorem dX4_statement_91 : decode cX4_statement 91 = .ok (.aload_n 0, 1) := by decide +kernel
theorem dX4_statement_92 : decode cX4_statement 92 = .ok (.getfield 104, 3) := by decide +kernel
theorem dX4_statement_95 : decode cX4_statement 95 = .ok (.imul, 1) := by decide +kernel
theorem dX4_statement_96 : decode cX4_statement 96 = .ok (.invokevirtual 107, 3) := by decide +kernel
theorem dX4_statement_99 : decode cX4_statement 99 = .ok (.ifCond .eq 12, 3) := by decide +kernel
theorem dX4_statement_102 : decode cX4_statement 102 = .ok (.aload_n 0, 1) := by decide +kernel
theorem dX4_statement_103 : decode cX4_statement 103 = .ok (.invokevirtual 92, 3) := by decide +kernel
theorem dX4_statement_106 : decode cX4_statement 106 = .ok (.bipush 59, 2) := by decide +kernel
theorem dX4_statement_108 : decode cX4_statement 108 = .ok (.if_icmp .eq 5, 3) := by decide +kernel
theorem dX4_statement_111 : decode cX4_statement 111 = .ok (.iconst 0, 1) := by decide +kernel
theorem dX4_statement_112 : decode cX4_statement 112 = .ok (.ireturn, 1) := by decide +kernel
theorem dX4_statement_113 : decode cX4_statement 113 = .ok (.aload_n 0, 1) := by decide +kernel
theorem dX4_statement_114 : decode cX4_statement 114 = .ok (.dup, 1) := by decide +kernel
theorem dX4_statement_115 : decode cX4_statement 115 = .ok (.getfield 89, 3) := by decide +kernel
theorem dX4_statement_118 : decode cX4_statement 118 = .ok (.iconst 1, 1) := by decide +kernel
theorem dX4_statement_119 : decode cX4_statement 119 = .ok (.iadd, 1) := by decide +kernel
theorem dX4_statement_120 : decode cX4_statement 120 = .ok (.putfield 89, 3) := by decide +kernel
theorem dX4_statement_123 : decode cX4_statement 123 = .ok (.iconst 1, 1) := by decide +kernel
theorem dX4_statement_124 : decode cX4_statement 124 = .ok (.ireturn, 1) := by decide +kernel
theorem dX4_comesJug_0 : decode cX4_comesJug 0 = .ok (.aload_n 0, 1) := by decide +kernel
theorem dX4_comesJug_1 : decode cX4_comesJug 1 = .ok (.getfield 46, 3) := by decide +kernel
theorem dX4_comesJug_4 : decode cX4_comesJug 4 = .ok (.iload_n 1, 1) := by decide +kernel
theorem dX4_comesJug_5 : decode cX4_comesJug 5 = .ok (.iaload, 1) := by decide +kernel
theorem dX4_comesJug_6 : decode cX4_comesJug 6 = .ok (.iconst 5, 1) := by decide +kernel
theorem dX4_comesJug_7 : decode cX4_comesJug 7 = .ok (.if_icmp .gt 36, 3) := by decide +kernel
theorem dX4_comesJug_10 : decode cX4_comesJug 10 = .ok (.aload_n 0, 1) := by decide +kernel
theorem dX4_comesJug_11 : decode cX4_comesJug 11 = .ok (.getfield 46, 3) := by decide +kernel
theorem dX4_comesJug_14 : decode cX4_comesJug 14 = .ok (.iload_n 1, 1) := by decide +kernel
theorem dX4_comesJug_15 : decode cX4_comesJug 15 = .ok (.iconst 2, 1) := by decide +kernel
theorem dX4_comesJug_16 : decode cX4_comesJug 16 = .ok (.iadd, 1) := by decide +kernel
theorem dX4_comesJug_17 : decode cX4_comesJug 17 = .ok (.iaload, 1) := by decide +kernel
theorem dX4_comesJug_18 : decode cX4_comesJug 18 = .ok (.ifCond .eq 25, 3) := by decide +kernel
theorem dX4_comesJug_21 : decode cX4_comesJug 21 = .ok (.aload_n 0, 1) := by decide +kernel
theorem dX4_comesJug_22 : decode cX4_comesJug 22 = .ok (.getfield 46, 3) := by decide +kernel
theorem dX4_comesJug_25 : decode cX4_comesJug 25 = .ok (.iload_n 1, 1) := by decide +kernel
theorem dX4_comesJug_26 : decode cX4_comesJug 26 = .ok (.iconst 3, 1) := by decide +kernel
theorem dX4_comesJug_27 : decode cX4_comesJug 27 = .ok (.iadd, 1) := by decide +kernel
theorem dX4_comesJug_28 : decode cX4_comesJug 28 = .ok (.iaload, 1) := by decide +kernel
theorem dX4_comesJug_29 : decode cX4_comesJug 29 = .ok (.sipush 240, 3) := by decide +kernel
theorem dX4_comesJug_32 : decode cX4_comesJug 32 = .ok (.if_icmp .gt 11, 3) := by decide +kernel
theorem dX4_comesJug_35 : decode cX4_comesJug 35 = .ok (.aload_n 0, 1) := by decide +kernel
theorem dX4_comesJug_36 : decode cX4_comesJug 36 = .ok (.getfield 75, 3) := by decide +kernel
theorem dX4_comesJug_39 : decode cX4_comesJug 39 = .ok (.iconst 5, 1) := by decide +kernel
theorem dX4_comesJug_40 : decode cX4_comesJug 40 = .ok (.if_icmp .ne 5, 3) := by decide +kernel
theorem dX4_comesJug_43 : decode cX4_comesJug 43 = .ok (.iconst 0, 1) := by decide +kernel
theorem dX4_comesJug_44 : decode cX4_comesJug 44 = .ok (.ireturn, 1) := by decide +kernel
theorem dX4_comesJug_45 : decode cX4_comesJug 45 = .ok (.aload_n 0, 1) := by decide +kernel
theorem dX4_comesJug_46 : decode cX4_comesJug 46 = .ok (.getfield 13, 3) := by decide +kernel
theorem dX4_comesJug_49 : decode cX4_comesJug 49 = .ok (.aload_n 0, 1) := by decide +kernel
theorem dX4_comesJug_50 : decode cX4_comesJug 50 = .ok (.getfield 75, 3) := by decide +kernel
theorem dX4_comesJug_53 : decode cX4_comesJug 53 = .ok (.aload_n 0, 1) := by decide +kernel
theorem dX4_comesJug_54 : decode cX4_comesJug 54 = .ok (.getfield 46, 3) := by decide +kernel
theorem dX4_comesJug_57 : decode cX4_comesJug 57 = .ok (.iload_n 1, 1) := by decide +kernel
theorem dX4_comesJug_58 : decode cX4_comesJug 58 = .ok (.iaload, 1) := by decide +kernel
theorem dX4_comesJug_59 : decode cX4_comesJug 59 = .ok (.iastore, 1) := by decide +kernel
theorem dX4_comesJug_60 : decode cX4_comesJug 60 = .ok (.aload_n 0, 1) := by decide +kernel
theorem dX4_comesJug_61 : decode cX4_comesJug 61 = .ok (.getfield 16, 3) := by decide +kernel
theorem dX4_comesJug_64 : decode cX4_comesJug 64 = .ok (.aload_n 0, 1) := by decide +kernel
theorem dX4_comesJug_65 : decode cX4_comesJug 65 = .ok (.getfield 75, 3) := by decide +kernel
theorem dX4_comesJug_68 : decode cX4_comesJug 68 = .ok (.aload_n 0, 1) := by decide +kernel
theorem dX4_comesJug_69 : decode cX4_comesJug 69 = .ok (.getfield 46, 3) := by decide +kernel
theorem dX4_comesJug_72 : decode cX4_comesJug 72 = .ok (.iload_n 1, 1) := by decide +kernel
theorem dX4_comesJug_73 : decode cX4_comesJug 73 = .ok (.iconst 1, 1) := by decide +kernel
theorem dX4_comesJug_74 : decode cX4_comesJug 74 = .ok (.iadd, 1) := by decide +kernel
theorem dX4_comesJug_75 : decode cX4_comesJug 75 = .ok (.iaload, 1) := by decide +kernel
theorem dX4_comesJug_76 : decode cX4_comesJug 76 = .ok (.iastore, 1) := by decide +kernel
theorem dX4_comesJug_77 : decode cX4_comesJug 77 = .ok (.aload_n 0, 1) := by decide +kernel
theorem dX4_comesJug_78 : decode cX4_comesJug 78 = .ok (.getfield 19, 3) := by decide +kernel
theorem dX4_comesJug_81 : decode cX4_comesJug 81 = .ok (.aload_n 0, 1) := by decide +kernel
theorem dX4_comesJug_82 : decode cX4_comesJug 82 = .ok (.getfield 75, 3) := by decide +kernel
theorem dX4_comesJug_85 : decode cX4_comesJug 85 = .ok (.aload_n 0, 1) := by decide +kernel
theorem dX4_comesJug_86 : decode cX4_comesJug 86 = .ok (.getfield 46, 3) := by decide +kernel
theorem dX4_comesJug_89 : decode cX4_comesJug 89 = .ok (.iload_n 1, 1) := by decide +kernel
theorem dX4_comesJug_90 : decode cX4_comesJug 90 = .ok (.iconst 2, 1) := by decide +kernel
theorem dX4_comesJug_91 : decode cX4_comesJug 91 = .ok (.iadd, 1) := by decide +kernel
theorem dX4_comesJug_92 : decode cX4_comesJug 92 = .ok (.iaload, 1) := by decide +kernel
theorem dX4_comesJug_93 : decode cX4_comesJug 93 = .ok (.iastore, 1) := by decide +kernel
theorem dX4_comesJug_94 : decode cX4_comesJug 94 = .ok (.aload_n 0, 1) := by decide +kernel
theorem dX4_comesJug_95 : decode cX4_comesJug 95 = .ok (.getfield 22, 3) := by decide +kernel
theorem dX4_comesJug_98 : decode cX4_comesJug 98 = .ok (.aload_n 0, 1) := by decide +kernel
theorem dX4_comesJug_99 : decode cX4_comesJug 99 = .ok (.getfield 75, 3) := by decide +kernel
theorem dX4_comesJug_102 : decode cX4_comesJug 102 = .ok (.aload_n 0, 1) := by decide +kernel
theorem dX4_comesJug_103 : decode cX4_comesJug 103 = .ok (.getfield 46, 3) := by decide +kernel
theorem dX4_comesJug_106 : decode cX4_comesJug 106 = .ok (.iload_n 1, 1) := by decide +kernel
theorem dX4_comesJug_107 : decode cX4_comesJug 107 = .ok (.iconst 3, 1) := by decide +kernel
theorem dX4_comesJug_108 : decode cX4_comesJug 108 = .ok (.iadd, 1) := by decide +kernel
theorem dX4_comesJug_109 : decode cX4_comesJug 109 = .ok (.iaload, 1) := by decide +kernel
theorem dX4_comesJug_110 : decode cX4_comesJug 110 = .ok (.iastore, 1) := by decide +kernel
theorem dX4_comesJug_111 : decode cX4_comesJug 111 = .ok (.aload_n 0, 1) := by decide +kernel
theorem dX4_comesJug_112 : decode cX4_comesJug 112 = .ok (.dup, 1) := by decide +kernel
theorem dX4_comesJug_113 : decode cX4_comesJug 113 = .ok (.getfield 75, 3) := by decide +kernel
theorem dX4_comesJug_116 : decode cX4_comesJug 116 = .ok (.iconst 1, 1) := by decide +kernel
theorem dX4_comesJug_117 : decode cX4_comesJug 117 = .ok (.iadd, 1) := by decide +kernel
theorem dX4_comesJug_118 : decode cX4_comesJug 118 = .ok (.putfield 75, 3) := by decide +kernel
theorem dX4_comesJug_121 : decode cX4_comesJug 121 = .ok (.iconst 1, 1) := by decide +kernel
theorem dX4_comesJug_122 : decode cX4_comesJug 122 = .ok (.ireturn, 1) := by decide +kernel
theorem dX4_comesSeen_0 : decode cX4_comesSeen 0 = .ok (.iload_n 1, 1) := by decide +kernel
theorem dX4_comesSeen_1 : decode cX4_comesSeen 1 = .ok (.iconst 4, 1) := by decide +kernel
theorem dX4_comesSeen_2 : decode cX4_comesSeen 2 = .ok (.if_icmp .ge 24, 3) := by decide +kernel
theorem dX4_comesSeen_5 : decode cX4_comesSeen 5 = .ok (.iload_n 2, 1) := by decide +kernel
theorem dX4_comesSeen_6 : decode cX4_comesSeen 6 = .ok (.iconst 1, 1) := by decide +kernel
theorem dX4_comesSeen_7 : decode cX4_comesSeen 7 = .ok (.if_icmp .gt 19, 3) := by decide +kernel
theorem dX4_comesSeen_10 : decode cX4_comesSeen 10 = .ok (.aload_n 0, 1) := by decide +kernel
theorem dX4_comesSeen_11 : decode cX4_comesSeen 11 = .ok (.getfield 75, 3) := by decide +kernel
theorem dX4_comesSeen_14 : decode cX4_comesSeen 14 = .ok (.ifCond .eq 12, 3) := by decide +kernel
theorem dX4_comesSeen_17 : decode cX4_comesSeen 17 = .ok (.aload_n 0, 1) := by decide +kernel
theorem dX4_comesSeen_18 : decode cX4_comesSeen 18 = .ok (.getfield 110, 3) := by decide +kernel
theorem dX4_comesSeen_21 : decode cX4_comesSeen 21 = .ok (.bipush 8, 2) := by decide +kernel
theorem dX4_comesSeen_23 : decode cX4_comesSeen 23 = .ok (.if_icmp .ne 5, 3) := by decide +kernel
theorem dX4_comesSeen_26 : decode cX4_comesSeen 26 = .ok (.iconst 0, 1) := by decide +kernel
theorem dX4_comesSeen_27 : decode cX4_comesSeen 27 = .ok (.ireturn, 1) := by decide +kernel
theorem dX4_comesSeen_28 : decode cX4_comesSeen 28 = .ok (.aload_n 0, 1) := by decide +kernel
theorem dX4_comesSeen_29 : decode cX4_comesSeen 29 = .ok (.iload_n 1, 1) := by decide +kernel
theorem dX4_comesSeen_30 : decode cX4_comesSeen 30 = .ok (.iload_n 2, 1) := by decide +kernel
theorem dX4_comesSeen_31 : decode cX4_comesSeen 31 = .ok (.invokevirtual 113, 3) := by decide +kernel
theorem dX4_comesSeen_34 : decode cX4_comesSeen 34 = .ok (.iconst 1, 1) := by decide +kernel
theorem dX4_comesSeen_35 : decode cX4_comesSeen 35 = .ok (.ireturn, 1) := by decide +kernel
theorem dX4_comesUse_0 : decode cX4_comesUse 0 = .ok (.aload_n 0, 1) := by decide +kernel
theorem dX4_comesUse_1 : decode cX4_comesUse 1 = .ok (.getfield 75, 3) := by decide +kernel
theorem dX4_comesUse_4 : decode cX4_comesUse 4 = .ok (.ifCond .eq 20, 3) := by decide +kernel
theorem dX4_comesUse_7 : decode cX4_comesUse 7 = .ok (.iload_n 1, 1) := by decide +kernel
theorem dX4_comesUse_8 : decode cX4_comesUse 8 = .ok (.ifCond .eq 16, 3) := by decide +kernel
theorem dX4_comesUse_11 : decode cX4_comesUse 11 = .ok (.iload_n 1, 1) := by decide +kernel
theorem dX4_comesUse_12 : decode cX4_comesUse 12 = .ok (.aload_n 0, 1) := by decide +kernel
theorem dX4_comesUse_13 : decode cX4_comesUse 13 = .ok (.getfield 19, 3) := by decide +kernel
theorem dX4_comesUse_16 : decode cX4_comesUse 16 = .ok (.aload_n 0, 1) := by decide +kernel
theorem dX4_comesUse_17 : decode cX4_comesUse 17 = .ok (.getfield 117, 3) := by decide +kernel
theorem dX4_comesUse_20 : decode cX4_comesUse 20 = .ok (.iaload, 1) := by decide +kernel
theorem dX4_comesUse_21 : decode cX4_comesUse 21 = .ok (.if_icmp .le 5, 3) := by decide +kernel
theorem dX4_comesUse_24 : decode cX4_comesUse 24 = .ok (.iconst 0, 1) := by decide +kernel
theorem dX4_comesUse_25 : decode cX4_comesUse 25 = .ok (.ireturn, 1) := by decide +kernel
theorem dX4_comesUse_26 : decode cX4_comesUse 26 = .ok (.aload_n 0, 1) := by decide +kernel
theorem dX4_comesUse_27 : decode cX4_comesUse 27 = .ok (.iload_n 1, 1) := by decide +kernel
theorem dX4_comesUse_28 : decode cX4_comesUse 28 = .ok (.invokevirtual 120, 3) := by decide +kernel
theorem dX4_comesUse_31 : decode cX4_comesUse 31 = .ok (.pop, 1) := by decide +kernel
theorem dX4_comesUse_32 : decode cX4_comesUse 32 = .ok (.iconst 1, 1) := by decide +kernel
theorem dX4_comesUse_33 : decode cX4_comesUse 33 = .ok (.ireturn, 1) := by decide +kernel
theorem dX4_comes_0 : decode cX4_comes 0 = .ok (.iconst 4, 1) := by decide +kernel
theorem dX4_comes_1 : decode cX4_comes 1 = .ok (.iload_n 1, 1) := by decide +kernel
theorem dX4_comes_2 : decode cX4_comes 2 = .ok (.imul, 1) := by decide +kernel
theorem dX4_comes_3 : decode cX4_comes 3 = .ok (.istore_n 2, 1) := by decide +kernel
theorem dX4_comes_4 : decode cX4_comes 4 = .ok (.aload_n 0, 1) := by decide +kernel
theorem dX4_comes_5 : decode cX4_comes 5 = .ok (.getfield 46, 3) := by decide +kernel
theorem dX4_comes_8 : decode cX4_comes 8 = .ok (.iload_n 2, 1) := by decide +kernel
theorem dX4_comes_9 : decode cX4_comes 9 = .ok (.iaload, 1) := by decide +kernel
theorem dX4_comes_10 : decode cX4_comes 10 = .ok (.istore_n 3, 1) := by decide +kernel
theorem dX4_comes_11 : decode cX4_comes 11 = .ok (.aload_n 0, 1) := by decide +kernel
theorem dX4_comes_12 : decode cX4_comes 12 = .ok (.getfield 46, 3) := by decide +kernel
theorem dX4_comes_15 : decode cX4_comes 15 = .ok (.iload_n 2, 1) := by decide +kernel
theorem dX4_comes_16 : decode cX4_comes 16 = .ok (.iconst 1, 1) := by decide +kernel
theorem dX4_comes_17 : decode cX4_comes 17 = .ok (.iadd, 1) := by decide +kernel
theorem dX4_comes_18 : decode cX4_comes 18 = .ok (.iaload, 1) := by decide +kernel
theorem dX4_comes_19 : decode cX4_comes 19 = .ok (.istore 4, 2) := by decide +kernel
theorem dX4_comes_21 : decode cX4_comes 21 = .ok (.aload_n 0, 1) := by decide +kernel
theorem dX4_comes_22 : decode cX4_comes 22 = .ok (.getfield 40, 3) := by decide +kernel
theorem dX4_comes_25 : decode cX4_comes 25 = .ok (.iload_n 1, 1) := by decide +kernel
theorem dX4_comes_26 : decode cX4_comes 26 = .ok (.iaload, 1) := by decide +kernel
theorem dX4_comes_27 : decode cX4_comes 27 = .ok (.tableswitch 189 99 119 #[103, 189, 189, 189, 189, 159, 189, 97, 189, 189, 189, 189, 189, 152, 189, 189, 181, 135, 189, 189, 110], 97) := by decide +kernel
theorem dX4_comes_124 : decode cX4_comes 124 = .ok (.aload_n 0, 1) := by decide +kernel
theorem dX4_comes_125 : decode cX4_comes 125 = .ok (.iload_n 2, 1) := by decide +kernel
theorem dX4_comes_126 : decode cX4_comes 126 = .ok (.invokevirtual 123, 3) := by decide +kernel
theorem dX4_comes_129 : decode cX4_comes 129 = .ok (.ireturn, 1) := by decide +kernel
theorem dX4_comes_130 : decode cX4_comes 130 = .ok (.aload_n 0, 1) := by decide +kernel
theorem dX4_comes_131 : decode cX4_comes 131 = .ok (.iload_n 3, 1) := by decide +kernel
theorem dX4_comes_132 : decode cX4_comes 132 = .ok (.invokevirtual 127, 3) := by decide +kernel
theorem dX4_comes_135 : decode cX4_comes 135 = .ok (.iconst 1, 1) := by decide +kernel
theorem dX4_comes_136 : decode cX4_comes 136 = .ok (.ireturn, 1) := by decide +kernel
theorem dX4_comes_137 : decode cX4_comes 137 = .ok (.aload_n 0, 1) := by decide +kernel
theorem dX4_comes_138 : decode cX4_comes 138 = .ok (.iload_n 3, 1) := by decide +kernel
theorem dX4_comes_139 : decode cX4_comes 139 = .ok (.invokevirtual 131, 3) := by decide +kernel
theorem dX4_comes_142 : decode cX4_comes 142 = .ok (.ifCond .ne 5, 3) := by decide +kernel
theorem dX4_comes_145 : decode cX4_comes 145 = .ok (.iconst 0, 1) := by decide +kernel
theorem dX4_comes_146 : decode cX4_comes 146 = .ok (.ireturn, 1) := by decide +kernel
theorem dX4_comes_147 : decode cX4_comes 147 = .ok (.aload_n 0, 1) := by decide +kernel
theorem dX4_comes_148 : decode cX4_comes 148 = .ok (.iload_n 3, 1) := by decide +kernel
theorem dX4_comes_149 : decode cX4_comes 149 = .ok (.aload_n 0, 1) := by decide +kernel
theorem dX4_comes_150 : decode cX4_comes 150 = .ok (.iload_n 3, 1) := by decide +kernel
theorem dX4_comes_151 : decode cX4_comes 151 = .ok (.invokevirtual 134, 3) := by decide +kernel
theorem dX4_comes_154 : decode cX4_comes 154 = .ok (.iload 4, 2) := by decide +kernel
theorem dX4_comes_156 : decode cX4_comes 156 = .ok (.imul, 1) := by decide +kernel
theorem dX4_comes_157 : decode cX4_comes 157 = .ok (.invokevirtual 137, 3) := by decide +kernel
theorem dX4_comes_160 : decode cX4_comes 160 = .ok (.iconst 1, 1) := by decide +kernel
theorem dX4_comes_161 : decode cX4_comes 161 = .ok (.ireturn, 1) := by decide +kernel
theorem dX4_comes_162 : decode cX4_comes 162 = .ok (.iload_n 3, 1) := by decide +kernel
theorem dX4_comes_163 : decode cX4_comes 163 = .ok (.iconst 4, 1) := by decide +kernel
theorem dX4_comes_164 : decode cX4_comes 164 = .ok (.if_icmp .lt 5, 3) := by decide +kernel
theorem dX4_comes_167 : decode cX4_comes 167 = .ok (.iconst 0, 1) := by decide +kernel
theorem dX4_comes_168 : decode cX4_comes 168 = .ok (.ireturn, 1) := by decide +kernel
theorem dX4_comes_169 : decode cX4_comes 169 = .ok (.aload_n 0, 1) := by decide +kernel
theorem dX4_comes_170 : decode cX4_comes 170 = .ok (.getfield 25, 3) := by decide +kernel
theorem dX4_comes_173 : decode cX4_comes 173 = .ok (.iload_n 3, 1) := by decide +kernel
theorem dX4_comes_174 : decode cX4_comes 174 = .ok (.iload 4, 2) := by decide +kernel
theorem dX4_comes_176 : decode cX4_comes 176 = .ok (.iastore, 1) := by decide +kernel
theorem dX4_comes_177 : decode cX4_comes 177 = .ok (.iconst 1, 1) := by decide +kernel
theorem dX4_comes_178 : decode cX4_comes 178 = .ok (.ireturn, 1) := by decide +kernel
theorem dX4_comes_179 : decode cX4_comes 179 = .ok (.aload_n 0, 1) := by decide +kernel
theorem dX4_comes_180 : decode cX4_comes 180 = .ok (.iload_n 3, 1) := by decide +kernel
theorem dX4_comes_181 : decode cX4_comes 181 = .ok (.putfield 68, 3) := by decide +kernel
theorem dX4_comes_184 : decode cX4_comes 184 = .ok (.iconst 1, 1) := by decide +kernel
theorem dX4_comes_185 : decode cX4_comes 185 = .ok (.ireturn, 1) := by decide +kernel
theorem dX4_comes_186 : decode cX4_comes 186 = .ok (.aload_n 0, 1) := by decide +kernel
theorem dX4_comes_187 : decode cX4_comes 187 = .ok (.iload_n 3, 1) := by decide +kernel
theorem dX4_comes_188 : decode cX4_comes 188 = .ok (.invokevirtual 131, 3) := by decide +kernel
theorem dX4_comes_191 : decode cX4_comes 191 = .ok (.ifCond .ne 5, 3) := by decide +kernel
theorem dX4_comes_194 : decode cX4_comes 194 = .ok (.iconst 0, 1) := by decide +kernel
theorem dX4_comes_195 : decode cX4_comes 195 = .ok (.ireturn, 1) := by decide +kernel
theorem dX4_comes_196 : decode cX4_comes 196 = .ok (.aload_n 0, 1) := by decide +kernel
theorem dX4_comes_197 : decode cX4_comes 197 = .ok (.iload_n 3, 1) := by decide +kernel
theorem dX4_comes_198 : decode cX4_comes 198 = .ok (.putfield 117, 3) := by decide +kernel
theorem dX4_comes_201 : decode cX4_comes 201 = .ok (.aload_n 0, 1) := by decide +kernel
theorem dX4_comes_202 : decode cX4_comes 202 = .ok (.iconst 0, 1) := by decide +kernel
theorem dX4_comes_203 : decode cX4_comes 203 = .ok (.putfield 110, 3) := by decide +kernel
theorem dX4_comes_206 : decode cX4_comes 206 = .ok (.iconst 1, 1) := by decide +kernel
theorem dX4_comes_207 : decode cX4_comes 207 = .ok (.ireturn, 1) := by decide +kernel
theorem dX4_comes_208 : decode cX4_comes 208 = .ok (.aload_n 0, 1) := by decide +kernel
theorem dX4_comes_209 : decode cX4_comes 209 = .ok (.iload_n 3, 1) := by decide +kernel
theorem dX4_comes_210 : decode cX4_comes 210 = .ok (.iload 4, 2) := by decide +kernel
theorem dX4_comes_212 : decode cX4_comes 212 = .ok (.invokevirtual 140, 3) := by decide +kernel
theorem dX4_comes_215 : decode cX4_comes 215 = .ok (.ireturn, 1) := by decide +kernel
theorem dX4_comes_216 : decode cX4_comes 216 = .ok (.aload_n 0, 1) := by decide +kernel
theorem dX4_comes_217 : decode cX4_comes 217 = .ok (.iload_n 3, 1) := by decide +kernel
theorem dX4_comes_218 : decode cX4_comes 218 = .ok (.invokevirtual 143, 3) := by decide +kernel
theorem dX4_comes_221 : decode cX4_comes 221 = .ok (.ireturn, 1) := by decide +kernel
theorem dX4_kitchen_0 : decode cX4_kitchen 0 = .ok (.aload_n 0, 1) := by decide +kernel
theorem dX4_kitchen_1 : decode cX4_kitchen 1 = .ok (.iconst 0, 1) := by decide +kernel
theorem dX4_kitchen_2 : decode cX4_kitchen 2 = .ok (.putfield 89, 3) := by decide +kernel
theorem dX4_kitchen_5 : decode cX4_kitchen 5 = .ok (.aload_n 0, 1) := by decide +kernel
theorem dX4_kitchen_6 : decode cX4_kitchen 6 = .ok (.iconst 0, 1) := by decide +kernel
theorem dX4_kitchen_7 : decode cX4_kitchen 7 = .ok (.putfield 104, 3) := by decide +kernel
theorem dX4_kitchen_10 : decode cX4_kitchen 10 = .ok (.iconst 1, 1) := by decide +kernel
theorem dX4_kitchen_11 : decode cX4_kitchen 11 = .ok (.istore_n 1, 1) := by decide +kernel
theorem dX4_kitchen_12 : decode cX4_kitchen 12 = .ok (.iload_n 1, 1) := by decide +kernel
theorem dX4_kitchen_13 : decode cX4_kitchen 13 = .ok (.ifCond .eq 47, 3) := by decide +kernel
theorem dX4_kitchen_16 : decode cX4_kitchen 16 = .ok (.aload_n 0, 1) := by decide +kernel
theorem dX4_kitchen_17 : decode cX4_kitchen 17 = .ok (.getfield 89, 3) := by decide +kernel
theorem dX4_kitchen_20 : decode cX4_kitchen 20 = .ok (.aload_n 0, 1) := by decide +kernel
theorem dX4_kitchen_21 : decode cX4_kitchen 21 = .ok (.getfield 82, 3) := by decide +kernel
theorem dX4_kitchen_24 : decode cX4_kitchen 24 = .ok (.if_icmp .lt 10, 3) := by decide +kernel
theorem dX4_kitchen_27 : decode cX4_kitchen 27 = .ok (.aload_n 0, 1) := by decide +kernel
theorem dX4_kitchen_28 : decode cX4_kitchen 28 = .ok (.getfield 104, 3) := by decide +kernel
theorem dX4_kitchen_31 : decode cX4_kitchen 31 = .ok (.ifCond .ne 29, 3) := by decide +kernel
theorem dX4_kitchen_34 : decode cX4_kitchen 34 = .ok (.aload_n 0, 1) := by decide +kernel
theorem dX4_kitchen_35 : decode cX4_kitchen 35 = .ok (.invokevirtual 146, 3) := by decide +kernel
theorem dX4_kitchen_38 : decode cX4_kitchen 38 = .ok (.istore_n 1, 1) := by decide +kernel
theorem dX4_kitchen_39 : decode cX4_kitchen 39 = .ok (.aload_n 0, 1) := by decide +kernel
theorem dX4_kitchen_40 : decode cX4_kitchen 40 = .ok (.dup, 1) := by decide +kernel
theorem dX4_kitchen_41 : decode cX4_kitchen 41 = .ok (.getfield 104, 3) := by decide +kernel
theorem dX4_kitchen_44 : decode cX4_kitchen 44 = .ok (.iload_n 1, 1) := by decide +kernel
theorem dX4_kitchen_45 : decode cX4_kitchen 45 = .ok (.ifCond .eq 7, 3) := by decide +kernel
theorem dX4_kitchen_48 : decode cX4_kitchen 48 = .ok (.iconst 1, 1) := by decide +kernel
theorem dX4_kitchen_49 : decode cX4_kitchen 49 = .ok (.goto 4, 3) := by decide +kernel
theorem dX4_kitchen_52 : decode cX4_kitchen 52 = .ok (.iconst 0, 1) := by decide +kernel
theorem dX4_kitchen_53 : decode cX4_kitchen 53 = .ok (.iadd, 1) := by decide +kernel
theorem dX4_kitchen_54 : decode cX4_kitchen 54 = .ok (.putfield 104, 3) := by decide +kernel
theorem dX4_kitchen_57 : decode cX4_kitchen 57 = .ok (.goto (-45), 3) := by decide +kernel
theorem dX4_kitchen_60 : decode cX4_kitchen 60 = .ok (.aload_n 0, 1) := by decide +kernel
theorem dX4_kitchen_61 : decode cX4_kitchen 61 = .ok (.iconst 0, 1) := by decide +kernel
theorem dX4_kitchen_62 : decode cX4_kitchen 62 = .ok (.putfield 82, 3) := by decide +kernel
theorem dX4_kitchen_65 : decode cX4_kitchen 65 = .ok (.iload_n 1, 1) := by decide +kernel
theorem dX4_kitchen_66 : decode cX4_kitchen 66 = .ok (.ifCond .ne 12, 3) := by decide +kernel
theorem dX4_kitchen_69 : decode cX4_kitchen 69 = .ok (.sipush (-1000), 3) := by decide +kernel
theorem dX4_kitchen_72 : decode cX4_kitchen 72 = .ok (.aload_n 0, 1) := by decide +kernel
theorem dX4_kitchen_73 : decode cX4_kitchen 73 = .ok (.getfield 89, 3) := by decide +kernel
theorem dX4_kitchen_76 : decode cX4_kitchen 76 = .ok (.isub, 1) := by decide +kernel
theorem dX4_kitchen_77 : decode cX4_kitchen 77 = .ok (.ireturn, 1) := by decide +kernel
theorem dX4_kitchen_78 : decode cX4_kitchen 78 = .ok (.aload_n 0, 1) := by decide +kernel
theorem dX4_kitchen_79 : decode cX4_kitchen 79 = .ok (.iconst 1, 1) := by decide +kernel
theorem dX4_kitchen_80 : decode cX4_kitchen 80 = .ok (.iconst 1, 1) := by decide +kernel
theorem dX4_kitchen_81 : decode cX4_kitchen 81 = .ok (.invokevirtual 150, 3) := by decide +kernel
theorem dX4_kitchen_84 : decode cX4_kitchen 84 = .ok (.iconst 0, 1) := by decide +kernel
theorem dX4_kitchen_85 : decode cX4_kitchen 85 = .ok (.istore_n 2, 1) := by decide +kernel
theorem dX4_kitchen_86 : decode cX4_kitchen 86 = .ok (.iload_n 2, 1) := by decide +kernel
theorem dX4_kitchen_87 : decode cX4_kitchen 87 = .ok (.aload_n 0, 1) := by decide +kernel
theorem dX4_kitchen_88 : decode cX4_kitchen 88 = .ok (.getfield 104, 3) := by decide +kernel
theorem dX4_kitchen_91 : decode cX4_kitchen 91 = .ok (.if_icmp .ge 37, 3) := by decide +kernel
theorem dX4_kitchen_94 : decode cX4_kitchen 94 = .ok (.aload_n 0, 1) := by decide +kernel
theorem dX4_kitchen_95 : decode cX4_kitchen 95 = .ok (.iload_n 2, 1) := by decide +kernel
theorem dX4_kitchen_96 : decode cX4_kitchen 96 = .ok (.invokevirtual 154, 3) := by decide +kernel
theorem dX4_kitchen_99 : decode cX4_kitchen 99 = .ok (.ifCond .eq 6, 3) := by decide +kernel
theorem dX4_kitchen_102 : decode cX4_kitchen 102 = .ok (.goto 20, 3) := by decide +kernel
theorem dX4_kitchen_105 : decode cX4_kitchen 105 = .ok (.aload_n 0, 1) := by decide +kernel
theorem dX4_kitchen_106 : decode cX4_kitchen 106 = .ok (.iconst 1, 1) := by decide +kernel
theorem dX4_kitchen_107 : decode cX4_kitchen 107 = .ok (.iconst 0, 1) := by decide +kernel
theorem dX4_kitchen_108 : decode cX4_kitchen 108 = .ok (.invokevirtual 150, 3) := by decide +kernel
theorem dX4_kitchen_111 : decode cX4_kitchen 111 = .ok (.sipush (-2000), 3) := by decide +kernel
theorem dX4_kitchen_114 : decode cX4_kitchen 114 = .ok (.aload_n 0, 1) := by decide +kernel
theorem dX4_kitchen_115 : decode cX4_kitchen 115 = .ok (.getfield 43, 3) := by decide +kernel
theorem dX4_kitchen_118 : decode cX4_kitchen 118 = .ok (.iload_n 2, 1) := by decide +kernel
theorem dX4_kitchen_119 : decode cX4_kitchen 119 = .ok (.iaload, 1) := by decide +kernel
theorem dX4_kitchen_120 : decode cX4_kitchen 120 = .ok (.isub, 1) := by decide +kernel
theorem dX4_kitchen_121 : decode cX4_kitchen 121 = .ok (.ireturn, 1) := by decide +kernel
theorem dX4_kitchen_122 : decode cX4_kitchen 122 = .ok (.iinc 2 1, 3) := by decide +kernel
theorem dX4_kitchen_125 : decode cX4_kitchen 125 = .ok (.goto (-39), 3) := by decide +kernel
theorem dX4_kitchen_128 : decode cX4_kitchen 128 = .ok (.aload_n 0, 1) := by decide +kernel
theorem dX4_kitchen_129 : decode cX4_kitchen 129 = .ok (.getfield 104, 3) := by decide +kernel
theorem dX4_kitchen_132 : decode cX4_kitchen 132 = .ok (.ireturn, 1) := by decide +kernel
theorem dX4_passes_0 : decode cX4_passes 0 = .ok (.iconst 0, 1) := by decide +kernel
theorem dX4_passes_1 : decode cX4_passes 1 = .ok (.istore_n 2, 1) := by decide +kernel
theorem dX4_passes_2 : decode cX4_passes 2 = .ok (.iload_n 2, 1) := by decide +kernel
theorem dX4_passes_3 : decode cX4_passes 3 = .ok (.aload_n 1, 1) := by decide +kernel
theorem dX4_passes_4 : decode cX4_passes 4 = .ok (.arraylength, 1) := by decide +kernel
theorem dX4_passes_5 : decode cX4_passes 5 = .ok (.if_icmp .ge 53, 3) := by decide +kernel
theorem dX4_passes_8 : decode cX4_passes 8 = .ok (.aload_n 0, 1) := by decide +kernel
theorem dX4_passes_9 : decode cX4_passes 9 = .ok (.getfield 157, 3) := by decide +kernel
theorem dX4_passes_12 : decode cX4_passes 12 = .ok (.ifCond .eq 18, 3) := by decide +kernel
theorem dX4_passes_15 : decode cX4_passes 15 = .ok (.aload_n 0, 1) := by decide +kernel
theorem dX4_passes_16 : decode cX4_passes 16 = .ok (.getfield 49, 3) := by decide +kernel
theorem dX4_passes_19 : decode cX4_passes 19 = .ok (.aload_n 0, 1) := by decide +kernel
theorem dX4_passes_20 : decode cX4_passes 20 = .ok (.getfield 161, 3) := by decide +kernel
theorem dX4_passes_23 : decode cX4_passes 23 = .ok (.aload_n 1, 1) := by decide +kernel
theorem dX4_passes_24 : decode cX4_passes 24 = .ok (.iload_n 2, 1) := by decide +kernel
theorem dX4_passes_25 : decode cX4_passes 25 = .ok (.iaload, 1) := by decide +kernel
theorem dX4_passes_26 : decode cX4_passes 26 = .ok (.iastore, 1) := by decide +kernel
theorem dX4_passes_27 : decode cX4_passes 27 = .ok (.goto 15, 3) := by decide +kernel
theorem dX4_passes_30 : decode cX4_passes 30 = .ok (.aload_n 1, 1) := by decide +kernel
theorem dX4_passes_31 : decode cX4_passes 31 = .ok (.iload_n 2, 1) := by decide +kernel
theorem dX4_passes_32 : decode cX4_passes 32 = .ok (.aload_n 0, 1) := by decide +kernel
theorem dX4_passes_33 : decode cX4_passes 33 = .ok (.getfield 49, 3) := by decide +kernel
theorem dX4_passes_36 : decode cX4_passes 36 = .ok (.aload_n 0, 1) := by decide +kernel
theorem dX4_passes_37 : decode cX4_passes 37 = .ok (.getfield 161, 3) := by decide +kernel
theorem dX4_passes_40 : decode cX4_passes 40 = .ok (.iaload, 1) := by decide +kernel
theorem dX4_passes_41 : decode cX4_passes 41 = .ok (.iastore, 1) := by decide +kernel
theorem dX4_passes_42 : decode cX4_passes 42 = .ok (.aload_n 0, 1) := by decide +kernel
theorem dX4_passes_43 : decode cX4_passes 43 = .ok (.dup, 1) := by decide +kernel
theorem dX4_passes_44 : decode cX4_passes 44 = .ok (.getfield 161, 3) := by decide +kernel
theorem dX4_passes_47 : decode cX4_passes 47 = .ok (.iconst 1, 1) := by decide +kernel
theorem dX4_passes_48 : decode cX4_passes 48 = .ok (.iadd, 1) := by decide +kernel
theorem dX4_passes_49 : decode cX4_passes 49 = .ok (.putfield 161, 3) := by decide +kernel
theorem dX4_passes_52 : decode cX4_passes 52 = .ok (.iinc 2 1, 3) := by decide +kernel
theorem dX4_passes_55 : decode cX4_passes 55 = .ok (.goto (-53), 3) := by decide +kernel
theorem dX4_passes_58 : decode cX4_passes 58 = .ok (.return_, 1) := by decide +kernel
theorem dX4_passOne_0 : decode cX4_passOne 0 = .ok (.aload_n 0, 1) := by decide +kernel
theorem dX4_passOne_1 : decode cX4_passOne 1 = .ok (.getfield 157, 3) := by decide +kernel
theorem dX4_passOne_4 : decode cX4_passOne 4 = .ok (.ifCond .eq 7, 3) := by decide +kernel
theorem dX4_passOne_7 : decode cX4_passOne 7 = .ok (.iload_n 1, 1) := by decide +kernel
theorem dX4_passOne_8 : decode cX4_passOne 8 = .ok (.goto 12, 3) := by decide +kernel
theorem dX4_passOne_11 : decode cX4_passOne 11 = .ok (.aload_n 0, 1) := by decide +kernel
theorem dX4_passOne_12 : decode cX4_passOne 12 = .ok (.getfield 49, 3) := by decide +kernel
theorem dX4_passOne_15 : decode cX4_passOne 15 = .ok (.aload_n 0, 1) := by decide +kernel
theorem dX4_passOne_16 : decode cX4_passOne 16 = .ok (.getfield 161, 3) := by decide +kernel
theorem dX4_passOne_19 : decode cX4_passOne 19 = .ok (.iaload, 1) := by decide +kernel
theorem dX4_passOne_20 : decode cX4_passOne 20 = .ok (.istore_n 2, 1) := by decide +kernel
theorem dX4_passOne_21 : decode cX4_passOne 21 = .ok (.aload_n 0, 1) := by decide +kernel
theorem dX4_passOne_22 : decode cX4_passOne 22 = .ok (.getfield 157, 3) := by decide +kernel
theorem dX4_passOne_25 : decode cX4_passOne 25 = .ok (.ifCond .eq 13, 3) := by decide +kernel
theorem dX4_passOne_28 : decode cX4_passOne 28 = .ok (.aload_n 0, 1) := by decide +kernel
theorem dX4_passOne_29 : decode cX4_passOne 29 = .ok (.getfield 49, 3) := by decide +kernel
theorem dX4_passOne_32 : decode cX4_passOne 32 = .ok (.aload_n 0, 1) := by decide +kernel
theorem dX4_passOne_33 : decode cX4_passOne 33 = .ok (.getfield 161, 3) := by decide +kernel
theorem dX4_passOne_36 : decode cX4_passOne 36 = .ok (.iload_n 1, 1) := by decide +kernel
theorem dX4_passOne_37 : decode cX4_passOne 37 = .ok (.iastore, 1) := by decide +kernel
theorem dX4_passOne_38 : decode cX4_passOne 38 = .ok (.aload_n 0, 1) := by decide +kernel
theorem dX4_passOne_39 : decode cX4_passOne 39 = .ok (.dup, 1) := by decide +kernel
theorem dX4_passOne_40 : decode cX4_passOne 40 = .ok (.getfield 161, 3) := by decide +kernel
theorem dX4_passOne_43 : decode cX4_passOne 43 = .ok (.iconst 1, 1) := by decide +kernel
theorem dX4_passOne_44 : decode cX4_passOne 44 = .ok (.iadd, 1) := by decide +kernel
theorem dX4_passOne_45 : decode cX4_passOne 45 = .ok (.putfield 161, 3) := by decide +kernel
theorem dX4_passOne_48 : decode cX4_passOne 48 = .ok (.iload_n 2, 1) := by decide +kernel
theorem dX4_passOne_49 : decode cX4_passOne 49 = .ok (.ireturn, 1) := by decide +kernel
theorem dX4_passesAll_0 : decode cX4_passesAll 0 = .ok (.aload_n 0, 1) := by decide +kernel
theorem dX4_passesAll_1 : decode cX4_passesAll 1 = .ok (.bipush 60, 2) := by decide +kernel
theorem dX4_passesAll_3 : decode cX4_passesAll 3 = .ok (.iload_n 1, 1) := by decide +kernel
theorem dX4_passesAll_4 : decode cX4_passesAll 4 = .ok (.imul, 1) := by decide +kernel
theorem dX4_passesAll_5 : decode cX4_passesAll 5 = .ok (.putfield 161, 3) := by decide +kernel
theorem dX4_passesAll_8 : decode cX4_passesAll 8 = .ok (.aload_n 0, 1) := by decide +kernel
theorem dX4_passesAll_9 : decode cX4_passesAll 9 = .ok (.iload_n 2, 1) := by decide +kernel
theorem dX4_passesAll_10 : decode cX4_passesAll 10 = .ok (.putfield 157, 3) := by decide +kernel
theorem dX4_passesAll_13 : decode cX4_passesAll 13 = .ok (.aload_n 0, 1) := by decide +kernel
theorem dX4_passesAll_14 : decode cX4_passesAll 14 = .ok (.aload_n 0, 1) := by decide +kernel
theorem dX4_passesAll_15 : decode cX4_passesAll 15 = .ok (.getfield 13, 3) := by decide +kernel
theorem dX4_passesAll_18 : decode cX4_passesAll 18 = .ok (.invokevirtual 164, 3) := by decide +kernel
theorem dX4_passesAll_21 : decode cX4_passesAll 21 = .ok (.aload_n 0, 1) := by decide +kernel
theorem dX4_passesAll_22 : decode cX4_passesAll 22 = .ok (.aload_n 0, 1) := by decide +kernel
theorem dX4_passesAll_23 : decode cX4_passesAll 23 = .ok (.getfield 16, 3) := by decide +kernel
theorem dX4_passesAll_26 : decode cX4_passesAll 26 = .ok (.invokevirtual 164, 3) := by decide +kernel
theorem dX4_passesAll_29 : decode cX4_passesAll 29 = .ok (.aload_n 0, 1) := by decide +kernel
theorem dX4_passesAll_30 : decode cX4_passesAll 30 = .ok (.aload_n 0, 1) := by decide +kernel
theorem dX4_passesAll_31 : decode cX4_passesAll 31 = .ok (.getfield 19, 3) := by decide +kernel
theorem dX4_passesAll_34 : decode cX4_passesAll 34 = .ok (.invokevirtual 164, 3) := by decide +kernel
theorem dX4_passesAll_37 : decode cX4_passesAll 37 = .ok (.aload_n 0, 1) := by decide +kernel
theorem dX4_passesAll_38 : decode cX4_passesAll 38 = .ok (.aload_n 0, 1) := by decide +kernel
theorem dX4_passesAll_39 : decode cX4_passesAll 39 = .ok (.getfield 22, 3) := by decide +kernel
theorem dX4_passesAll_42 : decode cX4_passesAll 42 = .ok (.invokevirtual 164, 3) := by decide +kernel
theorem dX4_passesAll_45 : decode cX4_passesAll 45 = .ok (.aload_n 0, 1) := by decide +kernel
theorem dX4_passesAll_46 : decode cX4_passesAll 46 = .ok (.aload_n 0, 1) := by decide +kernel
theorem dX4_passesAll_47 : decode cX4_passesAll 47 = .ok (.getfield 25, 3) := by decide +kernel
theorem dX4_passesAll_50 : decode cX4_passesAll 50 = .ok (.invokevirtual 164, 3) := by decide +kernel
theorem dX4_passesAll_53 : decode cX4_passesAll 53 = .ok (.aload_n 0, 1) := by decide +kernel
theorem dX4_passesAll_54 : decode cX4_passesAll 54 = .ok (.aload_n 0, 1) := by decide +kernel
theorem dX4_passesAll_55 : decode cX4_passesAll 55 = .ok (.getfield 28, 3) := by decide +kernel
theorem dX4_passesAll_58 : decode cX4_passesAll 58 = .ok (.invokevirtual 164, 3) := by decide +kernel
theorem dX4_passesAll_61 : decode cX4_passesAll 61 = .ok (.aload_n 0, 1) := by decide +kernel
theorem dX4_passesAll_62 : decode cX4_passesAll 62 = .ok (.aload_n 0, 1) := by decide +kernel
theorem dX4_passesAll_63 : decode cX4_passesAll 63 = .ok (.getfield 31, 3) := by decide +kernel
theorem dX4_passesAll_66 : decode cX4_passesAll 66 = .ok (.invokevirtual 164, 3) := by decide +kernel
theorem dX4_passesAll_69 : decode cX4_passesAll 69 = .ok (.aload_n 0, 1) := by decide +kernel
theorem dX4_passesAll_70 : decode cX4_passesAll 70 = .ok (.aload_n 0, 1) := by decide +kernel
theorem dX4_passesAll_71 : decode cX4_passesAll 71 = .ok (.getfield 34, 3) := by decide +kernel
theorem dX4_passesAll_74 : decode cX4_passesAll 74 = .ok (.invokevirtual 164, 3) := by decide +kernel
theorem dX4_passesAll_77 : decode cX4_passesAll 77 = .ok (.aload_n 0, 1) := by decide +kernel
theorem dX4_passesAll_78 : decode cX4_passesAll 78 = .ok (.aload_n 0, 1) := by decide +kernel
theorem dX4_passesAll_79 : decode cX4_passesAll 79 = .ok (.aload_n 0, 1) := by decide +kernel
theorem dX4_passesAll_80 : decode cX4_passesAll 80 = .ok (.getfield 75, 3) := by decide +kernel
theorem dX4_passesAll_83 : decode cX4_passesAll 83 = .ok (.invokevirtual 168, 3) := by decide +kernel
theorem dX4_passesAll_86 : decode cX4_passesAll 86 = .ok (.putfield 75, 3) := by decide +kernel
theorem dX4_passesAll_89 : decode cX4_passesAll 89 = .ok (.aload_n 0, 1) := by decide +kernel
theorem dX4_passesAll_90 : decode cX4_passesAll 90 = .ok (.aload_n 0, 1) := by decide +kernel
theorem dX4_passesAll_91 : decode cX4_passesAll 91 = .ok (.aload_n 0, 1) := by decide +kernel
theorem dX4_passesAll_92 : decode cX4_passesAll 92 = .ok (.getfield 117, 3) := by decide +kernel
theorem dX4_passesAll_95 : decode cX4_passesAll 95 = .ok (.invokevirtual 168, 3) := by decide +kernel
theorem dX4_passesAll_98 : decode cX4_passesAll 98 = .ok (.putfield 117, 3) := by decide +kernel
theorem dX4_passesAll_101 : decode cX4_passesAll 101 = .ok (.aload_n 0, 1) := by decide +kernel
theorem dX4_passesAll_102 : decode cX4_passesAll 102 = .ok (.aload_n 0, 1) := by decide +kernel
theorem dX4_passesAll_103 : decode cX4_passesAll 103 = .ok (.aload_n 0, 1) := by decide +kernel
theorem dX4_passesAll_104 : decode cX4_passesAll 104 = .ok (.getfield 110, 3) := by decide +kernel
theorem dX4_passesAll_107 : decode cX4_passesAll 107 = .ok (.invokevirtual 168, 3) := by decide +kernel
theorem dX4_passesAll_110 : decode cX4_passesAll 110 = .ok (.putfield 110, 3) := by decide +kernel
theorem dX4_passesAll_113 : decode cX4_passesAll 113 = .ok (.aload_n 0, 1) := by decide +kernel
theorem dX4_passesAll_114 : decode cX4_passesAll 114 = .ok (.aload_n 0, 1) := by decide +kernel
theorem dX4_passesAll_115 : decode cX4_passesAll 115 = .ok (.aload_n 0, 1) := by decide +kernel
theorem dX4_passesAll_116 : decode cX4_passesAll 116 = .ok (.getfield 171, 3) := by decide +kernel
theorem dX4_passesAll_119 : decode cX4_passesAll 119 = .ok (.invokevirtual 168, 3) := by decide +kernel
theorem dX4_passesAll_122 : decode cX4_passesAll 122 = .ok (.putfield 171, 3) := by decide +kernel
theorem dX4_passesAll_125 : decode cX4_passesAll 125 = .ok (.aload_n 0, 1) := by decide +kernel
theorem dX4_passesAll_126 : decode cX4_passesAll 126 = .ok (.aload_n 0, 1) := by decide +kernel
theorem dX4_passesAll_127 : decode cX4_passesAll 127 = .ok (.aload_n 0, 1) := by decide +kernel
theorem dX4_passesAll_128 : decode cX4_passesAll 128 = .ok (.getfield 68, 3) := by decide +kernel
theorem dX4_passesAll_131 : decode cX4_passesAll 131 = .ok (.invokevirtual 168, 3) := by decide +kernel
theorem dX4_passesAll_134 : decode cX4_passesAll 134 = .ok (.putfield 68, 3) := by decide +kernel
theorem dX4_passesAll_137 : decode cX4_passesAll 137 = .ok (.return_, 1) := by decide +kernel
theorem dX4_image_0 : decode cX4_image 0 = .ok (.aload_n 0, 1) := by decide +kernel
theorem dX4_image_1 : decode cX4_image 1 = .ok (.iconst 1, 1) := by decide +kernel
theorem dX4_image_2 : decode cX4_image 2 = .ok (.putfield 174, 3) := by decide +kernel
theorem dX4_image_5 : decode cX4_image 5 = .ok (.aload_n 0, 1) := by decide +kernel
theorem dX4_image_6 : decode cX4_image 6 = .ok (.iconst 0, 1) := by decide +kernel
theorem dX4_image_7 : decode cX4_image 7 = .ok (.iconst 1, 1) := by decide +kernel
theorem dX4_image_8 : decode cX4_image 8 = .ok (.invokevirtual 150, 3) := by decide +kernel
theorem dX4_image_11 : decode cX4_image 11 = .ok (.aload_n 0, 1) := by decide +kernel
theorem dX4_image_12 : decode cX4_image 12 = .ok (.getfield 75, 3) := by decide +kernel
theorem dX4_image_15 : decode cX4_image 15 = .ok (.ireturn, 1) := by decide +kernel
theorem dX4_restore_0 : decode cX4_restore 0 = .ok (.aload_n 0, 1) := by decide +kernel
theorem dX4_restore_1 : decode cX4_restore 1 = .ok (.getfield 174, 3) := by decide +kernel
theorem dX4_restore_4 : decode cX4_restore 4 = .ok (.ifCond .ne 10, 3) := by decide +kernel
theorem dX4_restore_7 : decode cX4_restore 7 = .ok (.aload_n 0, 1) := by decide +kernel
theorem dX4_restore_8 : decode cX4_restore 8 = .ok (.bipush (-3), 2) := by decide +kernel
theorem dX4_restore_10 : decode cX4_restore 10 = .ok (.invokevirtual 85, 3) := by decide +kernel
theorem dX4_restore_13 : decode cX4_restore 13 = .ok (.ireturn, 1) := by decide +kernel
theorem dX4_restore_14 : decode cX4_restore 14 = .ok (.aload_n 0, 1) := by decide +kernel
theorem dX4_restore_15 : decode cX4_restore 15 = .ok (.iconst 0, 1) := by decide +kernel
theorem dX4_restore_16 : decode cX4_restore 16 = .ok (.iconst 0, 1) := by decide +kernel
theorem dX4_restore_17 : decode cX4_restore 17 = .ok (.invokevirtual 150, 3) := by decide +kernel
theorem dX4_restore_20 : decode cX4_restore 20 = .ok (.aload_n 0, 1) := by decide +kernel
theorem dX4_restore_21 : decode cX4_restore 21 = .ok (.getfield 75, 3) := by decide +kernel
theorem dX4_restore_24 : decode cX4_restore 24 = .ok (.ireturn, 1) := by decide +kernel
theorem dX4_coldOf_0 : decode cX4_coldOf 0 = .ok (.iload_n 0, 1) := by decide +kernel
theorem dX4_coldOf_1 : decode cX4_coldOf 1 = .ok (.ifCond .ne 7, 3) := by decide +kernel
theorem dX4_coldOf_4 : decode cX4_coldOf 4 = .ok (.iconst 2, 1) := by decide +kernel
theorem dX4_coldOf_5 : decode cX4_coldOf 5 = .ok (.goto 13, 3) := by decide +kernel
theorem dX4_coldOf_8 : decode cX4_coldOf 8 = .ok (.iload_n 0, 1) := by decide +kernel
theorem dX4_coldOf_9 : decode cX4_coldOf 9 = .ok (.iconst 1, 1) := by decide +kernel
theorem dX4_coldOf_10 : decode cX4_coldOf 10 = .ok (.if_icmp .ne 7, 3) := by decide +kernel
theorem dX4_coldOf_13 : decode cX4_coldOf 13 = .ok (.iconst 3, 1) := by decide +kernel
theorem dX4_coldOf_14 : decode cX4_coldOf 14 = .ok (.goto 4, 3) := by decide +kernel
theorem dX4_coldOf_17 : decode cX4_coldOf 17 = .ok (.iconst 1, 1) := by decide +kernel
theorem dX4_coldOf_18 : decode cX4_coldOf 18 = .ok (.ireturn, 1) := by decide +kernel
theorem dX4_warmOf_0 : decode cX4_warmOf 0 = .ok (.aload_n 0, 1) := by decide +kernel
theorem dX4_warmOf_1 : decode cX4_warmOf 1 = .ok (.getfield 13, 3) := by decide +kernel
theorem dX4_warmOf_4 : decode cX4_warmOf 4 = .ok (.iload_n 1, 1) := by decide +kernel
theorem dX4_warmOf_5 : decode cX4_warmOf 5 = .ok (.iaload, 1) := by decide +kernel
theorem dX4_warmOf_6 : decode cX4_warmOf 6 = .ok (.tableswitch 62 1 5 #[34, 37, 39, 51, 60], 34) := by decide +kernel
theorem dX4_warmOf_40 : decode cX4_warmOf 40 = .ok (.bipush 12, 2) := by decide +kernel
theorem dX4_warmOf_42 : decode cX4_warmOf 42 = .ok (.ireturn, 1) := by decide +kernel
theorem dX4_warmOf_43 : decode cX4_warmOf 43 = .ok (.iconst 4, 1) := by decide +kernel
theorem dX4_warmOf_44 : decode cX4_warmOf 44 = .ok (.ireturn, 1) := by decide +kernel
theorem dX4_warmOf_45 : decode cX4_warmOf 45 = .ok (.bipush 6, 2) := by decide +kernel
theorem dX4_warmOf_47 : decode cX4_warmOf 47 = .ok (.aload_n 0, 1) := by decide +kernel
theorem dX4_warmOf_48 : decode cX4_warmOf 48 = .ok (.getfield 16, 3) := by decide +kernel
theorem dX4_warmOf_51 : decode cX4_warmOf 51 = .ok (.iload_n 1, 1) := by decide +kernel
theorem dX4_warmOf_52 : decode cX4_warmOf 52 = .ok (.iaload, 1) := by decide +kernel
theorem dX4_warmOf_53 : decode cX4_warmOf 53 = .ok (.iconst 2, 1) := by decide +kernel
theorem dX4_warmOf_54 : decode cX4_warmOf 54 = .ok (.idiv, 1) := by decide +kernel
theorem dX4_warmOf_55 : decode cX4_warmOf 55 = .ok (.isub, 1) := by decide +kernel
theorem dX4_warmOf_56 : decode cX4_warmOf 56 = .ok (.ireturn, 1) := by decide +kernel
theorem dX4_warmOf_57 : decode cX4_warmOf 57 = .ok (.iconst 4, 1) := by decide +kernel
theorem dX4_warmOf_58 : decode cX4_warmOf 58 = .ok (.aload_n 0, 1) := by decide +kernel
theorem dX4_warmOf_59 : decode cX4_warmOf 59 = .ok (.getfield 16, 3) := by decide +kernel
theorem dX4_warmOf_62 : decode cX4_warmOf 62 = .ok (.iload_n 1, 1) := by decide +kernel
theorem dX4_warmOf_63 : decode cX4_warmOf 63 = .ok (.iaload, 1) := by decide +kernel
theorem dX4_warmOf_64 : decode cX4_warmOf 64 = .ok (.iadd, 1) := by decide +kernel
theorem dX4_warmOf_65 : decode cX4_warmOf 65 = .ok (.ireturn, 1) := by decide +kernel
theorem dX4_warmOf_66 : decode cX4_warmOf 66 = .ok (.iconst 3, 1) := by decide +kernel
theorem dX4_warmOf_67 : decode cX4_warmOf 67 = .ok (.ireturn, 1) := by decide +kernel
theorem dX4_warmOf_68 : decode cX4_warmOf 68 = .ok (.bipush 6, 2) := by decide +kernel
theorem dX4_warmOf_70 : decode cX4_warmOf 70 = .ok (.ireturn, 1) := by decide +kernel
theorem dX4_heldPoints_0 : decode cX4_heldPoints 0 = .ok (.iload_n 0, 1) := by decide +kernel
theorem dX4_heldPoints_1 : decode cX4_heldPoints 1 = .ok (.sipush 240, 3) := by decide +kernel
theorem dX4_heldPoints_4 : decode cX4_heldPoints 4 = .ok (.if_icmp .le 9, 3) := by decide +kernel
theorem dX4_heldPoints_7 : decode cX4_heldPoints 7 = .ok (.sipush 240, 3) := by decide +kernel
theorem dX4_heldPoints_10 : decode cX4_heldPoints 10 = .ok (.goto 4, 3) := by decide +kernel
theorem dX4_heldPoints_13 : decode cX4_heldPoints 13 = .ok (.iload_n 0, 1) := by decide +kernel
theorem dX4_heldPoints_14 : decode cX4_heldPoints 14 = .ok (.ireturn, 1) := by decide +kernel
theorem dX4_gains_0 : decode cX4_gains 0 = .ok (.aload_n 0, 1) := by decide +kernel
theorem dX4_gains_1 : decode cX4_gains 1 = .ok (.getfield 22, 3) := by decide +kernel
theorem dX4_gains_4 : decode cX4_gains 4 = .ok (.iload_n 1, 1) := by decide +kernel
theorem dX4_gains_5 : decode cX4_gains 5 = .ok (.aload_n 0, 1) := by decide +kernel
theorem dX4_gains_6 : decode cX4_gains 6 = .ok (.getfield 22, 3) := by decide +kernel
theorem dX4_gains_9 : decode cX4_gains 9 = .ok (.iload_n 1, 1) := by decide +kernel
theorem dX4_gains_10 : decode cX4_gains 10 = .ok (.iaload, 1) := by decide +kernel
theorem dX4_gains_11 : decode cX4_gains 11 = .ok (.iload_n 2, 1) := by decide +kernel
theorem dX4_gains_12 : decode cX4_gains 12 = .ok (.iadd, 1) := by decide +kernel
theorem dX4_gains_13 : decode cX4_gains 13 = .ok (.invokestatic 177, 3) := by decide +kernel
theorem dX4_gains_16 : decode cX4_gains 16 = .ok (.iastore, 1) := by decide +kernel
theorem dX4_gains_17 : decode cX4_gains 17 = .ok (.return_, 1) := by decide +kernel
theorem dX4_allStand_0 : decode cX4_allStand 0 = .ok (.iconst 0, 1) := by decide +kernel
theorem dX4_allStand_1 : decode cX4_allStand 1 = .ok (.istore_n 2, 1) := by decide +kernel
theorem dX4_allStand_2 : decode cX4_allStand 2 = .ok (.iload_n 2, 1) := by decide +kernel
theorem dX4_allStand_3 : decode cX4_allStand 3 = .ok (.aload_n 0, 1) := by decide +kernel
theorem dX4_allStand_4 : decode cX4_allStand 4 = .ok (.getfield 75, 3) := by decide +kernel
theorem dX4_allStand_7 : decode cX4_allStand 7 = .ok (.if_icmp .ge 25, 3) := by decide +kernel
theorem dX4_allStand_10 : decode cX4_allStand 10 = .ok (.aload_n 0, 1) := by decide +kernel
theorem dX4_allStand_11 : decode cX4_allStand 11 = .ok (.iload_n 2, 1) := by decide +kernel
theorem dX4_allStand_12 : decode cX4_allStand 12 = .ok (.aload_n 0, 1) := by decide +kernel
theorem dX4_allStand_13 : decode cX4_allStand 13 = .ok (.getfield 13, 3) := by decide +kernel
theorem dX4_allStand_16 : decode cX4_allStand 16 = .ok (.iload_n 2, 1) := by decide +kernel
theorem dX4_allStand_17 : decode cX4_allStand 17 = .ok (.iaload, 1) := by decide +kernel
theorem dX4_allStand_18 : decode cX4_allStand 18 = .ok (.invokestatic 180, 3) := by decide +kernel
theorem dX4_allStand_21 : decode cX4_allStand 21 = .ok (.iload_n 1, 1) := by decide +kernel
theorem dX4_allStand_22 : decode cX4_allStand 22 = .ok (.imul, 1) := by decide +kernel
theorem dX4_allStand_23 : decode cX4_allStand 23 = .ok (.invokevirtual 137, 3) := by decide +kernel
theorem dX4_allStand_26 : decode cX4_allStand 26 = .ok (.iinc 2 1, 3) := by decide +kernel
theorem dX4_allStand_29 : decode cX4_allStand 29 = .ok (.goto (-27), 3) := by decide +kernel
theorem dX4_allStand_32 : decode cX4_allStand 32 = .ok (.return_, 1) := by decide +kernel
theorem dX4_stageAt_0 : decode cX4_stageAt 0 = .ok (.iload_n 0, 1) := by decide +kernel
theorem dX4_stageAt_1 : decode cX4_stageAt 1 = .ok (.bipush 48, 2) := by decide +kernel
theorem dX4_stageAt_3 : decode cX4_stageAt 3 = .ok (.idiv, 1) := by decide +kernel
theorem dX4_stageAt_4 : decode cX4_stageAt 4 = .ok (.iconst 4, 1) := by decide +kernel
theorem dX4_stageAt_5 : decode cX4_stageAt 5 = .ok (.if_icmp .le 7, 3) := by decide +kernel
theorem dX4_stageAt_8 : decode cX4_stageAt 8 = .ok (.iconst 4, 1) := by decide +kernel
theorem dX4_stageAt_9 : decode cX4_stageAt 9 = .ok (.goto 7, 3) := by decide +kernel
theorem dX4_stageAt_12 : decode cX4_stageAt 12 = .ok (.iload_n 0, 1) := by decide +kernel
theorem dX4_stageAt_13 : decode cX4_stageAt 13 = .ok (.bipush 48, 2) := by decide +kernel
theorem dX4_stageAt_15 : decode cX4_stageAt 15 = .ok (.idiv, 1) := by decide +kernel
theorem dX4_stageAt_16 : decode cX4_stageAt 16 = .ok (.ireturn, 1) := by decide +kernel
theorem dX4_truly_0 : decode cX4_truly 0 = .ok (.aload_n 0, 1) := by decide +kernel
theorem dX4_truly_1 : decode cX4_truly 1 = .ok (.getfield 22, 3) := by decide +kernel
theorem dX4_truly_4 : decode cX4_truly 4 = .ok (.iload_n 1, 1) := by decide +kernel
theorem dX4_truly_5 : decode cX4_truly 5 = .ok (.iaload, 1) := by decide +kernel
theorem dX4_truly_6 : decode cX4_truly 6 = .ok (.invokestatic 183, 3) := by decide +kernel
theorem dX4_truly_9 : decode cX4_truly 9 = .ok (.ireturn, 1) := by decide +kernel
theorem dX4_allPoints_0 : decode cX4_allPoints 0 = .ok (.iconst 0, 1) := by decide +kernel
theorem dX4_allPoints_1 : decode cX4_allPoints 1 = .ok (.istore_n 1, 1) := by decide +kernel
theorem dX4_allPoints_2 : decode cX4_allPoints 2 = .ok (.iconst 0, 1) := by decide +kernel
theorem dX4_allPoints_3 : decode cX4_allPoints 3 = .ok (.istore_n 2, 1) := by decide +kernel
theorem dX4_allPoints_4 : decode cX4_allPoints 4 = .ok (.iload_n 2, 1) := by decide +kernel
theorem dX4_allPoints_5 : decode cX4_allPoints 5 = .ok (.aload_n 0, 1) := by decide +kernel
theorem dX4_allPoints_6 : decode cX4_allPoints 6 = .ok (.getfield 75, 3) := by decide +kernel
theorem dX4_allPoints_9 : decode cX4_allPoints 9 = .ok (.if_icmp .ge 18, 3) := by decide +kernel
theorem dX4_allPoints_12 : decode cX4_allPoints 12 = .ok (.iload_n 1, 1) := by decide +kernel
theorem dX4_allPoints_13 : decode cX4_allPoints 13 = .ok (.aload_n 0, 1) := by decide +kernel
theorem dX4_allPoints_14 : decode cX4_allPoints 14 = .ok (.getfield 22, 3) := by decide +kernel
theorem dX4_allPoints_17 : decode cX4_allPoints 17 = .ok (.iload_n 2, 1) := by decide +kernel
theorem dX4_allPoints_18 : decode cX4_allPoints 18 = .ok (.iaload, 1) := by decide +kernel
theorem dX4_allPoints_19 : decode cX4_allPoints 19 = .ok (.iadd, 1) := by decide +kernel
theorem dX4_allPoints_20 : decode cX4_allPoints 20 = .ok (.istore_n 1, 1) := by decide +kernel
theorem dX4_allPoints_21 : decode cX4_allPoints 21 = .ok (.iinc 2 1, 3) := by decide +kernel
theorem dX4_allPoints_24 : decode cX4_allPoints 24 = .ok (.goto (-20), 3) := by decide +kernel
theorem dX4_allPoints_27 : decode cX4_allPoints 27 = .ok (.iload_n 1, 1) := by decide +kernel
theorem dX4_allPoints_28 : decode cX4_allPoints 28 = .ok (.ireturn, 1) := by decide +kernel
theorem dX4_jug_0 : decode cX4_jug 0 = .ok (.aload_n 0, 1) := by decide +kernel
theorem dX4_jug_1 : decode cX4_jug 1 = .ok (.iload_n 1, 1) := by decide +kernel
theorem dX4_jug_2 : decode cX4_jug 2 = .ok (.invokevirtual 131, 3) := by decide +kernel
theorem dX4_jug_5 : decode cX4_jug 5 = .ok (.ifCond .ne 9, 3) := by decide +kernel
theorem dX4_jug_8 : decode cX4_jug 8 = .ok (.aload_n 0, 1) := by decide +kernel
theorem dX4_jug_9 : decode cX4_jug 9 = .ok (.iconst (-1), 1) := by decide +kernel
theorem dX4_jug_10 : decode cX4_jug 10 = .ok (.invokevirtual 85, 3) := by decide +kernel
theorem dX4_jug_13 : decode cX4_jug 13 = .ok (.ireturn, 1) := by decide +kernel
theorem dX4_jug_14 : decode cX4_jug 14 = .ok (.iload_n 2, 1) := by decide +kernel
theorem dX4_jug_15 : decode cX4_jug 15 = .ok (.tableswitch 91 0 6 #[41, 48, 55, 62, 69, 75, 85], 41) := by decide +kernel
theorem dX4_jug_56 : decode cX4_jug 56 = .ok (.aload_n 0, 1) := by decide +kernel
theorem dX4_jug_57 : decode cX4_jug 57 = .ok (.getfield 13, 3) := by decide +kernel
theorem dX4_jug_60 : decode cX4_jug 60 = .ok (.iload_n 1, 1) := by decide +kernel
theorem dX4_jug_61 : decode cX4_jug 61 = .ok (.iaload, 1) := by decide +kernel
theorem dX4_jug_62 : decode cX4_jug 62 = .ok (.ireturn, 1) := by decide +kernel
theorem dX4_jug_63 : decode cX4_jug 63 = .ok (.aload_n 0, 1) := by decide +kernel
theorem dX4_jug_64 : decode cX4_jug 64 = .ok (.getfield 16, 3) := by decide +kernel
theorem dX4_jug_67 : decode cX4_jug 67 = .ok (.iload_n 1, 1) := by decide +kernel
theorem dX4_jug_68 : decode cX4_jug 68 = .ok (.iaload, 1) := by decide +kernel
theorem dX4_jug_69 : decode cX4_jug 69 = .ok (.ireturn, 1) := by decide +kernel
theorem dX4_jug_70 : decode cX4_jug 70 = .ok (.aload_n 0, 1) := by decide +kernel
theorem dX4_jug_71 : decode cX4_jug 71 = .ok (.getfield 19, 3) := by decide +kernel
theorem dX4_jug_74 : decode cX4_jug 74 = .ok (.iload_n 1, 1) := by decide +kernel
theorem dX4_jug_75 : decode cX4_jug 75 = .ok (.iaload, 1) := by decide +kernel
theorem dX4_jug_76 : decode cX4_jug 76 = .ok (.ireturn, 1) := by decide +kernel
theorem dX4_jug_77 : decode cX4_jug 77 = .ok (.aload_n 0, 1) := by decide +kernel
theorem dX4_jug_78 : decode cX4_jug 78 = .ok (.getfield 22, 3) := by decide +kernel
theorem dX4_jug_81 : decode cX4_jug 81 = .ok (.iload_n 1, 1) := by decide +kernel
theorem dX4_jug_82 : decode cX4_jug 82 = .ok (.iaload, 1) := by decide +kernel
theorem dX4_jug_83 : decode cX4_jug 83 = .ok (.ireturn, 1) := by decide +kernel
theorem dX4_jug_84 : decode cX4_jug 84 = .ok (.aload_n 0, 1) := by decide +kernel
theorem dX4_jug_85 : decode cX4_jug 85 = .ok (.iload_n 1, 1) := by decide +kernel
theorem dX4_jug_86 : decode cX4_jug 86 = .ok (.invokevirtual 186, 3) := by decide +kernel
theorem dX4_jug_89 : decode cX4_jug 89 = .ok (.ireturn, 1) := by decide +kernel
theorem dX4_jug_90 : decode cX4_jug 90 = .ok (.aload_n 0, 1) := by decide +kernel
theorem dX4_jug_91 : decode cX4_jug 91 = .ok (.getfield 13, 3) := by decide +kernel
theorem dX4_jug_94 : decode cX4_jug 94 = .ok (.iload_n 1, 1) := by decide +kernel
theorem dX4_jug_95 : decode cX4_jug 95 = .ok (.iaload, 1) := by decide +kernel
theorem dX4_jug_96 : decode cX4_jug 96 = .ok (.invokestatic 180, 3) := by decide +kernel
theorem dX4_jug_99 : decode cX4_jug 99 = .ok (.ireturn, 1) := by decide +kernel
theorem dX4_jug_100 : decode cX4_jug 100 = .ok (.aload_n 0, 1) := by decide +kernel
theorem dX4_jug_101 : decode cX4_jug 101 = .ok (.iload_n 1, 1) := by decide +kernel
theorem dX4_jug_102 : decode cX4_jug 102 = .ok (.invokevirtual 134, 3) := by decide +kernel
theorem dX4_jug_105 : decode cX4_jug 105 = .ok (.ireturn, 1) := by decide +kernel
theorem dX4_jug_106 : decode cX4_jug 106 = .ok (.aload_n 0, 1) := by decide +kernel
theorem dX4_jug_107 : decode cX4_jug 107 = .ok (.bipush (-2), 2) := by decide +kernel
theorem dX4_jug_109 : decode cX4_jug 109 = .ok (.invokevirtual 85, 3) := by decide +kernel
theorem dX4_jug_112 : decode cX4_jug 112 = .ok (.ireturn, 1) := by decide +kernel
theorem dX4_cold_0 : decode cX4_cold 0 = .ok (.iload_n 1, 1) := by decide +kernel
theorem dX4_cold_1 : decode cX4_cold 1 = .ok (.iconst 0, 1) := by decide +kernel
theorem dX4_cold_2 : decode cX4_cold 2 = .ok (.bipush 99, 2) := by decide +kernel
theorem dX4_cold_4 : decode cX4_cold 4 = .ok (.invokestatic 78, 3) := by decide +kernel
theorem dX4_cold_7 : decode cX4_cold 7 = .ok (.istore_n 2, 1) := by decide +kernel
theorem dX4_cold_8 : decode cX4_cold 8 = .ok (.iload_n 2, 1) := by decide +kernel
theorem dX4_cold_9 : decode cX4_cold 9 = .ok (.ifCond .eq 9, 3) := by decide +kernel
theorem dX4_cold_12 : decode cX4_cold 12 = .ok (.aload_n 0, 1) := by decide +kernel
theorem dX4_cold_13 : decode cX4_cold 13 = .ok (.iload_n 2, 1) := by decide +kernel
theorem dX4_cold_14 : decode cX4_cold 14 = .ok (.invokevirtual 85, 3) := by decide +kernel
theorem dX4_cold_17 : decode cX4_cold 17 = .ok (.ireturn, 1) := by decide +kernel
theorem dX4_cold_18 : decode cX4_cold 18 = .ok (.aload_n 0, 1) := by decide +kernel
theorem dX4_cold_19 : decode cX4_cold 19 = .ok (.iload_n 1, 1) := by decide +kernel
theorem dX4_cold_20 : decode cX4_cold 20 = .ok (.invokevirtual 127, 3) := by decide +kernel
theorem dX4_cold_23 : decode cX4_cold 23 = .ok (.aload_n 0, 1) := by decide +kernel
theorem dX4_cold_24 : decode cX4_cold 24 = .ok (.invokevirtual 189, 3) := by decide +kernel
theorem dX4_cold_27 : decode cX4_cold 27 = .ok (.ireturn, 1) := by decide +kernel
theorem dX4_warm_0 : decode cX4_warm 0 = .ok (.aload_n 0, 1) := by decide +kernel
theorem dX4_warm_1 : decode cX4_warm 1 = .ok (.iload_n 1, 1) := by decide +kernel
theorem dX4_warm_2 : decode cX4_warm 2 = .ok (.invokevirtual 131, 3) := by decide +kernel
theorem dX4_warm_5 : decode cX4_warm 5 = .ok (.ifCond .ne 7, 3) := by decide +kernel
theorem dX4_warm_8 : decode cX4_warm 8 = .ok (.iconst (-1), 1) := by decide +kernel
theorem dX4_warm_9 : decode cX4_warm 9 = .ok (.goto 10, 3) := by decide +kernel
theorem dX4_warm_12 : decode cX4_warm 12 = .ok (.iload_n 2, 1) := by decide +kernel
theorem dX4_warm_13 : decode cX4_warm 13 = .ok (.iconst 0, 1) := by decide +kernel
theorem dX4_warm_14 : decode cX4_warm 14 = .ok (.bipush 99, 2) := by decide +kernel
theorem dX4_warm_16 : decode cX4_warm 16 = .ok (.invokestatic 78, 3) := by decide +kernel
theorem dX4_warm_19 : decode cX4_warm 19 = .ok (.istore_n 3, 1) := by decide +kernel
theorem dX4_warm_20 : decode cX4_warm 20 = .ok (.iload_n 3, 1) := by decide +kernel
theorem dX4_warm_21 : decode cX4_warm 21 = .ok (.ifCond .eq 9, 3) := by decide +kernel
theorem dX4_warm_24 : decode cX4_warm 24 = .ok (.aload_n 0, 1) := by decide +kernel
theorem dX4_warm_25 : decode cX4_warm 25 = .ok (.iload_n 3, 1) := by decide +kernel
theorem dX4_warm_26 : decode cX4_warm 26 = .ok (.invokevirtual 85, 3) := by decide +kernel
theorem dX4_warm_29 : decode cX4_warm 29 = .ok (.ireturn, 1) := by decide +kernel
theorem dX4_warm_30 : decode cX4_warm 30 = .ok (.aload_n 0, 1) := by decide +kernel
theorem dX4_warm_31 : decode cX4_warm 31 = .ok (.iload_n 1, 1) := by decide +kernel
theorem dX4_warm_32 : decode cX4_warm 32 = .ok (.aload_n 0, 1) := by decide +kernel
theorem dX4_warm_33 : decode cX4_warm 33 = .ok (.iload_n 1, 1) := by decide +kernel
theorem dX4_warm_34 : decode cX4_warm 34 = .ok (.invokevirtual 134, 3) := by decide +kernel
theorem dX4_warm_37 : decode cX4_warm 37 = .ok (.iload_n 2, 1) := by decide +kernel
theorem dX4_warm_38 : decode cX4_warm 38 = .ok (.imul, 1) := by decide +kernel
theorem dX4_warm_39 : decode cX4_warm 39 = .ok (.invokevirtual 137, 3) := by decide +kernel
theorem dX4_warm_42 : decode cX4_warm 42 = .ok (.aload_n 0, 1) := by decide +kernel
theorem dX4_warm_43 : decode cX4_warm 43 = .ok (.getfield 22, 3) := by decide +kernel
theorem dX4_warm_46 : decode cX4_warm 46 = .ok (.iload_n 1, 1) := by decide +kernel
theorem dX4_warm_47 : decode cX4_warm 47 = .ok (.iaload, 1) := by decide +kernel
theorem dX4_warm_48 : decode cX4_warm 48 = .ok (.ireturn, 1) := by decide +kernel
