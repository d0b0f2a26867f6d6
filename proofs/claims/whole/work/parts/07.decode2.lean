theorem dX3_mean_34 : decode cX3_mean 34 = .ok (.ifCond .eq 10, 3) := by decide +kernel
theorem dX3_mean_37 : decode cX3_mean 37 = .ok (.aload_n 0, 1) := by decide +kernel
theorem dX3_mean_38 : decode cX3_mean 38 = .ok (.iload 4, 2) := by decide +kernel
theorem dX3_mean_40 : decode cX3_mean 40 = .ok (.invokevirtual 195, 3) := by decide +kernel
theorem dX3_mean_43 : decode cX3_mean 43 = .ok (.lreturn, 1) := by decide +kernel
theorem dX3_mean_44 : decode cX3_mean 44 = .ok (.aload_n 0, 1) := by decide +kernel
theorem dX3_mean_45 : decode cX3_mean 45 = .ok (.invokevirtual 189, 3) := by decide +kernel
theorem dX3_mean_48 : decode cX3_mean 48 = .ok (.aload_n 0, 1) := by decide +kernel
theorem dX3_mean_49 : decode cX3_mean 49 = .ok (.getfield 46, 3) := by decide +kernel
theorem dX3_mean_52 : decode cX3_mean 52 = .ok (.getfield 150, 3) := by decide +kernel
theorem dX3_mean_55 : decode cX3_mean 55 = .ok (.i2l, 1) := by decide +kernel
theorem dX3_mean_56 : decode cX3_mean 56 = .ok (.aload_n 0, 1) := by decide +kernel
theorem dX3_mean_57 : decode cX3_mean 57 = .ok (.getfield 12, 3) := by decide +kernel
theorem dX3_mean_60 : decode cX3_mean 60 = .ok (.iload_n 1, 1) := by decide +kernel
theorem dX3_mean_61 : decode cX3_mean 61 = .ok (.iload_n 2, 1) := by decide +kernel
theorem dX3_mean_62 : decode cX3_mean 62 = .ok (.aload_n 0, 1) := by decide +kernel
theorem dX3_mean_63 : decode cX3_mean 63 = .ok (.getfield 56, 3) := by decide +kernel
theorem dX3_mean_66 : decode cX3_mean 66 = .ok (.invokevirtual 211, 3) := by decide +kernel
theorem dX3_mean_69 : decode cX3_mean 69 = .ok (.lmul, 1) := by decide +kernel
theorem dX3_mean_70 : decode cX3_mean 70 = .ok (.aload_n 0, 1) := by decide +kernel
theorem dX3_mean_71 : decode cX3_mean 71 = .ok (.getfield 56, 3) := by decide +kernel
theorem dX3_mean_74 : decode cX3_mean 74 = .ok (.invokevirtual 203, 3) := by decide +kernel
theorem dX3_mean_77 : decode cX3_mean 77 = .ok (.iload_n 3, 1) := by decide +kernel
theorem dX3_mean_78 : decode cX3_mean 78 = .ok (.invokestatic 207, 3) := by decide +kernel
theorem dX3_mean_81 : decode cX3_mean 81 = .ok (.lreturn, 1) := by decide +kernel
theorem dX3_best_0 : decode cX3_best 0 = .ok (.aload_n 0, 1) := by decide +kernel
theorem dX3_best_1 : decode cX3_best 1 = .ok (.iload_n 1, 1) := by decide +kernel
theorem dX3_best_2 : decode cX3_best 2 = .ok (.iconst 3, 1) := by decide +kernel
theorem dX3_best_3 : decode cX3_best 3 = .ok (.invokestatic 70, 3) := by decide +kernel
theorem dX3_best_6 : decode cX3_best 6 = .ok (.iconst 1, 1) := by decide +kernel
theorem dX3_best_7 : decode cX3_best 7 = .ok (.invokevirtual 175, 3) := by decide +kernel
theorem dX3_best_10 : decode cX3_best 10 = .ok (.istore_n 2, 1) := by decide +kernel
theorem dX3_best_11 : decode cX3_best 11 = .ok (.iload_n 2, 1) := by decide +kernel
theorem dX3_best_12 : decode cX3_best 12 = .ok (.ifCond .eq 9, 3) := by decide +kernel
theorem dX3_best_15 : decode cX3_best 15 = .ok (.aload_n 0, 1) := by decide +kernel
theorem dX3_best_16 : decode cX3_best 16 = .ok (.iload_n 2, 1) := by decide +kernel
theorem dX3_best_17 : decode cX3_best 17 = .ok (.invokevirtual 74, 3) := by decide +kernel
theorem dX3_best_20 : decode cX3_best 20 = .ok (.ireturn, 1) := by decide +kernel
theorem dX3_best_21 : decode cX3_best 21 = .ok (.aload_n 0, 1) := by decide +kernel
theorem dX3_best_22 : decode cX3_best 22 = .ok (.invokevirtual 189, 3) := by decide +kernel
theorem dX3_best_25 : decode cX3_best 25 = .ok (.aload_n 0, 1) := by decide +kernel
theorem dX3_best_26 : decode cX3_best 26 = .ok (.getfield 12, 3) := by decide +kernel
theorem dX3_best_29 : decode cX3_best 29 = .ok (.iload_n 1, 1) := by decide +kernel
theorem dX3_best_30 : decode cX3_best 30 = .ok (.aload_n 0, 1) := by decide +kernel
theorem dX3_best_31 : decode cX3_best 31 = .ok (.getfield 56, 3) := by decide +kernel
theorem dX3_best_34 : decode cX3_best 34 = .ok (.invokevirtual 215, 3) := by decide +kernel
theorem dX3_best_37 : decode cX3_best 37 = .ok (.ireturn, 1) := by decide +kernel
theorem dX3_sure_0 : decode cX3_sure 0 = .ok (.aload_n 0, 1) := by decide +kernel
theorem dX3_sure_1 : decode cX3_sure 1 = .ok (.iload_n 1, 1) := by decide +kernel
theorem dX3_sure_2 : decode cX3_sure 2 = .ok (.iconst 3, 1) := by decide +kernel
theorem dX3_sure_3 : decode cX3_sure 3 = .ok (.invokestatic 70, 3) := by decide +kernel
theorem dX3_sure_6 : decode cX3_sure 6 = .ok (.iconst 1, 1) := by decide +kernel
theorem dX3_sure_7 : decode cX3_sure 7 = .ok (.invokevirtual 175, 3) := by decide +kernel
theorem dX3_sure_10 : decode cX3_sure 10 = .ok (.istore_n 2, 1) := by decide +kernel
theorem dX3_sure_11 : decode cX3_sure 11 = .ok (.iload_n 2, 1) := by decide +kernel
theorem dX3_sure_12 : decode cX3_sure 12 = .ok (.ifCond .eq 9, 3) := by decide +kernel
theorem dX3_sure_15 : decode cX3_sure 15 = .ok (.aload_n 0, 1) := by decide +kernel
theorem dX3_sure_16 : decode cX3_sure 16 = .ok (.iload_n 2, 1) := by decide +kernel
theorem dX3_sure_17 : decode cX3_sure 17 = .ok (.invokevirtual 74, 3) := by decide +kernel
theorem dX3_sure_20 : decode cX3_sure 20 = .ok (.ireturn, 1) := by decide +kernel
theorem dX3_sure_21 : decode cX3_sure 21 = .ok (.aload_n 0, 1) := by decide +kernel
theorem dX3_sure_22 : decode cX3_sure 22 = .ok (.invokevirtual 189, 3) := by decide +kernel
theorem dX3_sure_25 : decode cX3_sure 25 = .ok (.iconst 0, 1) := by decide +kernel
theorem dX3_sure_26 : decode cX3_sure 26 = .ok (.istore_n 3, 1) := by decide +kernel
theorem dX3_sure_27 : decode cX3_sure 27 = .ok (.iconst 0, 1) := by decide +kernel
theorem dX3_sure_28 : decode cX3_sure 28 = .ok (.istore 4, 2) := by decide +kernel
theorem dX3_sure_30 : decode cX3_sure 30 = .ok (.iload 4, 2) := by decide +kernel
theorem dX3_sure_32 : decode cX3_sure 32 = .ok (.iconst 5, 1) := by decide +kernel
theorem dX3_sure_33 : decode cX3_sure 33 = .ok (.if_icmp .ge 30, 3) := by decide +kernel
theorem dX3_sure_36 : decode cX3_sure 36 = .ok (.iload 4, 2) := by decide +kernel
theorem dX3_sure_38 : decode cX3_sure 38 = .ok (.aload_n 0, 1) := by decide +kernel
theorem dX3_sure_39 : decode cX3_sure 39 = .ok (.getfield 56, 3) := by decide +kernel
theorem dX3_sure_42 : decode cX3_sure 42 = .ok (.invokestatic 219, 3) := by decide +kernel
theorem dX3_sure_45 : decode cX3_sure 45 = .ok (.lconst 0, 1) := by decide +kernel
theorem dX3_sure_46 : decode cX3_sure 46 = .ok (.lcmp, 1) := by decide +kernel
theorem dX3_sure_47 : decode cX3_sure 47 = .ok (.ifCond .ne 10, 3) := by decide +kernel
theorem dX3_sure_50 : decode cX3_sure 50 = .ok (.iload_n 3, 1) := by decide +kernel
theorem dX3_sure_51 : decode cX3_sure 51 = .ok (.iconst 1, 1) := by decide +kernel
theorem dX3_sure_52 : decode cX3_sure 52 = .ok (.iload 4, 2) := by decide +kernel
theorem dX3_sure_54 : decode cX3_sure 54 = .ok (.ishl, 1) := by decide +kernel
theorem dX3_sure_55 : decode cX3_sure 55 = .ok (.ior, 1) := by decide +kernel
theorem dX3_sure_56 : decode cX3_sure 56 = .ok (.istore_n 3, 1) := by decide +kernel
theorem dX3_sure_57 : decode cX3_sure 57 = .ok (.iinc 4 1, 3) := by decide +kernel
theorem dX3_sure_60 : decode cX3_sure 60 = .ok (.goto (-30), 3) := by decide +kernel
theorem dX3_sure_63 : decode cX3_sure 63 = .ok (.iload_n 3, 1) := by decide +kernel
theorem dX3_sure_64 : decode cX3_sure 64 = .ok (.ireturn, 1) := by decide +kernel
theorem dX3_think_0 : decode cX3_think 0 = .ok (.aload_n 0, 1) := by decide +kernel
theorem dX3_think_1 : decode cX3_think 1 = .ok (.getfield 12, 3) := by decide +kernel
theorem dX3_think_4 : decode cX3_think 4 = .ok (.invokevirtual 182, 3) := by decide +kernel
theorem dX3_think_7 : decode cX3_think 7 = .ok (.astore_n 1, 1) := by decide +kernel
theorem dX3_think_8 : decode cX3_think 8 = .ok (.aload_n 1, 1) := by decide +kernel
theorem dX3_think_9 : decode cX3_think 9 = .ok (.ifnull 11, 3) := by decide +kernel
theorem dX3_think_12 : decode cX3_think 12 = .ok (.aload_n 0, 1) := by decide +kernel
theorem dX3_think_13 : decode cX3_think 13 = .ok (.getfield 46, 3) := by decide +kernel
theorem dX3_think_16 : decode cX3_think 16 = .ok (.aload_n 1, 1) := by decide +kernel
theorem dX3_think_17 : decode cX3_think 17 = .ok (.invokevirtual 223, 3) := by decide +kernel
theorem dX3_think_20 : decode cX3_think 20 = .ok (.aload_n 0, 1) := by decide +kernel
theorem dX3_think_21 : decode cX3_think 21 = .ok (.getfield 56, 3) := by decide +kernel
theorem dX3_think_24 : decode cX3_think 24 = .ok (.aload_n 0, 1) := by decide +kernel
theorem dX3_think_25 : decode cX3_think 25 = .ok (.getfield 46, 3) := by decide +kernel
theorem dX3_think_28 : decode cX3_think 28 = .ok (.invokevirtual 227, 3) := by decide +kernel
theorem dX3_think_31 : decode cX3_think 31 = .ok (.iconst 0, 1) := by decide +kernel
theorem dX3_think_32 : decode cX3_think 32 = .ok (.istore_n 2, 1) := by decide +kernel
theorem dX3_think_33 : decode cX3_think 33 = .ok (.iload_n 2, 1) := by decide +kernel
theorem dX3_think_34 : decode cX3_think 34 = .ok (.aload_n 0, 1) := by decide +kernel
theorem dX3_think_35 : decode cX3_think 35 = .ok (.getfield 12, 3) := by decide +kernel
theorem dX3_think_38 : decode cX3_think 38 = .ok (.getfield 179, 3) := by decide +kernel
theorem dX3_think_41 : decode cX3_think 41 = .ok (.if_icmp .ge 46, 3) := by decide +kernel
theorem dX3_think_44 : decode cX3_think 44 = .ok (.aload_n 0, 1) := by decide +kernel
theorem dX3_think_45 : decode cX3_think 45 = .ok (.getfield 56, 3) := by decide +kernel
theorem dX3_think_48 : decode cX3_think 48 = .ok (.aload_n 0, 1) := by decide +kernel
theorem dX3_think_49 : decode cX3_think 49 = .ok (.getfield 56, 3) := by decide +kernel
theorem dX3_think_52 : decode cX3_think 52 = .ok (.aload_n 0, 1) := by decide +kernel
theorem dX3_think_53 : decode cX3_think 53 = .ok (.getfield 46, 3) := by decide +kernel
theorem dX3_think_56 : decode cX3_think 56 = .ok (.aload_n 0, 1) := by decide +kernel
theorem dX3_think_57 : decode cX3_think 57 = .ok (.getfield 12, 3) := by decide +kernel
theorem dX3_think_60 : decode cX3_think 60 = .ok (.getfield 230, 3) := by decide +kernel
theorem dX3_think_63 : decode cX3_think 63 = .ok (.iload_n 2, 1) := by decide +kernel
theorem dX3_think_64 : decode cX3_think 64 = .ok (.invokestatic 136, 3) := by decide +kernel
theorem dX3_think_67 : decode cX3_think 67 = .ok (.aload_n 0, 1) := by decide +kernel
theorem dX3_think_68 : decode cX3_think 68 = .ok (.getfield 12, 3) := by decide +kernel
theorem dX3_think_71 : decode cX3_think 71 = .ok (.getfield 233, 3) := by decide +kernel
theorem dX3_think_74 : decode cX3_think 74 = .ok (.iload_n 2, 1) := by decide +kernel
theorem dX3_think_75 : decode cX3_think 75 = .ok (.invokestatic 136, 3) := by decide +kernel
theorem dX3_think_78 : decode cX3_think 78 = .ok (.invokevirtual 236, 3) := by decide +kernel
theorem dX3_think_81 : decode cX3_think 81 = .ok (.iinc 2 1, 3) := by decide +kernel
theorem dX3_think_84 : decode cX3_think 84 = .ok (.goto (-51), 3) := by decide +kernel
theorem dX3_think_87 : decode cX3_think 87 = .ok (.return_, 1) := by decide +kernel
theorem dX3_harmSum_0 : decode cX3_harmSum 0 = .ok (.lconst 0, 1) := by decide +kernel
theorem dX3_harmSum_1 : decode cX3_harmSum 1 = .ok (.lstore_n 2, 1) := by decide +kernel
theorem dX3_harmSum_2 : decode cX3_harmSum 2 = .ok (.iconst 0, 1) := by decide +kernel
theorem dX3_harmSum_3 : decode cX3_harmSum 3 = .ok (.istore 4, 2) := by decide +kernel
theorem dX3_harmSum_5 : decode cX3_harmSum 5 = .ok (.iload 4, 2) := by decide +kernel
theorem dX3_harmSum_7 : decode cX3_harmSum 7 = .ok (.iconst 5, 1) := by decide +kernel
theorem dX3_harmSum_8 : decode cX3_harmSum 8 = .ok (.if_icmp .ge 29, 3) := by decide +kernel
theorem dX3_harmSum_11 : decode cX3_harmSum 11 = .ok (.iload_n 0, 1) := by decide +kernel
theorem dX3_harmSum_12 : decode cX3_harmSum 12 = .ok (.iload 4, 2) := by decide +kernel
theorem dX3_harmSum_14 : decode cX3_harmSum 14 = .ok (.invokestatic 240, 3) := by decide +kernel
theorem dX3_harmSum_17 : decode cX3_harmSum 17 = .ok (.ifCond .le 14, 3) := by decide +kernel
theorem dX3_harmSum_20 : decode cX3_harmSum 20 = .ok (.lload_n 2, 1) := by decide +kernel
theorem dX3_harmSum_21 : decode cX3_harmSum 21 = .ok (.aload_n 1, 1) := by decide +kernel
theorem dX3_harmSum_22 : decode cX3_harmSum 22 = .ok (.iload 4, 2) := by decide +kernel
theorem dX3_harmSum_24 : decode cX3_harmSum 24 = .ok (.iload 4, 2) := by decide +kernel
theorem dX3_harmSum_26 : decode cX3_harmSum 26 = .ok (.invokevirtual 199, 3) := by decide +kernel
theorem dX3_harmSum_29 : decode cX3_harmSum 29 = .ok (.ladd, 1) := by decide +kernel
theorem dX3_harmSum_30 : decode cX3_harmSum 30 = .ok (.lstore_n 2, 1) := by decide +kernel
theorem dX3_harmSum_31 : decode cX3_harmSum 31 = .ok (.iinc 4 1, 3) := by decide +kernel
theorem dX3_harmSum_34 : decode cX3_harmSum 34 = .ok (.goto (-29), 3) := by decide +kernel
theorem dX3_harmSum_37 : decode cX3_harmSum 37 = .ok (.lload_n 2, 1) := by decide +kernel
theorem dX3_harmSum_38 : decode cX3_harmSum 38 = .ok (.lreturn, 1) := by decide +kernel
theorem dX3_looking_0 : decode cX3_looking 0 = .ok (.aload_n 0, 1) := by decide +kernel
theorem dX3_looking_1 : decode cX3_looking 1 = .ok (.iload_n 1, 1) := by decide +kernel
theorem dX3_looking_2 : decode cX3_looking 2 = .ok (.iconst 4, 1) := by decide +kernel
theorem dX3_looking_3 : decode cX3_looking 3 = .ok (.invokestatic 70, 3) := by decide +kernel
theorem dX3_looking_6 : decode cX3_looking 6 = .ok (.ifCond .eq 15, 3) := by decide +kernel
theorem dX3_looking_9 : decode cX3_looking 9 = .ok (.iload_n 2, 1) := by decide +kernel
theorem dX3_looking_10 : decode cX3_looking 10 = .ok (.iconst 3, 1) := by decide +kernel
theorem dX3_looking_11 : decode cX3_looking 11 = .ok (.invokestatic 70, 3) := by decide +kernel
theorem dX3_looking_14 : decode cX3_looking 14 = .ok (.ifCond .eq 7, 3) := by decide +kernel
theorem dX3_looking_17 : decode cX3_looking 17 = .ok (.iconst 1, 1) := by decide +kernel
theorem dX3_looking_18 : decode cX3_looking 18 = .ok (.goto 4, 3) := by decide +kernel
theorem dX3_looking_21 : decode cX3_looking 21 = .ok (.iconst 0, 1) := by decide +kernel
theorem dX3_looking_22 : decode cX3_looking 22 = .ok (.iload_n 3, 1) := by decide +kernel
theorem dX3_looking_23 : decode cX3_looking 23 = .ok (.iconst 2, 1) := by decide +kernel
theorem dX3_looking_24 : decode cX3_looking 24 = .ok (.invokestatic 70, 3) := by decide +kernel
theorem dX3_looking_27 : decode cX3_looking 27 = .ok (.invokevirtual 175, 3) := by decide +kernel
theorem dX3_looking_30 : decode cX3_looking 30 = .ok (.istore 4, 2) := by decide +kernel
theorem dX3_looking_32 : decode cX3_looking 32 = .ok (.iload 4, 2) := by decide +kernel
theorem dX3_looking_34 : decode cX3_looking 34 = .ok (.ifCond .eq 10, 3) := by decide +kernel
theorem dX3_looking_37 : decode cX3_looking 37 = .ok (.aload_n 0, 1) := by decide +kernel
theorem dX3_looking_38 : decode cX3_looking 38 = .ok (.iload 4, 2) := by decide +kernel
theorem dX3_looking_40 : decode cX3_looking 40 = .ok (.invokevirtual 195, 3) := by decide +kernel
theorem dX3_looking_43 : decode cX3_looking 43 = .ok (.lreturn, 1) := by decide +kernel
theorem dX3_looking_44 : decode cX3_looking 44 = .ok (.aload_n 0, 1) := by decide +kernel
theorem dX3_looking_45 : decode cX3_looking 45 = .ok (.invokevirtual 189, 3) := by decide +kernel
theorem dX3_looking_48 : decode cX3_looking 48 = .ok (.aload_n 0, 1) := by decide +kernel
theorem dX3_looking_49 : decode cX3_looking 49 = .ok (.iload_n 1, 1) := by decide +kernel
theorem dX3_looking_50 : decode cX3_looking 50 = .ok (.iload_n 2, 1) := by decide +kernel
theorem dX3_looking_51 : decode cX3_looking 51 = .ok (.aload_n 0, 1) := by decide +kernel
theorem dX3_looking_52 : decode cX3_looking 52 = .ok (.getfield 56, 3) := by decide +kernel
theorem dX3_looking_55 : decode cX3_looking 55 = .ok (.invokevirtual 243, 3) := by decide +kernel
theorem dX3_looking_58 : decode cX3_looking 58 = .ok (.ldc2_w 246, 3) := by decide +kernel
theorem dX3_looking_61 : decode cX3_looking 61 = .ok (.aload_n 0, 1) := by decide +kernel
theorem dX3_looking_62 : decode cX3_looking 62 = .ok (.getfield 56, 3) := by decide +kernel
theorem dX3_looking_65 : decode cX3_looking 65 = .ok (.invokevirtual 203, 3) := by decide +kernel
theorem dX3_looking_68 : decode cX3_looking 68 = .ok (.lmul, 1) := by decide +kernel
theorem dX3_looking_69 : decode cX3_looking 69 = .ok (.iload_n 3, 1) := by decide +kernel
theorem dX3_looking_70 : decode cX3_looking 70 = .ok (.invokestatic 207, 3) := by decide +kernel
theorem dX3_looking_73 : decode cX3_looking 73 = .ok (.lreturn, 1) := by decide +kernel
theorem dX3_bestTest_0 : decode cX3_bestTest 0 = .ok (.aload_n 0, 1) := by decide +kernel
theorem dX3_bestTest_1 : decode cX3_bestTest 1 = .ok (.iload_n 1, 1) := by decide +kernel
theorem dX3_bestTest_2 : decode cX3_bestTest 2 = .ok (.iconst 3, 1) := by decide +kernel
theorem dX3_bestTest_3 : decode cX3_bestTest 3 = .ok (.invokestatic 70, 3) := by decide +kernel
theorem dX3_bestTest_6 : decode cX3_bestTest 6 = .ok (.iconst 1, 1) := by decide +kernel
theorem dX3_bestTest_7 : decode cX3_bestTest 7 = .ok (.invokevirtual 175, 3) := by decide +kernel
theorem dX3_bestTest_10 : decode cX3_bestTest 10 = .ok (.istore_n 2, 1) := by decide +kernel
theorem dX3_bestTest_11 : decode cX3_bestTest 11 = .ok (.iload_n 2, 1) := by decide +kernel
theorem dX3_bestTest_12 : decode cX3_bestTest 12 = .ok (.ifCond .eq 9, 3) := by decide +kernel
theorem dX3_bestTest_15 : decode cX3_bestTest 15 = .ok (.aload_n 0, 1) := by decide +kernel
theorem dX3_bestTest_16 : decode cX3_bestTest 16 = .ok (.iload_n 2, 1) := by decide +kernel
theorem dX3_bestTest_17 : decode cX3_bestTest 17 = .ok (.invokevirtual 74, 3) := by decide +kernel
theorem dX3_bestTest_20 : decode cX3_bestTest 20 = .ok (.ireturn, 1) := by decide +kernel
theorem dX3_bestTest_21 : decode cX3_bestTest 21 = .ok (.aload_n 0, 1) := by decide +kernel
theorem dX3_bestTest_22 : decode cX3_bestTest 22 = .ok (.invokevirtual 189, 3) := by decide +kernel
theorem dX3_bestTest_25 : decode cX3_bestTest 25 = .ok (.bipush (-9), 2) := by decide +kernel
theorem dX3_bestTest_27 : decode cX3_bestTest 27 = .ok (.istore_n 3, 1) := by decide +kernel
theorem dX3_bestTest_28 : decode cX3_bestTest 28 = .ok (.lconst 0, 1) := by decide +kernel
theorem dX3_bestTest_29 : decode cX3_bestTest 29 = .ok (.lstore 4, 2) := by decide +kernel
theorem dX3_bestTest_31 : decode cX3_bestTest 31 = .ok (.iconst 0, 1) := by decide +kernel
theorem dX3_bestTest_32 : decode cX3_bestTest 32 = .ok (.istore 6, 2) := by decide +kernel
theorem dX3_bestTest_34 : decode cX3_bestTest 34 = .ok (.iload 6, 2) := by decide +kernel
theorem dX3_bestTest_36 : decode cX3_bestTest 36 = .ok (.iconst 4, 1) := by decide +kernel
theorem dX3_bestTest_37 : decode cX3_bestTest 37 = .ok (.if_icmp .ge 37, 3) := by decide +kernel
theorem dX3_bestTest_40 : decode cX3_bestTest 40 = .ok (.aload_n 0, 1) := by decide +kernel
theorem dX3_bestTest_41 : decode cX3_bestTest 41 = .ok (.iload 6, 2) := by decide +kernel
theorem dX3_bestTest_43 : decode cX3_bestTest 43 = .ok (.iload_n 1, 1) := by decide +kernel
theorem dX3_bestTest_44 : decode cX3_bestTest 44 = .ok (.aload_n 0, 1) := by decide +kernel
theorem dX3_bestTest_45 : decode cX3_bestTest 45 = .ok (.getfield 56, 3) := by decide +kernel
theorem dX3_bestTest_48 : decode cX3_bestTest 48 = .ok (.invokevirtual 243, 3) := by decide +kernel
theorem dX3_bestTest_51 : decode cX3_bestTest 51 = .ok (.lstore 7, 2) := by decide +kernel
theorem dX3_bestTest_53 : decode cX3_bestTest 53 = .ok (.lload 7, 2) := by decide +kernel
theorem dX3_bestTest_55 : decode cX3_bestTest 55 = .ok (.lload 4, 2) := by decide +kernel
theorem dX3_bestTest_57 : decode cX3_bestTest 57 = .ok (.lcmp, 1) := by decide +kernel
theorem dX3_bestTest_58 : decode cX3_bestTest 58 = .ok (.ifCond .le 10, 3) := by decide +kernel
theorem dX3_bestTest_61 : decode cX3_bestTest 61 = .ok (.lload 7, 2) := by decide +kernel
theorem dX3_bestTest_63 : decode cX3_bestTest 63 = .ok (.lstore 4, 2) := by decide +kernel
theorem dX3_bestTest_65 : decode cX3_bestTest 65 = .ok (.iload 6, 2) := by decide +kernel
theorem dX3_bestTest_67 : decode cX3_bestTest 67 = .ok (.istore_n 3, 1) := by decide +kernel
theorem dX3_bestTest_68 : decode cX3_bestTest 68 = .ok (.iinc 6 1, 3) := by decide +kernel
theorem dX3_bestTest_71 : decode cX3_bestTest 71 = .ok (.goto (-37), 3) := by decide +kernel
theorem dX3_bestTest_74 : decode cX3_bestTest 74 = .ok (.iload_n 3, 1) := by decide +kernel
theorem dX3_bestTest_75 : decode cX3_bestTest 75 = .ok (.ireturn, 1) := by decide +kernel
theorem dX3_two_0 : decode cX3_two 0 = .ok (.aload_n 0, 1) := by decide +kernel
theorem dX3_two_1 : decode cX3_two 1 = .ok (.iload_n 1, 1) := by decide +kernel
theorem dX3_two_2 : decode cX3_two 2 = .ok (.iconst 3, 1) := by decide +kernel
theorem dX3_two_3 : decode cX3_two 3 = .ok (.invokestatic 70, 3) := by decide +kernel
theorem dX3_two_6 : decode cX3_two 6 = .ok (.iconst 1, 1) := by decide +kernel
theorem dX3_two_7 : decode cX3_two 7 = .ok (.invokevirtual 175, 3) := by decide +kernel
theorem dX3_two_10 : decode cX3_two 10 = .ok (.istore_n 2, 1) := by decide +kernel
theorem dX3_two_11 : decode cX3_two 11 = .ok (.iload_n 2, 1) := by decide +kernel
theorem dX3_two_12 : decode cX3_two 12 = .ok (.ifCond .eq 9, 3) := by decide +kernel
theorem dX3_two_15 : decode cX3_two 15 = .ok (.aload_n 0, 1) := by decide +kernel
theorem dX3_two_16 : decode cX3_two 16 = .ok (.iload_n 2, 1) := by decide +kernel
theorem dX3_two_17 : decode cX3_two 17 = .ok (.invokevirtual 74, 3) := by decide +kernel
theorem dX3_two_20 : decode cX3_two 20 = .ok (.ireturn, 1) := by decide +kernel
theorem dX3_two_21 : decode cX3_two 21 = .ok (.aload_n 0, 1) := by decide +kernel
theorem dX3_two_22 : decode cX3_two 22 = .ok (.invokevirtual 189, 3) := by decide +kernel
theorem dX3_two_25 : decode cX3_two 25 = .ok (.iconst 0, 1) := by decide +kernel
theorem dX3_two_26 : decode cX3_two 26 = .ok (.istore_n 3, 1) := by decide +kernel
theorem dX3_two_27 : decode cX3_two 27 = .ok (.aload_n 0, 1) := by decide +kernel
theorem dX3_two_28 : decode cX3_two 28 = .ok (.iconst 0, 1) := by decide +kernel
theorem dX3_two_29 : decode cX3_two 29 = .ok (.iload_n 1, 1) := by decide +kernel
theorem dX3_two_30 : decode cX3_two 30 = .ok (.invokevirtual 248, 3) := by decide +kernel
theorem dX3_two_33 : decode cX3_two 33 = .ok (.lstore 4, 2) := by decide +kernel
theorem dX3_two_35 : decode cX3_two 35 = .ok (.iconst 1, 1) := by decide +kernel
theorem dX3_two_36 : decode cX3_two 36 = .ok (.istore 6, 2) := by decide +kernel
theorem dX3_two_38 : decode cX3_two 38 = .ok (.iload 6, 2) := by decide +kernel
theorem dX3_two_40 : decode cX3_two 40 = .ok (.bipush 16, 2) := by decide +kernel
theorem dX3_two_42 : decode cX3_two 42 = .ok (.if_icmp .ge 33, 3) := by decide +kernel
theorem dX3_two_45 : decode cX3_two 45 = .ok (.aload_n 0, 1) := by decide +kernel
theorem dX3_two_46 : decode cX3_two 46 = .ok (.iload 6, 2) := by decide +kernel
theorem dX3_two_48 : decode cX3_two 48 = .ok (.iload_n 1, 1) := by decide +kernel
theorem dX3_two_49 : decode cX3_two 49 = .ok (.invokevirtual 248, 3) := by decide +kernel
theorem dX3_two_52 : decode cX3_two 52 = .ok (.lstore 7, 2) := by decide +kernel
theorem dX3_two_54 : decode cX3_two 54 = .ok (.lload 7, 2) := by decide +kernel
theorem dX3_two_56 : decode cX3_two 56 = .ok (.lload 4, 2) := by decide +kernel
theorem dX3_two_58 : decode cX3_two 58 = .ok (.lcmp, 1) := by decide +kernel
theorem dX3_two_59 : decode cX3_two 59 = .ok (.ifCond .le 10, 3) := by decide +kernel
theorem dX3_two_62 : decode cX3_two 62 = .ok (.lload 7, 2) := by decide +kernel
theorem dX3_two_64 : decode cX3_two 64 = .ok (.lstore 4, 2) := by decide +kernel
theorem dX3_two_66 : decode cX3_two 66 = .ok (.iload 6, 2) := by decide +kernel
theorem dX3_two_68 : decode cX3_two 68 = .ok (.istore_n 3, 1) := by decide +kernel
theorem dX3_two_69 : decode cX3_two 69 = .ok (.iinc 6 1, 3) := by decide +kernel
theorem dX3_two_72 : decode cX3_two 72 = .ok (.goto (-34), 3) := by decide +kernel
theorem dX3_two_75 : decode cX3_two 75 = .ok (.bipush 10, 2) := by decide +kernel
theorem dX3_two_77 : decode cX3_two 77 = .ok (.iload_n 3, 1) := by decide +kernel
theorem dX3_two_78 : decode cX3_two 78 = .ok (.iconst 4, 1) := by decide +kernel
theorem dX3_two_79 : decode cX3_two 79 = .ok (.idiv, 1) := by decide +kernel
theorem dX3_two_80 : decode cX3_two 80 = .ok (.imul, 1) := by decide +kernel
theorem dX3_two_81 : decode cX3_two 81 = .ok (.iload_n 3, 1) := by decide +kernel
theorem dX3_two_82 : decode cX3_two 82 = .ok (.iconst 4, 1) := by decide +kernel
theorem dX3_two_83 : decode cX3_two 83 = .ok (.irem, 1) := by decide +kernel
theorem dX3_two_84 : decode cX3_two 84 = .ok (.iadd, 1) := by decide +kernel
theorem dX3_two_85 : decode cX3_two 85 = .ok (.ireturn, 1) := by decide +kernel
theorem dX3_twoWorth_0 : decode cX3_twoWorth 0 = .ok (.aload_n 0, 1) := by decide +kernel
theorem dX3_twoWorth_1 : decode cX3_twoWorth 1 = .ok (.iload_n 1, 1) := by decide +kernel
theorem dX3_twoWorth_2 : decode cX3_twoWorth 2 = .ok (.iconst 3, 1) := by decide +kernel
theorem dX3_twoWorth_3 : decode cX3_twoWorth 3 = .ok (.invokestatic 70, 3) := by decide +kernel
theorem dX3_twoWorth_6 : decode cX3_twoWorth 6 = .ok (.iload_n 2, 1) := by decide +kernel
theorem dX3_twoWorth_7 : decode cX3_twoWorth 7 = .ok (.iconst 2, 1) := by decide +kernel
theorem dX3_twoWorth_8 : decode cX3_twoWorth 8 = .ok (.invokestatic 70, 3) := by decide +kernel
theorem dX3_twoWorth_11 : decode cX3_twoWorth 11 = .ok (.invokevirtual 175, 3) := by decide +kernel
theorem dX3_twoWorth_14 : decode cX3_twoWorth 14 = .ok (.istore_n 3, 1) := by decide +kernel
theorem dX3_twoWorth_15 : decode cX3_twoWorth 15 = .ok (.iload_n 3, 1) := by decide +kernel
theorem dX3_twoWorth_16 : decode cX3_twoWorth 16 = .ok (.ifCond .eq 9, 3) := by decide +kernel
theorem dX3_twoWorth_19 : decode cX3_twoWorth 19 = .ok (.aload_n 0, 1) := by decide +kernel
theorem dX3_twoWorth_20 : decode cX3_twoWorth 20 = .ok (.iload_n 3, 1) := by decide +kernel
theorem dX3_twoWorth_21 : decode cX3_twoWorth 21 = .ok (.invokevirtual 195, 3) := by decide +kernel
theorem dX3_twoWorth_24 : decode cX3_twoWorth 24 = .ok (.lreturn, 1) := by decide +kernel
theorem dX3_twoWorth_25 : decode cX3_twoWorth 25 = .ok (.aload_n 0, 1) := by decide +kernel
theorem dX3_twoWorth_26 : decode cX3_twoWorth 26 = .ok (.invokevirtual 189, 3) := by decide +kernel
theorem dX3_twoWorth_29 : decode cX3_twoWorth 29 = .ok (.aload_n 0, 1) := by decide +kernel
theorem dX3_twoWorth_30 : decode cX3_twoWorth 30 = .ok (.iconst 0, 1) := by decide +kernel
theorem dX3_twoWorth_31 : decode cX3_twoWorth 31 = .ok (.iload_n 1, 1) := by decide +kernel
theorem dX3_twoWorth_32 : decode cX3_twoWorth 32 = .ok (.invokevirtual 248, 3) := by decide +kernel
theorem dX3_twoWorth_35 : decode cX3_twoWorth 35 = .ok (.lstore 4, 2) := by decide +kernel
theorem dX3_twoWorth_37 : decode cX3_twoWorth 37 = .ok (.iconst 1, 1) := by decide +kernel
theorem dX3_twoWorth_38 : decode cX3_twoWorth 38 = .ok (.istore 6, 2) := by decide +kernel
theorem dX3_twoWorth_40 : decode cX3_twoWorth 40 = .ok (.iload 6, 2) := by decide +kernel
theorem dX3_twoWorth_42 : decode cX3_twoWorth 42 = .ok (.bipush 16, 2) := by decide +kernel
theorem dX3_twoWorth_44 : decode cX3_twoWorth 44 = .ok (.if_icmp .ge 23, 3) := by decide +kernel
theorem dX3_twoWorth_47 : decode cX3_twoWorth 47 = .ok (.lload 4, 2) := by decide +kernel
theorem dX3_twoWorth_49 : decode cX3_twoWorth 49 = .ok (.aload_n 0, 1) := by decide +kernel
theorem dX3_twoWorth_50 : decode cX3_twoWorth 50 = .ok (.iload 6, 2) := by decide +kernel
theorem dX3_twoWorth_52 : decode cX3_twoWorth 52 = .ok (.iload_n 1, 1) := by decide +kernel
theorem dX3_twoWorth_53 : decode cX3_twoWorth 53 = .ok (.invokevirtual 248, 3) := by decide +kernel
theorem dX3_twoWorth_56 : decode cX3_twoWorth 56 = .ok (.invokestatic 251, 3) := by decide +kernel
theorem dX3_twoWorth_59 : decode cX3_twoWorth 59 = .ok (.lstore 4, 2) := by decide +kernel
theorem dX3_twoWorth_61 : decode cX3_twoWorth 61 = .ok (.iinc 6 1, 3) := by decide +kernel
theorem dX3_twoWorth_64 : decode cX3_twoWorth 64 = .ok (.goto (-24), 3) := by decide +kernel
theorem dX3_twoWorth_67 : decode cX3_twoWorth 67 = .ok (.lload 4, 2) := by decide +kernel
theorem dX3_twoWorth_69 : decode cX3_twoWorth 69 = .ok (.ldc2_w 254, 3) := by decide +kernel
theorem dX3_twoWorth_72 : decode cX3_twoWorth 72 = .ok (.aload_n 0, 1) := by decide +kernel
theorem dX3_twoWorth_73 : decode cX3_twoWorth 73 = .ok (.getfield 56, 3) := by decide +kernel
theorem dX3_twoWorth_76 : decode cX3_twoWorth 76 = .ok (.invokevirtual 203, 3) := by decide +kernel
theorem dX3_twoWorth_79 : decode cX3_twoWorth 79 = .ok (.lmul, 1) := by decide +kernel
theorem dX3_twoWorth_80 : decode cX3_twoWorth 80 = .ok (.iload_n 2, 1) := by decide +kernel
theorem dX3_twoWorth_81 : decode cX3_twoWorth 81 = .ok (.invokestatic 207, 3) := by decide +kernel
theorem dX3_twoWorth_84 : decode cX3_twoWorth 84 = .ok (.lreturn, 1) := by decide +kernel
theorem dX3_free_0 : decode cX3_free 0 = .ok (.aload_n 0, 1) := by decide +kernel
theorem dX3_free_1 : decode cX3_free 1 = .ok (.iload_n 1, 1) := by decide +kernel
theorem dX3_free_2 : decode cX3_free 2 = .ok (.iconst 3, 1) := by decide +kernel
theorem dX3_free_3 : decode cX3_free 3 = .ok (.invokestatic 70, 3) := by decide +kernel
theorem dX3_free_6 : decode cX3_free 6 = .ok (.iconst 1, 1) := by decide +kernel
theorem dX3_free_7 : decode cX3_free 7 = .ok (.invokevirtual 175, 3) := by decide +kernel
theorem dX3_free_10 : decode cX3_free 10 = .ok (.istore_n 2, 1) := by decide +kernel
theorem dX3_free_11 : decode cX3_free 11 = .ok (.iload_n 2, 1) := by decide +kernel
theorem dX3_free_12 : decode cX3_free 12 = .ok (.ifCond .eq 9, 3) := by decide +kernel
theorem dX3_free_15 : decode cX3_free 15 = .ok (.aload_n 0, 1) := by decide +kernel
theorem dX3_free_16 : decode cX3_free 16 = .ok (.iload_n 2, 1) := by decide +kernel
theorem dX3_free_17 : decode cX3_free 17 = .ok (.invokevirtual 74, 3) := by decide +kernel
theorem dX3_free_20 : decode cX3_free 20 = .ok (.ireturn, 1) := by decide +kernel
theorem dX3_free_21 : decode cX3_free 21 = .ok (.aload_n 0, 1) := by decide +kernel
theorem dX3_free_22 : decode cX3_free 22 = .ok (.invokevirtual 189, 3) := by decide +kernel
theorem dX3_free_25 : decode cX3_free 25 = .ok (.iconst 0, 1) := by decide +kernel
theorem dX3_free_26 : decode cX3_free 26 = .ok (.istore_n 3, 1) := by decide +kernel
theorem dX3_free_27 : decode cX3_free 27 = .ok (.aload_n 0, 1) := by decide +kernel
theorem dX3_free_28 : decode cX3_free 28 = .ok (.iconst 0, 1) := by decide +kernel
theorem dX3_free_29 : decode cX3_free 29 = .ok (.iload_n 1, 1) := by decide +kernel
theorem dX3_free_30 : decode cX3_free 30 = .ok (.invokevirtual 256, 3) := by decide +kernel
theorem dX3_free_33 : decode cX3_free 33 = .ok (.lstore 4, 2) := by decide +kernel
theorem dX3_free_35 : decode cX3_free 35 = .ok (.iconst 1, 1) := by decide +kernel
theorem dX3_free_36 : decode cX3_free 36 = .ok (.istore 6, 2) := by decide +kernel
theorem dX3_free_38 : decode cX3_free 38 = .ok (.iload 6, 2) := by decide +kernel
theorem dX3_free_40 : decode cX3_free 40 = .ok (.iconst 4, 1) := by decide +kernel
theorem dX3_free_41 : decode cX3_free 41 = .ok (.if_icmp .ge 33, 3) := by decide +kernel
theorem dX3_free_44 : decode cX3_free 44 = .ok (.aload_n 0, 1) := by decide +kernel
theorem dX3_free_45 : decode cX3_free 45 = .ok (.iload 6, 2) := by decide +kernel
theorem dX3_free_47 : decode cX3_free 47 = .ok (.iload_n 1, 1) := by decide +kernel
theorem dX3_free_48 : decode cX3_free 48 = .ok (.invokevirtual 256, 3) := by decide +kernel
theorem dX3_free_51 : decode cX3_free 51 = .ok (.lstore 7, 2) := by decide +kernel
theorem dX3_free_53 : decode cX3_free 53 = .ok (.lload 7, 2) := by decide +kernel
theorem dX3_free_55 : decode cX3_free 55 = .ok (.lload 4, 2) := by decide +kernel
theorem dX3_free_57 : decode cX3_free 57 = .ok (.lcmp, 1) := by decide +kernel
theorem dX3_free_58 : decode cX3_free 58 = .ok (.ifCond .le 10, 3) := by decide +kernel
theorem dX3_free_61 : decode cX3_free 61 = .ok (.lload 7, 2) := by decide +kernel
theorem dX3_free_63 : decode cX3_free 63 = .ok (.lstore 4, 2) := by decide +kernel
theorem dX3_free_65 : decode cX3_free 65 = .ok (.iload 6, 2) := by decide +kernel
theorem dX3_free_67 : decode cX3_free 67 = .ok (.istore_n 3, 1) := by decide +kernel
theorem dX3_free_68 : decode cX3_free 68 = .ok (.iinc 6 1, 3) := by decide +kernel
theorem dX3_free_71 : decode cX3_free 71 = .ok (.goto (-33), 3) := by decide +kernel
theorem dX3_free_74 : decode cX3_free 74 = .ok (.iload_n 3, 1) := by decide +kernel
theorem dX3_free_75 : decode cX3_free 75 = .ok (.ireturn, 1) := by decide +kernel
theorem dX3_freeWorth_0 : decode cX3_freeWorth 0 = .ok (.aload_n 0, 1) := by decide +kernel
theorem dX3_freeWorth_1 : decode cX3_freeWorth 1 = .ok (.iload_n 1, 1) := by decide +kernel
theorem dX3_freeWorth_2 : decode cX3_freeWorth 2 = .ok (.iconst 3, 1) := by decide +kernel
theorem dX3_freeWorth_3 : decode cX3_freeWorth 3 = .ok (.invokestatic 70, 3) := by decide +kernel
theorem dX3_freeWorth_6 : decode cX3_freeWorth 6 = .ok (.iload_n 2, 1) := by decide +kernel
theorem dX3_freeWorth_7 : decode cX3_freeWorth 7 = .ok (.iconst 2, 1) := by decide +kernel
theorem dX3_freeWorth_8 : decode cX3_freeWorth 8 = .ok (.invokestatic 70, 3) := by decide +kernel
theorem dX3_freeWorth_11 : decode cX3_freeWorth 11 = .ok (.invokevirtual 175, 3) := by decide +kernel
theorem dX3_freeWorth_14 : decode cX3_freeWorth 14 = .ok (.istore_n 3, 1) := by decide +kernel
theorem dX3_freeWorth_15 : decode cX3_freeWorth 15 = .ok (.iload_n 3, 1) := by decide +kernel
theorem dX3_freeWorth_16 : decode cX3_freeWorth 16 = .ok (.ifCond .eq 9, 3) := by decide +kernel
theorem dX3_freeWorth_19 : decode cX3_freeWorth 19 = .ok (.aload_n 0, 1) := by decide +kernel
theorem dX3_freeWorth_20 : decode cX3_freeWorth 20 = .ok (.iload_n 3, 1) := by decide +kernel
theorem dX3_freeWorth_21 : decode cX3_freeWorth 21 = .ok (.invokevirtual 195, 3) := by decide +kernel
theorem dX3_freeWorth_24 : decode cX3_freeWorth 24 = .ok (.lreturn, 1) := by decide +kernel
theorem dX3_freeWorth_25 : decode cX3_freeWorth 25 = .ok (.aload_n 0, 1) := by decide +kernel
theorem dX3_freeWorth_26 : decode cX3_freeWorth 26 = .ok (.invokevirtual 189, 3) := by decide +kernel
theorem dX3_freeWorth_29 : decode cX3_freeWorth 29 = .ok (.aload_n 0, 1) := by decide +kernel
theorem dX3_freeWorth_30 : decode cX3_freeWorth 30 = .ok (.iconst 0, 1) := by decide +kernel
theorem dX3_freeWorth_31 : decode cX3_freeWorth 31 = .ok (.iload_n 1, 1) := by decide +kernel
theorem dX3_freeWorth_32 : decode cX3_freeWorth 32 = .ok (.invokevirtual 256, 3) := by decide +kernel
theorem dX3_freeWorth_35 : decode cX3_freeWorth 35 = .ok (.lstore 4, 2) := by decide +kernel
theorem dX3_freeWorth_37 : decode cX3_freeWorth 37 = .ok (.iconst 1, 1) := by decide +kernel
theorem dX3_freeWorth_38 : decode cX3_freeWorth 38 = .ok (.istore 6, 2) := by decide +kernel
theorem dX3_freeWorth_40 : decode cX3_freeWorth 40 = .ok (.iload 6, 2) := by decide +kernel
theorem dX3_freeWorth_42 : decode cX3_freeWorth 42 = .ok (.iconst 4, 1) := by decide +kernel
theorem dX3_freeWorth_43 : decode cX3_freeWorth 43 = .ok (.if_icmp .ge 23, 3) := by decide +kernel
theorem dX3_freeWorth_46 : decode cX3_freeWorth 46 = .ok (.lload 4, 2) := by decide +kernel
theorem dX3_freeWorth_48 : decode cX3_freeWorth 48 = .ok (.aload_n 0, 1) := by decide +kernel
theorem dX3_freeWorth_49 : decode cX3_freeWorth 49 = .ok (.iload 6, 2) := by decide +kernel
theorem dX3_freeWorth_51 : decode cX3_freeWorth 51 = .ok (.iload_n 1, 1) := by decide +kernel
theorem dX3_freeWorth_52 : decode cX3_freeWorth 52 = .ok (.invokevirtual 256, 3) := by decide +kernel
theorem dX3_freeWorth_55 : decode cX3_freeWorth 55 = .ok (.invokestatic 251, 3) := by decide +kernel
theorem dX3_freeWorth_58 : decode cX3_freeWorth 58 = .ok (.lstore 4, 2) := by decide +kernel
theorem dX3_freeWorth_60 : decode cX3_freeWorth 60 = .ok (.iinc 6 1, 3) := by decide +kernel
theorem dX3_freeWorth_63 : decode cX3_freeWorth 63 = .ok (.goto (-23), 3) := by decide +kernel
theorem dX3_freeWorth_66 : decode cX3_freeWorth 66 = .ok (.lload 4, 2) := by decide +kernel
theorem dX3_freeWorth_68 : decode cX3_freeWorth 68 = .ok (.ldc2_w 254, 3) := by decide +kernel
theorem dX3_freeWorth_71 : decode cX3_freeWorth 71 = .ok (.aload_n 0, 1) := by decide +kernel
theorem dX3_freeWorth_72 : decode cX3_freeWorth 72 = .ok (.getfield 56, 3) := by decide +kernel
theorem dX3_freeWorth_75 : decode cX3_freeWorth 75 = .ok (.invokevirtual 203, 3) := by decide +kernel
theorem dX3_freeWorth_78 : decode cX3_freeWorth 78 = .ok (.lmul, 1) := by decide +kernel
theorem dX3_freeWorth_79 : decode cX3_freeWorth 79 = .ok (.iload_n 2, 1) := by decide +kernel
theorem dX3_freeWorth_80 : decode cX3_freeWorth 80 = .ok (.invokestatic 207, 3) := by decide +kernel
theorem dX3_freeWorth_83 : decode cX3_freeWorth 83 = .ok (.lreturn, 1) := by decide +kernel
theorem dX3_useless_0 : decode cX3_useless 0 = .ok (.aload_n 0, 1) := by decide +kernel
theorem dX3_useless_1 : decode cX3_useless 1 = .ok (.iload_n 1, 1) := by decide +kernel
theorem dX3_useless_2 : decode cX3_useless 2 = .ok (.iconst 3, 1) := by decide +kernel
theorem dX3_useless_3 : decode cX3_useless 3 = .ok (.invokestatic 70, 3) := by decide +kernel
theorem dX3_useless_6 : decode cX3_useless 6 = .ok (.iconst 1, 1) := by decide +kernel
theorem dX3_useless_7 : decode cX3_useless 7 = .ok (.invokevirtual 175, 3) := by decide +kernel
theorem dX3_useless_10 : decode cX3_useless 10 = .ok (.istore_n 2, 1) := by decide +kernel
theorem dX3_useless_11 : decode cX3_useless 11 = .ok (.iload_n 2, 1) := by decide +kernel
theorem dX3_useless_12 : decode cX3_useless 12 = .ok (.ifCond .eq 9, 3) := by decide +kernel
theorem dX3_useless_15 : decode cX3_useless 15 = .ok (.aload_n 0, 1) := by decide +kernel
theorem dX3_useless_16 : decode cX3_useless 16 = .ok (.iload_n 2, 1) := by decide +kernel
theorem dX3_useless_17 : decode cX3_useless 17 = .ok (.invokevirtual 74, 3) := by decide +kernel
theorem dX3_useless_20 : decode cX3_useless 20 = .ok (.ireturn, 1) := by decide +kernel
theorem dX3_useless_21 : decode cX3_useless 21 = .ok (.aload_n 0, 1) := by decide +kernel
theorem dX3_useless_22 : decode cX3_useless 22 = .ok (.invokevirtual 189, 3) := by decide +kernel
theorem dX3_useless_25 : decode cX3_useless 25 = .ok (.aload_n 0, 1) := by decide +kernel
theorem dX3_useless_26 : decode cX3_useless 26 = .ok (.getfield 12, 3) := by decide +kernel
theorem dX3_useless_29 : decode cX3_useless 29 = .ok (.iload_n 1, 1) := by decide +kernel
theorem dX3_useless_30 : decode cX3_useless 30 = .ok (.aload_n 0, 1) := by decide +kernel
theorem dX3_useless_31 : decode cX3_useless 31 = .ok (.getfield 56, 3) := by decide +kernel
theorem dX3_useless_34 : decode cX3_useless 34 = .ok (.invokevirtual 215, 3) := by decide +kernel
theorem dX3_useless_37 : decode cX3_useless 37 = .ok (.istore_n 3, 1) := by decide +kernel
theorem dX3_useless_38 : decode cX3_useless 38 = .ok (.iconst 0, 1) := by decide +kernel
theorem dX3_useless_39 : decode cX3_useless 39 = .ok (.istore 4, 2) := by decide +kernel
theorem dX3_useless_41 : decode cX3_useless 41 = .ok (.iconst 0, 1) := by decide +kernel
theorem dX3_useless_42 : decode cX3_useless 42 = .ok (.istore 5, 2) := by decide +kernel
theorem dX3_useless_44 : decode cX3_useless 44 = .ok (.iload 5, 2) := by decide +kernel
theorem dX3_useless_46 : decode cX3_useless 46 = .ok (.iconst 4, 1) := by decide +kernel
theorem dX3_useless_47 : decode cX3_useless 47 = .ok (.if_icmp .ge 29, 3) := by decide +kernel
theorem dX3_useless_50 : decode cX3_useless 50 = .ok (.aload_n 0, 1) := by decide +kernel
theorem dX3_useless_51 : decode cX3_useless 51 = .ok (.iload 5, 2) := by decide +kernel
theorem dX3_useless_53 : decode cX3_useless 53 = .ok (.iload_n 1, 1) := by decide +kernel
theorem dX3_useless_54 : decode cX3_useless 54 = .ok (.iload_n 3, 1) := by decide +kernel
theorem dX3_useless_55 : decode cX3_useless 55 = .ok (.invokevirtual 259, 3) := by decide +kernel
theorem dX3_useless_58 : decode cX3_useless 58 = .ok (.ifCond .eq 12, 3) := by decide +kernel
theorem dX3_useless_61 : decode cX3_useless 61 = .ok (.iload 4, 2) := by decide +kernel
theorem dX3_useless_63 : decode cX3_useless 63 = .ok (.iconst 1, 1) := by decide +kernel
theorem dX3_useless_64 : decode cX3_useless 64 = .ok (.iload 5, 2) := by decide +kernel
theorem dX3_useless_66 : decode cX3_useless 66 = .ok (.ishl, 1) := by decide +kernel
theorem dX3_useless_67 : decode cX3_useless 67 = .ok (.ior, 1) := by decide +kernel
theorem dX3_useless_68 : decode cX3_useless 68 = .ok (.istore 4, 2) := by decide +kernel
theorem dX3_useless_70 : decode cX3_useless 70 = .ok (.iinc 5 1, 3) := by decide +kernel
theorem dX3_useless_73 : decode cX3_useless 73 = .ok (.goto (-29), 3) := by decide +kernel
theorem dX3_useless_76 : decode cX3_useless 76 = .ok (.iload 4, 2) := by decide +kernel
theorem dX3_useless_78 : decode cX3_useless 78 = .ok (.ireturn, 1) := by decide +kernel
theorem dX3_staysBest_0 : decode cX3_staysBest 0 = .ok (.iconst 0, 1) := by decide +kernel
theorem dX3_staysBest_1 : decode cX3_staysBest 1 = .ok (.istore 4, 2) := by decide +kernel
theorem dX3_staysBest_3 : decode cX3_staysBest 3 = .ok (.iload 4, 2) := by decide +kernel
theorem dX3_staysBest_5 : decode cX3_staysBest 5 = .ok (.iconst 1, 1) := by decide +kernel
theorem dX3_staysBest_6 : decode cX3_staysBest 6 = .ok (.if_icmp .gt 57, 3) := by decide +kernel
theorem dX3_staysBest_9 : decode cX3_staysBest 9 = .ok (.aload_n 0, 1) := by decide +kernel
theorem dX3_staysBest_10 : decode cX3_staysBest 10 = .ok (.getfield 60, 3) := by decide +kernel
theorem dX3_staysBest_13 : decode cX3_staysBest 13 = .ok (.aload_n 0, 1) := by decide +kernel
theorem dX3_staysBest_14 : decode cX3_staysBest 14 = .ok (.getfield 56, 3) := by decide +kernel
theorem dX3_staysBest_17 : decode cX3_staysBest 17 = .ok (.aload_n 0, 1) := by decide +kernel
theorem dX3_staysBest_18 : decode cX3_staysBest 18 = .ok (.getfield 46, 3) := by decide +kernel
theorem dX3_staysBest_21 : decode cX3_staysBest 21 = .ok (.iload_n 1, 1) := by decide +kernel
theorem dX3_staysBest_22 : decode cX3_staysBest 22 = .ok (.iload 4, 2) := by decide +kernel
theorem dX3_staysBest_24 : decode cX3_staysBest 24 = .ok (.invokevirtual 236, 3) := by decide +kernel
theorem dX3_staysBest_27 : decode cX3_staysBest 27 = .ok (.aload_n 0, 1) := by decide +kernel
theorem dX3_staysBest_28 : decode cX3_staysBest 28 = .ok (.getfield 60, 3) := by decide +kernel
theorem dX3_staysBest_31 : decode cX3_staysBest 31 = .ok (.invokevirtual 203, 3) := by decide +kernel
theorem dX3_staysBest_34 : decode cX3_staysBest 34 = .ok (.lconst 0, 1) := by decide +kernel
theorem dX3_staysBest_35 : decode cX3_staysBest 35 = .ok (.lcmp, 1) := by decide +kernel
theorem dX3_staysBest_36 : decode cX3_staysBest 36 = .ok (.ifCond .le 21, 3) := by decide +kernel
theorem dX3_staysBest_39 : decode cX3_staysBest 39 = .ok (.aload_n 0, 1) := by decide +kernel
theorem dX3_staysBest_40 : decode cX3_staysBest 40 = .ok (.getfield 12, 3) := by decide +kernel
theorem dX3_staysBest_43 : decode cX3_staysBest 43 = .ok (.iload_n 2, 1) := by decide +kernel
theorem dX3_staysBest_44 : decode cX3_staysBest 44 = .ok (.aload_n 0, 1) := by decide +kernel
theorem dX3_staysBest_45 : decode cX3_staysBest 45 = .ok (.getfield 60, 3) := by decide +kernel
theorem dX3_staysBest_48 : decode cX3_staysBest 48 = .ok (.invokevirtual 215, 3) := by decide +kernel
theorem dX3_staysBest_51 : decode cX3_staysBest 51 = .ok (.iload_n 3, 1) := by decide +kernel
theorem dX3_staysBest_52 : decode cX3_staysBest 52 = .ok (.if_icmp .eq 5, 3) := by decide +kernel
theorem dX3_staysBest_55 : decode cX3_staysBest 55 = .ok (.iconst 0, 1) := by decide +kernel
theorem dX3_staysBest_56 : decode cX3_staysBest 56 = .ok (.ireturn, 1) := by decide +kernel
theorem dX3_staysBest_57 : decode cX3_staysBest 57 = .ok (.iinc 4 1, 3) := by decide +kernel
theorem dX3_staysBest_60 : decode cX3_staysBest 60 = .ok (.goto (-57), 3) := by decide +kernel
theorem dX3_staysBest_63 : decode cX3_staysBest 63 = .ok (.iconst 1, 1) := by decide +kernel
theorem dX3_staysBest_64 : decode cX3_staysBest 64 = .ok (.ireturn, 1) := by decide +kernel
theorem dX3_testWorth_0 : decode cX3_testWorth 0 = .ok (.bipush (-10), 2) := by decide +kernel
theorem dX3_testWorth_2 : decode cX3_testWorth 2 = .ok (.aload_n 0, 1) := by decide +kernel
theorem dX3_testWorth_3 : decode cX3_testWorth 3 = .ok (.getfield 46, 3) := by decide +kernel
theorem dX3_testWorth_6 : decode cX3_testWorth 6 = .ok (.getfield 150, 3) := by decide +kernel
theorem dX3_testWorth_9 : decode cX3_testWorth 9 = .ok (.imul, 1) := by decide +kernel
theorem dX3_testWorth_10 : decode cX3_testWorth 10 = .ok (.i2l, 1) := by decide +kernel
theorem dX3_testWorth_11 : decode cX3_testWorth 11 = .ok (.aload_n 0, 1) := by decide +kernel
theorem dX3_testWorth_12 : decode cX3_testWorth 12 = .ok (.getfield 12, 3) := by decide +kernel
theorem dX3_testWorth_15 : decode cX3_testWorth 15 = .ok (.iload_n 2, 1) := by decide +kernel
theorem dX3_testWorth_16 : decode cX3_testWorth 16 = .ok (.aload_n 3, 1) := by decide +kernel
theorem dX3_testWorth_17 : decode cX3_testWorth 17 = .ok (.invokevirtual 263, 3) := by decide +kernel
theorem dX3_testWorth_20 : decode cX3_testWorth 20 = .ok (.lmul, 1) := by decide +kernel
theorem dX3_testWorth_21 : decode cX3_testWorth 21 = .ok (.lstore 4, 2) := by decide +kernel
theorem dX3_testWorth_23 : decode cX3_testWorth 23 = .ok (.iconst 0, 1) := by decide +kernel
theorem dX3_testWorth_24 : decode cX3_testWorth 24 = .ok (.istore 6, 2) := by decide +kernel
theorem dX3_testWorth_26 : decode cX3_testWorth 26 = .ok (.iload 6, 2) := by decide +kernel
theorem dX3_testWorth_28 : decode cX3_testWorth 28 = .ok (.iconst 1, 1) := by decide +kernel
theorem dX3_testWorth_29 : decode cX3_testWorth 29 = .ok (.if_icmp .gt 50, 3) := by decide +kernel
theorem dX3_testWorth_32 : decode cX3_testWorth 32 = .ok (.aload_n 0, 1) := by decide +kernel
theorem dX3_testWorth_33 : decode cX3_testWorth 33 = .ok (.getfield 63, 3) := by decide +kernel
theorem dX3_testWorth_36 : decode cX3_testWorth 36 = .ok (.aload_n 3, 1) := by decide +kernel
theorem dX3_testWorth_37 : decode cX3_testWorth 37 = .ok (.aload_n 0, 1) := by decide +kernel
theorem dX3_testWorth_38 : decode cX3_testWorth 38 = .ok (.getfield 46, 3) := by decide +kernel
theorem dX3_testWorth_41 : decode cX3_testWorth 41 = .ok (.iload_n 1, 1) := by decide +kernel
theorem dX3_testWorth_42 : decode cX3_testWorth 42 = .ok (.iload 6, 2) := by decide +kernel
theorem dX3_testWorth_44 : decode cX3_testWorth 44 = .ok (.invokevirtual 236, 3) := by decide +kernel
theorem dX3_testWorth_47 : decode cX3_testWorth 47 = .ok (.lload 4, 2) := by decide +kernel
theorem dX3_testWorth_49 : decode cX3_testWorth 49 = .ok (.aload_n 0, 1) := by decide +kernel
theorem dX3_testWorth_50 : decode cX3_testWorth 50 = .ok (.getfield 46, 3) := by decide +kernel
theorem dX3_testWorth_53 : decode cX3_testWorth 53 = .ok (.getfield 150, 3) := by decide +kernel
theorem dX3_testWorth_56 : decode cX3_testWorth 56 = .ok (.i2l, 1) := by decide +kernel
theorem dX3_testWorth_57 : decode cX3_testWorth 57 = .ok (.aload_n 0, 1) := by decide +kernel
theorem dX3_testWorth_58 : decode cX3_testWorth 58 = .ok (.getfield 12, 3) := by decide +kernel
theorem dX3_testWorth_61 : decode cX3_testWorth 61 = .ok (.iload_n 2, 1) := by decide +kernel
theorem dX3_testWorth_62 : decode cX3_testWorth 62 = .ok (.aload_n 0, 1) := by decide +kernel
theorem dX3_testWorth_63 : decode cX3_testWorth 63 = .ok (.getfield 63, 3) := by decide +kernel
theorem dX3_testWorth_66 : decode cX3_testWorth 66 = .ok (.invokevirtual 263, 3) := by decide +kernel
theorem dX3_testWorth_69 : decode cX3_testWorth 69 = .ok (.lmul, 1) := by decide +kernel
theorem dX3_testWorth_70 : decode cX3_testWorth 70 = .ok (.ladd, 1) := by decide +kernel
theorem dX3_testWorth_71 : decode cX3_testWorth 71 = .ok (.lstore 4, 2) := by decide +kernel
theorem dX3_testWorth_73 : decode cX3_testWorth 73 = .ok (.iinc 6 1, 3) := by decide +kernel
theorem dX3_testWorth_76 : decode cX3_testWorth 76 = .ok (.goto (-50), 3) := by decide +kernel
theorem dX3_testWorth_79 : decode cX3_testWorth 79 = .ok (.lload 4, 2) := by decide +kernel
theorem dX3_testWorth_81 : decode cX3_testWorth 81 = .ok (.bipush 10, 2) := by decide +kernel
theorem dX3_testWorth_83 : decode cX3_testWorth 83 = .ok (.aload_n 0, 1) := by decide +kernel
theorem dX3_testWorth_84 : decode cX3_testWorth 84 = .ok (.getfield 12, 3) := by decide +kernel
theorem dX3_testWorth_87 : decode cX3_testWorth 87 = .ok (.iload_n 1, 1) := by decide +kernel
theorem dX3_testWorth_88 : decode cX3_testWorth 88 = .ok (.invokevirtual 186, 3) := by decide +kernel
theorem dX3_testWorth_91 : decode cX3_testWorth 91 = .ok (.imul, 1) := by decide +kernel
theorem dX3_testWorth_92 : decode cX3_testWorth 92 = .ok (.i2l, 1) := by decide +kernel
theorem dX3_testWorth_93 : decode cX3_testWorth 93 = .ok (.aload_n 3, 1) := by decide +kernel
theorem dX3_testWorth_94 : decode cX3_testWorth 94 = .ok (.invokevirtual 203, 3) := by decide +kernel
theorem dX3_testWorth_97 : decode cX3_testWorth 97 = .ok (.lmul, 1) := by decide +kernel
theorem dX3_testWorth_98 : decode cX3_testWorth 98 = .ok (.lsub, 1) := by decide +kernel
theorem dX3_testWorth_99 : decode cX3_testWorth 99 = .ok (.lreturn, 1) := by decide +kernel
theorem dX3_pairWorth_0 : decode cX3_pairWorth 0 = .ok (.iload_n 1, 1) := by decide +kernel
theorem dX3_pairWorth_1 : decode cX3_pairWorth 1 = .ok (.iconst 4, 1) := by decide +kernel
theorem dX3_pairWorth_2 : decode cX3_pairWorth 2 = .ok (.idiv, 1) := by decide +kernel
theorem dX3_pairWorth_3 : decode cX3_pairWorth 3 = .ok (.istore_n 3, 1) := by decide +kernel
theorem dX3_pairWorth_4 : decode cX3_pairWorth 4 = .ok (.iload_n 1, 1) := by decide +kernel
theorem dX3_pairWorth_5 : decode cX3_pairWorth 5 = .ok (.iconst 4, 1) := by decide +kernel
theorem dX3_pairWorth_6 : decode cX3_pairWorth 6 = .ok (.irem, 1) := by decide +kernel
theorem dX3_pairWorth_7 : decode cX3_pairWorth 7 = .ok (.istore 4, 2) := by decide +kernel
theorem dX3_pairWorth_9 : decode cX3_pairWorth 9 = .ok (.ldc2_w 246, 3) := by decide +kernel
theorem dX3_pairWorth_12 : decode cX3_pairWorth 12 = .ok (.aload_n 0, 1) := by decide +kernel
theorem dX3_pairWorth_13 : decode cX3_pairWorth 13 = .ok (.iload_n 3, 1) := by decide +kernel
theorem dX3_pairWorth_14 : decode cX3_pairWorth 14 = .ok (.iload_n 2, 1) := by decide +kernel
theorem dX3_pairWorth_15 : decode cX3_pairWorth 15 = .ok (.aload_n 0, 1) := by decide +kernel
theorem dX3_pairWorth_16 : decode cX3_pairWorth 16 = .ok (.getfield 56, 3) := by decide +kernel
theorem dX3_pairWorth_19 : decode cX3_pairWorth 19 = .ok (.invokevirtual 243, 3) := by decide +kernel
theorem dX3_pairWorth_22 : decode cX3_pairWorth 22 = .ok (.lmul, 1) := by decide +kernel
theorem dX3_pairWorth_23 : decode cX3_pairWorth 23 = .ok (.lstore 5, 2) := by decide +kernel
theorem dX3_pairWorth_25 : decode cX3_pairWorth 25 = .ok (.iconst 0, 1) := by decide +kernel
theorem dX3_pairWorth_26 : decode cX3_pairWorth 26 = .ok (.istore 7, 2) := by decide +kernel
theorem dX3_pairWorth_28 : decode cX3_pairWorth 28 = .ok (.iload 7, 2) := by decide +kernel
theorem dX3_pairWorth_30 : decode cX3_pairWorth 30 = .ok (.iconst 1, 1) := by decide +kernel
theorem dX3_pairWorth_31 : decode cX3_pairWorth 31 = .ok (.if_icmp .gt 43, 3) := by decide +kernel
theorem dX3_pairWorth_34 : decode cX3_pairWorth 34 = .ok (.aload_n 0, 1) := by decide +kernel
theorem dX3_pairWorth_35 : decode cX3_pairWorth 35 = .ok (.getfield 60, 3) := by decide +kernel
theorem dX3_pairWorth_38 : decode cX3_pairWorth 38 = .ok (.aload_n 0, 1) := by decide +kernel
theorem dX3_pairWorth_39 : decode cX3_pairWorth 39 = .ok (.getfield 56, 3) := by decide +kernel
theorem dX3_pairWorth_42 : decode cX3_pairWorth 42 = .ok (.aload_n 0, 1) := by decide +kernel
theorem dX3_pairWorth_43 : decode cX3_pairWorth 43 = .ok (.getfield 46, 3) := by decide +kernel
theorem dX3_pairWorth_46 : decode cX3_pairWorth 46 = .ok (.iload_n 3, 1) := by decide +kernel
theorem dX3_pairWorth_47 : decode cX3_pairWorth 47 = .ok (.iload 7, 2) := by decide +kernel
theorem dX3_pairWorth_49 : decode cX3_pairWorth 49 = .ok (.invokevirtual 236, 3) := by decide +kernel
theorem dX3_pairWorth_52 : decode cX3_pairWorth 52 = .ok (.lload 5, 2) := by decide +kernel
theorem dX3_pairWorth_54 : decode cX3_pairWorth 54 = .ok (.aload_n 0, 1) := by decide +kernel
theorem dX3_pairWorth_55 : decode cX3_pairWorth 55 = .ok (.iload 4, 2) := by decide +kernel
theorem dX3_pairWorth_57 : decode cX3_pairWorth 57 = .ok (.iload_n 2, 1) := by decide +kernel
theorem dX3_pairWorth_58 : decode cX3_pairWorth 58 = .ok (.aload_n 0, 1) := by decide +kernel
theorem dX3_pairWorth_59 : decode cX3_pairWorth 59 = .ok (.getfield 60, 3) := by decide +kernel
theorem dX3_pairWorth_62 : decode cX3_pairWorth 62 = .ok (.invokevirtual 243, 3) := by decide +kernel
theorem dX3_pairWorth_65 : decode cX3_pairWorth 65 = .ok (.ladd, 1) := by decide +kernel
theorem dX3_pairWorth_66 : decode cX3_pairWorth 66 = .ok (.lstore 5, 2) := by decide +kernel
theorem dX3_pairWorth_68 : decode cX3_pairWorth 68 = .ok (.iinc 7 1, 3) := by decide +kernel
theorem dX3_pairWorth_71 : decode cX3_pairWorth 71 = .ok (.goto (-43), 3) := by decide +kernel
theorem dX3_pairWorth_74 : decode cX3_pairWorth 74 = .ok (.lload 5, 2) := by decide +kernel
theorem dX3_pairWorth_76 : decode cX3_pairWorth 76 = .ok (.lreturn, 1) := by decide +kernel
theorem dX3_firstWorth_0 : decode cX3_firstWorth 0 = .ok (.ldc2_w 246, 3) := by decide +kernel
theorem dX3_firstWorth_3 : decode cX3_firstWorth 3 = .ok (.aload_n 0, 1) := by decide +kernel
theorem dX3_firstWorth_4 : decode cX3_firstWorth 4 = .ok (.iload_n 1, 1) := by decide +kernel
theorem dX3_firstWorth_5 : decode cX3_firstWorth 5 = .ok (.iload_n 2, 1) := by decide +kernel
theorem dX3_firstWorth_6 : decode cX3_firstWorth 6 = .ok (.aload_n 0, 1) := by decide +kernel
theorem dX3_firstWorth_7 : decode cX3_firstWorth 7 = .ok (.getfield 56, 3) := by decide +kernel
theorem dX3_firstWorth_10 : decode cX3_firstWorth 10 = .ok (.invokevirtual 243, 3) := by decide +kernel
theorem dX3_firstWorth_13 : decode cX3_firstWorth 13 = .ok (.lmul, 1) := by decide +kernel
theorem dX3_firstWorth_14 : decode cX3_firstWorth 14 = .ok (.lstore_n 3, 1) := by decide +kernel
theorem dX3_firstWorth_15 : decode cX3_firstWorth 15 = .ok (.iconst 0, 1) := by decide +kernel
theorem dX3_firstWorth_16 : decode cX3_firstWorth 16 = .ok (.istore 5, 2) := by decide +kernel
theorem dX3_firstWorth_18 : decode cX3_firstWorth 18 = .ok (.iload 5, 2) := by decide +kernel
theorem dX3_firstWorth_20 : decode cX3_firstWorth 20 = .ok (.iconst 1, 1) := by decide +kernel
theorem dX3_firstWorth_21 : decode cX3_firstWorth 21 = .ok (.if_icmp .gt 68, 3) := by decide +kernel
theorem dX3_firstWorth_24 : decode cX3_firstWorth 24 = .ok (.aload_n 0, 1) := by decide +kernel
theorem dX3_firstWorth_25 : decode cX3_firstWorth 25 = .ok (.getfield 60, 3) := by decide +kernel
theorem dX3_firstWorth_28 : decode cX3_firstWorth 28 = .ok (.aload_n 0, 1) := by decide +kernel
theorem dX3_firstWorth_29 : decode cX3_firstWorth 29 = .ok (.getfield 56, 3) := by decide +kernel
theorem dX3_firstWorth_32 : decode cX3_firstWorth 32 = .ok (.aload_n 0, 1) := by decide +kernel
theorem dX3_firstWorth_33 : decode cX3_firstWorth 33 = .ok (.getfield 46, 3) := by decide +kernel
theorem dX3_firstWorth_36 : decode cX3_firstWorth 36 = .ok (.iload_n 1, 1) := by decide +kernel
theorem dX3_firstWorth_37 : decode cX3_firstWorth 37 = .ok (.iload 5, 2) := by decide +kernel
theorem dX3_firstWorth_39 : decode cX3_firstWorth 39 = .ok (.invokevirtual 236, 3) := by decide +kernel
theorem dX3_firstWorth_42 : decode cX3_firstWorth 42 = .ok (.lconst 0, 1) := by decide +kernel
theorem dX3_firstWorth_43 : decode cX3_firstWorth 43 = .ok (.lstore 6, 2) := by decide +kernel
theorem dX3_firstWorth_45 : decode cX3_firstWorth 45 = .ok (.iconst 0, 1) := by decide +kernel
theorem dX3_firstWorth_46 : decode cX3_firstWorth 46 = .ok (.istore 8, 2) := by decide +kernel
theorem dX3_firstWorth_48 : decode cX3_firstWorth 48 = .ok (.iload 8, 2) := by decide +kernel
theorem dX3_firstWorth_50 : decode cX3_firstWorth 50 = .ok (.iconst 4, 1) := by decide +kernel
theorem dX3_firstWorth_51 : decode cX3_firstWorth 51 = .ok (.if_icmp .ge 27, 3) := by decide +kernel
theorem dX3_firstWorth_54 : decode cX3_firstWorth 54 = .ok (.lload 6, 2) := by decide +kernel
theorem dX3_firstWorth_56 : decode cX3_firstWorth 56 = .ok (.aload_n 0, 1) := by decide +kernel
theorem dX3_firstWorth_57 : decode cX3_firstWorth 57 = .ok (.iload 8, 2) := by decide +kernel
theorem dX3_firstWorth_59 : decode cX3_firstWorth 59 = .ok (.iload_n 2, 1) := by decide +kernel
theorem dX3_firstWorth_60 : decode cX3_firstWorth 60 = .ok (.aload_n 0, 1) := by decide +kernel
theorem dX3_firstWorth_61 : decode cX3_firstWorth 61 = .ok (.getfield 60, 3) := by decide +kernel
theorem dX3_firstWorth_64 : decode cX3_firstWorth 64 = .ok (.invokevirtual 243, 3) := by decide +kernel
theorem dX3_firstWorth_67 : decode cX3_firstWorth 67 = .ok (.invokestatic 251, 3) := by decide +kernel
theorem dX3_firstWorth_70 : decode cX3_firstWorth 70 = .ok (.lstore 6, 2) := by decide +kernel
theorem dX3_firstWorth_72 : decode cX3_firstWorth 72 = .ok (.iinc 8 1, 3) := by decide +kernel
theorem dX3_firstWorth_75 : decode cX3_firstWorth 75 = .ok (.goto (-27), 3) := by decide +kernel
theorem dX3_firstWorth_78 : decode cX3_firstWorth 78 = .ok (.lload_n 3, 1) := by decide +kernel
theorem dX3_firstWorth_79 : decode cX3_firstWorth 79 = .ok (.lload 6, 2) := by decide +kernel
theorem dX3_firstWorth_81 : decode cX3_firstWorth 81 = .ok (.ladd, 1) := by decide +kernel
theorem dX3_firstWorth_82 : decode cX3_firstWorth 82 = .ok (.lstore_n 3, 1) := by decide +kernel
theorem dX3_firstWorth_83 : decode cX3_firstWorth 83 = .ok (.iinc 5 1, 3) := by decide +kernel
theorem dX3_firstWorth_86 : decode cX3_firstWorth 86 = .ok (.goto (-68), 3) := by decide +kernel
theorem dX3_firstWorth_89 : decode cX3_firstWorth 89 = .ok (.lload_n 3, 1) := by decide +kernel
theorem dX3_firstWorth_90 : decode cX3_firstWorth 90 = .ok (.lreturn, 1) := by decide +kernel
theorem dX3_person_0 : decode cX3_person 0 = .ok (.iload_n 1, 1) := by decide +kernel
theorem dX3_person_1 : decode cX3_person 1 = .ok (.iconst 5, 1) := by decide +kernel
theorem dX3_person_2 : decode cX3_person 2 = .ok (.invokestatic 70, 3) := by decide +kernel
theorem dX3_person_5 : decode cX3_person 5 = .ok (.ifCond .ne 10, 3) := by decide +kernel
theorem dX3_person_8 : decode cX3_person 8 = .ok (.aload_n 0, 1) := by decide +kernel
theorem dX3_person_9 : decode cX3_person 9 = .ok (.bipush (-2), 2) := by decide +kernel
theorem dX3_person_11 : decode cX3_person 11 = .ok (.invokevirtual 74, 3) := by decide +kernel
theorem dX3_person_14 : decode cX3_person 14 = .ok (.ireturn, 1) := by decide +kernel
theorem dX3_person_15 : decode cX3_person 15 = .ok (.aload_n 0, 1) := by decide +kernel
theorem dX3_person_16 : decode cX3_person 16 = .ok (.getfield 12, 3) := by decide +kernel
theorem dX3_person_19 : decode cX3_person 19 = .ok (.iload_n 1, 1) := by decide +kernel
theorem dX3_person_20 : decode cX3_person 20 = .ok (.invokevirtual 266, 3) := by decide +kernel
theorem dX3_person_23 : decode cX3_person 23 = .ok (.ifCond .eq 13, 3) := by decide +kernel
theorem dX3_person_26 : decode cX3_person 26 = .ok (.aload_n 0, 1) := by decide +kernel
theorem dX3_person_27 : decode cX3_person 27 = .ok (.getfield 12, 3) := by decide +kernel
theorem dX3_person_30 : decode cX3_person 30 = .ok (.getfield 269, 3) := by decide +kernel
theorem dX3_person_33 : decode cX3_person 33 = .ok (.goto 9, 3) := by decide +kernel
theorem dX3_person_36 : decode cX3_person 36 = .ok (.aload_n 0, 1) := by decide +kernel
theorem dX3_person_37 : decode cX3_person 37 = .ok (.bipush (-6), 2) := by decide +kernel
theorem dX3_person_39 : decode cX3_person 39 = .ok (.invokevirtual 74, 3) := by decide +kernel
theorem dX3_person_42 : decode cX3_person 42 = .ok (.ireturn, 1) := by decide +kernel
theorem dX3_nobody_0 : decode cX3_nobody 0 = .ok (.aload_n 0, 1) := by decide +kernel
theorem dX3_nobody_1 : decode cX3_nobody 1 = .ok (.getfield 12, 3) := by decide +kernel
theorem dX3_nobody_4 : decode cX3_nobody 4 = .ok (.getfield 269, 3) := by decide +kernel
theorem dX3_nobody_7 : decode cX3_nobody 7 = .ok (.istore_n 1, 1) := by decide +kernel
theorem dX3_nobody_8 : decode cX3_nobody 8 = .ok (.aload_n 0, 1) := by decide +kernel
theorem dX3_nobody_9 : decode cX3_nobody 9 = .ok (.getfield 12, 3) := by decide +kernel
theorem dX3_nobody_12 : decode cX3_nobody 12 = .ok (.iconst 0, 1) := by decide +kernel
theorem dX3_nobody_13 : decode cX3_nobody 13 = .ok (.putfield 269, 3) := by decide +kernel
theorem dX3_nobody_16 : decode cX3_nobody 16 = .ok (.iload_n 1, 1) := by decide +kernel
theorem dX3_nobody_17 : decode cX3_nobody 17 = .ok (.ireturn, 1) := by decide +kernel
theorem dX3_said_0 : decode cX3_said 0 = .ok (.aload_n 0, 1) := by decide +kernel
theorem dX3_said_1 : decode cX3_said 1 = .ok (.iload_n 1, 1) := by decide +kernel
theorem dX3_said_2 : decode cX3_said 2 = .ok (.iconst 1, 1) := by decide +kernel
theorem dX3_said_3 : decode cX3_said 3 = .ok (.aload_n 0, 1) := by decide +kernel
theorem dX3_said_4 : decode cX3_said 4 = .ok (.getfield 12, 3) := by decide +kernel
theorem dX3_said_7 : decode cX3_said 7 = .ok (.getfield 269, 3) := by decide +kernel
theorem dX3_said_10 : decode cX3_said 10 = .ok (.ishl, 1) := by decide +kernel
theorem dX3_said_11 : decode cX3_said 11 = .ok (.invokestatic 70, 3) := by decide +kernel
theorem dX3_said_14 : decode cX3_said 14 = .ok (.iload_n 2, 1) := by decide +kernel
theorem dX3_said_15 : decode cX3_said 15 = .ok (.iconst 2, 1) := by decide +kernel
theorem dX3_said_16 : decode cX3_said 16 = .ok (.invokestatic 70, 3) := by decide +kernel
theorem dX3_said_19 : decode cX3_said 19 = .ok (.ifCond .eq 15, 3) := by decide +kernel
theorem dX3_said_22 : decode cX3_said 22 = .ok (.iload_n 3, 1) := by decide +kernel
theorem dX3_said_23 : decode cX3_said 23 = .ok (.iconst 2, 1) := by decide +kernel
theorem dX3_said_24 : decode cX3_said 24 = .ok (.invokestatic 70, 3) := by decide +kernel
theorem dX3_said_27 : decode cX3_said 27 = .ok (.ifCond .eq 7, 3) := by decide +kernel
theorem dX3_said_30 : decode cX3_said 30 = .ok (.iconst 1, 1) := by decide +kernel
theorem dX3_said_31 : decode cX3_said 31 = .ok (.goto 4, 3) := by decide +kernel
theorem dX3_said_34 : decode cX3_said 34 = .ok (.iconst 0, 1) := by decide +kernel
theorem dX3_said_35 : decode cX3_said 35 = .ok (.invokevirtual 175, 3) := by decide +kernel
theorem dX3_said_38 : decode cX3_said 38 = .ok (.istore 4, 2) := by decide +kernel
theorem dX3_said_40 : decode cX3_said 40 = .ok (.iload 4, 2) := by decide +kernel
theorem dX3_said_42 : decode cX3_said 42 = .ok (.ifCond .eq 10, 3) := by decide +kernel
theorem dX3_said_45 : decode cX3_said 45 = .ok (.aload_n 0, 1) := by decide +kernel
theorem dX3_said_46 : decode cX3_said 46 = .ok (.iload 4, 2) := by decide +kernel
theorem dX3_said_48 : decode cX3_said 48 = .ok (.invokevirtual 195, 3) := by decide +kernel
theorem dX3_said_51 : decode cX3_said 51 = .ok (.lreturn, 1) := by decide +kernel
theorem dX3_said_52 : decode cX3_said 52 = .ok (.aload_n 0, 1) := by decide +kernel
theorem dX3_said_53 : decode cX3_said 53 = .ok (.invokevirtual 189, 3) := by decide +kernel
theorem dX3_said_56 : decode cX3_said 56 = .ok (.aload_n 0, 1) := by decide +kernel
theorem dX3_said_57 : decode cX3_said 57 = .ok (.getfield 56, 3) := by decide +kernel
theorem dX3_said_60 : decode cX3_said 60 = .ok (.invokevirtual 203, 3) := by decide +kernel
theorem dX3_said_63 : decode cX3_said 63 = .ok (.lstore 5, 2) := by decide +kernel
theorem dX3_said_65 : decode cX3_said 65 = .ok (.iconst 0, 1) := by decide +kernel
theorem dX3_said_66 : decode cX3_said 66 = .ok (.istore 7, 2) := by decide +kernel
theorem dX3_said_68 : decode cX3_said 68 = .ok (.iload 7, 2) := by decide +kernel
theorem dX3_said_70 : decode cX3_said 70 = .ok (.aload_n 0, 1) := by decide +kernel
theorem dX3_said_71 : decode cX3_said 71 = .ok (.getfield 12, 3) := by decide +kernel
theorem dX3_said_74 : decode cX3_said 74 = .ok (.getfield 269, 3) := by decide +kernel
theorem dX3_said_77 : decode cX3_said 77 = .ok (.if_icmp .ge 39, 3) := by decide +kernel
theorem dX3_said_80 : decode cX3_said 80 = .ok (.aload_n 0, 1) := by decide +kernel
theorem dX3_said_81 : decode cX3_said 81 = .ok (.aload_n 0, 1) := by decide +kernel
theorem dX3_said_82 : decode cX3_said 82 = .ok (.getfield 12, 3) := by decide +kernel
theorem dX3_said_85 : decode cX3_said 85 = .ok (.getfield 272, 3) := by decide +kernel
theorem dX3_said_88 : decode cX3_said 88 = .ok (.iload 7, 2) := by decide +kernel
theorem dX3_said_90 : decode cX3_said 90 = .ok (.invokestatic 136, 3) := by decide +kernel
theorem dX3_said_93 : decode cX3_said 93 = .ok (.iload_n 1, 1) := by decide +kernel
theorem dX3_said_94 : decode cX3_said 94 = .ok (.iload 7, 2) := by decide +kernel
theorem dX3_said_96 : decode cX3_said 96 = .ok (.ishr, 1) := by decide +kernel
theorem dX3_said_97 : decode cX3_said 97 = .ok (.iconst 1, 1) := by decide +kernel
theorem dX3_said_98 : decode cX3_said 98 = .ok (.iand, 1) := by decide +kernel
theorem dX3_said_99 : decode cX3_said 99 = .ok (.invokevirtual 275, 3) := by decide +kernel
theorem dX3_said_102 : decode cX3_said 102 = .ok (.lload 5, 2) := by decide +kernel
theorem dX3_said_104 : decode cX3_said 104 = .ok (.ldc2_w 246, 3) := by decide +kernel
theorem dX3_said_107 : decode cX3_said 107 = .ok (.lmul, 1) := by decide +kernel
theorem dX3_said_108 : decode cX3_said 108 = .ok (.lstore 5, 2) := by decide +kernel
theorem dX3_said_110 : decode cX3_said 110 = .ok (.iinc 7 1, 3) := by decide +kernel
theorem dX3_said_113 : decode cX3_said 113 = .ok (.goto (-45), 3) := by decide +kernel
theorem dX3_said_116 : decode cX3_said 116 = .ok (.iload_n 2, 1) := by decide +kernel
theorem dX3_said_117 : decode cX3_said 117 = .ok (.ifCond .ne 17, 3) := by decide +kernel
theorem dX3_said_120 : decode cX3_said 120 = .ok (.aload_n 0, 1) := by decide +kernel
theorem dX3_said_121 : decode cX3_said 121 = .ok (.getfield 56, 3) := by decide +kernel
theorem dX3_said_124 : decode cX3_said 124 = .ok (.invokevirtual 203, 3) := by decide +kernel
theorem dX3_said_127 : decode cX3_said 127 = .ok (.lload 5, 2) := by decide +kernel
theorem dX3_said_129 : decode cX3_said 129 = .ok (.iload_n 3, 1) := by decide +kernel
theorem dX3_said_130 : decode cX3_said 130 = .ok (.invokestatic 207, 3) := by decide +kernel
theorem dX3_said_133 : decode cX3_said 133 = .ok (.lreturn, 1) := by decide +kernel
theorem dX3_said_134 : decode cX3_said 134 = .ok (.aload_n 0, 1) := by decide +kernel
theorem dX3_said_135 : decode cX3_said 135 = .ok (.getfield 56, 3) := by decide +kernel
theorem dX3_said_138 : decode cX3_said 138 = .ok (.iconst 0, 1) := by decide +kernel
theorem dX3_said_139 : decode cX3_said 139 = .ok (.iconst 1, 1) := by decide +kernel
theorem dX3_said_140 : decode cX3_said 140 = .ok (.invokevirtual 199, 3) := by decide +kernel
theorem dX3_said_143 : decode cX3_said 143 = .ok (.aload_n 0, 1) := by decide +kernel
theorem dX3_said_144 : decode cX3_said 144 = .ok (.getfield 56, 3) := by decide +kernel
theorem dX3_said_147 : decode cX3_said 147 = .ok (.invokevirtual 203, 3) := by decide +kernel
theorem dX3_said_150 : decode cX3_said 150 = .ok (.iload_n 3, 1) := by decide +kernel
theorem dX3_said_151 : decode cX3_said 151 = .ok (.invokestatic 207, 3) := by decide +kernel
theorem dX3_said_154 : decode cX3_said 154 = .ok (.lreturn, 1) := by decide +kernel
theorem dX3_ask_0 : decode cX3_ask 0 = .ok (.aload_n 0, 1) := by decide +kernel
theorem dX3_ask_1 : decode cX3_ask 1 = .ok (.iconst 1, 1) := by decide +kernel
theorem dX3_ask_2 : decode cX3_ask 2 = .ok (.iconst 1, 1) := by decide +kernel
theorem dX3_ask_3 : decode cX3_ask 3 = .ok (.invokevirtual 175, 3) := by decide +kernel
theorem dX3_ask_6 : decode cX3_ask 6 = .ok (.istore_n 1, 1) := by decide +kernel
theorem dX3_ask_7 : decode cX3_ask 7 = .ok (.iload_n 1, 1) := by decide +kernel
theorem dX3_ask_8 : decode cX3_ask 8 = .ok (.ifCond .eq 9, 3) := by decide +kernel
theorem dX3_ask_11 : decode cX3_ask 11 = .ok (.aload_n 0, 1) := by decide +kernel
theorem dX3_ask_12 : decode cX3_ask 12 = .ok (.iload_n 1, 1) := by decide +kernel
theorem dX3_ask_13 : decode cX3_ask 13 = .ok (.invokevirtual 74, 3) := by decide +kernel
theorem dX3_ask_16 : decode cX3_ask 16 = .ok (.ireturn, 1) := by decide +kernel
theorem dX3_ask_17 : decode cX3_ask 17 = .ok (.bipush (-9), 2) := by decide +kernel
theorem dX3_ask_19 : decode cX3_ask 19 = .ok (.istore_n 2, 1) := by decide +kernel
theorem dX3_ask_20 : decode cX3_ask 20 = .ok (.ldc2_w 279, 3) := by decide +kernel
theorem dX3_ask_23 : decode cX3_ask 23 = .ok (.lstore_n 3, 1) := by decide +kernel
theorem dX3_ask_24 : decode cX3_ask 24 = .ok (.iconst 0, 1) := by decide +kernel
theorem dX3_ask_25 : decode cX3_ask 25 = .ok (.istore 5, 2) := by decide +kernel
theorem dX3_ask_27 : decode cX3_ask 27 = .ok (.iload 5, 2) := by decide +kernel
theorem dX3_ask_29 : decode cX3_ask 29 = .ok (.aload_n 0, 1) := by decide +kernel
theorem dX3_ask_30 : decode cX3_ask 30 = .ok (.getfield 12, 3) := by decide +kernel
theorem dX3_ask_33 : decode cX3_ask 33 = .ok (.getfield 269, 3) := by decide +kernel
theorem dX3_ask_36 : decode cX3_ask 36 = .ok (.if_icmp .ge 40, 3) := by decide +kernel
theorem dX3_ask_39 : decode cX3_ask 39 = .ok (.aload_n 0, 1) := by decide +kernel
theorem dX3_ask_40 : decode cX3_ask 40 = .ok (.aload_n 0, 1) := by decide +kernel
theorem dX3_ask_41 : decode cX3_ask 41 = .ok (.getfield 12, 3) := by decide +kernel
theorem dX3_ask_44 : decode cX3_ask 44 = .ok (.getfield 272, 3) := by decide +kernel
theorem dX3_ask_47 : decode cX3_ask 47 = .ok (.iload 5, 2) := by decide +kernel
theorem dX3_ask_49 : decode cX3_ask 49 = .ok (.invokestatic 136, 3) := by decide +kernel
theorem dX3_ask_52 : decode cX3_ask 52 = .ok (.invokevirtual 281, 3) := by decide +kernel
theorem dX3_ask_55 : decode cX3_ask 55 = .ok (.lstore 6, 2) := by decide +kernel
theorem dX3_ask_57 : decode cX3_ask 57 = .ok (.lload 6, 2) := by decide +kernel
theorem dX3_ask_59 : decode cX3_ask 59 = .ok (.lload_n 3, 1) := by decide +kernel
theorem dX3_ask_60 : decode cX3_ask 60 = .ok (.lcmp, 1) := by decide +kernel
theorem dX3_ask_61 : decode cX3_ask 61 = .ok (.ifCond .le 9, 3) := by decide +kernel
theorem dX3_ask_64 : decode cX3_ask 64 = .ok (.lload 6, 2) := by decide +kernel
theorem dX3_ask_66 : decode cX3_ask 66 = .ok (.lstore_n 3, 1) := by decide +kernel
theorem dX3_ask_67 : decode cX3_ask 67 = .ok (.iload 5, 2) := by decide +kernel
theorem dX3_ask_69 : decode cX3_ask 69 = .ok (.istore_n 2, 1) := by decide +kernel
theorem dX3_ask_70 : decode cX3_ask 70 = .ok (.iinc 5 1, 3) := by decide +kernel
theorem dX3_ask_73 : decode cX3_ask 73 = .ok (.goto (-46), 3) := by decide +kernel
theorem dX3_ask_76 : decode cX3_ask 76 = .ok (.iload_n 2, 1) := by decide +kernel
theorem dX3_ask_77 : decode cX3_ask 77 = .ok (.ireturn, 1) := by decide +kernel
theorem dX3_hear_0 : decode cX3_hear 0 = .ok (.iconst 0, 1) := by decide +kernel
theorem dX3_hear_1 : decode cX3_hear 1 = .ok (.istore_n 3, 1) := by decide +kernel
theorem dX3_hear_2 : decode cX3_hear 2 = .ok (.iload_n 3, 1) := by decide +kernel
theorem dX3_hear_3 : decode cX3_hear 3 = .ok (.iconst 5, 1) := by decide +kernel
theorem dX3_hear_4 : decode cX3_hear 4 = .ok (.if_icmp .ge 40, 3) := by decide +kernel
theorem dX3_hear_7 : decode cX3_hear 7 = .ok (.aload_n 0, 1) := by decide +kernel
theorem dX3_hear_8 : decode cX3_hear 8 = .ok (.iload_n 1, 1) := by decide +kernel
theorem dX3_hear_9 : decode cX3_hear 9 = .ok (.iload_n 3, 1) := by decide +kernel
theorem dX3_hear_10 : decode cX3_hear 10 = .ok (.invokevirtual 284, 3) := by decide +kernel
theorem dX3_hear_13 : decode cX3_hear 13 = .ok (.istore 4, 2) := by decide +kernel
theorem dX3_hear_15 : decode cX3_hear 15 = .ok (.aload_n 0, 1) := by decide +kernel
theorem dX3_hear_16 : decode cX3_hear 16 = .ok (.getfield 56, 3) := by decide +kernel
theorem dX3_hear_19 : decode cX3_hear 19 = .ok (.iload_n 3, 1) := by decide +kernel
theorem dX3_hear_20 : decode cX3_hear 20 = .ok (.iload_n 2, 1) := by decide +kernel
theorem dX3_hear_21 : decode cX3_hear 21 = .ok (.iconst 1, 1) := by decide +kernel
theorem dX3_hear_22 : decode cX3_hear 22 = .ok (.if_icmp .ne 8, 3) := by decide +kernel
theorem dX3_hear_25 : decode cX3_hear 25 = .ok (.iload 4, 2) := by decide +kernel
theorem dX3_hear_27 : decode cX3_hear 27 = .ok (.goto 8, 3) := by decide +kernel
theorem dX3_hear_30 : decode cX3_hear 30 = .ok (.bipush 10, 2) := by decide +kernel
theorem dX3_hear_32 : decode cX3_hear 32 = .ok (.iload 4, 2) := by decide +kernel
theorem dX3_hear_34 : decode cX3_hear 34 = .ok (.isub, 1) := by decide +kernel
theorem dX3_hear_35 : decode cX3_hear 35 = .ok (.invokevirtual 287, 3) := by decide +kernel
theorem dX3_hear_38 : decode cX3_hear 38 = .ok (.iinc 3 1, 3) := by decide +kernel
theorem dX3_hear_41 : decode cX3_hear 41 = .ok (.goto (-39), 3) := by decide +kernel
theorem dX3_hear_44 : decode cX3_hear 44 = .ok (.return_, 1) := by decide +kernel
theorem dX3_toldRightly_0 : decode cX3_toldRightly 0 = .ok (.aload_n 0, 1) := by decide +kernel
theorem dX3_toldRightly_1 : decode cX3_toldRightly 1 = .ok (.invokevirtual 189, 3) := by decide +kernel
theorem dX3_toldRightly_4 : decode cX3_toldRightly 4 = .ok (.iconst 0, 1) := by decide +kernel
theorem dX3_toldRightly_5 : decode cX3_toldRightly 5 = .ok (.istore_n 2, 1) := by decide +kernel
theorem dX3_toldRightly_6 : decode cX3_toldRightly 6 = .ok (.iload_n 2, 1) := by decide +kernel
theorem dX3_toldRightly_7 : decode cX3_toldRightly 7 = .ok (.iconst 5, 1) := by decide +kernel
theorem dX3_toldRightly_8 : decode cX3_toldRightly 8 = .ok (.if_icmp .ge 37, 3) := by decide +kernel
theorem dX3_toldRightly_11 : decode cX3_toldRightly 11 = .ok (.aload_n 0, 1) := by decide +kernel
theorem dX3_toldRightly_12 : decode cX3_toldRightly 12 = .ok (.iload_n 1, 1) := by decide +kernel
theorem dX3_toldRightly_13 : decode cX3_toldRightly 13 = .ok (.iload_n 2, 1) := by decide +kernel
theorem dX3_toldRightly_14 : decode cX3_toldRightly 14 = .ok (.invokevirtual 284, 3) := by decide +kernel
theorem dX3_toldRightly_17 : decode cX3_toldRightly 17 = .ok (.istore_n 3, 1) := by decide +kernel
theorem dX3_toldRightly_18 : decode cX3_toldRightly 18 = .ok (.aload_n 0, 1) := by decide +kernel
theorem dX3_toldRightly_19 : decode cX3_toldRightly 19 = .ok (.getfield 56, 3) := by decide +kernel
theorem dX3_toldRightly_22 : decode cX3_toldRightly 22 = .ok (.iload_n 2, 1) := by decide +kernel
theorem dX3_toldRightly_23 : decode cX3_toldRightly 23 = .ok (.iload_n 2, 1) := by decide +kernel
theorem dX3_toldRightly_24 : decode cX3_toldRightly 24 = .ok (.iconst 2, 1) := by decide +kernel
theorem dX3_toldRightly_25 : decode cX3_toldRightly 25 = .ok (.if_icmp .lt 7, 3) := by decide +kernel
theorem dX3_toldRightly_28 : decode cX3_toldRightly 28 = .ok (.iload_n 3, 1) := by decide +kernel
theorem dX3_toldRightly_29 : decode cX3_toldRightly 29 = .ok (.goto 7, 3) := by decide +kernel
theorem dX3_toldRightly_32 : decode cX3_toldRightly 32 = .ok (.bipush 10, 2) := by decide +kernel
theorem dX3_toldRightly_34 : decode cX3_toldRightly 34 = .ok (.iload_n 3, 1) := by decide +kernel
theorem dX3_toldRightly_35 : decode cX3_toldRightly 35 = .ok (.isub, 1) := by decide +kernel
theorem dX3_toldRightly_36 : decode cX3_toldRightly 36 = .ok (.invokevirtual 287, 3) := by decide +kernel
theorem dX3_toldRightly_39 : decode cX3_toldRightly 39 = .ok (.iinc 2 1, 3) := by decide +kernel
theorem dX3_toldRightly_42 : decode cX3_toldRightly 42 = .ok (.goto (-36), 3) := by decide +kernel
theorem dX3_toldRightly_45 : decode cX3_toldRightly 45 = .ok (.aload_n 0, 1) := by decide +kernel
theorem dX3_toldRightly_46 : decode cX3_toldRightly 46 = .ok (.getfield 56, 3) := by decide +kernel
theorem dX3_toldRightly_49 : decode cX3_toldRightly 49 = .ok (.invokevirtual 203, 3) := by decide +kernel
theorem dX3_toldRightly_52 : decode cX3_toldRightly 52 = .ok (.lreturn, 1) := by decide +kernel
theorem dX3_personTenths_0 : decode cX3_personTenths 0 = .ok (.aload_n 0, 1) := by decide +kernel
theorem dX3_personTenths_1 : decode cX3_personTenths 1 = .ok (.getfield 46, 3) := by decide +kernel
theorem dX3_personTenths_4 : decode cX3_personTenths 4 = .ok (.iconst 0, 1) := by decide +kernel
theorem dX3_personTenths_5 : decode cX3_personTenths 5 = .ok (.iload_n 2, 1) := by decide +kernel
theorem dX3_personTenths_6 : decode cX3_personTenths 6 = .ok (.invokevirtual 192, 3) := by decide +kernel
theorem dX3_personTenths_9 : decode cX3_personTenths 9 = .ok (.istore_n 3, 1) := by decide +kernel
theorem dX3_personTenths_10 : decode cX3_personTenths 10 = .ok (.iload_n 1, 1) := by decide +kernel
theorem dX3_personTenths_11 : decode cX3_personTenths 11 = .ok (.tableswitch 48 1 4 #[29, 31, 34, 41], 29) := by decide +kernel
theorem dX3_personTenths_40 : decode cX3_personTenths 40 = .ok (.iconst 0, 1) := by decide +kernel
theorem dX3_personTenths_41 : decode cX3_personTenths 41 = .ok (.ireturn, 1) := by decide +kernel
theorem dX3_personTenths_42 : decode cX3_personTenths 42 = .ok (.bipush 10, 2) := by decide +kernel
theorem dX3_personTenths_44 : decode cX3_personTenths 44 = .ok (.ireturn, 1) := by decide +kernel
theorem dX3_personTenths_45 : decode cX3_personTenths 45 = .ok (.iload_n 3, 1) := by decide +kernel
theorem dX3_personTenths_46 : decode cX3_personTenths 46 = .ok (.iconst 3, 1) := by decide +kernel
theorem dX3_personTenths_47 : decode cX3_personTenths 47 = .ok (.isub, 1) := by decide +kernel
theorem dX3_personTenths_48 : decode cX3_personTenths 48 = .ok (.invokestatic 290, 3) := by decide +kernel
theorem dX3_personTenths_51 : decode cX3_personTenths 51 = .ok (.ireturn, 1) := by decide +kernel
theorem dX3_personTenths_52 : decode cX3_personTenths 52 = .ok (.iload_n 3, 1) := by decide +kernel
theorem dX3_personTenths_53 : decode cX3_personTenths 53 = .ok (.iconst 3, 1) := by decide +kernel
theorem dX3_personTenths_54 : decode cX3_personTenths 54 = .ok (.iadd, 1) := by decide +kernel
theorem dX3_personTenths_55 : decode cX3_personTenths 55 = .ok (.invokestatic 290, 3) := by decide +kernel
theorem dX3_personTenths_58 : decode cX3_personTenths 58 = .ok (.ireturn, 1) := by decide +kernel
theorem dX3_personTenths_59 : decode cX3_personTenths 59 = .ok (.iload_n 3, 1) := by decide +kernel
theorem dX3_personTenths_60 : decode cX3_personTenths 60 = .ok (.ireturn, 1) := by decide +kernel
theorem dX3_keep_0 : decode cX3_keep 0 = .ok (.aload_n 0, 1) := by decide +kernel
theorem dX3_keep_1 : decode cX3_keep 1 = .ok (.iload_n 1, 1) := by decide +kernel
theorem dX3_keep_2 : decode cX3_keep 2 = .ok (.iconst 3, 1) := by decide +kernel
theorem dX3_keep_3 : decode cX3_keep 3 = .ok (.invokestatic 70, 3) := by decide +kernel
theorem dX3_keep_6 : decode cX3_keep 6 = .ok (.iconst 1, 1) := by decide +kernel
theorem dX3_keep_7 : decode cX3_keep 7 = .ok (.invokevirtual 175, 3) := by decide +kernel
theorem dX3_keep_10 : decode cX3_keep 10 = .ok (.istore 4, 2) := by decide +kernel
theorem dX3_keep_12 : decode cX3_keep 12 = .ok (.iload 4, 2) := by decide +kernel
theorem dX3_keep_14 : decode cX3_keep 14 = .ok (.ifCond .eq 10, 3) := by decide +kernel
theorem dX3_keep_17 : decode cX3_keep 17 = .ok (.aload_n 0, 1) := by decide +kernel
theorem dX3_keep_18 : decode cX3_keep 18 = .ok (.iload 4, 2) := by decide +kernel
theorem dX3_keep_20 : decode cX3_keep 20 = .ok (.invokevirtual 74, 3) := by decide +kernel
theorem dX3_keep_23 : decode cX3_keep 23 = .ok (.ireturn, 1) := by decide +kernel
theorem dX3_keep_24 : decode cX3_keep 24 = .ok (.iload_n 2, 1) := by decide +kernel
theorem dX3_keep_25 : decode cX3_keep 25 = .ok (.ifCond .lt 7, 3) := by decide +kernel
theorem dX3_keep_28 : decode cX3_keep 28 = .ok (.iload_n 3, 1) := by decide +kernel
theorem dX3_keep_29 : decode cX3_keep 29 = .ok (.ifCond .ge 10, 3) := by decide +kernel
theorem dX3_keep_32 : decode cX3_keep 32 = .ok (.aload_n 0, 1) := by decide +kernel
theorem dX3_keep_33 : decode cX3_keep 33 = .ok (.bipush (-4), 2) := by decide +kernel
theorem dX3_keep_35 : decode cX3_keep 35 = .ok (.invokevirtual 74, 3) := by decide +kernel
theorem dX3_keep_38 : decode cX3_keep 38 = .ok (.ireturn, 1) := by decide +kernel
theorem dX3_keep_39 : decode cX3_keep 39 = .ok (.iload_n 2, 1) := by decide +kernel
theorem dX3_keep_40 : decode cX3_keep 40 = .ok (.bipush 7, 2) := by decide +kernel
theorem dX3_keep_42 : decode cX3_keep 42 = .ok (.if_icmp .gt 9, 3) := by decide +kernel
theorem dX3_keep_45 : decode cX3_keep 45 = .ok (.iload_n 3, 1) := by decide +kernel
theorem dX3_keep_46 : decode cX3_keep 46 = .ok (.bipush 9, 2) := by decide +kernel
theorem dX3_keep_48 : decode cX3_keep 48 = .ok (.if_icmp .le 10, 3) := by decide +kernel
theorem dX3_keep_51 : decode cX3_keep 51 = .ok (.aload_n 0, 1) := by decide +kernel
theorem dX3_keep_52 : decode cX3_keep 52 = .ok (.bipush (-6), 2) := by decide +kernel
theorem dX3_keep_54 : decode cX3_keep 54 = .ok (.invokevirtual 74, 3) := by decide +kernel
theorem dX3_keep_57 : decode cX3_keep 57 = .ok (.ireturn, 1) := by decide +kernel
theorem dX3_keep_58 : decode cX3_keep 58 = .ok (.aload_n 0, 1) := by decide +kernel
theorem dX3_keep_59 : decode cX3_keep 59 = .ok (.invokevirtual 189, 3) := by decide +kernel
theorem dX3_keep_62 : decode cX3_keep 62 = .ok (.aload_n 0, 1) := by decide +kernel
theorem dX3_keep_63 : decode cX3_keep 63 = .ok (.getfield 50, 3) := by decide +kernel
theorem dX3_keep_66 : decode cX3_keep 66 = .ok (.aload_n 0, 1) := by decide +kernel
theorem dX3_keep_67 : decode cX3_keep 67 = .ok (.getfield 46, 3) := by decide +kernel
theorem dX3_keep_70 : decode cX3_keep 70 = .ok (.invokevirtual 223, 3) := by decide +kernel
theorem dX3_keep_73 : decode cX3_keep 73 = .ok (.iconst 0, 1) := by decide +kernel
theorem dX3_keep_74 : decode cX3_keep 74 = .ok (.istore 5, 2) := by decide +kernel
theorem dX3_keep_76 : decode cX3_keep 76 = .ok (.lconst 0, 1) := by decide +kernel
theorem dX3_keep_77 : decode cX3_keep 77 = .ok (.lstore 6, 2) := by decide +kernel
theorem dX3_keep_79 : decode cX3_keep 79 = .ok (.lconst 1, 1) := by decide +kernel
theorem dX3_keep_80 : decode cX3_keep 80 = .ok (.lstore 8, 2) := by decide +kernel
theorem dX3_keep_82 : decode cX3_keep 82 = .ok (.iconst 0, 1) := by decide +kernel
theorem dX3_keep_83 : decode cX3_keep 83 = .ok (.istore 10, 2) := by decide +kernel
theorem dX3_keep_85 : decode cX3_keep 85 = .ok (.iload 10, 2) := by decide +kernel
theorem dX3_keep_87 : decode cX3_keep 87 = .ok (.iload_n 2, 1) := by decide +kernel
theorem dX3_keep_88 : decode cX3_keep 88 = .ok (.if_icmp .gt 110, 3) := by decide +kernel
theorem dX3_keep_91 : decode cX3_keep 91 = .ok (.aload_n 0, 1) := by decide +kernel
theorem dX3_keep_92 : decode cX3_keep 92 = .ok (.getfield 60, 3) := by decide +kernel
theorem dX3_keep_95 : decode cX3_keep 95 = .ok (.aload_n 0, 1) := by decide +kernel
theorem dX3_keep_96 : decode cX3_keep 96 = .ok (.getfield 50, 3) := by decide +kernel
theorem dX3_keep_99 : decode cX3_keep 99 = .ok (.invokevirtual 227, 3) := by decide +kernel
theorem dX3_keep_102 : decode cX3_keep 102 = .ok (.aload_n 0, 1) := by decide +kernel
theorem dX3_keep_103 : decode cX3_keep 103 = .ok (.getfield 60, 3) := by decide +kernel
theorem dX3_keep_106 : decode cX3_keep 106 = .ok (.invokevirtual 203, 3) := by decide +kernel
theorem dX3_keep_109 : decode cX3_keep 109 = .ok (.lstore 11, 2) := by decide +kernel
theorem dX3_keep_111 : decode cX3_keep 111 = .ok (.aload_n 0, 1) := by decide +kernel
theorem dX3_keep_112 : decode cX3_keep 112 = .ok (.getfield 46, 3) := by decide +kernel
theorem dX3_keep_115 : decode cX3_keep 115 = .ok (.getfield 150, 3) := by decide +kernel
theorem dX3_keep_118 : decode cX3_keep 118 = .ok (.i2l, 1) := by decide +kernel
theorem dX3_keep_119 : decode cX3_keep 119 = .ok (.aload_n 0, 1) := by decide +kernel
theorem dX3_keep_120 : decode cX3_keep 120 = .ok (.getfield 12, 3) := by decide +kernel
theorem dX3_keep_123 : decode cX3_keep 123 = .ok (.iload_n 1, 1) := by decide +kernel
theorem dX3_keep_124 : decode cX3_keep 124 = .ok (.aload_n 0, 1) := by decide +kernel
theorem dX3_keep_125 : decode cX3_keep 125 = .ok (.getfield 60, 3) := by decide +kernel
theorem dX3_keep_128 : decode cX3_keep 128 = .ok (.invokevirtual 263, 3) := by decide +kernel
theorem dX3_keep_131 : decode cX3_keep 131 = .ok (.lmul, 1) := by decide +kernel
theorem dX3_keep_132 : decode cX3_keep 132 = .ok (.iload_n 3, 1) := by decide +kernel
theorem dX3_keep_133 : decode cX3_keep 133 = .ok (.i2l, 1) := by decide +kernel
theorem dX3_keep_134 : decode cX3_keep 134 = .ok (.iload 10, 2) := by decide +kernel
theorem dX3_keep_136 : decode cX3_keep 136 = .ok (.i2l, 1) := by decide +kernel
theorem dX3_keep_137 : decode cX3_keep 137 = .ok (.lmul, 1) := by decide +kernel
theorem dX3_keep_138 : decode cX3_keep 138 = .ok (.lload 11, 2) := by decide +kernel
theorem dX3_keep_140 : decode cX3_keep 140 = .ok (.lmul, 1) := by decide +kernel
theorem dX3_keep_141 : decode cX3_keep 141 = .ok (.lsub, 1) := by decide +kernel
theorem dX3_keep_142 : decode cX3_keep 142 = .ok (.lstore 13, 2) := by decide +kernel
theorem dX3_keep_144 : decode cX3_keep 144 = .ok (.iload 10, 2) := by decide +kernel
theorem dX3_keep_146 : decode cX3_keep 146 = .ok (.ifCond .eq 17, 3) := by decide +kernel
theorem dX3_keep_149 : decode cX3_keep 149 = .ok (.lload 13, 2) := by decide +kernel
theorem dX3_keep_151 : decode cX3_keep 151 = .ok (.lload 8, 2) := by decide +kernel
theorem dX3_keep_153 : decode cX3_keep 153 = .ok (.lmul, 1) := by decide +kernel
theorem dX3_keep_154 : decode cX3_keep 154 = .ok (.lload 6, 2) := by decide +kernel
theorem dX3_keep_156 : decode cX3_keep 156 = .ok (.lload 11, 2) := by decide +kernel
theorem dX3_keep_158 : decode cX3_keep 158 = .ok (.lmul, 1) := by decide +kernel
theorem dX3_keep_159 : decode cX3_keep 159 = .ok (.lcmp, 1) := by decide +kernel
theorem dX3_keep_160 : decode cX3_keep 160 = .ok (.ifCond .le 15, 3) := by decide +kernel
theorem dX3_keep_163 : decode cX3_keep 163 = .ok (.lload 13, 2) := by decide +kernel
theorem dX3_keep_165 : decode cX3_keep 165 = .ok (.lstore 6, 2) := by decide +kernel
theorem dX3_keep_167 : decode cX3_keep 167 = .ok (.lload 11, 2) := by decide +kernel
theorem dX3_keep_169 : decode cX3_keep 169 = .ok (.lstore 8, 2) := by decide +kernel
theorem dX3_keep_171 : decode cX3_keep 171 = .ok (.iload 10, 2) := by decide +kernel
theorem dX3_keep_173 : decode cX3_keep 173 = .ok (.istore 5, 2) := by decide +kernel
theorem dX3_keep_175 : decode cX3_keep 175 = .ok (.aload_n 0, 1) := by decide +kernel
theorem dX3_keep_176 : decode cX3_keep 176 = .ok (.getfield 50, 3) := by decide +kernel
theorem dX3_keep_179 : decode cX3_keep 179 = .ok (.bipush 24, 2) := by decide +kernel
theorem dX3_keep_181 : decode cX3_keep 181 = .ok (.aload_n 0, 1) := by decide +kernel
theorem dX3_keep_182 : decode cX3_keep 182 = .ok (.getfield 50, 3) := by decide +kernel
theorem dX3_keep_185 : decode cX3_keep 185 = .ok (.invokevirtual 160, 3) := by decide +kernel
theorem dX3_keep_188 : decode cX3_keep 188 = .ok (.imul, 1) := by decide +kernel
theorem dX3_keep_189 : decode cX3_keep 189 = .ok (.invokevirtual 169, 3) := by decide +kernel
theorem dX3_keep_192 : decode cX3_keep 192 = .ok (.iinc 10 1, 3) := by decide +kernel
theorem dX3_keep_195 : decode cX3_keep 195 = .ok (.goto (-110), 3) := by decide +kernel
theorem dX3_keep_198 : decode cX3_keep 198 = .ok (.iload 5, 2) := by decide +kernel
theorem dX3_keep_200 : decode cX3_keep 200 = .ok (.ireturn, 1) := by decide +kernel
theorem dX3_seldom_0 : decode cX3_seldom 0 = .ok (.aload_n 0, 1) := by decide +kernel
theorem dX3_seldom_1 : decode cX3_seldom 1 = .ok (.iload_n 1, 1) := by decide +kernel
theorem dX3_seldom_2 : decode cX3_seldom 2 = .ok (.iconst 3, 1) := by decide +kernel
theorem dX3_seldom_3 : decode cX3_seldom 3 = .ok (.invokestatic 70, 3) := by decide +kernel
theorem dX3_seldom_6 : decode cX3_seldom 6 = .ok (.iconst 1, 1) := by decide +kernel
theorem dX3_seldom_7 : decode cX3_seldom 7 = .ok (.invokevirtual 175, 3) := by decide +kernel
theorem dX3_seldom_10 : decode cX3_seldom 10 = .ok (.istore_n 3, 1) := by decide +kernel
theorem dX3_seldom_11 : decode cX3_seldom 11 = .ok (.iload_n 3, 1) := by decide +kernel
theorem dX3_seldom_12 : decode cX3_seldom 12 = .ok (.ifCond .ne 11, 3) := by decide +kernel
theorem dX3_seldom_15 : decode cX3_seldom 15 = .ok (.iload_n 2, 1) := by decide +kernel
theorem dX3_seldom_16 : decode cX3_seldom 16 = .ok (.iconst 0, 1) := by decide +kernel
theorem dX3_seldom_17 : decode cX3_seldom 17 = .ok (.bipush 100, 2) := by decide +kernel
theorem dX3_seldom_19 : decode cX3_seldom 19 = .ok (.invokestatic 66, 3) := by decide +kernel
theorem dX3_seldom_22 : decode cX3_seldom 22 = .ok (.istore_n 3, 1) := by decide +kernel
theorem dX3_seldom_23 : decode cX3_seldom 23 = .ok (.iload_n 3, 1) := by decide +kernel
theorem dX3_seldom_24 : decode cX3_seldom 24 = .ok (.ifCond .eq 9, 3) := by decide +kernel
theorem dX3_seldom_27 : decode cX3_seldom 27 = .ok (.aload_n 0, 1) := by decide +kernel
theorem dX3_seldom_28 : decode cX3_seldom 28 = .ok (.iload_n 3, 1) := by decide +kernel
theorem dX3_seldom_29 : decode cX3_seldom 29 = .ok (.invokevirtual 74, 3) := by decide +kernel
theorem dX3_seldom_32 : decode cX3_seldom 32 = .ok (.ireturn, 1) := by decide +kernel
theorem dX3_seldom_33 : decode cX3_seldom 33 = .ok (.aload_n 0, 1) := by decide +kernel
theorem dX3_seldom_34 : decode cX3_seldom 34 = .ok (.invokevirtual 189, 3) := by decide +kernel
theorem dX3_seldom_37 : decode cX3_seldom 37 = .ok (.aload_n 0, 1) := by decide +kernel
theorem dX3_seldom_38 : decode cX3_seldom 38 = .ok (.getfield 56, 3) := by decide +kernel
theorem dX3_seldom_41 : decode cX3_seldom 41 = .ok (.invokevirtual 203, 3) := by decide +kernel
theorem dX3_seldom_44 : decode cX3_seldom 44 = .ok (.lstore 4, 2) := by decide +kernel
theorem dX3_seldom_46 : decode cX3_seldom 46 = .ok (.bipush (-9), 2) := by decide +kernel
theorem dX3_seldom_48 : decode cX3_seldom 48 = .ok (.istore 6, 2) := by decide +kernel
theorem dX3_seldom_50 : decode cX3_seldom 50 = .ok (.lconst 0, 1) := by decide +kernel
theorem dX3_seldom_51 : decode cX3_seldom 51 = .ok (.lstore 7, 2) := by decide +kernel
theorem dX3_seldom_53 : decode cX3_seldom 53 = .ok (.iconst 0, 1) := by decide +kernel
theorem dX3_seldom_54 : decode cX3_seldom 54 = .ok (.istore 9, 2) := by decide +kernel
theorem dX3_seldom_56 : decode cX3_seldom 56 = .ok (.iload 9, 2) := by decide +kernel
theorem dX3_seldom_58 : decode cX3_seldom 58 = .ok (.iconst 5, 1) := by decide +kernel
theorem dX3_seldom_59 : decode cX3_seldom 59 = .ok (.if_icmp .ge 82, 3) := by decide +kernel
theorem dX3_seldom_62 : decode cX3_seldom 62 = .ok (.aload_n 0, 1) := by decide +kernel
theorem dX3_seldom_63 : decode cX3_seldom 63 = .ok (.getfield 12, 3) := by decide +kernel
theorem dX3_seldom_66 : decode cX3_seldom 66 = .ok (.iload 9, 2) := by decide +kernel
theorem dX3_seldom_68 : decode cX3_seldom 68 = .ok (.iload_n 1, 1) := by decide +kernel
theorem dX3_seldom_69 : decode cX3_seldom 69 = .ok (.aload_n 0, 1) := by decide +kernel
theorem dX3_seldom_70 : decode cX3_seldom 70 = .ok (.getfield 56, 3) := by decide +kernel
theorem dX3_seldom_73 : decode cX3_seldom 73 = .ok (.invokevirtual 211, 3) := by decide +kernel
theorem dX3_seldom_76 : decode cX3_seldom 76 = .ok (.lstore 10, 2) := by decide +kernel
theorem dX3_seldom_78 : decode cX3_seldom 78 = .ok (.ldc2_w 254, 3) := by decide +kernel
theorem dX3_seldom_81 : decode cX3_seldom 81 = .ok (.iload 9, 2) := by decide +kernel
theorem dX3_seldom_83 : decode cX3_seldom 83 = .ok (.aload_n 0, 1) := by decide +kernel
theorem dX3_seldom_84 : decode cX3_seldom 84 = .ok (.getfield 56, 3) := by decide +kernel
theorem dX3_seldom_87 : decode cX3_seldom 87 = .ok (.invokestatic 219, 3) := by decide +kernel
theorem dX3_seldom_90 : decode cX3_seldom 90 = .ok (.lmul, 1) := by decide +kernel
theorem dX3_seldom_91 : decode cX3_seldom 91 = .ok (.iload_n 2, 1) := by decide +kernel
theorem dX3_seldom_92 : decode cX3_seldom 92 = .ok (.i2l, 1) := by decide +kernel
theorem dX3_seldom_93 : decode cX3_seldom 93 = .ok (.lload 4, 2) := by decide +kernel
theorem dX3_seldom_95 : decode cX3_seldom 95 = .ok (.lmul, 1) := by decide +kernel
theorem dX3_seldom_96 : decode cX3_seldom 96 = .ok (.lcmp, 1) := by decide +kernel
theorem dX3_seldom_97 : decode cX3_seldom 97 = .ok (.ifCond .gt 7, 3) := by decide +kernel
theorem dX3_seldom_100 : decode cX3_seldom 100 = .ok (.iconst 1, 1) := by decide +kernel
theorem dX3_seldom_101 : decode cX3_seldom 101 = .ok (.goto 4, 3) := by decide +kernel
theorem dX3_seldom_104 : decode cX3_seldom 104 = .ok (.iconst 0, 1) := by decide +kernel
theorem dX3_seldom_105 : decode cX3_seldom 105 = .ok (.istore 12, 2) := by decide +kernel
theorem dX3_seldom_107 : decode cX3_seldom 107 = .ok (.iload 12, 2) := by decide +kernel
theorem dX3_seldom_109 : decode cX3_seldom 109 = .ok (.ifCond .eq 26, 3) := by decide +kernel
theorem dX3_seldom_112 : decode cX3_seldom 112 = .ok (.iload 6, 2) := by decide +kernel
theorem dX3_seldom_114 : decode cX3_seldom 114 = .ok (.bipush (-9), 2) := by decide +kernel
theorem dX3_seldom_116 : decode cX3_seldom 116 = .ok (.if_icmp .eq 11, 3) := by decide +kernel
theorem dX3_seldom_119 : decode cX3_seldom 119 = .ok (.lload 10, 2) := by decide +kernel
theorem dX3_seldom_121 : decode cX3_seldom 121 = .ok (.lload 7, 2) := by decide +kernel
theorem dX3_seldom_123 : decode cX3_seldom 123 = .ok (.lcmp, 1) := by decide +kernel
theorem dX3_seldom_124 : decode cX3_seldom 124 = .ok (.ifCond .le 11, 3) := by decide +kernel
theorem dX3_seldom_127 : decode cX3_seldom 127 = .ok (.lload 10, 2) := by decide +kernel
theorem dX3_seldom_129 : decode cX3_seldom 129 = .ok (.lstore 7, 2) := by decide +kernel
theorem dX3_seldom_131 : decode cX3_seldom 131 = .ok (.iload 9, 2) := by decide +kernel
theorem dX3_seldom_133 : decode cX3_seldom 133 = .ok (.istore 6, 2) := by decide +kernel
theorem dX3_seldom_135 : decode cX3_seldom 135 = .ok (.iinc 9 1, 3) := by decide +kernel
theorem dX3_seldom_138 : decode cX3_seldom 138 = .ok (.goto (-82), 3) := by decide +kernel
theorem dX3_seldom_141 : decode cX3_seldom 141 = .ok (.iload 6, 2) := by decide +kernel
theorem dX3_seldom_143 : decode cX3_seldom 143 = .ok (.ireturn, 1) := by decide +kernel
theorem dX3_join_0 : decode cX3_join 0 = .ok (.aload_n 0, 1) := by decide +kernel
theorem dX3_join_1 : decode cX3_join 1 = .ok (.getfield 12, 3) := by decide +kernel
theorem dX3_join_4 : decode cX3_join 4 = .ok (.iload_n 1, 1) := by decide +kernel
theorem dX3_join_5 : decode cX3_join 5 = .ok (.invokevirtual 140, 3) := by decide +kernel
theorem dX3_join_8 : decode cX3_join 8 = .ok (.astore 5, 2) := by decide +kernel
theorem dX3_join_10 : decode cX3_join 10 = .ok (.aload_n 0, 1) := by decide +kernel
theorem dX3_join_11 : decode cX3_join 11 = .ok (.getfield 12, 3) := by decide +kernel
theorem dX3_join_14 : decode cX3_join 14 = .ok (.iload_n 2, 1) := by decide +kernel
theorem dX3_join_15 : decode cX3_join 15 = .ok (.invokevirtual 140, 3) := by decide +kernel
theorem dX3_join_18 : decode cX3_join 18 = .ok (.astore 6, 2) := by decide +kernel
theorem dX3_join_20 : decode cX3_join 20 = .ok (.aload 5, 2) := by decide +kernel
theorem dX3_join_22 : decode cX3_join 22 = .ok (.ifnull 21, 3) := by decide +kernel
theorem dX3_join_25 : decode cX3_join 25 = .ok (.aload 6, 2) := by decide +kernel
theorem dX3_join_27 : decode cX3_join 27 = .ok (.ifnull 16, 3) := by decide +kernel
theorem dX3_join_30 : decode cX3_join 30 = .ok (.iload_n 1, 1) := by decide +kernel
theorem dX3_join_31 : decode cX3_join 31 = .ok (.iload_n 2, 1) := by decide +kernel
theorem dX3_join_32 : decode cX3_join 32 = .ok (.if_icmp .eq 11, 3) := by decide +kernel
theorem dX3_join_35 : decode cX3_join 35 = .ok (.iload_n 3, 1) := by decide +kernel
theorem dX3_join_36 : decode cX3_join 36 = .ok (.iconst 3, 1) := by decide +kernel
theorem dX3_join_37 : decode cX3_join 37 = .ok (.invokestatic 70, 3) := by decide +kernel
theorem dX3_join_40 : decode cX3_join 40 = .ok (.ifCond .ne 9, 3) := by decide +kernel
theorem dX3_join_43 : decode cX3_join 43 = .ok (.aload_n 0, 1) := by decide +kernel
theorem dX3_join_44 : decode cX3_join 44 = .ok (.iconst (-1), 1) := by decide +kernel
theorem dX3_join_45 : decode cX3_join 45 = .ok (.invokevirtual 195, 3) := by decide +kernel
theorem dX3_join_48 : decode cX3_join 48 = .ok (.lreturn, 1) := by decide +kernel
theorem dX3_join_49 : decode cX3_join 49 = .ok (.iload 4, 2) := by decide +kernel
theorem dX3_join_51 : decode cX3_join 51 = .ok (.iconst 2, 1) := by decide +kernel
theorem dX3_join_52 : decode cX3_join 52 = .ok (.invokestatic 70, 3) := by decide +kernel
theorem dX3_join_55 : decode cX3_join 55 = .ok (.ifCond .ne 10, 3) := by decide +kernel
theorem dX3_join_58 : decode cX3_join 58 = .ok (.aload_n 0, 1) := by decide +kernel
theorem dX3_join_59 : decode cX3_join 59 = .ok (.bipush (-2), 2) := by decide +kernel
theorem dX3_join_61 : decode cX3_join 61 = .ok (.invokevirtual 195, 3) := by decide +kernel
theorem dX3_join_64 : decode cX3_join 64 = .ok (.lreturn, 1) := by decide +kernel
theorem dX3_join_65 : decode cX3_join 65 = .ok (.aload_n 0, 1) := by decide +kernel
theorem dX3_join_66 : decode cX3_join 66 = .ok (.getfield 60, 3) := by decide +kernel
theorem dX3_join_69 : decode cX3_join 69 = .ok (.aload 5, 2) := by decide +kernel
theorem dX3_join_71 : decode cX3_join 71 = .ok (.invokevirtual 227, 3) := by decide +kernel
theorem dX3_join_74 : decode cX3_join 74 = .ok (.aload_n 0, 1) := by decide +kernel
theorem dX3_join_75 : decode cX3_join 75 = .ok (.getfield 63, 3) := by decide +kernel
theorem dX3_join_78 : decode cX3_join 78 = .ok (.aload 6, 2) := by decide +kernel
theorem dX3_join_80 : decode cX3_join 80 = .ok (.invokevirtual 227, 3) := by decide +kernel
theorem dX3_join_83 : decode cX3_join 83 = .ok (.aload_n 0, 1) := by decide +kernel
theorem dX3_join_84 : decode cX3_join 84 = .ok (.getfield 56, 3) := by decide +kernel
theorem dX3_join_87 : decode cX3_join 87 = .ok (.aload_n 0, 1) := by decide +kernel
theorem dX3_join_88 : decode cX3_join 88 = .ok (.getfield 60, 3) := by decide +kernel
theorem dX3_join_91 : decode cX3_join 91 = .ok (.aload_n 0, 1) := by decide +kernel
theorem dX3_join_92 : decode cX3_join 92 = .ok (.getfield 63, 3) := by decide +kernel
theorem dX3_join_95 : decode cX3_join 95 = .ok (.invokevirtual 293, 3) := by decide +kernel
theorem dX3_join_98 : decode cX3_join 98 = .ok (.aload_n 0, 1) := by decide +kernel
theorem dX3_join_99 : decode cX3_join 99 = .ok (.getfield 60, 3) := by decide +kernel
theorem dX3_join_102 : decode cX3_join 102 = .ok (.invokevirtual 203, 3) := by decide +kernel
theorem dX3_join_105 : decode cX3_join 105 = .ok (.lstore 7, 2) := by decide +kernel
theorem dX3_join_107 : decode cX3_join 107 = .ok (.aload_n 0, 1) := by decide +kernel
theorem dX3_join_108 : decode cX3_join 108 = .ok (.getfield 63, 3) := by decide +kernel
theorem dX3_join_111 : decode cX3_join 111 = .ok (.invokevirtual 203, 3) := by decide +kernel
theorem dX3_join_114 : decode cX3_join 114 = .ok (.lstore 9, 2) := by decide +kernel
theorem dX3_join_116 : decode cX3_join 116 = .ok (.aload 5, 2) := by decide +kernel
theorem dX3_join_118 : decode cX3_join 118 = .ok (.getfield 150, 3) := by decide +kernel
theorem dX3_join_121 : decode cX3_join 121 = .ok (.aload 6, 2) := by decide +kernel
theorem dX3_join_123 : decode cX3_join 123 = .ok (.getfield 150, 3) := by decide +kernel
theorem dX3_join_126 : decode cX3_join 126 = .ok (.iadd, 1) := by decide +kernel
theorem dX3_join_127 : decode cX3_join 127 = .ok (.i2l, 1) := by decide +kernel
theorem dX3_join_128 : decode cX3_join 128 = .ok (.aload_n 0, 1) := by decide +kernel
theorem dX3_join_129 : decode cX3_join 129 = .ok (.getfield 12, 3) := by decide +kernel
theorem dX3_join_132 : decode cX3_join 132 = .ok (.iload_n 3, 1) := by decide +kernel
theorem dX3_join_133 : decode cX3_join 133 = .ok (.aload_n 0, 1) := by decide +kernel
theorem dX3_join_134 : decode cX3_join 134 = .ok (.getfield 56, 3) := by decide +kernel
theorem dX3_join_137 : decode cX3_join 137 = .ok (.invokevirtual 263, 3) := by decide +kernel
theorem dX3_join_140 : decode cX3_join 140 = .ok (.lmul, 1) := by decide +kernel
theorem dX3_join_141 : decode cX3_join 141 = .ok (.lstore 11, 2) := by decide +kernel
theorem dX3_join_143 : decode cX3_join 143 = .ok (.aload 5, 2) := by decide +kernel
theorem dX3_join_145 : decode cX3_join 145 = .ok (.getfield 150, 3) := by decide +kernel
theorem dX3_join_148 : decode cX3_join 148 = .ok (.i2l, 1) := by decide +kernel
theorem dX3_join_149 : decode cX3_join 149 = .ok (.aload_n 0, 1) := by decide +kernel
theorem dX3_join_150 : decode cX3_join 150 = .ok (.getfield 12, 3) := by decide +kernel
theorem dX3_join_153 : decode cX3_join 153 = .ok (.iload_n 3, 1) := by decide +kernel
theorem dX3_join_154 : decode cX3_join 154 = .ok (.aload_n 0, 1) := by decide +kernel
theorem dX3_join_155 : decode cX3_join 155 = .ok (.getfield 60, 3) := by decide +kernel
theorem dX3_join_158 : decode cX3_join 158 = .ok (.invokevirtual 263, 3) := by decide +kernel
theorem dX3_join_161 : decode cX3_join 161 = .ok (.lmul, 1) := by decide +kernel
theorem dX3_join_162 : decode cX3_join 162 = .ok (.lload 9, 2) := by decide +kernel
theorem dX3_join_164 : decode cX3_join 164 = .ok (.lmul, 1) := by decide +kernel
theorem dX3_join_165 : decode cX3_join 165 = .ok (.aload 6, 2) := by decide +kernel
theorem dX3_join_167 : decode cX3_join 167 = .ok (.getfield 150, 3) := by decide +kernel
theorem dX3_join_170 : decode cX3_join 170 = .ok (.i2l, 1) := by decide +kernel
theorem dX3_join_171 : decode cX3_join 171 = .ok (.aload_n 0, 1) := by decide +kernel
theorem dX3_join_172 : decode cX3_join 172 = .ok (.getfield 12, 3) := by decide +kernel
theorem dX3_join_175 : decode cX3_join 175 = .ok (.iload_n 3, 1) := by decide +kernel
theorem dX3_join_176 : decode cX3_join 176 = .ok (.aload_n 0, 1) := by decide +kernel
theorem dX3_join_177 : decode cX3_join 177 = .ok (.getfield 63, 3) := by decide +kernel
theorem dX3_join_180 : decode cX3_join 180 = .ok (.invokevirtual 263, 3) := by decide +kernel
theorem dX3_join_183 : decode cX3_join 183 = .ok (.lmul, 1) := by decide +kernel
theorem dX3_join_184 : decode cX3_join 184 = .ok (.lload 7, 2) := by decide +kernel
theorem dX3_join_186 : decode cX3_join 186 = .ok (.lmul, 1) := by decide +kernel
theorem dX3_join_187 : decode cX3_join 187 = .ok (.ladd, 1) := by decide +kernel
theorem dX3_join_188 : decode cX3_join 188 = .ok (.lstore 13, 2) := by decide +kernel
theorem dX3_join_190 : decode cX3_join 190 = .ok (.lload 11, 2) := by decide +kernel
theorem dX3_join_192 : decode cX3_join 192 = .ok (.lload 13, 2) := by decide +kernel
theorem dX3_join_194 : decode cX3_join 194 = .ok (.lsub, 1) := by decide +kernel
theorem dX3_join_195 : decode cX3_join 195 = .ok (.lload 7, 2) := by decide +kernel
theorem dX3_join_197 : decode cX3_join 197 = .ok (.lload 9, 2) := by decide +kernel
theorem dX3_join_199 : decode cX3_join 199 = .ok (.lmul, 1) := by decide +kernel
theorem dX3_join_200 : decode cX3_join 200 = .ok (.iload 4, 2) := by decide +kernel
theorem dX3_join_202 : decode cX3_join 202 = .ok (.invokestatic 207, 3) := by decide +kernel
theorem dX3_join_205 : decode cX3_join 205 = .ok (.lreturn, 1) := by decide +kernel
theorem dX3_larder_0 : decode cX3_larder 0 = .ok (.iload_n 1, 1) := by decide +kernel
theorem dX3_larder_1 : decode cX3_larder 1 = .ok (.iconst 1, 1) := by decide +kernel
theorem dX3_larder_2 : decode cX3_larder 2 = .ok (.if_icmp .lt 18, 3) := by decide +kernel
theorem dX3_larder_5 : decode cX3_larder 5 = .ok (.iload_n 2, 1) := by decide +kernel
theorem dX3_larder_6 : decode cX3_larder 6 = .ok (.iconst 1, 1) := by decide +kernel
theorem dX3_larder_7 : decode cX3_larder 7 = .ok (.if_icmp .lt 13, 3) := by decide +kernel
theorem dX3_larder_10 : decode cX3_larder 10 = .ok (.iload_n 3, 1) := by decide +kernel
theorem dX3_larder_11 : decode cX3_larder 11 = .ok (.iconst 1, 1) := by decide +kernel
theorem dX3_larder_12 : decode cX3_larder 12 = .ok (.if_icmp .lt 8, 3) := by decide +kernel
theorem dX3_larder_15 : decode cX3_larder 15 = .ok (.iload 4, 2) := by decide +kernel
theorem dX3_larder_17 : decode cX3_larder 17 = .ok (.ifCond .ge 10, 3) := by decide +kernel
theorem dX3_larder_20 : decode cX3_larder 20 = .ok (.aload_n 0, 1) := by decide +kernel
theorem dX3_larder_21 : decode cX3_larder 21 = .ok (.bipush (-4), 2) := by decide +kernel
theorem dX3_larder_23 : decode cX3_larder 23 = .ok (.invokevirtual 74, 3) := by decide +kernel
theorem dX3_larder_26 : decode cX3_larder 26 = .ok (.ireturn, 1) := by decide +kernel
theorem dX3_larder_27 : decode cX3_larder 27 = .ok (.iload_n 1, 1) := by decide +kernel
theorem dX3_larder_28 : decode cX3_larder 28 = .ok (.bipush 30, 2) := by decide +kernel
theorem dX3_larder_30 : decode cX3_larder 30 = .ok (.if_icmp .gt 22, 3) := by decide +kernel
theorem dX3_larder_33 : decode cX3_larder 33 = .ok (.iload_n 2, 1) := by decide +kernel
theorem dX3_larder_34 : decode cX3_larder 34 = .ok (.bipush 7, 2) := by decide +kernel
theorem dX3_larder_36 : decode cX3_larder 36 = .ok (.if_icmp .gt 16, 3) := by decide +kernel
theorem dX3_larder_39 : decode cX3_larder 39 = .ok (.iload_n 3, 1) := by decide +kernel
theorem dX3_larder_40 : decode cX3_larder 40 = .ok (.bipush 9, 2) := by decide +kernel
theorem dX3_larder_42 : decode cX3_larder 42 = .ok (.if_icmp .gt 10, 3) := by decide +kernel
theorem dX3_larder_45 : decode cX3_larder 45 = .ok (.iload 4, 2) := by decide +kernel
theorem dX3_larder_47 : decode cX3_larder 47 = .ok (.bipush 9, 2) := by decide +kernel
theorem dX3_larder_49 : decode cX3_larder 49 = .ok (.if_icmp .le 10, 3) := by decide +kernel
theorem dX3_larder_52 : decode cX3_larder 52 = .ok (.aload_n 0, 1) := by decide +kernel
theorem dX3_larder_53 : decode cX3_larder 53 = .ok (.bipush (-6), 2) := by decide +kernel
theorem dX3_larder_55 : decode cX3_larder 55 = .ok (.invokevirtual 74, 3) := by decide +kernel
theorem dX3_larder_58 : decode cX3_larder 58 = .ok (.ireturn, 1) := by decide +kernel
theorem dX3_larder_59 : decode cX3_larder 59 = .ok (.aload_n 0, 1) := by decide +kernel
theorem dX3_larder_60 : decode cX3_larder 60 = .ok (.getfield 37, 3) := by decide +kernel
theorem dX3_larder_63 : decode cX3_larder 63 = .ok (.bipush 7, 2) := by decide +kernel
theorem dX3_larder_65 : decode cX3_larder 65 = .ok (.if_icmp .eq 10, 3) := by decide +kernel
theorem dX3_larder_68 : decode cX3_larder 68 = .ok (.aload_n 0, 1) := by decide +kernel
theorem dX3_larder_69 : decode cX3_larder 69 = .ok (.bipush (-3), 2) := by decide +kernel
theorem dX3_larder_71 : decode cX3_larder 71 = .ok (.invokevirtual 74, 3) := by decide +kernel
theorem dX3_larder_74 : decode cX3_larder 74 = .ok (.ireturn, 1) := by decide +kernel
theorem dX3_larder_75 : decode cX3_larder 75 = .ok (.aload_n 0, 1) := by decide +kernel
theorem dX3_larder_76 : decode cX3_larder 76 = .ok (.iload_n 1, 1) := by decide +kernel
theorem dX3_larder_77 : decode cX3_larder 77 = .ok (.iload_n 2, 1) := by decide +kernel
theorem dX3_larder_78 : decode cX3_larder 78 = .ok (.iload_n 3, 1) := by decide +kernel
theorem dX3_larder_79 : decode cX3_larder 79 = .ok (.iload 4, 2) := by decide +kernel
theorem dX3_larder_81 : decode cX3_larder 81 = .ok (.invokevirtual 297, 3) := by decide +kernel
theorem dX3_larder_84 : decode cX3_larder 84 = .ok (.ireturn, 1) := by decide +kernel
theorem dX3_buy_0 : decode cX3_buy 0 = .ok (.iload_n 1, 1) := by decide +kernel
theorem dX3_buy_1 : decode cX3_buy 1 = .ok (.iconst 1, 1) := by decide +kernel
theorem dX3_buy_2 : decode cX3_buy 2 = .ok (.if_icmp .lt 7, 3) := by decide +kernel
theorem dX3_buy_5 : decode cX3_buy 5 = .ok (.iload_n 2, 1) := by decide +kernel
theorem dX3_buy_6 : decode cX3_buy 6 = .ok (.ifCond .ge 10, 3) := by decide +kernel
theorem dX3_buy_9 : decode cX3_buy 9 = .ok (.aload_n 0, 1) := by decide +kernel
theorem dX3_buy_10 : decode cX3_buy 10 = .ok (.bipush (-4), 2) := by decide +kernel
theorem dX3_buy_12 : decode cX3_buy 12 = .ok (.invokevirtual 74, 3) := by decide +kernel
theorem dX3_buy_15 : decode cX3_buy 15 = .ok (.ireturn, 1) := by decide +kernel
theorem dX3_buy_16 : decode cX3_buy 16 = .ok (.iload_n 1, 1) := by decide +kernel
theorem dX3_buy_17 : decode cX3_buy 17 = .ok (.bipush 30, 2) := by decide +kernel
theorem dX3_buy_19 : decode cX3_buy 19 = .ok (.if_icmp .gt 9, 3) := by decide +kernel
theorem dX3_buy_22 : decode cX3_buy 22 = .ok (.iload_n 2, 1) := by decide +kernel
theorem dX3_buy_23 : decode cX3_buy 23 = .ok (.bipush 9, 2) := by decide +kernel
theorem dX3_buy_25 : decode cX3_buy 25 = .ok (.if_icmp .le 10, 3) := by decide +kernel
theorem dX3_buy_28 : decode cX3_buy 28 = .ok (.aload_n 0, 1) := by decide +kernel
theorem dX3_buy_29 : decode cX3_buy 29 = .ok (.bipush (-6), 2) := by decide +kernel
theorem dX3_buy_31 : decode cX3_buy 31 = .ok (.invokevirtual 74, 3) := by decide +kernel
theorem dX3_buy_34 : decode cX3_buy 34 = .ok (.ireturn, 1) := by decide +kernel
theorem dX3_buy_35 : decode cX3_buy 35 = .ok (.aload_n 0, 1) := by decide +kernel
theorem dX3_buy_36 : decode cX3_buy 36 = .ok (.getfield 37, 3) := by decide +kernel
theorem dX3_buy_39 : decode cX3_buy 39 = .ok (.bipush 7, 2) := by decide +kernel
theorem dX3_buy_41 : decode cX3_buy 41 = .ok (.if_icmp .eq 10, 3) := by decide +kernel
theorem dX3_buy_44 : decode cX3_buy 44 = .ok (.aload_n 0, 1) := by decide +kernel
theorem dX3_buy_45 : decode cX3_buy 45 = .ok (.bipush (-3), 2) := by decide +kernel
theorem dX3_buy_47 : decode cX3_buy 47 = .ok (.invokevirtual 74, 3) := by decide +kernel
theorem dX3_buy_50 : decode cX3_buy 50 = .ok (.ireturn, 1) := by decide +kernel
theorem dX3_buy_51 : decode cX3_buy 51 = .ok (.bipush 11, 2) := by decide +kernel
theorem dX3_buy_53 : decode cX3_buy 53 = .ok (.istore_n 3, 1) := by decide +kernel
theorem dX3_buy_54 : decode cX3_buy 54 = .ok (.aload_n 0, 1) := by decide +kernel
theorem dX3_buy_55 : decode cX3_buy 55 = .ok (.iload_n 1, 1) := by decide +kernel
theorem dX3_buy_56 : decode cX3_buy 56 = .ok (.iconst 1, 1) := by decide +kernel
theorem dX3_buy_57 : decode cX3_buy 57 = .ok (.iconst 1, 1) := by decide +kernel
theorem dX3_buy_58 : decode cX3_buy 58 = .ok (.iload_n 2, 1) := by decide +kernel
theorem dX3_buy_59 : decode cX3_buy 59 = .ok (.invokevirtual 297, 3) := by decide +kernel
theorem dX3_buy_62 : decode cX3_buy 62 = .ok (.istore 4, 2) := by decide +kernel
theorem dX3_buy_64 : decode cX3_buy 64 = .ok (.iconst 1, 1) := by decide +kernel
theorem dX3_buy_65 : decode cX3_buy 65 = .ok (.istore 5, 2) := by decide +kernel
theorem dX3_buy_67 : decode cX3_buy 67 = .ok (.iload 5, 2) := by decide +kernel
theorem dX3_buy_69 : decode cX3_buy 69 = .ok (.bipush 9, 2) := by decide +kernel
theorem dX3_buy_71 : decode cX3_buy 71 = .ok (.if_icmp .gt 57, 3) := by decide +kernel
theorem dX3_buy_74 : decode cX3_buy 74 = .ok (.iconst 1, 1) := by decide +kernel
theorem dX3_buy_75 : decode cX3_buy 75 = .ok (.istore 6, 2) := by decide +kernel
theorem dX3_buy_77 : decode cX3_buy 77 = .ok (.iload 6, 2) := by decide +kernel
theorem dX3_buy_79 : decode cX3_buy 79 = .ok (.bipush 7, 2) := by decide +kernel
theorem dX3_buy_81 : decode cX3_buy 81 = .ok (.if_icmp .gt 41, 3) := by decide +kernel
theorem dX3_buy_84 : decode cX3_buy 84 = .ok (.aload_n 0, 1) := by decide +kernel
theorem dX3_buy_85 : decode cX3_buy 85 = .ok (.iload_n 1, 1) := by decide +kernel
theorem dX3_buy_86 : decode cX3_buy 86 = .ok (.iload 6, 2) := by decide +kernel
theorem dX3_buy_88 : decode cX3_buy 88 = .ok (.iload 5, 2) := by decide +kernel
theorem dX3_buy_90 : decode cX3_buy 90 = .ok (.iload_n 2, 1) := by decide +kernel
theorem dX3_buy_91 : decode cX3_buy 91 = .ok (.invokevirtual 297, 3) := by decide +kernel
theorem dX3_buy_94 : decode cX3_buy 94 = .ok (.istore 7, 2) := by decide +kernel
theorem dX3_buy_96 : decode cX3_buy 96 = .ok (.iload 7, 2) := by decide +kernel
theorem dX3_buy_98 : decode cX3_buy 98 = .ok (.iload 4, 2) := by decide +kernel
theorem dX3_buy_100 : decode cX3_buy 100 = .ok (.if_icmp .ge 16, 3) := by decide +kernel
theorem dX3_buy_103 : decode cX3_buy 103 = .ok (.iload 7, 2) := by decide +kernel
theorem dX3_buy_105 : decode cX3_buy 105 = .ok (.istore 4, 2) := by decide +kernel
theorem dX3_buy_107 : decode cX3_buy 107 = .ok (.bipush 10, 2) := by decide +kernel
theorem dX3_buy_109 : decode cX3_buy 109 = .ok (.iload 5, 2) := by decide +kernel
theorem dX3_buy_111 : decode cX3_buy 111 = .ok (.imul, 1) := by decide +kernel
theorem dX3_buy_112 : decode cX3_buy 112 = .ok (.iload 6, 2) := by decide +kernel
theorem dX3_buy_114 : decode cX3_buy 114 = .ok (.iadd, 1) := by decide +kernel
theorem dX3_buy_115 : decode cX3_buy 115 = .ok (.istore_n 3, 1) := by decide +kernel
theorem dX3_buy_116 : decode cX3_buy 116 = .ok (.iinc 6 1, 3) := by decide +kernel
theorem dX3_buy_119 : decode cX3_buy 119 = .ok (.goto (-42), 3) := by decide +kernel
theorem dX3_buy_122 : decode cX3_buy 122 = .ok (.iinc 5 1, 3) := by decide +kernel
theorem dX3_buy_125 : decode cX3_buy 125 = .ok (.goto (-58), 3) := by decide +kernel
theorem dX3_buy_128 : decode cX3_buy 128 = .ok (.iload_n 3, 1) := by decide +kernel
theorem dX3_buy_129 : decode cX3_buy 129 = .ok (.ireturn, 1) := by decide +kernel
theorem dX3_larderCosts_0 : decode cX3_larderCosts 0 = .ok (.iconst 0, 1) := by decide +kernel
theorem dX3_larderCosts_1 : decode cX3_larderCosts 1 = .ok (.istore 5, 2) := by decide +kernel
theorem dX3_larderCosts_3 : decode cX3_larderCosts 3 = .ok (.iconst 0, 1) := by decide +kernel
theorem dX3_larderCosts_4 : decode cX3_larderCosts 4 = .ok (.istore 6, 2) := by decide +kernel
theorem dX3_larderCosts_6 : decode cX3_larderCosts 6 = .ok (.iconst 0, 1) := by decide +kernel
theorem dX3_larderCosts_7 : decode cX3_larderCosts 7 = .ok (.istore 7, 2) := by decide +kernel
theorem dX3_larderCosts_9 : decode cX3_larderCosts 9 = .ok (.iconst 0, 1) := by decide +kernel
theorem dX3_larderCosts_10 : decode cX3_larderCosts 10 = .ok (.istore 8, 2) := by decide +kernel
theorem dX3_larderCosts_12 : decode cX3_larderCosts 12 = .ok (.iconst 0, 1) := by decide +kernel
theorem dX3_larderCosts_13 : decode cX3_larderCosts 13 = .ok (.istore 9, 2) := by decide +kernel
theorem dX3_larderCosts_15 : decode cX3_larderCosts 15 = .ok (.iload 9, 2) := by decide +kernel
theorem dX3_larderCosts_17 : decode cX3_larderCosts 17 = .ok (.iload_n 1, 1) := by decide +kernel
theorem dX3_larderCosts_18 : decode cX3_larderCosts 18 = .ok (.if_icmp .ge 150, 3) := by decide +kernel
theorem dX3_larderCosts_21 : decode cX3_larderCosts 21 = .ok (.iload_n 2, 1) := by decide +kernel
theorem dX3_larderCosts_22 : decode cX3_larderCosts 22 = .ok (.ifCond .le 25, 3) := by decide +kernel
theorem dX3_larderCosts_25 : decode cX3_larderCosts 25 = .ok (.iload 9, 2) := by decide +kernel
theorem dX3_larderCosts_27 : decode cX3_larderCosts 27 = .ok (.iload_n 2, 1) := by decide +kernel
theorem dX3_larderCosts_28 : decode cX3_larderCosts 28 = .ok (.irem, 1) := by decide +kernel
theorem dX3_larderCosts_29 : decode cX3_larderCosts 29 = .ok (.ifCond .ne 18, 3) := by decide +kernel
theorem dX3_larderCosts_32 : decode cX3_larderCosts 32 = .ok (.iload 5, 2) := by decide +kernel
theorem dX3_larderCosts_34 : decode cX3_larderCosts 34 = .ok (.iload_n 3, 1) := by decide +kernel
theorem dX3_larderCosts_35 : decode cX3_larderCosts 35 = .ok (.iadd, 1) := by decide +kernel
theorem dX3_larderCosts_36 : decode cX3_larderCosts 36 = .ok (.istore 5, 2) := by decide +kernel
theorem dX3_larderCosts_38 : decode cX3_larderCosts 38 = .ok (.iload 8, 2) := by decide +kernel
theorem dX3_larderCosts_40 : decode cX3_larderCosts 40 = .ok (.iload_n 3, 1) := by decide +kernel
theorem dX3_larderCosts_41 : decode cX3_larderCosts 41 = .ok (.iload 4, 2) := by decide +kernel
theorem dX3_larderCosts_43 : decode cX3_larderCosts 43 = .ok (.imul, 1) := by decide +kernel
theorem dX3_larderCosts_44 : decode cX3_larderCosts 44 = .ok (.iadd, 1) := by decide +kernel
theorem dX3_larderCosts_45 : decode cX3_larderCosts 45 = .ok (.istore 8, 2) := by decide +kernel
theorem dX3_larderCosts_47 : decode cX3_larderCosts 47 = .ok (.aload_n 0, 1) := by decide +kernel
theorem dX3_larderCosts_48 : decode cX3_larderCosts 48 = .ok (.getfield 34, 3) := by decide +kernel
theorem dX3_larderCosts_51 : decode cX3_larderCosts 51 = .ok (.iload 9, 2) := by decide +kernel
theorem dX3_larderCosts_53 : decode cX3_larderCosts 53 = .ok (.bipush 7, 2) := by decide +kernel
theorem dX3_larderCosts_55 : decode cX3_larderCosts 55 = .ok (.irem, 1) := by decide +kernel
theorem dX3_larderCosts_56 : decode cX3_larderCosts 56 = .ok (.invokestatic 136, 3) := by decide +kernel
theorem dX3_larderCosts_59 : decode cX3_larderCosts 59 = .ok (.istore 10, 2) := by decide +kernel
theorem dX3_larderCosts_61 : decode cX3_larderCosts 61 = .ok (.iload 10, 2) := by decide +kernel
theorem dX3_larderCosts_63 : decode cX3_larderCosts 63 = .ok (.iload 7, 2) := by decide +kernel
theorem dX3_larderCosts_65 : decode cX3_larderCosts 65 = .ok (.invokestatic 301, 3) := by decide +kernel
theorem dX3_larderCosts_68 : decode cX3_larderCosts 68 = .ok (.istore 11, 2) := by decide +kernel
theorem dX3_larderCosts_70 : decode cX3_larderCosts 70 = .ok (.iload 7, 2) := by decide +kernel
theorem dX3_larderCosts_72 : decode cX3_larderCosts 72 = .ok (.iload 11, 2) := by decide +kernel
theorem dX3_larderCosts_74 : decode cX3_larderCosts 74 = .ok (.isub, 1) := by decide +kernel
theorem dX3_larderCosts_75 : decode cX3_larderCosts 75 = .ok (.istore 7, 2) := by decide +kernel
theorem dX3_larderCosts_77 : decode cX3_larderCosts 77 = .ok (.iload 10, 2) := by decide +kernel
theorem dX3_larderCosts_79 : decode cX3_larderCosts 79 = .ok (.iload 11, 2) := by decide +kernel
theorem dX3_larderCosts_81 : decode cX3_larderCosts 81 = .ok (.isub, 1) := by decide +kernel
theorem dX3_larderCosts_82 : decode cX3_larderCosts 82 = .ok (.istore 10, 2) := by decide +kernel
theorem dX3_larderCosts_84 : decode cX3_larderCosts 84 = .ok (.iload 10, 2) := by decide +kernel
theorem dX3_larderCosts_86 : decode cX3_larderCosts 86 = .ok (.iload 6, 2) := by decide +kernel
theorem dX3_larderCosts_88 : decode cX3_larderCosts 88 = .ok (.invokestatic 301, 3) := by decide +kernel
theorem dX3_larderCosts_91 : decode cX3_larderCosts 91 = .ok (.istore 11, 2) := by decide +kernel
theorem dX3_larderCosts_93 : decode cX3_larderCosts 93 = .ok (.iload 6, 2) := by decide +kernel
theorem dX3_larderCosts_95 : decode cX3_larderCosts 95 = .ok (.iload 11, 2) := by decide +kernel
theorem dX3_larderCosts_97 : decode cX3_larderCosts 97 = .ok (.isub, 1) := by decide +kernel
theorem dX3_larderCosts_98 : decode cX3_larderCosts 98 = .ok (.istore 6, 2) := by decide +kernel
theorem dX3_larderCosts_100 : decode cX3_larderCosts 100 = .ok (.iload 10, 2) := by decide +kernel
theorem dX3_larderCosts_102 : decode cX3_larderCosts 102 = .ok (.iload 11, 2) := by decide +kernel
theorem dX3_larderCosts_104 : decode cX3_larderCosts 104 = .ok (.isub, 1) := by decide +kernel
theorem dX3_larderCosts_105 : decode cX3_larderCosts 105 = .ok (.istore 10, 2) := by decide +kernel
theorem dX3_larderCosts_107 : decode cX3_larderCosts 107 = .ok (.iload 10, 2) := by decide +kernel
theorem dX3_larderCosts_109 : decode cX3_larderCosts 109 = .ok (.iload 5, 2) := by decide +kernel
theorem dX3_larderCosts_111 : decode cX3_larderCosts 111 = .ok (.invokestatic 301, 3) := by decide +kernel
theorem dX3_larderCosts_114 : decode cX3_larderCosts 114 = .ok (.istore 11, 2) := by decide +kernel
theorem dX3_larderCosts_116 : decode cX3_larderCosts 116 = .ok (.iload 5, 2) := by decide +kernel
theorem dX3_larderCosts_118 : decode cX3_larderCosts 118 = .ok (.iload 11, 2) := by decide +kernel
theorem dX3_larderCosts_120 : decode cX3_larderCosts 120 = .ok (.isub, 1) := by decide +kernel
theorem dX3_larderCosts_121 : decode cX3_larderCosts 121 = .ok (.istore 5, 2) := by decide +kernel
theorem dX3_larderCosts_123 : decode cX3_larderCosts 123 = .ok (.iload 10, 2) := by decide +kernel
theorem dX3_larderCosts_125 : decode cX3_larderCosts 125 = .ok (.iload 11, 2) := by decide +kernel
theorem dX3_larderCosts_127 : decode cX3_larderCosts 127 = .ok (.isub, 1) := by decide +kernel
theorem dX3_larderCosts_128 : decode cX3_larderCosts 128 = .ok (.istore 10, 2) := by decide +kernel
theorem dX3_larderCosts_130 : decode cX3_larderCosts 130 = .ok (.iload 8, 2) := by decide +kernel
theorem dX3_larderCosts_132 : decode cX3_larderCosts 132 = .ok (.bipush 9, 2) := by decide +kernel
theorem dX3_larderCosts_134 : decode cX3_larderCosts 134 = .ok (.iload 10, 2) := by decide +kernel
theorem dX3_larderCosts_136 : decode cX3_larderCosts 136 = .ok (.imul, 1) := by decide +kernel
theorem dX3_larderCosts_137 : decode cX3_larderCosts 137 = .ok (.aload_n 0, 1) := by decide +kernel
theorem dX3_larderCosts_138 : decode cX3_larderCosts 138 = .ok (.getfield 12, 3) := by decide +kernel
theorem dX3_larderCosts_141 : decode cX3_larderCosts 141 = .ok (.getfield 124, 3) := by decide +kernel
theorem dX3_larderCosts_144 : decode cX3_larderCosts 144 = .ok (.iload 7, 2) := by decide +kernel
theorem dX3_larderCosts_146 : decode cX3_larderCosts 146 = .ok (.imul, 1) := by decide +kernel
theorem dX3_larderCosts_147 : decode cX3_larderCosts 147 = .ok (.iadd, 1) := by decide +kernel
theorem dX3_larderCosts_148 : decode cX3_larderCosts 148 = .ok (.iadd, 1) := by decide +kernel
theorem dX3_larderCosts_149 : decode cX3_larderCosts 149 = .ok (.istore 8, 2) := by decide +kernel
theorem dX3_larderCosts_151 : decode cX3_larderCosts 151 = .ok (.iload 6, 2) := by decide +kernel
theorem dX3_larderCosts_153 : decode cX3_larderCosts 153 = .ok (.istore 7, 2) := by decide +kernel
theorem dX3_larderCosts_155 : decode cX3_larderCosts 155 = .ok (.iload 5, 2) := by decide +kernel
theorem dX3_larderCosts_157 : decode cX3_larderCosts 157 = .ok (.istore 6, 2) := by decide +kernel
theorem dX3_larderCosts_159 : decode cX3_larderCosts 159 = .ok (.iconst 0, 1) := by decide +kernel
theorem dX3_larderCosts_160 : decode cX3_larderCosts 160 = .ok (.istore 5, 2) := by decide +kernel
theorem dX3_larderCosts_162 : decode cX3_larderCosts 162 = .ok (.iinc 9 1, 3) := by decide +kernel
theorem dX3_larderCosts_165 : decode cX3_larderCosts 165 = .ok (.goto (-150), 3) := by decide +kernel
theorem dX3_larderCosts_168 : decode cX3_larderCosts 168 = .ok (.iload 8, 2) := by decide +kernel
theorem dX3_larderCosts_170 : decode cX3_larderCosts 170 = .ok (.ireturn, 1) := by decide +kernel
theorem dX3_rule_0 : decode cX3_rule 0 = .ok (.aload_n 0, 1) := by decide +kernel
theorem dX3_rule_1 : decode cX3_rule 1 = .ok (.getfield 12, 3) := by decide +kernel
theorem dX3_rule_4 : decode cX3_rule 4 = .ok (.iload_n 1, 1) := by decide +kernel
theorem dX3_rule_5 : decode cX3_rule 5 = .ok (.invokevirtual 140, 3) := by decide +kernel
theorem dX3_rule_8 : decode cX3_rule 8 = .ok (.astore 5, 2) := by decide +kernel
theorem dX3_rule_10 : decode cX3_rule 10 = .ok (.aload 5, 2) := by decide +kernel
theorem dX3_rule_12 : decode cX3_rule 12 = .ok (.ifnull 11, 3) := by decide +kernel
theorem dX3_rule_15 : decode cX3_rule 15 = .ok (.iload_n 3, 1) := by decide +kernel
theorem dX3_rule_16 : decode cX3_rule 16 = .ok (.iconst 3, 1) := by decide +kernel
theorem dX3_rule_17 : decode cX3_rule 17 = .ok (.invokestatic 70, 3) := by decide +kernel
theorem dX3_rule_20 : decode cX3_rule 20 = .ok (.ifCond .ne 9, 3) := by decide +kernel
theorem dX3_rule_23 : decode cX3_rule 23 = .ok (.aload_n 0, 1) := by decide +kernel
theorem dX3_rule_24 : decode cX3_rule 24 = .ok (.iconst (-1), 1) := by decide +kernel
theorem dX3_rule_25 : decode cX3_rule 25 = .ok (.invokevirtual 304, 3) := by decide +kernel
theorem dX3_rule_28 : decode cX3_rule 28 = .ok (.ireturn, 1) := by decide +kernel
theorem dX3_rule_29 : decode cX3_rule 29 = .ok (.iload_n 2, 1) := by decide +kernel
theorem dX3_rule_30 : decode cX3_rule 30 = .ok (.iconst 5, 1) := by decide +kernel
theorem dX3_rule_31 : decode cX3_rule 31 = .ok (.invokestatic 70, 3) := by decide +kernel
theorem dX3_rule_34 : decode cX3_rule 34 = .ok (.ifCond .eq 12, 3) := by decide +kernel
theorem dX3_rule_37 : decode cX3_rule 37 = .ok (.iload 4, 2) := by decide +kernel
theorem dX3_rule_39 : decode cX3_rule 39 = .ok (.iconst 2, 1) := by decide +kernel
theorem dX3_rule_40 : decode cX3_rule 40 = .ok (.invokestatic 70, 3) := by decide +kernel
theorem dX3_rule_43 : decode cX3_rule 43 = .ok (.ifCond .ne 10, 3) := by decide +kernel
theorem dX3_rule_46 : decode cX3_rule 46 = .ok (.aload_n 0, 1) := by decide +kernel
theorem dX3_rule_47 : decode cX3_rule 47 = .ok (.bipush (-2), 2) := by decide +kernel
theorem dX3_rule_49 : decode cX3_rule 49 = .ok (.invokevirtual 304, 3) := by decide +kernel
theorem dX3_rule_52 : decode cX3_rule 52 = .ok (.ireturn, 1) := by decide +kernel
theorem dX3_rule_53 : decode cX3_rule 53 = .ok (.aload_n 0, 1) := by decide +kernel
theorem dX3_rule_54 : decode cX3_rule 54 = .ok (.aload 5, 2) := by decide +kernel
theorem dX3_rule_56 : decode cX3_rule 56 = .ok (.iload_n 2, 1) := by decide +kernel
theorem dX3_rule_57 : decode cX3_rule 57 = .ok (.iload_n 3, 1) := by decide +kernel
theorem dX3_rule_58 : decode cX3_rule 58 = .ok (.invokevirtual 307, 3) := by decide +kernel
theorem dX3_rule_61 : decode cX3_rule 61 = .ok (.istore 6, 2) := by decide +kernel
theorem dX3_rule_63 : decode cX3_rule 63 = .ok (.iload 4, 2) := by decide +kernel
theorem dX3_rule_65 : decode cX3_rule 65 = .ok (.ifCond .ne 8, 3) := by decide +kernel
theorem dX3_rule_68 : decode cX3_rule 68 = .ok (.iload 6, 2) := by decide +kernel
theorem dX3_rule_70 : decode cX3_rule 70 = .ok (.goto 12, 3) := by decide +kernel
theorem dX3_rule_73 : decode cX3_rule 73 = .ok (.aload_n 0, 1) := by decide +kernel
theorem dX3_rule_74 : decode cX3_rule 74 = .ok (.aload 5, 2) := by decide +kernel
theorem dX3_rule_76 : decode cX3_rule 76 = .ok (.iload 6, 2) := by decide +kernel
theorem dX3_rule_78 : decode cX3_rule 78 = .ok (.iload_n 3, 1) := by decide +kernel
theorem dX3_rule_79 : decode cX3_rule 79 = .ok (.invokevirtual 311, 3) := by decide +kernel
theorem dX3_rule_82 : decode cX3_rule 82 = .ok (.ireturn, 1) := by decide +kernel
theorem dX3_bestRule_0 : decode cX3_bestRule 0 = .ok (.iload_n 1, 1) := by decide +kernel
theorem dX3_bestRule_1 : decode cX3_bestRule 1 = .ok (.iconst 3, 1) := by decide +kernel
theorem dX3_bestRule_2 : decode cX3_bestRule 2 = .ok (.invokestatic 70, 3) := by decide +kernel
theorem dX3_bestRule_5 : decode cX3_bestRule 5 = .ok (.ifCond .ne 9, 3) := by decide +kernel
theorem dX3_bestRule_8 : decode cX3_bestRule 8 = .ok (.aload_n 0, 1) := by decide +kernel
theorem dX3_bestRule_9 : decode cX3_bestRule 9 = .ok (.iconst (-1), 1) := by decide +kernel
theorem dX3_bestRule_10 : decode cX3_bestRule 10 = .ok (.invokevirtual 74, 3) := by decide +kernel
theorem dX3_bestRule_13 : decode cX3_bestRule 13 = .ok (.ireturn, 1) := by decide +kernel
theorem dX3_bestRule_14 : decode cX3_bestRule 14 = .ok (.iconst 0, 1) := by decide +kernel
theorem dX3_bestRule_15 : decode cX3_bestRule 15 = .ok (.istore_n 2, 1) := by decide +kernel
theorem dX3_bestRule_16 : decode cX3_bestRule 16 = .ok (.iconst 0, 1) := by decide +kernel
theorem dX3_bestRule_17 : decode cX3_bestRule 17 = .ok (.istore_n 3, 1) := by decide +kernel
theorem dX3_bestRule_18 : decode cX3_bestRule 18 = .ok (.iconst 0, 1) := by decide +kernel
theorem dX3_bestRule_19 : decode cX3_bestRule 19 = .ok (.istore 4, 2) := by decide +kernel
theorem dX3_bestRule_21 : decode cX3_bestRule 21 = .ok (.iload 4, 2) := by decide +kernel
theorem dX3_bestRule_23 : decode cX3_bestRule 23 = .ok (.iconst 5, 1) := by decide +kernel
theorem dX3_bestRule_24 : decode cX3_bestRule 24 = .ok (.if_icmp .ge 87, 3) := by decide +kernel
theorem dX3_bestRule_27 : decode cX3_bestRule 27 = .ok (.iconst 0, 1) := by decide +kernel
theorem dX3_bestRule_28 : decode cX3_bestRule 28 = .ok (.istore 5, 2) := by decide +kernel
theorem dX3_bestRule_30 : decode cX3_bestRule 30 = .ok (.iconst 0, 1) := by decide +kernel
theorem dX3_bestRule_31 : decode cX3_bestRule 31 = .ok (.istore 6, 2) := by decide +kernel
theorem dX3_bestRule_33 : decode cX3_bestRule 33 = .ok (.iload 6, 2) := by decide +kernel
theorem dX3_bestRule_35 : decode cX3_bestRule 35 = .ok (.aload_n 0, 1) := by decide +kernel
theorem dX3_bestRule_36 : decode cX3_bestRule 36 = .ok (.getfield 12, 3) := by decide +kernel
theorem dX3_bestRule_39 : decode cX3_bestRule 39 = .ok (.getfield 314, 3) := by decide +kernel
theorem dX3_bestRule_42 : decode cX3_bestRule 42 = .ok (.if_icmp .ge 46, 3) := by decide +kernel
theorem dX3_bestRule_45 : decode cX3_bestRule 45 = .ok (.aload_n 0, 1) := by decide +kernel
theorem dX3_bestRule_46 : decode cX3_bestRule 46 = .ok (.getfield 12, 3) := by decide +kernel
theorem dX3_bestRule_49 : decode cX3_bestRule 49 = .ok (.iload 6, 2) := by decide +kernel
theorem dX3_bestRule_51 : decode cX3_bestRule 51 = .ok (.invokevirtual 140, 3) := by decide +kernel
theorem dX3_bestRule_54 : decode cX3_bestRule 54 = .ok (.astore 7, 2) := by decide +kernel
theorem dX3_bestRule_56 : decode cX3_bestRule 56 = .ok (.aload 7, 2) := by decide +kernel
theorem dX3_bestRule_58 : decode cX3_bestRule 58 = .ok (.ifnull 24, 3) := by decide +kernel
theorem dX3_bestRule_61 : decode cX3_bestRule 61 = .ok (.iload 5, 2) := by decide +kernel
theorem dX3_bestRule_63 : decode cX3_bestRule 63 = .ok (.aload_n 0, 1) := by decide +kernel
theorem dX3_bestRule_64 : decode cX3_bestRule 64 = .ok (.aload 7, 2) := by decide +kernel
theorem dX3_bestRule_66 : decode cX3_bestRule 66 = .ok (.aload_n 0, 1) := by decide +kernel
theorem dX3_bestRule_67 : decode cX3_bestRule 67 = .ok (.aload 7, 2) := by decide +kernel
theorem dX3_bestRule_69 : decode cX3_bestRule 69 = .ok (.iload 4, 2) := by decide +kernel
theorem dX3_bestRule_71 : decode cX3_bestRule 71 = .ok (.iload_n 1, 1) := by decide +kernel
theorem dX3_bestRule_72 : decode cX3_bestRule 72 = .ok (.invokevirtual 307, 3) := by decide +kernel
theorem dX3_bestRule_75 : decode cX3_bestRule 75 = .ok (.iload_n 1, 1) := by decide +kernel
theorem dX3_bestRule_76 : decode cX3_bestRule 76 = .ok (.invokevirtual 311, 3) := by decide +kernel
theorem dX3_bestRule_79 : decode cX3_bestRule 79 = .ok (.iadd, 1) := by decide +kernel
theorem dX3_bestRule_80 : decode cX3_bestRule 80 = .ok (.istore 5, 2) := by decide +kernel
theorem dX3_bestRule_82 : decode cX3_bestRule 82 = .ok (.iinc 6 1, 3) := by decide +kernel
theorem dX3_bestRule_85 : decode cX3_bestRule 85 = .ok (.goto (-52), 3) := by decide +kernel
theorem dX3_bestRule_88 : decode cX3_bestRule 88 = .ok (.iload 4, 2) := by decide +kernel
theorem dX3_bestRule_90 : decode cX3_bestRule 90 = .ok (.ifCond .eq 9, 3) := by decide +kernel
theorem dX3_bestRule_93 : decode cX3_bestRule 93 = .ok (.iload 5, 2) := by decide +kernel
theorem dX3_bestRule_95 : decode cX3_bestRule 95 = .ok (.iload_n 3, 1) := by decide +kernel
theorem dX3_bestRule_96 : decode cX3_bestRule 96 = .ok (.if_icmp .le 9, 3) := by decide +kernel
theorem dX3_bestRule_99 : decode cX3_bestRule 99 = .ok (.iload 5, 2) := by decide +kernel
theorem dX3_bestRule_101 : decode cX3_bestRule 101 = .ok (.istore_n 3, 1) := by decide +kernel
theorem dX3_bestRule_102 : decode cX3_bestRule 102 = .ok (.iload 4, 2) := by decide +kernel
theorem dX3_bestRule_104 : decode cX3_bestRule 104 = .ok (.istore_n 2, 1) := by decide +kernel
theorem dX3_bestRule_105 : decode cX3_bestRule 105 = .ok (.iinc 4 1, 3) := by decide +kernel
theorem dX3_bestRule_108 : decode cX3_bestRule 108 = .ok (.goto (-87), 3) := by decide +kernel
theorem dX3_bestRule_111 : decode cX3_bestRule 111 = .ok (.iload_n 2, 1) := by decide +kernel
theorem dX3_bestRule_112 : decode cX3_bestRule 112 = .ok (.ireturn, 1) := by decide +kernel
theorem dX3_useByRule_0 : decode cX3_useByRule 0 = .ok (.iload_n 2, 1) := by decide +kernel
theorem dX3_useByRule_1 : decode cX3_useByRule 1 = .ok (.tableswitch 75 0 3 #[31, 51, 53, 67], 31) := by decide +kernel
theorem dX3_useByRule_32 : decode cX3_useByRule 32 = .ok (.aload_n 1, 1) := by decide +kernel
theorem dX3_useByRule_33 : decode cX3_useByRule 33 = .ok (.getfield 153, 3) := by decide +kernel
theorem dX3_useByRule_36 : decode cX3_useByRule 36 = .ok (.bipush 10, 2) := by decide +kernel
theorem dX3_useByRule_38 : decode cX3_useByRule 38 = .ok (.aload_n 1, 1) := by decide +kernel
theorem dX3_useByRule_39 : decode cX3_useByRule 39 = .ok (.getfield 147, 3) := by decide +kernel
theorem dX3_useByRule_42 : decode cX3_useByRule 42 = .ok (.imul, 1) := by decide +kernel
theorem dX3_useByRule_43 : decode cX3_useByRule 43 = .ok (.if_icmp .le 7, 3) := by decide +kernel
theorem dX3_useByRule_46 : decode cX3_useByRule 46 = .ok (.iconst 4, 1) := by decide +kernel
theorem dX3_useByRule_47 : decode cX3_useByRule 47 = .ok (.goto 4, 3) := by decide +kernel
theorem dX3_useByRule_50 : decode cX3_useByRule 50 = .ok (.iconst 0, 1) := by decide +kernel
theorem dX3_useByRule_51 : decode cX3_useByRule 51 = .ok (.ireturn, 1) := by decide +kernel
theorem dX3_useByRule_52 : decode cX3_useByRule 52 = .ok (.iconst 0, 1) := by decide +kernel
theorem dX3_useByRule_53 : decode cX3_useByRule 53 = .ok (.ireturn, 1) := by decide +kernel
theorem dX3_useByRule_54 : decode cX3_useByRule 54 = .ok (.aload_n 1, 1) := by decide +kernel
theorem dX3_useByRule_55 : decode cX3_useByRule 55 = .ok (.invokevirtual 156, 3) := by decide +kernel
theorem dX3_useByRule_58 : decode cX3_useByRule 58 = .ok (.iconst 3, 1) := by decide +kernel
theorem dX3_useByRule_59 : decode cX3_useByRule 59 = .ok (.if_icmp .lt 7, 3) := by decide +kernel
theorem dX3_useByRule_62 : decode cX3_useByRule 62 = .ok (.iconst 4, 1) := by decide +kernel
theorem dX3_useByRule_63 : decode cX3_useByRule 63 = .ok (.goto 4, 3) := by decide +kernel
theorem dX3_useByRule_66 : decode cX3_useByRule 66 = .ok (.iconst 0, 1) := by decide +kernel
theorem dX3_useByRule_67 : decode cX3_useByRule 67 = .ok (.ireturn, 1) := by decide +kernel
theorem dX3_useByRule_68 : decode cX3_useByRule 68 = .ok (.aload_n 1, 1) := by decide +kernel
theorem dX3_useByRule_69 : decode cX3_useByRule 69 = .ok (.invokevirtual 156, 3) := by decide +kernel
theorem dX3_useByRule_72 : decode cX3_useByRule 72 = .ok (.invokestatic 317, 3) := by decide +kernel
theorem dX3_useByRule_75 : decode cX3_useByRule 75 = .ok (.ireturn, 1) := by decide +kernel
theorem dX3_useByRule_76 : decode cX3_useByRule 76 = .ok (.aload_n 0, 1) := by decide +kernel
theorem dX3_useByRule_77 : decode cX3_useByRule 77 = .ok (.getfield 60, 3) := by decide +kernel
theorem dX3_useByRule_80 : decode cX3_useByRule 80 = .ok (.aload_n 1, 1) := by decide +kernel
theorem dX3_useByRule_81 : decode cX3_useByRule 81 = .ok (.invokevirtual 227, 3) := by decide +kernel
theorem dX3_useByRule_84 : decode cX3_useByRule 84 = .ok (.aload_n 0, 1) := by decide +kernel
theorem dX3_useByRule_85 : decode cX3_useByRule 85 = .ok (.getfield 12, 3) := by decide +kernel
theorem dX3_useByRule_88 : decode cX3_useByRule 88 = .ok (.iload_n 3, 1) := by decide +kernel
theorem dX3_useByRule_89 : decode cX3_useByRule 89 = .ok (.aload_n 0, 1) := by decide +kernel
theorem dX3_useByRule_90 : decode cX3_useByRule 90 = .ok (.getfield 60, 3) := by decide +kernel
theorem dX3_useByRule_93 : decode cX3_useByRule 93 = .ok (.invokevirtual 215, 3) := by decide +kernel
theorem dX3_useByRule_96 : decode cX3_useByRule 96 = .ok (.ireturn, 1) := by decide +kernel
theorem dX3_firstHarmless_0 : decode cX3_firstHarmless 0 = .ok (.iconst 0, 1) := by decide +kernel
theorem dX3_firstHarmless_1 : decode cX3_firstHarmless 1 = .ok (.istore_n 1, 1) := by decide +kernel
theorem dX3_firstHarmless_2 : decode cX3_firstHarmless 2 = .ok (.iload_n 1, 1) := by decide +kernel
theorem dX3_firstHarmless_3 : decode cX3_firstHarmless 3 = .ok (.iconst 2, 1) := by decide +kernel
theorem dX3_firstHarmless_4 : decode cX3_firstHarmless 4 = .ok (.if_icmp .gt 19, 3) := by decide +kernel
theorem dX3_firstHarmless_7 : decode cX3_firstHarmless 7 = .ok (.iload_n 1, 1) := by decide +kernel
theorem dX3_firstHarmless_8 : decode cX3_firstHarmless 8 = .ok (.iload_n 0, 1) := by decide +kernel
theorem dX3_firstHarmless_9 : decode cX3_firstHarmless 9 = .ok (.invokestatic 240, 3) := by decide +kernel
theorem dX3_firstHarmless_12 : decode cX3_firstHarmless 12 = .ok (.ifCond .ne 5, 3) := by decide +kernel
theorem dX3_firstHarmless_15 : decode cX3_firstHarmless 15 = .ok (.iload_n 1, 1) := by decide +kernel
theorem dX3_firstHarmless_16 : decode cX3_firstHarmless 16 = .ok (.ireturn, 1) := by decide +kernel
theorem dX3_firstHarmless_17 : decode cX3_firstHarmless 17 = .ok (.iinc 1 1, 3) := by decide +kernel
theorem dX3_firstHarmless_20 : decode cX3_firstHarmless 20 = .ok (.goto (-18), 3) := by decide +kernel
theorem dX3_firstHarmless_23 : decode cX3_firstHarmless 23 = .ok (.iconst 3, 1) := by decide +kernel
theorem dX3_firstHarmless_24 : decode cX3_firstHarmless 24 = .ok (.ireturn, 1) := by decide +kernel
theorem dX3_trueNet_0 : decode cX3_trueNet 0 = .ok (.aload_n 1, 1) := by decide +kernel
theorem dX3_trueNet_1 : decode cX3_trueNet 1 = .ok (.getfield 150, 3) := by decide +kernel
theorem dX3_trueNet_4 : decode cX3_trueNet 4 = .ok (.aload_n 0, 1) := by decide +kernel
theorem dX3_trueNet_5 : decode cX3_trueNet 5 = .ok (.getfield 12, 3) := by decide +kernel
theorem dX3_trueNet_8 : decode cX3_trueNet 8 = .ok (.iload_n 2, 1) := by decide +kernel
theorem dX3_trueNet_9 : decode cX3_trueNet 9 = .ok (.aload_n 1, 1) := by decide +kernel
theorem dX3_trueNet_10 : decode cX3_trueNet 10 = .ok (.invokevirtual 156, 3) := by decide +kernel
theorem dX3_trueNet_13 : decode cX3_trueNet 13 = .ok (.iload_n 3, 1) := by decide +kernel
theorem dX3_trueNet_14 : decode cX3_trueNet 14 = .ok (.invokevirtual 320, 3) := by decide +kernel
theorem dX3_trueNet_17 : decode cX3_trueNet 17 = .ok (.imul, 1) := by decide +kernel
theorem dX3_trueNet_18 : decode cX3_trueNet 18 = .ok (.ireturn, 1) := by decide +kernel
theorem dX3_ill_0 : decode cX3_ill 0 = .ok (.aload_n 0, 1) := by decide +kernel
theorem dX3_ill_1 : decode cX3_ill 1 = .ok (.iconst 1, 1) := by decide +kernel
theorem dX3_ill_2 : decode cX3_ill 2 = .ok (.iload_n 1, 1) := by decide +kernel
theorem dX3_ill_3 : decode cX3_ill 3 = .ok (.iconst 2, 1) := by decide +kernel
theorem dX3_ill_4 : decode cX3_ill 4 = .ok (.invokestatic 70, 3) := by decide +kernel
theorem dX3_ill_7 : decode cX3_ill 7 = .ok (.invokevirtual 175, 3) := by decide +kernel
theorem dX3_ill_10 : decode cX3_ill 10 = .ok (.istore_n 2, 1) := by decide +kernel
theorem dX3_ill_11 : decode cX3_ill 11 = .ok (.iload_n 2, 1) := by decide +kernel
theorem dX3_ill_12 : decode cX3_ill 12 = .ok (.ifCond .ne 13, 3) := by decide +kernel
theorem dX3_ill_15 : decode cX3_ill 15 = .ok (.aload_n 0, 1) := by decide +kernel
theorem dX3_ill_16 : decode cX3_ill 16 = .ok (.invokevirtual 323, 3) := by decide +kernel
theorem dX3_ill_19 : decode cX3_ill 19 = .ok (.ifCond .ne 6, 3) := by decide +kernel
theorem dX3_ill_22 : decode cX3_ill 22 = .ok (.bipush (-3), 2) := by decide +kernel
theorem dX3_ill_24 : decode cX3_ill 24 = .ok (.istore_n 2, 1) := by decide +kernel
theorem dX3_ill_25 : decode cX3_ill 25 = .ok (.iload_n 2, 1) := by decide +kernel
theorem dX3_ill_26 : decode cX3_ill 26 = .ok (.ifCond .eq 9, 3) := by decide +kernel
theorem dX3_ill_29 : decode cX3_ill 29 = .ok (.aload_n 0, 1) := by decide +kernel
theorem dX3_ill_30 : decode cX3_ill 30 = .ok (.iload_n 2, 1) := by decide +kernel
theorem dX3_ill_31 : decode cX3_ill 31 = .ok (.invokevirtual 74, 3) := by decide +kernel
theorem dX3_ill_34 : decode cX3_ill 34 = .ok (.ireturn, 1) := by decide +kernel
theorem dX3_ill_35 : decode cX3_ill 35 = .ok (.aload_n 0, 1) := by decide +kernel
theorem dX3_ill_36 : decode cX3_ill 36 = .ok (.invokevirtual 189, 3) := by decide +kernel
theorem dX3_ill_39 : decode cX3_ill 39 = .ok (.bipush 63, 2) := by decide +kernel
theorem dX3_ill_41 : decode cX3_ill 41 = .ok (.istore_n 3, 1) := by decide +kernel
theorem dX3_ill_42 : decode cX3_ill 42 = .ok (.bipush (-9), 2) := by decide +kernel
theorem dX3_ill_44 : decode cX3_ill 44 = .ok (.istore 4, 2) := by decide +kernel
theorem dX3_ill_46 : decode cX3_ill 46 = .ok (.iconst 0, 1) := by decide +kernel
theorem dX3_ill_47 : decode cX3_ill 47 = .ok (.istore 5, 2) := by decide +kernel
theorem dX3_ill_49 : decode cX3_ill 49 = .ok (.iconst 2, 1) := by decide +kernel
theorem dX3_ill_50 : decode cX3_ill 50 = .ok (.iload 5, 2) := by decide +kernel
theorem dX3_ill_52 : decode cX3_ill 52 = .ok (.imul, 1) := by decide +kernel
theorem dX3_ill_53 : decode cX3_ill 53 = .ok (.aload_n 0, 1) := by decide +kernel
theorem dX3_ill_54 : decode cX3_ill 54 = .ok (.getfield 37, 3) := by decide +kernel
theorem dX3_ill_57 : decode cX3_ill 57 = .ok (.if_icmp .ge 62, 3) := by decide +kernel
theorem dX3_ill_60 : decode cX3_ill 60 = .ok (.iload_n 3, 1) := by decide +kernel
theorem dX3_ill_61 : decode cX3_ill 61 = .ok (.aload_n 0, 1) := by decide +kernel
theorem dX3_ill_62 : decode cX3_ill 62 = .ok (.aload_n 0, 1) := by decide +kernel
theorem dX3_ill_63 : decode cX3_ill 63 = .ok (.getfield 46, 3) := by decide +kernel
theorem dX3_ill_66 : decode cX3_ill 66 = .ok (.getfield 147, 3) := by decide +kernel
theorem dX3_ill_69 : decode cX3_ill 69 = .ok (.aload_n 0, 1) := by decide +kernel
theorem dX3_ill_70 : decode cX3_ill 70 = .ok (.getfield 34, 3) := by decide +kernel
theorem dX3_ill_73 : decode cX3_ill 73 = .ok (.iconst 2, 1) := by decide +kernel
theorem dX3_ill_74 : decode cX3_ill 74 = .ok (.iload 5, 2) := by decide +kernel
theorem dX3_ill_76 : decode cX3_ill 76 = .ok (.imul, 1) := by decide +kernel
theorem dX3_ill_77 : decode cX3_ill 77 = .ok (.invokestatic 136, 3) := by decide +kernel
theorem dX3_ill_80 : decode cX3_ill 80 = .ok (.aload_n 0, 1) := by decide +kernel
theorem dX3_ill_81 : decode cX3_ill 81 = .ok (.getfield 34, 3) := by decide +kernel
theorem dX3_ill_84 : decode cX3_ill 84 = .ok (.iconst 2, 1) := by decide +kernel
theorem dX3_ill_85 : decode cX3_ill 85 = .ok (.iload 5, 2) := by decide +kernel
theorem dX3_ill_87 : decode cX3_ill 87 = .ok (.imul, 1) := by decide +kernel
theorem dX3_ill_88 : decode cX3_ill 88 = .ok (.iconst 1, 1) := by decide +kernel
theorem dX3_ill_89 : decode cX3_ill 89 = .ok (.iadd, 1) := by decide +kernel
theorem dX3_ill_90 : decode cX3_ill 90 = .ok (.invokestatic 136, 3) := by decide +kernel
theorem dX3_ill_93 : decode cX3_ill 93 = .ok (.invokevirtual 327, 3) := by decide +kernel
theorem dX3_ill_96 : decode cX3_ill 96 = .ok (.iand, 1) := by decide +kernel
theorem dX3_ill_97 : decode cX3_ill 97 = .ok (.istore_n 3, 1) := by decide +kernel
theorem dX3_ill_98 : decode cX3_ill 98 = .ok (.iload_n 3, 1) := by decide +kernel
theorem dX3_ill_99 : decode cX3_ill 99 = .ok (.ifCond .ne 14, 3) := by decide +kernel
theorem dX3_ill_102 : decode cX3_ill 102 = .ok (.iload 4, 2) := by decide +kernel
theorem dX3_ill_104 : decode cX3_ill 104 = .ok (.bipush (-9), 2) := by decide +kernel
theorem dX3_ill_106 : decode cX3_ill 106 = .ok (.if_icmp .ne 7, 3) := by decide +kernel
