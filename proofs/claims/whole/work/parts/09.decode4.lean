theorem dX4_hand_0 : decode cX4_hand 0 = .ok (.aload_n 0, 1) := by decide +kernel
theorem dX4_hand_1 : decode cX4_hand 1 = .ok (.iload_n 1, 1) := by decide +kernel
theorem dX4_hand_2 : decode cX4_hand 2 = .ok (.invokevirtual 131, 3) := by decide +kernel
theorem dX4_hand_5 : decode cX4_hand 5 = .ok (.ifCond .ne 9, 3) := by decide +kernel
theorem dX4_hand_8 : decode cX4_hand 8 = .ok (.aload_n 0, 1) := by decide +kernel
theorem dX4_hand_9 : decode cX4_hand 9 = .ok (.iconst (-1), 1) := by decide +kernel
theorem dX4_hand_10 : decode cX4_hand 10 = .ok (.invokevirtual 85, 3) := by decide +kernel
theorem dX4_hand_13 : decode cX4_hand 13 = .ok (.ireturn, 1) := by decide +kernel
theorem dX4_hand_14 : decode cX4_hand 14 = .ok (.aload_n 0, 1) := by decide +kernel
theorem dX4_hand_15 : decode cX4_hand 15 = .ok (.getfield 117, 3) := by decide +kernel
theorem dX4_hand_18 : decode cX4_hand 18 = .ok (.istore_n 2, 1) := by decide +kernel
theorem dX4_hand_19 : decode cX4_hand 19 = .ok (.aload_n 0, 1) := by decide +kernel
theorem dX4_hand_20 : decode cX4_hand 20 = .ok (.iload_n 1, 1) := by decide +kernel
theorem dX4_hand_21 : decode cX4_hand 21 = .ok (.putfield 117, 3) := by decide +kernel
theorem dX4_hand_24 : decode cX4_hand 24 = .ok (.aload_n 0, 1) := by decide +kernel
theorem dX4_hand_25 : decode cX4_hand 25 = .ok (.iconst 0, 1) := by decide +kernel
theorem dX4_hand_26 : decode cX4_hand 26 = .ok (.putfield 110, 3) := by decide +kernel
theorem dX4_hand_29 : decode cX4_hand 29 = .ok (.iload_n 2, 1) := by decide +kernel
theorem dX4_hand_30 : decode cX4_hand 30 = .ok (.ireturn, 1) := by decide +kernel
theorem dX4_sees_0 : decode cX4_sees 0 = .ok (.aload_n 0, 1) := by decide +kernel
theorem dX4_sees_1 : decode cX4_sees 1 = .ok (.getfield 28, 3) := by decide +kernel
theorem dX4_sees_4 : decode cX4_sees 4 = .ok (.aload_n 0, 1) := by decide +kernel
theorem dX4_sees_5 : decode cX4_sees 5 = .ok (.getfield 110, 3) := by decide +kernel
theorem dX4_sees_8 : decode cX4_sees 8 = .ok (.iload_n 1, 1) := by decide +kernel
theorem dX4_sees_9 : decode cX4_sees 9 = .ok (.iastore, 1) := by decide +kernel
theorem dX4_sees_10 : decode cX4_sees 10 = .ok (.aload_n 0, 1) := by decide +kernel
theorem dX4_sees_11 : decode cX4_sees 11 = .ok (.getfield 31, 3) := by decide +kernel
theorem dX4_sees_14 : decode cX4_sees 14 = .ok (.aload_n 0, 1) := by decide +kernel
theorem dX4_sees_15 : decode cX4_sees 15 = .ok (.getfield 110, 3) := by decide +kernel
theorem dX4_sees_18 : decode cX4_sees 18 = .ok (.iload_n 2, 1) := by decide +kernel
theorem dX4_sees_19 : decode cX4_sees 19 = .ok (.iastore, 1) := by decide +kernel
theorem dX4_sees_20 : decode cX4_sees 20 = .ok (.aload_n 0, 1) := by decide +kernel
theorem dX4_sees_21 : decode cX4_sees 21 = .ok (.dup, 1) := by decide +kernel
theorem dX4_sees_22 : decode cX4_sees 22 = .ok (.getfield 110, 3) := by decide +kernel
theorem dX4_sees_25 : decode cX4_sees 25 = .ok (.iconst 1, 1) := by decide +kernel
theorem dX4_sees_26 : decode cX4_sees 26 = .ok (.iadd, 1) := by decide +kernel
theorem dX4_sees_27 : decode cX4_sees 27 = .ok (.putfield 110, 3) := by decide +kernel
theorem dX4_sees_30 : decode cX4_sees 30 = .ok (.return_, 1) := by decide +kernel
theorem dX4_isTest_0 : decode cX4_isTest 0 = .ok (.iload_n 0, 1) := by decide +kernel
theorem dX4_isTest_1 : decode cX4_isTest 1 = .ok (.ifCond .lt 12, 3) := by decide +kernel
theorem dX4_isTest_4 : decode cX4_isTest 4 = .ok (.iload_n 0, 1) := by decide +kernel
theorem dX4_isTest_5 : decode cX4_isTest 5 = .ok (.iconst 4, 1) := by decide +kernel
theorem dX4_isTest_6 : decode cX4_isTest 6 = .ok (.if_icmp .ge 7, 3) := by decide +kernel
theorem dX4_isTest_9 : decode cX4_isTest 9 = .ok (.iconst 1, 1) := by decide +kernel
theorem dX4_isTest_10 : decode cX4_isTest 10 = .ok (.goto 4, 3) := by decide +kernel
theorem dX4_isTest_13 : decode cX4_isTest 13 = .ok (.iconst 0, 1) := by decide +kernel
theorem dX4_isTest_14 : decode cX4_isTest 14 = .ok (.ireturn, 1) := by decide +kernel
theorem dX4_see_0 : decode cX4_see 0 = .ok (.iload_n 1, 1) := by decide +kernel
theorem dX4_see_1 : decode cX4_see 1 = .ok (.invokestatic 192, 3) := by decide +kernel
theorem dX4_see_4 : decode cX4_see 4 = .ok (.ifCond .ne 7, 3) := by decide +kernel
theorem dX4_see_7 : decode cX4_see 7 = .ok (.iconst (-1), 1) := by decide +kernel
theorem dX4_see_8 : decode cX4_see 8 = .ok (.goto 44, 3) := by decide +kernel
theorem dX4_see_11 : decode cX4_see 11 = .ok (.iload_n 2, 1) := by decide +kernel
theorem dX4_see_12 : decode cX4_see 12 = .ok (.iconst 0, 1) := by decide +kernel
theorem dX4_see_13 : decode cX4_see 13 = .ok (.iconst 1, 1) := by decide +kernel
theorem dX4_see_14 : decode cX4_see 14 = .ok (.invokestatic 96, 3) := by decide +kernel
theorem dX4_see_17 : decode cX4_see 17 = .ok (.ifCond .ne 8, 3) := by decide +kernel
theorem dX4_see_20 : decode cX4_see 20 = .ok (.bipush (-2), 2) := by decide +kernel
theorem dX4_see_22 : decode cX4_see 22 = .ok (.goto 30, 3) := by decide +kernel
theorem dX4_see_25 : decode cX4_see 25 = .ok (.aload_n 0, 1) := by decide +kernel
theorem dX4_see_26 : decode cX4_see 26 = .ok (.getfield 75, 3) := by decide +kernel
theorem dX4_see_29 : decode cX4_see 29 = .ok (.ifCond .ne 8, 3) := by decide +kernel
theorem dX4_see_32 : decode cX4_see 32 = .ok (.bipush (-3), 2) := by decide +kernel
theorem dX4_see_34 : decode cX4_see 34 = .ok (.goto 18, 3) := by decide +kernel
theorem dX4_see_37 : decode cX4_see 37 = .ok (.aload_n 0, 1) := by decide +kernel
theorem dX4_see_38 : decode cX4_see 38 = .ok (.getfield 110, 3) := by decide +kernel
theorem dX4_see_41 : decode cX4_see 41 = .ok (.bipush 8, 2) := by decide +kernel
theorem dX4_see_43 : decode cX4_see 43 = .ok (.if_icmp .ne 8, 3) := by decide +kernel
theorem dX4_see_46 : decode cX4_see 46 = .ok (.bipush (-6), 2) := by decide +kernel
theorem dX4_see_48 : decode cX4_see 48 = .ok (.goto 4, 3) := by decide +kernel
theorem dX4_see_51 : decode cX4_see 51 = .ok (.iconst 0, 1) := by decide +kernel
theorem dX4_see_52 : decode cX4_see 52 = .ok (.istore_n 3, 1) := by decide +kernel
theorem dX4_see_53 : decode cX4_see 53 = .ok (.iload_n 3, 1) := by decide +kernel
theorem dX4_see_54 : decode cX4_see 54 = .ok (.ifCond .eq 9, 3) := by decide +kernel
theorem dX4_see_57 : decode cX4_see 57 = .ok (.aload_n 0, 1) := by decide +kernel
theorem dX4_see_58 : decode cX4_see 58 = .ok (.iload_n 3, 1) := by decide +kernel
theorem dX4_see_59 : decode cX4_see 59 = .ok (.invokevirtual 85, 3) := by decide +kernel
theorem dX4_see_62 : decode cX4_see 62 = .ok (.ireturn, 1) := by decide +kernel
theorem dX4_see_63 : decode cX4_see 63 = .ok (.aload_n 0, 1) := by decide +kernel
theorem dX4_see_64 : decode cX4_see 64 = .ok (.iload_n 1, 1) := by decide +kernel
theorem dX4_see_65 : decode cX4_see 65 = .ok (.iload_n 2, 1) := by decide +kernel
theorem dX4_see_66 : decode cX4_see 66 = .ok (.invokevirtual 113, 3) := by decide +kernel
theorem dX4_see_69 : decode cX4_see 69 = .ok (.aload_n 0, 1) := by decide +kernel
theorem dX4_see_70 : decode cX4_see 70 = .ok (.getfield 110, 3) := by decide +kernel
theorem dX4_see_73 : decode cX4_see 73 = .ok (.ireturn, 1) := by decide +kernel
theorem dX4_unsee_0 : decode cX4_unsee 0 = .ok (.aload_n 0, 1) := by decide +kernel
theorem dX4_unsee_1 : decode cX4_unsee 1 = .ok (.getfield 110, 3) := by decide +kernel
theorem dX4_unsee_4 : decode cX4_unsee 4 = .ok (.ifCond .ne 10, 3) := by decide +kernel
theorem dX4_unsee_7 : decode cX4_unsee 7 = .ok (.aload_n 0, 1) := by decide +kernel
theorem dX4_unsee_8 : decode cX4_unsee 8 = .ok (.bipush (-3), 2) := by decide +kernel
theorem dX4_unsee_10 : decode cX4_unsee 10 = .ok (.invokevirtual 85, 3) := by decide +kernel
theorem dX4_unsee_13 : decode cX4_unsee 13 = .ok (.ireturn, 1) := by decide +kernel
theorem dX4_unsee_14 : decode cX4_unsee 14 = .ok (.aload_n 0, 1) := by decide +kernel
theorem dX4_unsee_15 : decode cX4_unsee 15 = .ok (.dup, 1) := by decide +kernel
theorem dX4_unsee_16 : decode cX4_unsee 16 = .ok (.getfield 110, 3) := by decide +kernel
theorem dX4_unsee_19 : decode cX4_unsee 19 = .ok (.iconst 1, 1) := by decide +kernel
theorem dX4_unsee_20 : decode cX4_unsee 20 = .ok (.isub, 1) := by decide +kernel
theorem dX4_unsee_21 : decode cX4_unsee 21 = .ok (.putfield 110, 3) := by decide +kernel
theorem dX4_unsee_24 : decode cX4_unsee 24 = .ok (.aload_n 0, 1) := by decide +kernel
theorem dX4_unsee_25 : decode cX4_unsee 25 = .ok (.getfield 110, 3) := by decide +kernel
theorem dX4_unsee_28 : decode cX4_unsee 28 = .ok (.ireturn, 1) := by decide +kernel
theorem dX4_uses_0 : decode cX4_uses 0 = .ok (.aload_n 0, 1) := by decide +kernel
theorem dX4_uses_1 : decode cX4_uses 1 = .ok (.getfield 19, 3) := by decide +kernel
theorem dX4_uses_4 : decode cX4_uses 4 = .ok (.aload_n 0, 1) := by decide +kernel
theorem dX4_uses_5 : decode cX4_uses 5 = .ok (.getfield 117, 3) := by decide +kernel
theorem dX4_uses_8 : decode cX4_uses 8 = .ok (.dup2, 1) := by decide +kernel
theorem dX4_uses_9 : decode cX4_uses 9 = .ok (.iaload, 1) := by decide +kernel
theorem dX4_uses_10 : decode cX4_uses 10 = .ok (.iload_n 1, 1) := by decide +kernel
theorem dX4_uses_11 : decode cX4_uses 11 = .ok (.isub, 1) := by decide +kernel
theorem dX4_uses_12 : decode cX4_uses 12 = .ok (.iastore, 1) := by decide +kernel
theorem dX4_uses_13 : decode cX4_uses 13 = .ok (.aload_n 0, 1) := by decide +kernel
theorem dX4_uses_14 : decode cX4_uses 14 = .ok (.getfield 19, 3) := by decide +kernel
theorem dX4_uses_17 : decode cX4_uses 17 = .ok (.aload_n 0, 1) := by decide +kernel
theorem dX4_uses_18 : decode cX4_uses 18 = .ok (.getfield 117, 3) := by decide +kernel
theorem dX4_uses_21 : decode cX4_uses 21 = .ok (.iaload, 1) := by decide +kernel
theorem dX4_uses_22 : decode cX4_uses 22 = .ok (.istore_n 2, 1) := by decide +kernel
theorem dX4_uses_23 : decode cX4_uses 23 = .ok (.iload_n 2, 1) := by decide +kernel
theorem dX4_uses_24 : decode cX4_uses 24 = .ok (.ifCond .le 5, 3) := by decide +kernel
theorem dX4_uses_27 : decode cX4_uses 27 = .ok (.iload_n 2, 1) := by decide +kernel
theorem dX4_uses_28 : decode cX4_uses 28 = .ok (.ireturn, 1) := by decide +kernel
theorem dX4_uses_29 : decode cX4_uses 29 = .ok (.aload_n 0, 1) := by decide +kernel
theorem dX4_uses_30 : decode cX4_uses 30 = .ok (.dup, 1) := by decide +kernel
theorem dX4_uses_31 : decode cX4_uses 31 = .ok (.getfield 75, 3) := by decide +kernel
theorem dX4_uses_34 : decode cX4_uses 34 = .ok (.iconst 1, 1) := by decide +kernel
theorem dX4_uses_35 : decode cX4_uses 35 = .ok (.isub, 1) := by decide +kernel
theorem dX4_uses_36 : decode cX4_uses 36 = .ok (.putfield 75, 3) := by decide +kernel
theorem dX4_uses_39 : decode cX4_uses 39 = .ok (.aload_n 0, 1) := by decide +kernel
theorem dX4_uses_40 : decode cX4_uses 40 = .ok (.getfield 117, 3) := by decide +kernel
theorem dX4_uses_43 : decode cX4_uses 43 = .ok (.istore_n 3, 1) := by decide +kernel
theorem dX4_uses_44 : decode cX4_uses 44 = .ok (.iload_n 3, 1) := by decide +kernel
theorem dX4_uses_45 : decode cX4_uses 45 = .ok (.aload_n 0, 1) := by decide +kernel
theorem dX4_uses_46 : decode cX4_uses 46 = .ok (.getfield 75, 3) := by decide +kernel
theorem dX4_uses_49 : decode cX4_uses 49 = .ok (.if_icmp .ge 65, 3) := by decide +kernel
theorem dX4_uses_52 : decode cX4_uses 52 = .ok (.aload_n 0, 1) := by decide +kernel
theorem dX4_uses_53 : decode cX4_uses 53 = .ok (.getfield 13, 3) := by decide +kernel
theorem dX4_uses_56 : decode cX4_uses 56 = .ok (.iload_n 3, 1) := by decide +kernel
theorem dX4_uses_57 : decode cX4_uses 57 = .ok (.aload_n 0, 1) := by decide +kernel
theorem dX4_uses_58 : decode cX4_uses 58 = .ok (.getfield 13, 3) := by decide +kernel
theorem dX4_uses_61 : decode cX4_uses 61 = .ok (.iload_n 3, 1) := by decide +kernel
theorem dX4_uses_62 : decode cX4_uses 62 = .ok (.iconst 1, 1) := by decide +kernel
theorem dX4_uses_63 : decode cX4_uses 63 = .ok (.iadd, 1) := by decide +kernel
theorem dX4_uses_64 : decode cX4_uses 64 = .ok (.iaload, 1) := by decide +kernel
theorem dX4_uses_65 : decode cX4_uses 65 = .ok (.iastore, 1) := by decide +kernel
theorem dX4_uses_66 : decode cX4_uses 66 = .ok (.aload_n 0, 1) := by decide +kernel
theorem dX4_uses_67 : decode cX4_uses 67 = .ok (.getfield 16, 3) := by decide +kernel
theorem dX4_uses_70 : decode cX4_uses 70 = .ok (.iload_n 3, 1) := by decide +kernel
theorem dX4_uses_71 : decode cX4_uses 71 = .ok (.aload_n 0, 1) := by decide +kernel
theorem dX4_uses_72 : decode cX4_uses 72 = .ok (.getfield 16, 3) := by decide +kernel
theorem dX4_uses_75 : decode cX4_uses 75 = .ok (.iload_n 3, 1) := by decide +kernel
theorem dX4_uses_76 : decode cX4_uses 76 = .ok (.iconst 1, 1) := by decide +kernel
theorem dX4_uses_77 : decode cX4_uses 77 = .ok (.iadd, 1) := by decide +kernel
theorem dX4_uses_78 : decode cX4_uses 78 = .ok (.iaload, 1) := by decide +kernel
theorem dX4_uses_79 : decode cX4_uses 79 = .ok (.iastore, 1) := by decide +kernel
theorem dX4_uses_80 : decode cX4_uses 80 = .ok (.aload_n 0, 1) := by decide +kernel
theorem dX4_uses_81 : decode cX4_uses 81 = .ok (.getfield 19, 3) := by decide +kernel
theorem dX4_uses_84 : decode cX4_uses 84 = .ok (.iload_n 3, 1) := by decide +kernel
theorem dX4_uses_85 : decode cX4_uses 85 = .ok (.aload_n 0, 1) := by decide +kernel
theorem dX4_uses_86 : decode cX4_uses 86 = .ok (.getfield 19, 3) := by decide +kernel
theorem dX4_uses_89 : decode cX4_uses 89 = .ok (.iload_n 3, 1) := by decide +kernel
theorem dX4_uses_90 : decode cX4_uses 90 = .ok (.iconst 1, 1) := by decide +kernel
theorem dX4_uses_91 : decode cX4_uses 91 = .ok (.iadd, 1) := by decide +kernel
theorem dX4_uses_92 : decode cX4_uses 92 = .ok (.iaload, 1) := by decide +kernel
theorem dX4_uses_93 : decode cX4_uses 93 = .ok (.iastore, 1) := by decide +kernel
theorem dX4_uses_94 : decode cX4_uses 94 = .ok (.aload_n 0, 1) := by decide +kernel
theorem dX4_uses_95 : decode cX4_uses 95 = .ok (.getfield 22, 3) := by decide +kernel
theorem dX4_uses_98 : decode cX4_uses 98 = .ok (.iload_n 3, 1) := by decide +kernel
theorem dX4_uses_99 : decode cX4_uses 99 = .ok (.aload_n 0, 1) := by decide +kernel
theorem dX4_uses_100 : decode cX4_uses 100 = .ok (.getfield 22, 3) := by decide +kernel
theorem dX4_uses_103 : decode cX4_uses 103 = .ok (.iload_n 3, 1) := by decide +kernel
theorem dX4_uses_104 : decode cX4_uses 104 = .ok (.iconst 1, 1) := by decide +kernel
theorem dX4_uses_105 : decode cX4_uses 105 = .ok (.iadd, 1) := by decide +kernel
theorem dX4_uses_106 : decode cX4_uses 106 = .ok (.iaload, 1) := by decide +kernel
theorem dX4_uses_107 : decode cX4_uses 107 = .ok (.iastore, 1) := by decide +kernel
theorem dX4_uses_108 : decode cX4_uses 108 = .ok (.iinc 3 1, 3) := by decide +kernel
theorem dX4_uses_111 : decode cX4_uses 111 = .ok (.goto (-67), 3) := by decide +kernel
theorem dX4_uses_114 : decode cX4_uses 114 = .ok (.aload_n 0, 1) := by decide +kernel
theorem dX4_uses_115 : decode cX4_uses 115 = .ok (.iconst 0, 1) := by decide +kernel
theorem dX4_uses_116 : decode cX4_uses 116 = .ok (.putfield 117, 3) := by decide +kernel
theorem dX4_uses_119 : decode cX4_uses 119 = .ok (.aload_n 0, 1) := by decide +kernel
theorem dX4_uses_120 : decode cX4_uses 120 = .ok (.iconst 0, 1) := by decide +kernel
theorem dX4_uses_121 : decode cX4_uses 121 = .ok (.putfield 110, 3) := by decide +kernel
theorem dX4_uses_124 : decode cX4_uses 124 = .ok (.iconst 0, 1) := by decide +kernel
theorem dX4_uses_125 : decode cX4_uses 125 = .ok (.ireturn, 1) := by decide +kernel
theorem dX4_use_0 : decode cX4_use 0 = .ok (.aload_n 0, 1) := by decide +kernel
theorem dX4_use_1 : decode cX4_use 1 = .ok (.getfield 75, 3) := by decide +kernel
theorem dX4_use_4 : decode cX4_use 4 = .ok (.ifCond .ne 8, 3) := by decide +kernel
theorem dX4_use_7 : decode cX4_use 7 = .ok (.bipush (-3), 2) := by decide +kernel
theorem dX4_use_9 : decode cX4_use 9 = .ok (.goto 17, 3) := by decide +kernel
theorem dX4_use_12 : decode cX4_use 12 = .ok (.iload_n 1, 1) := by decide +kernel
theorem dX4_use_13 : decode cX4_use 13 = .ok (.iconst 1, 1) := by decide +kernel
theorem dX4_use_14 : decode cX4_use 14 = .ok (.aload_n 0, 1) := by decide +kernel
theorem dX4_use_15 : decode cX4_use 15 = .ok (.getfield 19, 3) := by decide +kernel
theorem dX4_use_18 : decode cX4_use 18 = .ok (.aload_n 0, 1) := by decide +kernel
theorem dX4_use_19 : decode cX4_use 19 = .ok (.getfield 117, 3) := by decide +kernel
theorem dX4_use_22 : decode cX4_use 22 = .ok (.iaload, 1) := by decide +kernel
theorem dX4_use_23 : decode cX4_use 23 = .ok (.invokestatic 78, 3) := by decide +kernel
theorem dX4_use_26 : decode cX4_use 26 = .ok (.istore_n 2, 1) := by decide +kernel
theorem dX4_use_27 : decode cX4_use 27 = .ok (.iload_n 2, 1) := by decide +kernel
theorem dX4_use_28 : decode cX4_use 28 = .ok (.ifCond .eq 11, 3) := by decide +kernel
theorem dX4_use_31 : decode cX4_use 31 = .ok (.aload_n 0, 1) := by decide +kernel
theorem dX4_use_32 : decode cX4_use 32 = .ok (.iload_n 2, 1) := by decide +kernel
theorem dX4_use_33 : decode cX4_use 33 = .ok (.invokevirtual 85, 3) := by decide +kernel
theorem dX4_use_36 : decode cX4_use 36 = .ok (.goto 8, 3) := by decide +kernel
theorem dX4_use_39 : decode cX4_use 39 = .ok (.aload_n 0, 1) := by decide +kernel
theorem dX4_use_40 : decode cX4_use 40 = .ok (.iload_n 1, 1) := by decide +kernel
theorem dX4_use_41 : decode cX4_use 41 = .ok (.invokevirtual 120, 3) := by decide +kernel
theorem dX4_use_44 : decode cX4_use 44 = .ok (.ireturn, 1) := by decide +kernel
theorem dX4_cost_0 : decode cX4_cost 0 = .ok (.iload_n 1, 1) := by decide +kernel
theorem dX4_cost_1 : decode cX4_cost 1 = .ok (.invokestatic 192, 3) := by decide +kernel
theorem dX4_cost_4 : decode cX4_cost 4 = .ok (.ifCond .ne 7, 3) := by decide +kernel
theorem dX4_cost_7 : decode cX4_cost 7 = .ok (.iconst (-1), 1) := by decide +kernel
theorem dX4_cost_8 : decode cX4_cost 8 = .ok (.goto 10, 3) := by decide +kernel
theorem dX4_cost_11 : decode cX4_cost 11 = .ok (.iload_n 2, 1) := by decide +kernel
theorem dX4_cost_12 : decode cX4_cost 12 = .ok (.iconst 0, 1) := by decide +kernel
theorem dX4_cost_13 : decode cX4_cost 13 = .ok (.bipush 9, 2) := by decide +kernel
theorem dX4_cost_15 : decode cX4_cost 15 = .ok (.invokestatic 78, 3) := by decide +kernel
theorem dX4_cost_18 : decode cX4_cost 18 = .ok (.istore_n 3, 1) := by decide +kernel
theorem dX4_cost_19 : decode cX4_cost 19 = .ok (.iload_n 3, 1) := by decide +kernel
theorem dX4_cost_20 : decode cX4_cost 20 = .ok (.ifCond .eq 9, 3) := by decide +kernel
theorem dX4_cost_23 : decode cX4_cost 23 = .ok (.aload_n 0, 1) := by decide +kernel
theorem dX4_cost_24 : decode cX4_cost 24 = .ok (.iload_n 3, 1) := by decide +kernel
theorem dX4_cost_25 : decode cX4_cost 25 = .ok (.invokevirtual 85, 3) := by decide +kernel
theorem dX4_cost_28 : decode cX4_cost 28 = .ok (.ireturn, 1) := by decide +kernel
theorem dX4_cost_29 : decode cX4_cost 29 = .ok (.aload_n 0, 1) := by decide +kernel
theorem dX4_cost_30 : decode cX4_cost 30 = .ok (.getfield 25, 3) := by decide +kernel
theorem dX4_cost_33 : decode cX4_cost 33 = .ok (.iload_n 1, 1) := by decide +kernel
theorem dX4_cost_34 : decode cX4_cost 34 = .ok (.iaload, 1) := by decide +kernel
theorem dX4_cost_35 : decode cX4_cost 35 = .ok (.istore 4, 2) := by decide +kernel
theorem dX4_cost_37 : decode cX4_cost 37 = .ok (.aload_n 0, 1) := by decide +kernel
theorem dX4_cost_38 : decode cX4_cost 38 = .ok (.getfield 25, 3) := by decide +kernel
theorem dX4_cost_41 : decode cX4_cost 41 = .ok (.iload_n 1, 1) := by decide +kernel
theorem dX4_cost_42 : decode cX4_cost 42 = .ok (.iload_n 2, 1) := by decide +kernel
theorem dX4_cost_43 : decode cX4_cost 43 = .ok (.iastore, 1) := by decide +kernel
theorem dX4_cost_44 : decode cX4_cost 44 = .ok (.iload 4, 2) := by decide +kernel
theorem dX4_cost_46 : decode cX4_cost 46 = .ok (.ireturn, 1) := by decide +kernel
theorem dX4_price_0 : decode cX4_price 0 = .ok (.iload_n 1, 1) := by decide +kernel
theorem dX4_price_1 : decode cX4_price 1 = .ok (.iconst 0, 1) := by decide +kernel
theorem dX4_price_2 : decode cX4_price 2 = .ok (.bipush 9, 2) := by decide +kernel
theorem dX4_price_4 : decode cX4_price 4 = .ok (.invokestatic 78, 3) := by decide +kernel
theorem dX4_price_7 : decode cX4_price 7 = .ok (.istore_n 2, 1) := by decide +kernel
theorem dX4_price_8 : decode cX4_price 8 = .ok (.iload_n 2, 1) := by decide +kernel
theorem dX4_price_9 : decode cX4_price 9 = .ok (.ifCond .eq 9, 3) := by decide +kernel
theorem dX4_price_12 : decode cX4_price 12 = .ok (.aload_n 0, 1) := by decide +kernel
theorem dX4_price_13 : decode cX4_price 13 = .ok (.iload_n 2, 1) := by decide +kernel
theorem dX4_price_14 : decode cX4_price 14 = .ok (.invokevirtual 85, 3) := by decide +kernel
theorem dX4_price_17 : decode cX4_price 17 = .ok (.ireturn, 1) := by decide +kernel
theorem dX4_price_18 : decode cX4_price 18 = .ok (.aload_n 0, 1) := by decide +kernel
theorem dX4_price_19 : decode cX4_price 19 = .ok (.getfield 68, 3) := by decide +kernel
theorem dX4_price_22 : decode cX4_price 22 = .ok (.istore_n 3, 1) := by decide +kernel
theorem dX4_price_23 : decode cX4_price 23 = .ok (.aload_n 0, 1) := by decide +kernel
theorem dX4_price_24 : decode cX4_price 24 = .ok (.iload_n 1, 1) := by decide +kernel
theorem dX4_price_25 : decode cX4_price 25 = .ok (.putfield 68, 3) := by decide +kernel
theorem dX4_price_28 : decode cX4_price 28 = .ok (.iload_n 3, 1) := by decide +kernel
theorem dX4_price_29 : decode cX4_price 29 = .ok (.ireturn, 1) := by decide +kernel
theorem dX4_held_0 : decode cX4_held 0 = .ok (.iload_n 0, 1) := by decide +kernel
theorem dX4_held_1 : decode cX4_held 1 = .ok (.ifCond .ge 7, 3) := by decide +kernel
theorem dX4_held_4 : decode cX4_held 4 = .ok (.iconst 0, 1) := by decide +kernel
theorem dX4_held_5 : decode cX4_held 5 = .ok (.goto 15, 3) := by decide +kernel
theorem dX4_held_8 : decode cX4_held 8 = .ok (.iload_n 0, 1) := by decide +kernel
theorem dX4_held_9 : decode cX4_held 9 = .ok (.bipush 10, 2) := by decide +kernel
theorem dX4_held_11 : decode cX4_held 11 = .ok (.if_icmp .le 8, 3) := by decide +kernel
theorem dX4_held_14 : decode cX4_held 14 = .ok (.bipush 10, 2) := by decide +kernel
theorem dX4_held_16 : decode cX4_held 16 = .ok (.goto 4, 3) := by decide +kernel
theorem dX4_held_19 : decode cX4_held 19 = .ok (.iload_n 0, 1) := by decide +kernel
theorem dX4_held_20 : decode cX4_held 20 = .ok (.ireturn, 1) := by decide +kernel
theorem dX4_tenthsOf_0 : decode cX4_tenthsOf 0 = .ok (.iload_n 0, 1) := by decide +kernel
theorem dX4_tenthsOf_1 : decode cX4_tenthsOf 1 = .ok (.tableswitch 136 0 2 #[27, 66, 97], 27) := by decide +kernel
theorem dX4_tenthsOf_28 : decode cX4_tenthsOf 28 = .ok (.iload_n 1, 1) := by decide +kernel
theorem dX4_tenthsOf_29 : decode cX4_tenthsOf 29 = .ok (.ifCond .ne 7, 3) := by decide +kernel
theorem dX4_tenthsOf_32 : decode cX4_tenthsOf 32 = .ok (.iconst 0, 1) := by decide +kernel
theorem dX4_tenthsOf_33 : decode cX4_tenthsOf 33 = .ok (.goto 33, 3) := by decide +kernel
theorem dX4_tenthsOf_36 : decode cX4_tenthsOf 36 = .ok (.iload_n 1, 1) := by decide +kernel
theorem dX4_tenthsOf_37 : decode cX4_tenthsOf 37 = .ok (.iconst 1, 1) := by decide +kernel
theorem dX4_tenthsOf_38 : decode cX4_tenthsOf 38 = .ok (.if_icmp .ne 7, 3) := by decide +kernel
theorem dX4_tenthsOf_41 : decode cX4_tenthsOf 41 = .ok (.iconst 1, 1) := by decide +kernel
theorem dX4_tenthsOf_42 : decode cX4_tenthsOf 42 = .ok (.goto 24, 3) := by decide +kernel
theorem dX4_tenthsOf_45 : decode cX4_tenthsOf 45 = .ok (.iload_n 1, 1) := by decide +kernel
theorem dX4_tenthsOf_46 : decode cX4_tenthsOf 46 = .ok (.iconst 2, 1) := by decide +kernel
theorem dX4_tenthsOf_47 : decode cX4_tenthsOf 47 = .ok (.if_icmp .ne 7, 3) := by decide +kernel
theorem dX4_tenthsOf_50 : decode cX4_tenthsOf 50 = .ok (.iconst 3, 1) := by decide +kernel
theorem dX4_tenthsOf_51 : decode cX4_tenthsOf 51 = .ok (.goto 15, 3) := by decide +kernel
theorem dX4_tenthsOf_54 : decode cX4_tenthsOf 54 = .ok (.iload_n 1, 1) := by decide +kernel
theorem dX4_tenthsOf_55 : decode cX4_tenthsOf 55 = .ok (.iconst 3, 1) := by decide +kernel
theorem dX4_tenthsOf_56 : decode cX4_tenthsOf 56 = .ok (.if_icmp .ne 8, 3) := by decide +kernel
theorem dX4_tenthsOf_59 : decode cX4_tenthsOf 59 = .ok (.bipush 6, 2) := by decide +kernel
theorem dX4_tenthsOf_61 : decode cX4_tenthsOf 61 = .ok (.goto 5, 3) := by decide +kernel
theorem dX4_tenthsOf_64 : decode cX4_tenthsOf 64 = .ok (.bipush 9, 2) := by decide +kernel
theorem dX4_tenthsOf_66 : decode cX4_tenthsOf 66 = .ok (.ireturn, 1) := by decide +kernel
theorem dX4_tenthsOf_67 : decode cX4_tenthsOf 67 = .ok (.iload_n 1, 1) := by decide +kernel
theorem dX4_tenthsOf_68 : decode cX4_tenthsOf 68 = .ok (.iconst 2, 1) := by decide +kernel
theorem dX4_tenthsOf_69 : decode cX4_tenthsOf 69 = .ok (.if_icmp .ge 7, 3) := by decide +kernel
theorem dX4_tenthsOf_72 : decode cX4_tenthsOf 72 = .ok (.iconst 0, 1) := by decide +kernel
theorem dX4_tenthsOf_73 : decode cX4_tenthsOf 73 = .ok (.goto 24, 3) := by decide +kernel
theorem dX4_tenthsOf_76 : decode cX4_tenthsOf 76 = .ok (.iload_n 1, 1) := by decide +kernel
theorem dX4_tenthsOf_77 : decode cX4_tenthsOf 77 = .ok (.iconst 2, 1) := by decide +kernel
theorem dX4_tenthsOf_78 : decode cX4_tenthsOf 78 = .ok (.if_icmp .ne 7, 3) := by decide +kernel
theorem dX4_tenthsOf_81 : decode cX4_tenthsOf 81 = .ok (.iconst 2, 1) := by decide +kernel
theorem dX4_tenthsOf_82 : decode cX4_tenthsOf 82 = .ok (.goto 15, 3) := by decide +kernel
theorem dX4_tenthsOf_85 : decode cX4_tenthsOf 85 = .ok (.iload_n 1, 1) := by decide +kernel
theorem dX4_tenthsOf_86 : decode cX4_tenthsOf 86 = .ok (.iconst 3, 1) := by decide +kernel
theorem dX4_tenthsOf_87 : decode cX4_tenthsOf 87 = .ok (.if_icmp .ne 8, 3) := by decide +kernel
theorem dX4_tenthsOf_90 : decode cX4_tenthsOf 90 = .ok (.bipush 7, 2) := by decide +kernel
theorem dX4_tenthsOf_92 : decode cX4_tenthsOf 92 = .ok (.goto 5, 3) := by decide +kernel
theorem dX4_tenthsOf_95 : decode cX4_tenthsOf 95 = .ok (.bipush 10, 2) := by decide +kernel
theorem dX4_tenthsOf_97 : decode cX4_tenthsOf 97 = .ok (.ireturn, 1) := by decide +kernel
theorem dX4_tenthsOf_98 : decode cX4_tenthsOf 98 = .ok (.iload_n 1, 1) := by decide +kernel
theorem dX4_tenthsOf_99 : decode cX4_tenthsOf 99 = .ok (.ifCond .ne 7, 3) := by decide +kernel
theorem dX4_tenthsOf_102 : decode cX4_tenthsOf 102 = .ok (.iconst 0, 1) := by decide +kernel
theorem dX4_tenthsOf_103 : decode cX4_tenthsOf 103 = .ok (.goto 33, 3) := by decide +kernel
theorem dX4_tenthsOf_106 : decode cX4_tenthsOf 106 = .ok (.iload_n 1, 1) := by decide +kernel
theorem dX4_tenthsOf_107 : decode cX4_tenthsOf 107 = .ok (.iconst 1, 1) := by decide +kernel
theorem dX4_tenthsOf_108 : decode cX4_tenthsOf 108 = .ok (.if_icmp .ne 7, 3) := by decide +kernel
theorem dX4_tenthsOf_111 : decode cX4_tenthsOf 111 = .ok (.iconst 2, 1) := by decide +kernel
theorem dX4_tenthsOf_112 : decode cX4_tenthsOf 112 = .ok (.goto 24, 3) := by decide +kernel
theorem dX4_tenthsOf_115 : decode cX4_tenthsOf 115 = .ok (.iload_n 1, 1) := by decide +kernel
theorem dX4_tenthsOf_116 : decode cX4_tenthsOf 116 = .ok (.iconst 2, 1) := by decide +kernel
theorem dX4_tenthsOf_117 : decode cX4_tenthsOf 117 = .ok (.if_icmp .ne 7, 3) := by decide +kernel
theorem dX4_tenthsOf_120 : decode cX4_tenthsOf 120 = .ok (.iconst 5, 1) := by decide +kernel
theorem dX4_tenthsOf_121 : decode cX4_tenthsOf 121 = .ok (.goto 15, 3) := by decide +kernel
theorem dX4_tenthsOf_124 : decode cX4_tenthsOf 124 = .ok (.iload_n 1, 1) := by decide +kernel
theorem dX4_tenthsOf_125 : decode cX4_tenthsOf 125 = .ok (.iconst 3, 1) := by decide +kernel
theorem dX4_tenthsOf_126 : decode cX4_tenthsOf 126 = .ok (.if_icmp .ne 8, 3) := by decide +kernel
theorem dX4_tenthsOf_129 : decode cX4_tenthsOf 129 = .ok (.bipush 9, 2) := by decide +kernel
theorem dX4_tenthsOf_131 : decode cX4_tenthsOf 131 = .ok (.goto 5, 3) := by decide +kernel
theorem dX4_tenthsOf_134 : decode cX4_tenthsOf 134 = .ok (.bipush 10, 2) := by decide +kernel
theorem dX4_tenthsOf_136 : decode cX4_tenthsOf 136 = .ok (.ireturn, 1) := by decide +kernel
theorem dX4_tenthsOf_137 : decode cX4_tenthsOf 137 = .ok (.iload_n 1, 1) := by decide +kernel
theorem dX4_tenthsOf_138 : decode cX4_tenthsOf 138 = .ok (.iconst 2, 1) := by decide +kernel
theorem dX4_tenthsOf_139 : decode cX4_tenthsOf 139 = .ok (.if_icmp .ge 7, 3) := by decide +kernel
theorem dX4_tenthsOf_142 : decode cX4_tenthsOf 142 = .ok (.iconst 1, 1) := by decide +kernel
theorem dX4_tenthsOf_143 : decode cX4_tenthsOf 143 = .ok (.goto 23, 3) := by decide +kernel
theorem dX4_tenthsOf_146 : decode cX4_tenthsOf 146 = .ok (.iload_n 1, 1) := by decide +kernel
theorem dX4_tenthsOf_147 : decode cX4_tenthsOf 147 = .ok (.iconst 2, 1) := by decide +kernel
theorem dX4_tenthsOf_148 : decode cX4_tenthsOf 148 = .ok (.if_icmp .ne 7, 3) := by decide +kernel
theorem dX4_tenthsOf_151 : decode cX4_tenthsOf 151 = .ok (.iconst 2, 1) := by decide +kernel
theorem dX4_tenthsOf_152 : decode cX4_tenthsOf 152 = .ok (.goto 14, 3) := by decide +kernel
theorem dX4_tenthsOf_155 : decode cX4_tenthsOf 155 = .ok (.iload_n 1, 1) := by decide +kernel
theorem dX4_tenthsOf_156 : decode cX4_tenthsOf 156 = .ok (.iconst 3, 1) := by decide +kernel
theorem dX4_tenthsOf_157 : decode cX4_tenthsOf 157 = .ok (.if_icmp .ne 7, 3) := by decide +kernel
theorem dX4_tenthsOf_160 : decode cX4_tenthsOf 160 = .ok (.iconst 4, 1) := by decide +kernel
theorem dX4_tenthsOf_161 : decode cX4_tenthsOf 161 = .ok (.goto 5, 3) := by decide +kernel
theorem dX4_tenthsOf_164 : decode cX4_tenthsOf 164 = .ok (.bipush 8, 2) := by decide +kernel
theorem dX4_tenthsOf_166 : decode cX4_tenthsOf 166 = .ok (.ireturn, 1) := by decide +kernel
theorem dX4_saysOff_0 : decode cX4_saysOff 0 = .ok (.aload_n 0, 1) := by decide +kernel
theorem dX4_saysOff_1 : decode cX4_saysOff 1 = .ok (.getfield 13, 3) := by decide +kernel
theorem dX4_saysOff_4 : decode cX4_saysOff 4 = .ok (.aload_n 0, 1) := by decide +kernel
theorem dX4_saysOff_5 : decode cX4_saysOff 5 = .ok (.getfield 117, 3) := by decide +kernel
theorem dX4_saysOff_8 : decode cX4_saysOff 8 = .ok (.iaload, 1) := by decide +kernel
theorem dX4_saysOff_9 : decode cX4_saysOff 9 = .ok (.istore_n 3, 1) := by decide +kernel
theorem dX4_saysOff_10 : decode cX4_saysOff 10 = .ok (.iconst 0, 1) := by decide +kernel
theorem dX4_saysOff_11 : decode cX4_saysOff 11 = .ok (.istore 4, 2) := by decide +kernel
theorem dX4_saysOff_13 : decode cX4_saysOff 13 = .ok (.iload_n 1, 1) := by decide +kernel
theorem dX4_saysOff_14 : decode cX4_saysOff 14 = .ok (.ifCond .ne 34, 3) := by decide +kernel
theorem dX4_saysOff_17 : decode cX4_saysOff 17 = .ok (.iload_n 3, 1) := by decide +kernel
theorem dX4_saysOff_18 : decode cX4_saysOff 18 = .ok (.iconst 1, 1) := by decide +kernel
theorem dX4_saysOff_19 : decode cX4_saysOff 19 = .ok (.if_icmp .eq 8, 3) := by decide +kernel
theorem dX4_saysOff_22 : decode cX4_saysOff 22 = .ok (.iload_n 3, 1) := by decide +kernel
theorem dX4_saysOff_23 : decode cX4_saysOff 23 = .ok (.iconst 5, 1) := by decide +kernel
theorem dX4_saysOff_24 : decode cX4_saysOff 24 = .ok (.if_icmp .ne 7, 3) := by decide +kernel
theorem dX4_saysOff_27 : decode cX4_saysOff 27 = .ok (.iconst 1, 1) := by decide +kernel
theorem dX4_saysOff_28 : decode cX4_saysOff 28 = .ok (.goto 18, 3) := by decide +kernel
theorem dX4_saysOff_31 : decode cX4_saysOff 31 = .ok (.iload_n 3, 1) := by decide +kernel
theorem dX4_saysOff_32 : decode cX4_saysOff 32 = .ok (.iconst 2, 1) := by decide +kernel
theorem dX4_saysOff_33 : decode cX4_saysOff 33 = .ok (.if_icmp .eq 8, 3) := by decide +kernel
theorem dX4_saysOff_36 : decode cX4_saysOff 36 = .ok (.iload_n 3, 1) := by decide +kernel
theorem dX4_saysOff_37 : decode cX4_saysOff 37 = .ok (.iconst 4, 1) := by decide +kernel
theorem dX4_saysOff_38 : decode cX4_saysOff 38 = .ok (.if_icmp .ne 7, 3) := by decide +kernel
theorem dX4_saysOff_41 : decode cX4_saysOff 41 = .ok (.iconst (-1), 1) := by decide +kernel
theorem dX4_saysOff_42 : decode cX4_saysOff 42 = .ok (.goto 4, 3) := by decide +kernel
theorem dX4_saysOff_45 : decode cX4_saysOff 45 = .ok (.iconst 0, 1) := by decide +kernel
theorem dX4_saysOff_46 : decode cX4_saysOff 46 = .ok (.istore 4, 2) := by decide +kernel
theorem dX4_saysOff_48 : decode cX4_saysOff 48 = .ok (.iload_n 1, 1) := by decide +kernel
theorem dX4_saysOff_49 : decode cX4_saysOff 49 = .ok (.iconst 3, 1) := by decide +kernel
theorem dX4_saysOff_50 : decode cX4_saysOff 50 = .ok (.if_icmp .ne 12, 3) := by decide +kernel
theorem dX4_saysOff_53 : decode cX4_saysOff 53 = .ok (.iload_n 3, 1) := by decide +kernel
theorem dX4_saysOff_54 : decode cX4_saysOff 54 = .ok (.iconst 3, 1) := by decide +kernel
theorem dX4_saysOff_55 : decode cX4_saysOff 55 = .ok (.if_icmp .ne 7, 3) := by decide +kernel
theorem dX4_saysOff_58 : decode cX4_saysOff 58 = .ok (.bipush (-2), 2) := by decide +kernel
theorem dX4_saysOff_60 : decode cX4_saysOff 60 = .ok (.istore 4, 2) := by decide +kernel
theorem dX4_saysOff_62 : decode cX4_saysOff 62 = .ok (.iload_n 1, 1) := by decide +kernel
theorem dX4_saysOff_63 : decode cX4_saysOff 63 = .ok (.iload_n 2, 1) := by decide +kernel
theorem dX4_saysOff_64 : decode cX4_saysOff 64 = .ok (.invokestatic 195, 3) := by decide +kernel
theorem dX4_saysOff_67 : decode cX4_saysOff 67 = .ok (.iload 4, 2) := by decide +kernel
theorem dX4_saysOff_69 : decode cX4_saysOff 69 = .ok (.iadd, 1) := by decide +kernel
theorem dX4_saysOff_70 : decode cX4_saysOff 70 = .ok (.invokestatic 199, 3) := by decide +kernel
theorem dX4_saysOff_73 : decode cX4_saysOff 73 = .ok (.ireturn, 1) := by decide +kernel
theorem dX4_weightAt_0 : decode cX4_weightAt 0 = .ok (.iload_n 3, 1) := by decide +kernel
theorem dX4_weightAt_1 : decode cX4_weightAt 1 = .ok (.iload_n 2, 1) := by decide +kernel
theorem dX4_weightAt_2 : decode cX4_weightAt 2 = .ok (.invokestatic 183, 3) := by decide +kernel
theorem dX4_weightAt_5 : decode cX4_weightAt 5 = .ok (.isub, 1) := by decide +kernel
theorem dX4_weightAt_6 : decode cX4_weightAt 6 = .ok (.istore 4, 2) := by decide +kernel
theorem dX4_weightAt_8 : decode cX4_weightAt 8 = .ok (.bipush 6, 2) := by decide +kernel
theorem dX4_weightAt_10 : decode cX4_weightAt 10 = .ok (.iconst 2, 1) := by decide +kernel
theorem dX4_weightAt_11 : decode cX4_weightAt 11 = .ok (.iload 4, 2) := by decide +kernel
theorem dX4_weightAt_13 : decode cX4_weightAt 13 = .ok (.ifCond .ge 9, 3) := by decide +kernel
theorem dX4_weightAt_16 : decode cX4_weightAt 16 = .ok (.iload 4, 2) := by decide +kernel
theorem dX4_weightAt_18 : decode cX4_weightAt 18 = .ok (.ineg, 1) := by decide +kernel
theorem dX4_weightAt_19 : decode cX4_weightAt 19 = .ok (.goto 5, 3) := by decide +kernel
theorem dX4_weightAt_22 : decode cX4_weightAt 22 = .ok (.iload 4, 2) := by decide +kernel
theorem dX4_weightAt_24 : decode cX4_weightAt 24 = .ok (.imul, 1) := by decide +kernel
theorem dX4_weightAt_25 : decode cX4_weightAt 25 = .ok (.isub, 1) := by decide +kernel
theorem dX4_weightAt_26 : decode cX4_weightAt 26 = .ok (.istore 5, 2) := by decide +kernel
theorem dX4_weightAt_28 : decode cX4_weightAt 28 = .ok (.iload 5, 2) := by decide +kernel
theorem dX4_weightAt_30 : decode cX4_weightAt 30 = .ok (.ifCond .ge 7, 3) := by decide +kernel
theorem dX4_weightAt_33 : decode cX4_weightAt 33 = .ok (.iconst 0, 1) := by decide +kernel
theorem dX4_weightAt_34 : decode cX4_weightAt 34 = .ok (.goto 5, 3) := by decide +kernel
theorem dX4_weightAt_37 : decode cX4_weightAt 37 = .ok (.iload 5, 2) := by decide +kernel
theorem dX4_weightAt_39 : decode cX4_weightAt 39 = .ok (.aload_n 0, 1) := by decide +kernel
theorem dX4_weightAt_40 : decode cX4_weightAt 40 = .ok (.getfield 13, 3) := by decide +kernel
theorem dX4_weightAt_43 : decode cX4_weightAt 43 = .ok (.iload_n 1, 1) := by decide +kernel
theorem dX4_weightAt_44 : decode cX4_weightAt 44 = .ok (.iaload, 1) := by decide +kernel
theorem dX4_weightAt_45 : decode cX4_weightAt 45 = .ok (.iconst 3, 1) := by decide +kernel
theorem dX4_weightAt_46 : decode cX4_weightAt 46 = .ok (.if_icmp .ne 7, 3) := by decide +kernel
theorem dX4_weightAt_49 : decode cX4_weightAt 49 = .ok (.iconst 1, 1) := by decide +kernel
theorem dX4_weightAt_50 : decode cX4_weightAt 50 = .ok (.goto 4, 3) := by decide +kernel
theorem dX4_weightAt_53 : decode cX4_weightAt 53 = .ok (.iconst 0, 1) := by decide +kernel
theorem dX4_weightAt_54 : decode cX4_weightAt 54 = .ok (.iadd, 1) := by decide +kernel
theorem dX4_weightAt_55 : decode cX4_weightAt 55 = .ok (.ireturn, 1) := by decide +kernel
theorem dX4_worthOf_0 : decode cX4_worthOf 0 = .ok (.iload_n 1, 1) := by decide +kernel
theorem dX4_worthOf_1 : decode cX4_worthOf 1 = .ok (.tableswitch 107 0 3 #[31, 62, 84, 95], 31) := by decide +kernel
theorem dX4_worthOf_32 : decode cX4_worthOf 32 = .ok (.iload_n 2, 1) := by decide +kernel
theorem dX4_worthOf_33 : decode cX4_worthOf 33 = .ok (.iconst 2, 1) := by decide +kernel
theorem dX4_worthOf_34 : decode cX4_worthOf 34 = .ok (.if_icmp .ge 8, 3) := by decide +kernel
theorem dX4_worthOf_37 : decode cX4_worthOf 37 = .ok (.bipush 9, 2) := by decide +kernel
theorem dX4_worthOf_39 : decode cX4_worthOf 39 = .ok (.goto 23, 3) := by decide +kernel
theorem dX4_worthOf_42 : decode cX4_worthOf 42 = .ok (.iload_n 2, 1) := by decide +kernel
theorem dX4_worthOf_43 : decode cX4_worthOf 43 = .ok (.iconst 2, 1) := by decide +kernel
theorem dX4_worthOf_44 : decode cX4_worthOf 44 = .ok (.if_icmp .ne 8, 3) := by decide +kernel
theorem dX4_worthOf_47 : decode cX4_worthOf 47 = .ok (.bipush 6, 2) := by decide +kernel
theorem dX4_worthOf_49 : decode cX4_worthOf 49 = .ok (.goto 13, 3) := by decide +kernel
theorem dX4_worthOf_52 : decode cX4_worthOf 52 = .ok (.iload_n 2, 1) := by decide +kernel
theorem dX4_worthOf_53 : decode cX4_worthOf 53 = .ok (.iconst 3, 1) := by decide +kernel
theorem dX4_worthOf_54 : decode cX4_worthOf 54 = .ok (.if_icmp .ne 7, 3) := by decide +kernel
theorem dX4_worthOf_57 : decode cX4_worthOf 57 = .ok (.iconst 3, 1) := by decide +kernel
theorem dX4_worthOf_58 : decode cX4_worthOf 58 = .ok (.goto 4, 3) := by decide +kernel
theorem dX4_worthOf_61 : decode cX4_worthOf 61 = .ok (.iconst 0, 1) := by decide +kernel
theorem dX4_worthOf_62 : decode cX4_worthOf 62 = .ok (.ireturn, 1) := by decide +kernel
theorem dX4_worthOf_63 : decode cX4_worthOf 63 = .ok (.iload_n 2, 1) := by decide +kernel
theorem dX4_worthOf_64 : decode cX4_worthOf 64 = .ok (.iconst 3, 1) := by decide +kernel
theorem dX4_worthOf_65 : decode cX4_worthOf 65 = .ok (.if_icmp .ge 8, 3) := by decide +kernel
theorem dX4_worthOf_68 : decode cX4_worthOf 68 = .ok (.bipush 7, 2) := by decide +kernel
theorem dX4_worthOf_70 : decode cX4_worthOf 70 = .ok (.goto 14, 3) := by decide +kernel
theorem dX4_worthOf_73 : decode cX4_worthOf 73 = .ok (.iload_n 2, 1) := by decide +kernel
theorem dX4_worthOf_74 : decode cX4_worthOf 74 = .ok (.iconst 3, 1) := by decide +kernel
theorem dX4_worthOf_75 : decode cX4_worthOf 75 = .ok (.if_icmp .ne 7, 3) := by decide +kernel
theorem dX4_worthOf_78 : decode cX4_worthOf 78 = .ok (.iconst 2, 1) := by decide +kernel
theorem dX4_worthOf_79 : decode cX4_worthOf 79 = .ok (.goto 5, 3) := by decide +kernel
theorem dX4_worthOf_82 : decode cX4_worthOf 82 = .ok (.bipush (-3), 2) := by decide +kernel
theorem dX4_worthOf_84 : decode cX4_worthOf 84 = .ok (.ireturn, 1) := by decide +kernel
theorem dX4_worthOf_85 : decode cX4_worthOf 85 = .ok (.iload_n 2, 1) := by decide +kernel
theorem dX4_worthOf_86 : decode cX4_worthOf 86 = .ok (.iconst 4, 1) := by decide +kernel
theorem dX4_worthOf_87 : decode cX4_worthOf 87 = .ok (.if_icmp .ge 7, 3) := by decide +kernel
theorem dX4_worthOf_90 : decode cX4_worthOf 90 = .ok (.iconst 5, 1) := by decide +kernel
theorem dX4_worthOf_91 : decode cX4_worthOf 91 = .ok (.goto 4, 3) := by decide +kernel
theorem dX4_worthOf_94 : decode cX4_worthOf 94 = .ok (.iconst 0, 1) := by decide +kernel
theorem dX4_worthOf_95 : decode cX4_worthOf 95 = .ok (.ireturn, 1) := by decide +kernel
theorem dX4_worthOf_96 : decode cX4_worthOf 96 = .ok (.iload_n 2, 1) := by decide +kernel
theorem dX4_worthOf_97 : decode cX4_worthOf 97 = .ok (.iconst 4, 1) := by decide +kernel
theorem dX4_worthOf_98 : decode cX4_worthOf 98 = .ok (.if_icmp .ge 7, 3) := by decide +kernel
theorem dX4_worthOf_101 : decode cX4_worthOf 101 = .ok (.iconst 2, 1) := by decide +kernel
theorem dX4_worthOf_102 : decode cX4_worthOf 102 = .ok (.goto 5, 3) := by decide +kernel
theorem dX4_worthOf_105 : decode cX4_worthOf 105 = .ok (.bipush (-4), 2) := by decide +kernel
theorem dX4_worthOf_107 : decode cX4_worthOf 107 = .ok (.ireturn, 1) := by decide +kernel
theorem dX4_worthOf_108 : decode cX4_worthOf 108 = .ok (.aload_n 0, 1) := by decide +kernel
theorem dX4_worthOf_109 : decode cX4_worthOf 109 = .ok (.getfield 68, 3) := by decide +kernel
theorem dX4_worthOf_112 : decode cX4_worthOf 112 = .ok (.ineg, 1) := by decide +kernel
theorem dX4_worthOf_113 : decode cX4_worthOf 113 = .ok (.ireturn, 1) := by decide +kernel
theorem dX4_harmOf_0 : decode cX4_harmOf 0 = .ok (.iload_n 0, 1) := by decide +kernel
theorem dX4_harmOf_1 : decode cX4_harmOf 1 = .ok (.ifCond .ne 7, 3) := by decide +kernel
theorem dX4_harmOf_4 : decode cX4_harmOf 4 = .ok (.iconst 1, 1) := by decide +kernel
theorem dX4_harmOf_5 : decode cX4_harmOf 5 = .ok (.goto 23, 3) := by decide +kernel
theorem dX4_harmOf_8 : decode cX4_harmOf 8 = .ok (.iload_n 0, 1) := by decide +kernel
theorem dX4_harmOf_9 : decode cX4_harmOf 9 = .ok (.iconst 1, 1) := by decide +kernel
theorem dX4_harmOf_10 : decode cX4_harmOf 10 = .ok (.if_icmp .ne 7, 3) := by decide +kernel
theorem dX4_harmOf_13 : decode cX4_harmOf 13 = .ok (.iconst 2, 1) := by decide +kernel
theorem dX4_harmOf_14 : decode cX4_harmOf 14 = .ok (.goto 14, 3) := by decide +kernel
theorem dX4_harmOf_17 : decode cX4_harmOf 17 = .ok (.iload_n 0, 1) := by decide +kernel
theorem dX4_harmOf_18 : decode cX4_harmOf 18 = .ok (.iconst 2, 1) := by decide +kernel
theorem dX4_harmOf_19 : decode cX4_harmOf 19 = .ok (.if_icmp .ne 7, 3) := by decide +kernel
theorem dX4_harmOf_22 : decode cX4_harmOf 22 = .ok (.iconst 3, 1) := by decide +kernel
theorem dX4_harmOf_23 : decode cX4_harmOf 23 = .ok (.goto 5, 3) := by decide +kernel
theorem dX4_harmOf_26 : decode cX4_harmOf 26 = .ok (.bipush 9, 2) := by decide +kernel
theorem dX4_harmOf_28 : decode cX4_harmOf 28 = .ok (.istore_n 2, 1) := by decide +kernel
theorem dX4_harmOf_29 : decode cX4_harmOf 29 = .ok (.iload_n 1, 1) := by decide +kernel
theorem dX4_harmOf_30 : decode cX4_harmOf 30 = .ok (.iload_n 2, 1) := by decide +kernel
theorem dX4_harmOf_31 : decode cX4_harmOf 31 = .ok (.if_icmp .le 9, 3) := by decide +kernel
theorem dX4_harmOf_34 : decode cX4_harmOf 34 = .ok (.iload_n 1, 1) := by decide +kernel
theorem dX4_harmOf_35 : decode cX4_harmOf 35 = .ok (.iload_n 2, 1) := by decide +kernel
theorem dX4_harmOf_36 : decode cX4_harmOf 36 = .ok (.isub, 1) := by decide +kernel
theorem dX4_harmOf_37 : decode cX4_harmOf 37 = .ok (.goto 4, 3) := by decide +kernel
theorem dX4_harmOf_40 : decode cX4_harmOf 40 = .ok (.iconst 0, 1) := by decide +kernel
theorem dX4_harmOf_41 : decode cX4_harmOf 41 = .ok (.ireturn, 1) := by decide +kernel
theorem dX4_timesFor_0 : decode cX4_timesFor 0 = .ok (.iload_n 0, 1) := by decide +kernel
theorem dX4_timesFor_1 : decode cX4_timesFor 1 = .ok (.ifCond .ne 7, 3) := by decide +kernel
theorem dX4_timesFor_4 : decode cX4_timesFor 4 = .ok (.iconst 1, 1) := by decide +kernel
theorem dX4_timesFor_5 : decode cX4_timesFor 5 = .ok (.goto 14, 3) := by decide +kernel
theorem dX4_timesFor_8 : decode cX4_timesFor 8 = .ok (.iload_n 0, 1) := by decide +kernel
theorem dX4_timesFor_9 : decode cX4_timesFor 9 = .ok (.iconst 1, 1) := by decide +kernel
theorem dX4_timesFor_10 : decode cX4_timesFor 10 = .ok (.if_icmp .ne 7, 3) := by decide +kernel
theorem dX4_timesFor_13 : decode cX4_timesFor 13 = .ok (.iconst 3, 1) := by decide +kernel
theorem dX4_timesFor_14 : decode cX4_timesFor 14 = .ok (.goto 5, 3) := by decide +kernel
theorem dX4_timesFor_17 : decode cX4_timesFor 17 = .ok (.bipush 9, 2) := by decide +kernel
theorem dX4_timesFor_19 : decode cX4_timesFor 19 = .ok (.ireturn, 1) := by decide +kernel
theorem dX4_netOf_0 : decode cX4_netOf 0 = .ok (.aload_n 0, 1) := by decide +kernel
theorem dX4_netOf_1 : decode cX4_netOf 1 = .ok (.iload_n 1, 1) := by decide +kernel
theorem dX4_netOf_2 : decode cX4_netOf 2 = .ok (.iload_n 3, 1) := by decide +kernel
theorem dX4_netOf_3 : decode cX4_netOf 3 = .ok (.invokevirtual 202, 3) := by decide +kernel
theorem dX4_netOf_6 : decode cX4_netOf 6 = .ok (.iload_n 1, 1) := by decide +kernel
theorem dX4_netOf_7 : decode cX4_netOf 7 = .ok (.iload_n 3, 1) := by decide +kernel
theorem dX4_netOf_8 : decode cX4_netOf 8 = .ok (.invokestatic 205, 3) := by decide +kernel
theorem dX4_netOf_11 : decode cX4_netOf 11 = .ok (.iload_n 2, 1) := by decide +kernel
theorem dX4_netOf_12 : decode cX4_netOf 12 = .ok (.invokestatic 208, 3) := by decide +kernel
theorem dX4_netOf_15 : decode cX4_netOf 15 = .ok (.imul, 1) := by decide +kernel
theorem dX4_netOf_16 : decode cX4_netOf 16 = .ok (.isub, 1) := by decide +kernel
theorem dX4_netOf_17 : decode cX4_netOf 17 = .ok (.ireturn, 1) := by decide +kernel
theorem dX4_findThought_0 : decode cX4_findThought 0 = .ok (.iconst 0, 1) := by decide +kernel
theorem dX4_findThought_1 : decode cX4_findThought 1 = .ok (.istore_n 1, 1) := by decide +kernel
theorem dX4_findThought_2 : decode cX4_findThought 2 = .ok (.iload_n 1, 1) := by decide +kernel
theorem dX4_findThought_3 : decode cX4_findThought 3 = .ok (.iconst 5, 1) := by decide +kernel
theorem dX4_findThought_4 : decode cX4_findThought 4 = .ok (.if_icmp .ge 91, 3) := by decide +kernel
theorem dX4_findThought_7 : decode cX4_findThought 7 = .ok (.aload_n 0, 1) := by decide +kernel
theorem dX4_findThought_8 : decode cX4_findThought 8 = .ok (.getfield 52, 3) := by decide +kernel
theorem dX4_findThought_11 : decode cX4_findThought 11 = .ok (.iload_n 1, 1) := by decide +kernel
theorem dX4_findThought_12 : decode cX4_findThought 12 = .ok (.aload_n 0, 1) := by decide +kernel
theorem dX4_findThought_13 : decode cX4_findThought 13 = .ok (.aload_n 0, 1) := by decide +kernel
theorem dX4_findThought_14 : decode cX4_findThought 14 = .ok (.getfield 117, 3) := by decide +kernel
theorem dX4_findThought_17 : decode cX4_findThought 17 = .ok (.aload_n 0, 1) := by decide +kernel
theorem dX4_findThought_18 : decode cX4_findThought 18 = .ok (.getfield 22, 3) := by decide +kernel
theorem dX4_findThought_21 : decode cX4_findThought 21 = .ok (.aload_n 0, 1) := by decide +kernel
theorem dX4_findThought_22 : decode cX4_findThought 22 = .ok (.getfield 117, 3) := by decide +kernel
theorem dX4_findThought_25 : decode cX4_findThought 25 = .ok (.iaload, 1) := by decide +kernel
theorem dX4_findThought_26 : decode cX4_findThought 26 = .ok (.iload_n 1, 1) := by decide +kernel
theorem dX4_findThought_27 : decode cX4_findThought 27 = .ok (.invokevirtual 211, 3) := by decide +kernel
theorem dX4_findThought_30 : decode cX4_findThought 30 = .ok (.i2l, 1) := by decide +kernel
theorem dX4_findThought_31 : decode cX4_findThought 31 = .ok (.lastore, 1) := by decide +kernel
theorem dX4_findThought_32 : decode cX4_findThought 32 = .ok (.iconst 0, 1) := by decide +kernel
theorem dX4_findThought_33 : decode cX4_findThought 33 = .ok (.istore_n 2, 1) := by decide +kernel
theorem dX4_findThought_34 : decode cX4_findThought 34 = .ok (.iload_n 2, 1) := by decide +kernel
theorem dX4_findThought_35 : decode cX4_findThought 35 = .ok (.aload_n 0, 1) := by decide +kernel
theorem dX4_findThought_36 : decode cX4_findThought 36 = .ok (.getfield 110, 3) := by decide +kernel
theorem dX4_findThought_39 : decode cX4_findThought 39 = .ok (.if_icmp .ge 50, 3) := by decide +kernel
theorem dX4_findThought_42 : decode cX4_findThought 42 = .ok (.aload_n 0, 1) := by decide +kernel
theorem dX4_findThought_43 : decode cX4_findThought 43 = .ok (.aload_n 0, 1) := by decide +kernel
theorem dX4_findThought_44 : decode cX4_findThought 44 = .ok (.getfield 28, 3) := by decide +kernel
theorem dX4_findThought_47 : decode cX4_findThought 47 = .ok (.iload_n 2, 1) := by decide +kernel
theorem dX4_findThought_48 : decode cX4_findThought 48 = .ok (.iaload, 1) := by decide +kernel
theorem dX4_findThought_49 : decode cX4_findThought 49 = .ok (.iload_n 1, 1) := by decide +kernel
theorem dX4_findThought_50 : decode cX4_findThought 50 = .ok (.invokevirtual 214, 3) := by decide +kernel
theorem dX4_findThought_53 : decode cX4_findThought 53 = .ok (.istore_n 3, 1) := by decide +kernel
theorem dX4_findThought_54 : decode cX4_findThought 54 = .ok (.aload_n 0, 1) := by decide +kernel
theorem dX4_findThought_55 : decode cX4_findThought 55 = .ok (.getfield 52, 3) := by decide +kernel
theorem dX4_findThought_58 : decode cX4_findThought 58 = .ok (.iload_n 1, 1) := by decide +kernel
theorem dX4_findThought_59 : decode cX4_findThought 59 = .ok (.dup2, 1) := by decide +kernel
theorem dX4_findThought_60 : decode cX4_findThought 60 = .ok (.laload, 1) := by decide +kernel
theorem dX4_findThought_61 : decode cX4_findThought 61 = .ok (.aload_n 0, 1) := by decide +kernel
theorem dX4_findThought_62 : decode cX4_findThought 62 = .ok (.getfield 31, 3) := by decide +kernel
theorem dX4_findThought_65 : decode cX4_findThought 65 = .ok (.iload_n 2, 1) := by decide +kernel
theorem dX4_findThought_66 : decode cX4_findThought 66 = .ok (.iaload, 1) := by decide +kernel
theorem dX4_findThought_67 : decode cX4_findThought 67 = .ok (.iconst 1, 1) := by decide +kernel
theorem dX4_findThought_68 : decode cX4_findThought 68 = .ok (.if_icmp .ne 8, 3) := by decide +kernel
theorem dX4_findThought_71 : decode cX4_findThought 71 = .ok (.iload_n 3, 1) := by decide +kernel
theorem dX4_findThought_72 : decode cX4_findThought 72 = .ok (.i2l, 1) := by decide +kernel
theorem dX4_findThought_73 : decode cX4_findThought 73 = .ok (.goto 8, 3) := by decide +kernel
theorem dX4_findThought_76 : decode cX4_findThought 76 = .ok (.bipush 10, 2) := by decide +kernel
theorem dX4_findThought_78 : decode cX4_findThought 78 = .ok (.iload_n 3, 1) := by decide +kernel
theorem dX4_findThought_79 : decode cX4_findThought 79 = .ok (.isub, 1) := by decide +kernel
theorem dX4_findThought_80 : decode cX4_findThought 80 = .ok (.i2l, 1) := by decide +kernel
theorem dX4_findThought_81 : decode cX4_findThought 81 = .ok (.lmul, 1) := by decide +kernel
theorem dX4_findThought_82 : decode cX4_findThought 82 = .ok (.lastore, 1) := by decide +kernel
theorem dX4_findThought_83 : decode cX4_findThought 83 = .ok (.iinc 2 1, 3) := by decide +kernel
theorem dX4_findThought_86 : decode cX4_findThought 86 = .ok (.goto (-52), 3) := by decide +kernel
theorem dX4_findThought_89 : decode cX4_findThought 89 = .ok (.iinc 1 1, 3) := by decide +kernel
theorem dX4_findThought_92 : decode cX4_findThought 92 = .ok (.goto (-90), 3) := by decide +kernel
theorem dX4_findThought_95 : decode cX4_findThought 95 = .ok (.return_, 1) := by decide +kernel
theorem dX4_allThought_0 : decode cX4_allThought 0 = .ok (.lconst 0, 1) := by decide +kernel
theorem dX4_allThought_1 : decode cX4_allThought 1 = .ok (.lstore_n 1, 1) := by decide +kernel
theorem dX4_allThought_2 : decode cX4_allThought 2 = .ok (.iconst 0, 1) := by decide +kernel
theorem dX4_allThought_3 : decode cX4_allThought 3 = .ok (.istore_n 3, 1) := by decide +kernel
theorem dX4_allThought_4 : decode cX4_allThought 4 = .ok (.iload_n 3, 1) := by decide +kernel
theorem dX4_allThought_5 : decode cX4_allThought 5 = .ok (.iconst 5, 1) := by decide +kernel
theorem dX4_allThought_6 : decode cX4_allThought 6 = .ok (.if_icmp .ge 18, 3) := by decide +kernel
theorem dX4_allThought_9 : decode cX4_allThought 9 = .ok (.lload_n 1, 1) := by decide +kernel
theorem dX4_allThought_10 : decode cX4_allThought 10 = .ok (.aload_n 0, 1) := by decide +kernel
theorem dX4_allThought_11 : decode cX4_allThought 11 = .ok (.getfield 52, 3) := by decide +kernel
theorem dX4_allThought_14 : decode cX4_allThought 14 = .ok (.iload_n 3, 1) := by decide +kernel
theorem dX4_allThought_15 : decode cX4_allThought 15 = .ok (.laload, 1) := by decide +kernel
theorem dX4_allThought_16 : decode cX4_allThought 16 = .ok (.ladd, 1) := by decide +kernel
theorem dX4_allThought_17 : decode cX4_allThought 17 = .ok (.lstore_n 1, 1) := by decide +kernel
theorem dX4_allThought_18 : decode cX4_allThought 18 = .ok (.iinc 3 1, 3) := by decide +kernel
theorem dX4_allThought_21 : decode cX4_allThought 21 = .ok (.goto (-17), 3) := by decide +kernel
theorem dX4_allThought_24 : decode cX4_allThought 24 = .ok (.lload_n 1, 1) := by decide +kernel
theorem dX4_allThought_25 : decode cX4_allThought 25 = .ok (.lreturn, 1) := by decide +kernel
theorem dX4_netBy_0 : decode cX4_netBy 0 = .ok (.lconst 0, 1) := by decide +kernel
theorem dX4_netBy_1 : decode cX4_netBy 1 = .ok (.lstore 4, 2) := by decide +kernel
theorem dX4_netBy_3 : decode cX4_netBy 3 = .ok (.iconst 0, 1) := by decide +kernel
theorem dX4_netBy_4 : decode cX4_netBy 4 = .ok (.istore 6, 2) := by decide +kernel
theorem dX4_netBy_6 : decode cX4_netBy 6 = .ok (.iload 6, 2) := by decide +kernel
theorem dX4_netBy_8 : decode cX4_netBy 8 = .ok (.iconst 5, 1) := by decide +kernel
theorem dX4_netBy_9 : decode cX4_netBy 9 = .ok (.if_icmp .ge 28, 3) := by decide +kernel
theorem dX4_netBy_12 : decode cX4_netBy 12 = .ok (.lload 4, 2) := by decide +kernel
theorem dX4_netBy_14 : decode cX4_netBy 14 = .ok (.aload_n 1, 1) := by decide +kernel
theorem dX4_netBy_15 : decode cX4_netBy 15 = .ok (.iload 6, 2) := by decide +kernel
theorem dX4_netBy_17 : decode cX4_netBy 17 = .ok (.laload, 1) := by decide +kernel
theorem dX4_netBy_18 : decode cX4_netBy 18 = .ok (.aload_n 0, 1) := by decide +kernel
theorem dX4_netBy_19 : decode cX4_netBy 19 = .ok (.iload_n 2, 1) := by decide +kernel
theorem dX4_netBy_20 : decode cX4_netBy 20 = .ok (.iload_n 3, 1) := by decide +kernel
theorem dX4_netBy_21 : decode cX4_netBy 21 = .ok (.iload 6, 2) := by decide +kernel
theorem dX4_netBy_23 : decode cX4_netBy 23 = .ok (.invokevirtual 217, 3) := by decide +kernel
theorem dX4_netBy_26 : decode cX4_netBy 26 = .ok (.i2l, 1) := by decide +kernel
theorem dX4_netBy_27 : decode cX4_netBy 27 = .ok (.lmul, 1) := by decide +kernel
theorem dX4_netBy_28 : decode cX4_netBy 28 = .ok (.ladd, 1) := by decide +kernel
theorem dX4_netBy_29 : decode cX4_netBy 29 = .ok (.lstore 4, 2) := by decide +kernel
theorem dX4_netBy_31 : decode cX4_netBy 31 = .ok (.iinc 6 1, 3) := by decide +kernel
theorem dX4_netBy_34 : decode cX4_netBy 34 = .ok (.goto (-28), 3) := by decide +kernel
theorem dX4_netBy_37 : decode cX4_netBy 37 = .ok (.lload 4, 2) := by decide +kernel
theorem dX4_netBy_39 : decode cX4_netBy 39 = .ok (.lreturn, 1) := by decide +kernel
theorem dX4_bestUse_0 : decode cX4_bestUse 0 = .ok (.iconst 0, 1) := by decide +kernel
theorem dX4_bestUse_1 : decode cX4_bestUse 1 = .ok (.istore_n 3, 1) := by decide +kernel
theorem dX4_bestUse_2 : decode cX4_bestUse 2 = .ok (.iconst 1, 1) := by decide +kernel
theorem dX4_bestUse_3 : decode cX4_bestUse 3 = .ok (.istore 4, 2) := by decide +kernel
theorem dX4_bestUse_5 : decode cX4_bestUse 5 = .ok (.iload 4, 2) := by decide +kernel
theorem dX4_bestUse_7 : decode cX4_bestUse 7 = .ok (.iconst 5, 1) := by decide +kernel
theorem dX4_bestUse_8 : decode cX4_bestUse 8 = .ok (.if_icmp .ge 35, 3) := by decide +kernel
theorem dX4_bestUse_11 : decode cX4_bestUse 11 = .ok (.aload_n 0, 1) := by decide +kernel
theorem dX4_bestUse_12 : decode cX4_bestUse 12 = .ok (.aload_n 1, 1) := by decide +kernel
theorem dX4_bestUse_13 : decode cX4_bestUse 13 = .ok (.iload 4, 2) := by decide +kernel
theorem dX4_bestUse_15 : decode cX4_bestUse 15 = .ok (.iload_n 2, 1) := by decide +kernel
theorem dX4_bestUse_16 : decode cX4_bestUse 16 = .ok (.invokevirtual 220, 3) := by decide +kernel
theorem dX4_bestUse_19 : decode cX4_bestUse 19 = .ok (.aload_n 0, 1) := by decide +kernel
theorem dX4_bestUse_20 : decode cX4_bestUse 20 = .ok (.aload_n 1, 1) := by decide +kernel
theorem dX4_bestUse_21 : decode cX4_bestUse 21 = .ok (.iload_n 3, 1) := by decide +kernel
theorem dX4_bestUse_22 : decode cX4_bestUse 22 = .ok (.iload_n 2, 1) := by decide +kernel
theorem dX4_bestUse_23 : decode cX4_bestUse 23 = .ok (.invokevirtual 220, 3) := by decide +kernel
theorem dX4_bestUse_26 : decode cX4_bestUse 26 = .ok (.lcmp, 1) := by decide +kernel
theorem dX4_bestUse_27 : decode cX4_bestUse 27 = .ok (.ifCond .le 8, 3) := by decide +kernel
theorem dX4_bestUse_30 : decode cX4_bestUse 30 = .ok (.iload 4, 2) := by decide +kernel
theorem dX4_bestUse_32 : decode cX4_bestUse 32 = .ok (.goto 4, 3) := by decide +kernel
theorem dX4_bestUse_35 : decode cX4_bestUse 35 = .ok (.iload_n 3, 1) := by decide +kernel
theorem dX4_bestUse_36 : decode cX4_bestUse 36 = .ok (.istore_n 3, 1) := by decide +kernel
theorem dX4_bestUse_37 : decode cX4_bestUse 37 = .ok (.iinc 4 1, 3) := by decide +kernel
theorem dX4_bestUse_40 : decode cX4_bestUse 40 = .ok (.goto (-35), 3) := by decide +kernel
theorem dX4_bestUse_43 : decode cX4_bestUse 43 = .ok (.iload_n 3, 1) := by decide +kernel
theorem dX4_bestUse_44 : decode cX4_bestUse 44 = .ok (.ireturn, 1) := by decide +kernel
theorem dX4_bestNet_0 : decode cX4_bestNet 0 = .ok (.aload_n 0, 1) := by decide +kernel
theorem dX4_bestNet_1 : decode cX4_bestNet 1 = .ok (.aload_n 1, 1) := by decide +kernel
theorem dX4_bestNet_2 : decode cX4_bestNet 2 = .ok (.aload_n 0, 1) := by decide +kernel
theorem dX4_bestNet_3 : decode cX4_bestNet 3 = .ok (.aload_n 1, 1) := by decide +kernel
theorem dX4_bestNet_4 : decode cX4_bestNet 4 = .ok (.iload_n 2, 1) := by decide +kernel
theorem dX4_bestNet_5 : decode cX4_bestNet 5 = .ok (.invokevirtual 224, 3) := by decide +kernel
theorem dX4_bestNet_8 : decode cX4_bestNet 8 = .ok (.iload_n 2, 1) := by decide +kernel
theorem dX4_bestNet_9 : decode cX4_bestNet 9 = .ok (.invokevirtual 220, 3) := by decide +kernel
theorem dX4_bestNet_12 : decode cX4_bestNet 12 = .ok (.lreturn, 1) := by decide +kernel
theorem dX4_divisor_0 : decode cX4_divisor 0 = .ok (.lload_n 0, 1) := by decide +kernel
theorem dX4_divisor_1 : decode cX4_divisor 1 = .ok (.lconst 0, 1) := by decide +kernel
theorem dX4_divisor_2 : decode cX4_divisor 2 = .ok (.lcmp, 1) := by decide +kernel
theorem dX4_divisor_3 : decode cX4_divisor 3 = .ok (.ifCond .ge 8, 3) := by decide +kernel
theorem dX4_divisor_6 : decode cX4_divisor 6 = .ok (.lload_n 0, 1) := by decide +kernel
theorem dX4_divisor_7 : decode cX4_divisor 7 = .ok (.lneg, 1) := by decide +kernel
theorem dX4_divisor_8 : decode cX4_divisor 8 = .ok (.goto 4, 3) := by decide +kernel
theorem dX4_divisor_11 : decode cX4_divisor 11 = .ok (.lload_n 0, 1) := by decide +kernel
theorem dX4_divisor_12 : decode cX4_divisor 12 = .ok (.lstore 4, 2) := by decide +kernel
theorem dX4_divisor_14 : decode cX4_divisor 14 = .ok (.lload_n 2, 1) := by decide +kernel
theorem dX4_divisor_15 : decode cX4_divisor 15 = .ok (.lstore 6, 2) := by decide +kernel
theorem dX4_divisor_17 : decode cX4_divisor 17 = .ok (.lload 6, 2) := by decide +kernel
theorem dX4_divisor_19 : decode cX4_divisor 19 = .ok (.lconst 0, 1) := by decide +kernel
theorem dX4_divisor_20 : decode cX4_divisor 20 = .ok (.lcmp, 1) := by decide +kernel
theorem dX4_divisor_21 : decode cX4_divisor 21 = .ok (.ifCond .eq 21, 3) := by decide +kernel
theorem dX4_divisor_24 : decode cX4_divisor 24 = .ok (.lload 4, 2) := by decide +kernel
theorem dX4_divisor_26 : decode cX4_divisor 26 = .ok (.lload 6, 2) := by decide +kernel
theorem dX4_divisor_28 : decode cX4_divisor 28 = .ok (.lrem, 1) := by decide +kernel
theorem dX4_divisor_29 : decode cX4_divisor 29 = .ok (.lstore 8, 2) := by decide +kernel
theorem dX4_divisor_31 : decode cX4_divisor 31 = .ok (.lload 6, 2) := by decide +kernel
theorem dX4_divisor_33 : decode cX4_divisor 33 = .ok (.lstore 4, 2) := by decide +kernel
theorem dX4_divisor_35 : decode cX4_divisor 35 = .ok (.lload 8, 2) := by decide +kernel
theorem dX4_divisor_37 : decode cX4_divisor 37 = .ok (.lstore 6, 2) := by decide +kernel
theorem dX4_divisor_39 : decode cX4_divisor 39 = .ok (.goto (-22), 3) := by decide +kernel
theorem dX4_divisor_42 : decode cX4_divisor 42 = .ok (.lload 4, 2) := by decide +kernel
theorem dX4_divisor_44 : decode cX4_divisor 44 = .ok (.lreturn, 1) := by decide +kernel
theorem dX4_partOf_0 : decode cX4_partOf 0 = .ok (.lload_n 2, 1) := by decide +kernel
theorem dX4_partOf_1 : decode cX4_partOf 1 = .ok (.lconst 0, 1) := by decide +kernel
theorem dX4_partOf_2 : decode cX4_partOf 2 = .ok (.lcmp, 1) := by decide +kernel
theorem dX4_partOf_3 : decode cX4_partOf 3 = .ok (.ifCond .ne 7, 3) := by decide +kernel
theorem dX4_partOf_6 : decode cX4_partOf 6 = .ok (.iload 4, 2) := by decide +kernel
theorem dX4_partOf_8 : decode cX4_partOf 8 = .ok (.i2l, 1) := by decide +kernel
theorem dX4_partOf_9 : decode cX4_partOf 9 = .ok (.lreturn, 1) := by decide +kernel
theorem dX4_partOf_10 : decode cX4_partOf 10 = .ok (.iload 4, 2) := by decide +kernel
theorem dX4_partOf_12 : decode cX4_partOf 12 = .ok (.ifCond .ne 7, 3) := by decide +kernel
theorem dX4_partOf_15 : decode cX4_partOf 15 = .ok (.lload_n 0, 1) := by decide +kernel
theorem dX4_partOf_16 : decode cX4_partOf 16 = .ok (.goto 4, 3) := by decide +kernel
theorem dX4_partOf_19 : decode cX4_partOf 19 = .ok (.lload_n 2, 1) := by decide +kernel
theorem dX4_partOf_20 : decode cX4_partOf 20 = .ok (.lload_n 0, 1) := by decide +kernel
theorem dX4_partOf_21 : decode cX4_partOf 21 = .ok (.lload_n 2, 1) := by decide +kernel
theorem dX4_partOf_22 : decode cX4_partOf 22 = .ok (.invokestatic 228, 3) := by decide +kernel
theorem dX4_partOf_25 : decode cX4_partOf 25 = .ok (.ldiv, 1) := by decide +kernel
theorem dX4_partOf_26 : decode cX4_partOf 26 = .ok (.lreturn, 1) := by decide +kernel
theorem dX4_isStage_0 : decode cX4_isStage 0 = .ok (.iload_n 0, 1) := by decide +kernel
theorem dX4_isStage_1 : decode cX4_isStage 1 = .ok (.ifCond .lt 12, 3) := by decide +kernel
theorem dX4_isStage_4 : decode cX4_isStage 4 = .ok (.iload_n 0, 1) := by decide +kernel
theorem dX4_isStage_5 : decode cX4_isStage 5 = .ok (.iconst 5, 1) := by decide +kernel
theorem dX4_isStage_6 : decode cX4_isStage 6 = .ok (.if_icmp .ge 7, 3) := by decide +kernel
theorem dX4_isStage_9 : decode cX4_isStage 9 = .ok (.iconst 1, 1) := by decide +kernel
theorem dX4_isStage_10 : decode cX4_isStage 10 = .ok (.goto 4, 3) := by decide +kernel
theorem dX4_isStage_13 : decode cX4_isStage 13 = .ok (.iconst 0, 1) := by decide +kernel
theorem dX4_isStage_14 : decode cX4_isStage 14 = .ok (.ireturn, 1) := by decide +kernel
theorem dX4_says_0 : decode cX4_says 0 = .ok (.iload_n 1, 1) := by decide +kernel
theorem dX4_says_1 : decode cX4_says 1 = .ok (.invokestatic 192, 3) := by decide +kernel
theorem dX4_says_4 : decode cX4_says 4 = .ok (.ifCond .eq 10, 3) := by decide +kernel
theorem dX4_says_7 : decode cX4_says 7 = .ok (.iload_n 2, 1) := by decide +kernel
theorem dX4_says_8 : decode cX4_says 8 = .ok (.invokestatic 232, 3) := by decide +kernel
theorem dX4_says_11 : decode cX4_says 11 = .ok (.ifCond .ne 7, 3) := by decide +kernel
theorem dX4_says_14 : decode cX4_says 14 = .ok (.iconst (-1), 1) := by decide +kernel
theorem dX4_says_15 : decode cX4_says 15 = .ok (.goto 16, 3) := by decide +kernel
theorem dX4_says_18 : decode cX4_says 18 = .ok (.aload_n 0, 1) := by decide +kernel
theorem dX4_says_19 : decode cX4_says 19 = .ok (.getfield 75, 3) := by decide +kernel
theorem dX4_says_22 : decode cX4_says 22 = .ok (.ifCond .ne 8, 3) := by decide +kernel
theorem dX4_says_25 : decode cX4_says 25 = .ok (.bipush (-3), 2) := by decide +kernel
theorem dX4_says_27 : decode cX4_says 27 = .ok (.goto 4, 3) := by decide +kernel
theorem dX4_says_30 : decode cX4_says 30 = .ok (.iconst 0, 1) := by decide +kernel
theorem dX4_says_31 : decode cX4_says 31 = .ok (.istore_n 3, 1) := by decide +kernel
theorem dX4_says_32 : decode cX4_says 32 = .ok (.iload_n 3, 1) := by decide +kernel
theorem dX4_says_33 : decode cX4_says 33 = .ok (.ifCond .eq 11, 3) := by decide +kernel
theorem dX4_says_36 : decode cX4_says 36 = .ok (.aload_n 0, 1) := by decide +kernel
theorem dX4_says_37 : decode cX4_says 37 = .ok (.iload_n 3, 1) := by decide +kernel
theorem dX4_says_38 : decode cX4_says 38 = .ok (.invokevirtual 85, 3) := by decide +kernel
theorem dX4_says_41 : decode cX4_says 41 = .ok (.goto 9, 3) := by decide +kernel
theorem dX4_says_44 : decode cX4_says 44 = .ok (.aload_n 0, 1) := by decide +kernel
theorem dX4_says_45 : decode cX4_says 45 = .ok (.iload_n 1, 1) := by decide +kernel
theorem dX4_says_46 : decode cX4_says 46 = .ok (.iload_n 2, 1) := by decide +kernel
theorem dX4_says_47 : decode cX4_says 47 = .ok (.invokevirtual 214, 3) := by decide +kernel
theorem dX4_says_50 : decode cX4_says 50 = .ok (.ireturn, 1) := by decide +kernel
theorem dX4_thought_0 : decode cX4_thought 0 = .ok (.iload_n 1, 1) := by decide +kernel
theorem dX4_thought_1 : decode cX4_thought 1 = .ok (.invokestatic 232, 3) := by decide +kernel
theorem dX4_thought_4 : decode cX4_thought 4 = .ok (.ifCond .ne 7, 3) := by decide +kernel
theorem dX4_thought_7 : decode cX4_thought 7 = .ok (.iconst (-1), 1) := by decide +kernel
theorem dX4_thought_8 : decode cX4_thought 8 = .ok (.goto 16, 3) := by decide +kernel
theorem dX4_thought_11 : decode cX4_thought 11 = .ok (.aload_n 0, 1) := by decide +kernel
theorem dX4_thought_12 : decode cX4_thought 12 = .ok (.getfield 75, 3) := by decide +kernel
theorem dX4_thought_15 : decode cX4_thought 15 = .ok (.ifCond .ne 8, 3) := by decide +kernel
theorem dX4_thought_18 : decode cX4_thought 18 = .ok (.bipush (-3), 2) := by decide +kernel
theorem dX4_thought_20 : decode cX4_thought 20 = .ok (.goto 4, 3) := by decide +kernel
theorem dX4_thought_23 : decode cX4_thought 23 = .ok (.iconst 0, 1) := by decide +kernel
theorem dX4_thought_24 : decode cX4_thought 24 = .ok (.istore_n 2, 1) := by decide +kernel
theorem dX4_thought_25 : decode cX4_thought 25 = .ok (.iload_n 2, 1) := by decide +kernel
theorem dX4_thought_26 : decode cX4_thought 26 = .ok (.ifCond .eq 9, 3) := by decide +kernel
theorem dX4_thought_29 : decode cX4_thought 29 = .ok (.aload_n 0, 1) := by decide +kernel
theorem dX4_thought_30 : decode cX4_thought 30 = .ok (.iload_n 2, 1) := by decide +kernel
theorem dX4_thought_31 : decode cX4_thought 31 = .ok (.invokevirtual 235, 3) := by decide +kernel
theorem dX4_thought_34 : decode cX4_thought 34 = .ok (.lreturn, 1) := by decide +kernel
theorem dX4_thought_35 : decode cX4_thought 35 = .ok (.aload_n 0, 1) := by decide +kernel
theorem dX4_thought_36 : decode cX4_thought 36 = .ok (.invokevirtual 239, 3) := by decide +kernel
theorem dX4_thought_39 : decode cX4_thought 39 = .ok (.aload_n 0, 1) := by decide +kernel
theorem dX4_thought_40 : decode cX4_thought 40 = .ok (.getfield 52, 3) := by decide +kernel
theorem dX4_thought_43 : decode cX4_thought 43 = .ok (.iload_n 1, 1) := by decide +kernel
theorem dX4_thought_44 : decode cX4_thought 44 = .ok (.laload, 1) := by decide +kernel
theorem dX4_thought_45 : decode cX4_thought 45 = .ok (.lreturn, 1) := by decide +kernel
theorem dX4_likely_0 : decode cX4_likely 0 = .ok (.iload_n 1, 1) := by decide +kernel
theorem dX4_likely_1 : decode cX4_likely 1 = .ok (.invokestatic 232, 3) := by decide +kernel
theorem dX4_likely_4 : decode cX4_likely 4 = .ok (.ifCond .ne 7, 3) := by decide +kernel
theorem dX4_likely_7 : decode cX4_likely 7 = .ok (.iconst (-1), 1) := by decide +kernel
theorem dX4_likely_8 : decode cX4_likely 8 = .ok (.goto 30, 3) := by decide +kernel
theorem dX4_likely_11 : decode cX4_likely 11 = .ok (.iload_n 2, 1) := by decide +kernel
theorem dX4_likely_12 : decode cX4_likely 12 = .ok (.iconst 0, 1) := by decide +kernel
theorem dX4_likely_13 : decode cX4_likely 13 = .ok (.iconst 1, 1) := by decide +kernel
theorem dX4_likely_14 : decode cX4_likely 14 = .ok (.invokestatic 96, 3) := by decide +kernel
theorem dX4_likely_17 : decode cX4_likely 17 = .ok (.ifCond .ne 8, 3) := by decide +kernel
theorem dX4_likely_20 : decode cX4_likely 20 = .ok (.bipush (-2), 2) := by decide +kernel
theorem dX4_likely_22 : decode cX4_likely 22 = .ok (.goto 16, 3) := by decide +kernel
theorem dX4_likely_25 : decode cX4_likely 25 = .ok (.aload_n 0, 1) := by decide +kernel
theorem dX4_likely_26 : decode cX4_likely 26 = .ok (.getfield 75, 3) := by decide +kernel
theorem dX4_likely_29 : decode cX4_likely 29 = .ok (.ifCond .ne 8, 3) := by decide +kernel
theorem dX4_likely_32 : decode cX4_likely 32 = .ok (.bipush (-3), 2) := by decide +kernel
theorem dX4_likely_34 : decode cX4_likely 34 = .ok (.goto 4, 3) := by decide +kernel
theorem dX4_likely_37 : decode cX4_likely 37 = .ok (.iconst 0, 1) := by decide +kernel
theorem dX4_likely_38 : decode cX4_likely 38 = .ok (.istore_n 3, 1) := by decide +kernel
theorem dX4_likely_39 : decode cX4_likely 39 = .ok (.iload_n 3, 1) := by decide +kernel
theorem dX4_likely_40 : decode cX4_likely 40 = .ok (.ifCond .eq 9, 3) := by decide +kernel
theorem dX4_likely_43 : decode cX4_likely 43 = .ok (.aload_n 0, 1) := by decide +kernel
theorem dX4_likely_44 : decode cX4_likely 44 = .ok (.iload_n 3, 1) := by decide +kernel
theorem dX4_likely_45 : decode cX4_likely 45 = .ok (.invokevirtual 235, 3) := by decide +kernel
theorem dX4_likely_48 : decode cX4_likely 48 = .ok (.lreturn, 1) := by decide +kernel
theorem dX4_likely_49 : decode cX4_likely 49 = .ok (.aload_n 0, 1) := by decide +kernel
theorem dX4_likely_50 : decode cX4_likely 50 = .ok (.invokevirtual 239, 3) := by decide +kernel
theorem dX4_likely_53 : decode cX4_likely 53 = .ok (.aload_n 0, 1) := by decide +kernel
theorem dX4_likely_54 : decode cX4_likely 54 = .ok (.getfield 52, 3) := by decide +kernel
theorem dX4_likely_57 : decode cX4_likely 57 = .ok (.iload_n 1, 1) := by decide +kernel
theorem dX4_likely_58 : decode cX4_likely 58 = .ok (.laload, 1) := by decide +kernel
theorem dX4_likely_59 : decode cX4_likely 59 = .ok (.aload_n 0, 1) := by decide +kernel
theorem dX4_likely_60 : decode cX4_likely 60 = .ok (.invokevirtual 242, 3) := by decide +kernel
theorem dX4_likely_63 : decode cX4_likely 63 = .ok (.iload_n 2, 1) := by decide +kernel
theorem dX4_likely_64 : decode cX4_likely 64 = .ok (.invokestatic 246, 3) := by decide +kernel
theorem dX4_likely_67 : decode cX4_likely 67 = .ok (.lreturn, 1) := by decide +kernel
theorem dX4_good_0 : decode cX4_good 0 = .ok (.iload_n 1, 1) := by decide +kernel
theorem dX4_good_1 : decode cX4_good 1 = .ok (.iconst 0, 1) := by decide +kernel
theorem dX4_good_2 : decode cX4_good 2 = .ok (.iconst 1, 1) := by decide +kernel
theorem dX4_good_3 : decode cX4_good 3 = .ok (.invokestatic 96, 3) := by decide +kernel
theorem dX4_good_6 : decode cX4_good 6 = .ok (.ifCond .ne 8, 3) := by decide +kernel
theorem dX4_good_9 : decode cX4_good 9 = .ok (.bipush (-2), 2) := by decide +kernel
theorem dX4_good_11 : decode cX4_good 11 = .ok (.goto 16, 3) := by decide +kernel
theorem dX4_good_14 : decode cX4_good 14 = .ok (.aload_n 0, 1) := by decide +kernel
theorem dX4_good_15 : decode cX4_good 15 = .ok (.getfield 75, 3) := by decide +kernel
theorem dX4_good_18 : decode cX4_good 18 = .ok (.ifCond .ne 8, 3) := by decide +kernel
theorem dX4_good_21 : decode cX4_good 21 = .ok (.bipush (-3), 2) := by decide +kernel
theorem dX4_good_23 : decode cX4_good 23 = .ok (.goto 4, 3) := by decide +kernel
theorem dX4_good_26 : decode cX4_good 26 = .ok (.iconst 0, 1) := by decide +kernel
theorem dX4_good_27 : decode cX4_good 27 = .ok (.istore_n 2, 1) := by decide +kernel
theorem dX4_good_28 : decode cX4_good 28 = .ok (.iload_n 2, 1) := by decide +kernel
theorem dX4_good_29 : decode cX4_good 29 = .ok (.ifCond .eq 9, 3) := by decide +kernel
theorem dX4_good_32 : decode cX4_good 32 = .ok (.aload_n 0, 1) := by decide +kernel
theorem dX4_good_33 : decode cX4_good 33 = .ok (.iload_n 2, 1) := by decide +kernel
theorem dX4_good_34 : decode cX4_good 34 = .ok (.invokevirtual 235, 3) := by decide +kernel
theorem dX4_good_37 : decode cX4_good 37 = .ok (.lreturn, 1) := by decide +kernel
theorem dX4_good_38 : decode cX4_good 38 = .ok (.aload_n 0, 1) := by decide +kernel
theorem dX4_good_39 : decode cX4_good 39 = .ok (.invokevirtual 239, 3) := by decide +kernel
theorem dX4_good_42 : decode cX4_good 42 = .ok (.aload_n 0, 1) := by decide +kernel
theorem dX4_good_43 : decode cX4_good 43 = .ok (.getfield 52, 3) := by decide +kernel
theorem dX4_good_46 : decode cX4_good 46 = .ok (.iconst 0, 1) := by decide +kernel
theorem dX4_good_47 : decode cX4_good 47 = .ok (.laload, 1) := by decide +kernel
theorem dX4_good_48 : decode cX4_good 48 = .ok (.aload_n 0, 1) := by decide +kernel
theorem dX4_good_49 : decode cX4_good 49 = .ok (.getfield 52, 3) := by decide +kernel
theorem dX4_good_52 : decode cX4_good 52 = .ok (.iconst 1, 1) := by decide +kernel
theorem dX4_good_53 : decode cX4_good 53 = .ok (.laload, 1) := by decide +kernel
theorem dX4_good_54 : decode cX4_good 54 = .ok (.ladd, 1) := by decide +kernel
theorem dX4_good_55 : decode cX4_good 55 = .ok (.aload_n 0, 1) := by decide +kernel
theorem dX4_good_56 : decode cX4_good 56 = .ok (.invokevirtual 242, 3) := by decide +kernel
theorem dX4_good_59 : decode cX4_good 59 = .ok (.iload_n 1, 1) := by decide +kernel
theorem dX4_good_60 : decode cX4_good 60 = .ok (.invokestatic 246, 3) := by decide +kernel
theorem dX4_good_63 : decode cX4_good 63 = .ok (.lreturn, 1) := by decide +kernel
theorem dX4_mean_0 : decode cX4_mean 0 = .ok (.iload_n 1, 1) := by decide +kernel
theorem dX4_mean_1 : decode cX4_mean 1 = .ok (.iconst 0, 1) := by decide +kernel
theorem dX4_mean_2 : decode cX4_mean 2 = .ok (.iconst 4, 1) := by decide +kernel
theorem dX4_mean_3 : decode cX4_mean 3 = .ok (.invokestatic 96, 3) := by decide +kernel
theorem dX4_mean_6 : decode cX4_mean 6 = .ok (.ifCond .eq 10, 3) := by decide +kernel
theorem dX4_mean_9 : decode cX4_mean 9 = .ok (.iload_n 2, 1) := by decide +kernel
theorem dX4_mean_10 : decode cX4_mean 10 = .ok (.invokestatic 250, 3) := by decide +kernel
theorem dX4_mean_13 : decode cX4_mean 13 = .ok (.ifCond .ne 7, 3) := by decide +kernel
theorem dX4_mean_16 : decode cX4_mean 16 = .ok (.iconst (-1), 1) := by decide +kernel
theorem dX4_mean_17 : decode cX4_mean 17 = .ok (.goto 30, 3) := by decide +kernel
theorem dX4_mean_20 : decode cX4_mean 20 = .ok (.iload_n 3, 1) := by decide +kernel
theorem dX4_mean_21 : decode cX4_mean 21 = .ok (.iconst 0, 1) := by decide +kernel
theorem dX4_mean_22 : decode cX4_mean 22 = .ok (.iconst 1, 1) := by decide +kernel
theorem dX4_mean_23 : decode cX4_mean 23 = .ok (.invokestatic 96, 3) := by decide +kernel
theorem dX4_mean_26 : decode cX4_mean 26 = .ok (.ifCond .ne 8, 3) := by decide +kernel
theorem dX4_mean_29 : decode cX4_mean 29 = .ok (.bipush (-2), 2) := by decide +kernel
theorem dX4_mean_31 : decode cX4_mean 31 = .ok (.goto 16, 3) := by decide +kernel
theorem dX4_mean_34 : decode cX4_mean 34 = .ok (.aload_n 0, 1) := by decide +kernel
theorem dX4_mean_35 : decode cX4_mean 35 = .ok (.getfield 75, 3) := by decide +kernel
theorem dX4_mean_38 : decode cX4_mean 38 = .ok (.ifCond .ne 8, 3) := by decide +kernel
theorem dX4_mean_41 : decode cX4_mean 41 = .ok (.bipush (-3), 2) := by decide +kernel
theorem dX4_mean_43 : decode cX4_mean 43 = .ok (.goto 4, 3) := by decide +kernel
theorem dX4_mean_46 : decode cX4_mean 46 = .ok (.iconst 0, 1) := by decide +kernel
theorem dX4_mean_47 : decode cX4_mean 47 = .ok (.istore 4, 2) := by decide +kernel
theorem dX4_mean_49 : decode cX4_mean 49 = .ok (.iload 4, 2) := by decide +kernel
theorem dX4_mean_51 : decode cX4_mean 51 = .ok (.ifCond .eq 10, 3) := by decide +kernel
theorem dX4_mean_54 : decode cX4_mean 54 = .ok (.aload_n 0, 1) := by decide +kernel
theorem dX4_mean_55 : decode cX4_mean 55 = .ok (.iload 4, 2) := by decide +kernel
theorem dX4_mean_57 : decode cX4_mean 57 = .ok (.invokevirtual 235, 3) := by decide +kernel
theorem dX4_mean_60 : decode cX4_mean 60 = .ok (.lreturn, 1) := by decide +kernel
theorem dX4_mean_61 : decode cX4_mean 61 = .ok (.aload_n 0, 1) := by decide +kernel
theorem dX4_mean_62 : decode cX4_mean 62 = .ok (.invokevirtual 239, 3) := by decide +kernel
theorem dX4_mean_65 : decode cX4_mean 65 = .ok (.aload_n 0, 1) := by decide +kernel
theorem dX4_mean_66 : decode cX4_mean 66 = .ok (.aload_n 0, 1) := by decide +kernel
theorem dX4_mean_67 : decode cX4_mean 67 = .ok (.getfield 52, 3) := by decide +kernel
theorem dX4_mean_70 : decode cX4_mean 70 = .ok (.iload_n 1, 1) := by decide +kernel
theorem dX4_mean_71 : decode cX4_mean 71 = .ok (.iload_n 2, 1) := by decide +kernel
theorem dX4_mean_72 : decode cX4_mean 72 = .ok (.invokevirtual 220, 3) := by decide +kernel
theorem dX4_mean_75 : decode cX4_mean 75 = .ok (.aload_n 0, 1) := by decide +kernel
theorem dX4_mean_76 : decode cX4_mean 76 = .ok (.getfield 19, 3) := by decide +kernel
theorem dX4_mean_79 : decode cX4_mean 79 = .ok (.aload_n 0, 1) := by decide +kernel
theorem dX4_mean_80 : decode cX4_mean 80 = .ok (.getfield 117, 3) := by decide +kernel
theorem dX4_mean_83 : decode cX4_mean 83 = .ok (.iaload, 1) := by decide +kernel
theorem dX4_mean_84 : decode cX4_mean 84 = .ok (.i2l, 1) := by decide +kernel
theorem dX4_mean_85 : decode cX4_mean 85 = .ok (.lmul, 1) := by decide +kernel
theorem dX4_mean_86 : decode cX4_mean 86 = .ok (.aload_n 0, 1) := by decide +kernel
theorem dX4_mean_87 : decode cX4_mean 87 = .ok (.invokevirtual 242, 3) := by decide +kernel
theorem dX4_mean_90 : decode cX4_mean 90 = .ok (.iload_n 3, 1) := by decide +kernel
theorem dX4_mean_91 : decode cX4_mean 91 = .ok (.invokestatic 246, 3) := by decide +kernel
theorem dX4_mean_94 : decode cX4_mean 94 = .ok (.lreturn, 1) := by decide +kernel
theorem dX4_notBest_0 : decode cX4_notBest 0 = .ok (.iload_n 1, 1) := by decide +kernel
theorem dX4_notBest_1 : decode cX4_notBest 1 = .ok (.invokestatic 250, 3) := by decide +kernel
theorem dX4_notBest_4 : decode cX4_notBest 4 = .ok (.ifCond .ne 7, 3) := by decide +kernel
theorem dX4_notBest_7 : decode cX4_notBest 7 = .ok (.iconst (-1), 1) := by decide +kernel
theorem dX4_notBest_8 : decode cX4_notBest 8 = .ok (.goto 16, 3) := by decide +kernel
theorem dX4_notBest_11 : decode cX4_notBest 11 = .ok (.aload_n 0, 1) := by decide +kernel
theorem dX4_notBest_12 : decode cX4_notBest 12 = .ok (.getfield 75, 3) := by decide +kernel
theorem dX4_notBest_15 : decode cX4_notBest 15 = .ok (.ifCond .ne 8, 3) := by decide +kernel
theorem dX4_notBest_18 : decode cX4_notBest 18 = .ok (.bipush (-3), 2) := by decide +kernel
theorem dX4_notBest_20 : decode cX4_notBest 20 = .ok (.goto 4, 3) := by decide +kernel
theorem dX4_notBest_23 : decode cX4_notBest 23 = .ok (.iconst 0, 1) := by decide +kernel
theorem dX4_notBest_24 : decode cX4_notBest 24 = .ok (.ireturn, 1) := by decide +kernel
theorem dX4_best_0 : decode cX4_best 0 = .ok (.aload_n 0, 1) := by decide +kernel
theorem dX4_best_1 : decode cX4_best 1 = .ok (.iload_n 1, 1) := by decide +kernel
theorem dX4_best_2 : decode cX4_best 2 = .ok (.invokevirtual 253, 3) := by decide +kernel
theorem dX4_best_5 : decode cX4_best 5 = .ok (.istore_n 2, 1) := by decide +kernel
theorem dX4_best_6 : decode cX4_best 6 = .ok (.iload_n 2, 1) := by decide +kernel
theorem dX4_best_7 : decode cX4_best 7 = .ok (.ifCond .eq 9, 3) := by decide +kernel
theorem dX4_best_10 : decode cX4_best 10 = .ok (.aload_n 0, 1) := by decide +kernel
theorem dX4_best_11 : decode cX4_best 11 = .ok (.iload_n 2, 1) := by decide +kernel
theorem dX4_best_12 : decode cX4_best 12 = .ok (.invokevirtual 85, 3) := by decide +kernel
theorem dX4_best_15 : decode cX4_best 15 = .ok (.ireturn, 1) := by decide +kernel
theorem dX4_best_16 : decode cX4_best 16 = .ok (.aload_n 0, 1) := by decide +kernel
theorem dX4_best_17 : decode cX4_best 17 = .ok (.invokevirtual 239, 3) := by decide +kernel
theorem dX4_best_20 : decode cX4_best 20 = .ok (.aload_n 0, 1) := by decide +kernel
theorem dX4_best_21 : decode cX4_best 21 = .ok (.aload_n 0, 1) := by decide +kernel
theorem dX4_best_22 : decode cX4_best 22 = .ok (.getfield 52, 3) := by decide +kernel
theorem dX4_best_25 : decode cX4_best 25 = .ok (.iload_n 1, 1) := by decide +kernel
theorem dX4_best_26 : decode cX4_best 26 = .ok (.invokevirtual 224, 3) := by decide +kernel
theorem dX4_best_29 : decode cX4_best 29 = .ok (.ireturn, 1) := by decide +kernel
theorem dX4_sure_0 : decode cX4_sure 0 = .ok (.aload_n 0, 1) := by decide +kernel
theorem dX4_sure_1 : decode cX4_sure 1 = .ok (.iload_n 1, 1) := by decide +kernel
theorem dX4_sure_2 : decode cX4_sure 2 = .ok (.invokevirtual 253, 3) := by decide +kernel
theorem dX4_sure_5 : decode cX4_sure 5 = .ok (.istore_n 2, 1) := by decide +kernel
theorem dX4_sure_6 : decode cX4_sure 6 = .ok (.iload_n 2, 1) := by decide +kernel
theorem dX4_sure_7 : decode cX4_sure 7 = .ok (.ifCond .eq 9, 3) := by decide +kernel
theorem dX4_sure_10 : decode cX4_sure 10 = .ok (.aload_n 0, 1) := by decide +kernel
theorem dX4_sure_11 : decode cX4_sure 11 = .ok (.iload_n 2, 1) := by decide +kernel
theorem dX4_sure_12 : decode cX4_sure 12 = .ok (.invokevirtual 85, 3) := by decide +kernel
theorem dX4_sure_15 : decode cX4_sure 15 = .ok (.ireturn, 1) := by decide +kernel
theorem dX4_sure_16 : decode cX4_sure 16 = .ok (.aload_n 0, 1) := by decide +kernel
theorem dX4_sure_17 : decode cX4_sure 17 = .ok (.invokevirtual 239, 3) := by decide +kernel
theorem dX4_sure_20 : decode cX4_sure 20 = .ok (.iconst 0, 1) := by decide +kernel
theorem dX4_sure_21 : decode cX4_sure 21 = .ok (.istore_n 3, 1) := by decide +kernel
theorem dX4_sure_22 : decode cX4_sure 22 = .ok (.iconst 0, 1) := by decide +kernel
theorem dX4_sure_23 : decode cX4_sure 23 = .ok (.istore 4, 2) := by decide +kernel
theorem dX4_sure_25 : decode cX4_sure 25 = .ok (.iload 4, 2) := by decide +kernel
theorem dX4_sure_27 : decode cX4_sure 27 = .ok (.iconst 5, 1) := by decide +kernel
theorem dX4_sure_28 : decode cX4_sure 28 = .ok (.if_icmp .ge 31, 3) := by decide +kernel
theorem dX4_sure_31 : decode cX4_sure 31 = .ok (.iload_n 3, 1) := by decide +kernel
theorem dX4_sure_32 : decode cX4_sure 32 = .ok (.aload_n 0, 1) := by decide +kernel
theorem dX4_sure_33 : decode cX4_sure 33 = .ok (.iload 4, 2) := by decide +kernel
theorem dX4_sure_35 : decode cX4_sure 35 = .ok (.invokevirtual 256, 3) := by decide +kernel
theorem dX4_sure_38 : decode cX4_sure 38 = .ok (.lconst 0, 1) := by decide +kernel
theorem dX4_sure_39 : decode cX4_sure 39 = .ok (.lcmp, 1) := by decide +kernel
theorem dX4_sure_40 : decode cX4_sure 40 = .ok (.ifCond .ne 10, 3) := by decide +kernel
theorem dX4_sure_43 : decode cX4_sure 43 = .ok (.iconst 1, 1) := by decide +kernel
theorem dX4_sure_44 : decode cX4_sure 44 = .ok (.iload 4, 2) := by decide +kernel
theorem dX4_sure_46 : decode cX4_sure 46 = .ok (.ishl, 1) := by decide +kernel
theorem dX4_sure_47 : decode cX4_sure 47 = .ok (.goto 4, 3) := by decide +kernel
theorem dX4_sure_50 : decode cX4_sure 50 = .ok (.iconst 0, 1) := by decide +kernel
theorem dX4_sure_51 : decode cX4_sure 51 = .ok (.ior, 1) := by decide +kernel
theorem dX4_sure_52 : decode cX4_sure 52 = .ok (.istore_n 3, 1) := by decide +kernel
theorem dX4_sure_53 : decode cX4_sure 53 = .ok (.iinc 4 1, 3) := by decide +kernel
theorem dX4_sure_56 : decode cX4_sure 56 = .ok (.goto (-31), 3) := by decide +kernel
theorem dX4_sure_59 : decode cX4_sure 59 = .ok (.iload_n 3, 1) := by decide +kernel
theorem dX4_sure_60 : decode cX4_sure 60 = .ok (.ireturn, 1) := by decide +kernel
theorem dX4_harmParts_0 : decode cX4_harmParts 0 = .ok (.lconst 0, 1) := by decide +kernel
theorem dX4_harmParts_1 : decode cX4_harmParts 1 = .ok (.lstore_n 2, 1) := by decide +kernel
theorem dX4_harmParts_2 : decode cX4_harmParts 2 = .ok (.iconst 0, 1) := by decide +kernel
theorem dX4_harmParts_3 : decode cX4_harmParts 3 = .ok (.istore 4, 2) := by decide +kernel
theorem dX4_harmParts_5 : decode cX4_harmParts 5 = .ok (.iload 4, 2) := by decide +kernel
theorem dX4_harmParts_7 : decode cX4_harmParts 7 = .ok (.iconst 5, 1) := by decide +kernel
theorem dX4_harmParts_8 : decode cX4_harmParts 8 = .ok (.if_icmp .ge 32, 3) := by decide +kernel
theorem dX4_harmParts_11 : decode cX4_harmParts 11 = .ok (.lload_n 2, 1) := by decide +kernel
theorem dX4_harmParts_12 : decode cX4_harmParts 12 = .ok (.iload_n 1, 1) := by decide +kernel
theorem dX4_harmParts_13 : decode cX4_harmParts 13 = .ok (.iload 4, 2) := by decide +kernel
theorem dX4_harmParts_15 : decode cX4_harmParts 15 = .ok (.invokestatic 205, 3) := by decide +kernel
theorem dX4_harmParts_18 : decode cX4_harmParts 18 = .ok (.ifCond .le 13, 3) := by decide +kernel
theorem dX4_harmParts_21 : decode cX4_harmParts 21 = .ok (.aload_n 0, 1) := by decide +kernel
theorem dX4_harmParts_22 : decode cX4_harmParts 22 = .ok (.getfield 52, 3) := by decide +kernel
theorem dX4_harmParts_25 : decode cX4_harmParts 25 = .ok (.iload 4, 2) := by decide +kernel
theorem dX4_harmParts_27 : decode cX4_harmParts 27 = .ok (.laload, 1) := by decide +kernel
theorem dX4_harmParts_28 : decode cX4_harmParts 28 = .ok (.goto 4, 3) := by decide +kernel
theorem dX4_harmParts_31 : decode cX4_harmParts 31 = .ok (.lconst 0, 1) := by decide +kernel
theorem dX4_harmParts_32 : decode cX4_harmParts 32 = .ok (.ladd, 1) := by decide +kernel
theorem dX4_harmParts_33 : decode cX4_harmParts 33 = .ok (.lstore_n 2, 1) := by decide +kernel
theorem dX4_harmParts_34 : decode cX4_harmParts 34 = .ok (.iinc 4 1, 3) := by decide +kernel
theorem dX4_harmParts_37 : decode cX4_harmParts 37 = .ok (.goto (-32), 3) := by decide +kernel
theorem dX4_harmParts_40 : decode cX4_harmParts 40 = .ok (.lload_n 2, 1) := by decide +kernel
theorem dX4_harmParts_41 : decode cX4_harmParts 41 = .ok (.lreturn, 1) := by decide +kernel
theorem dX4_laysAnswer_0 : decode cX4_laysAnswer 0 = .ok (.iconst 0, 1) := by decide +kernel
theorem dX4_laysAnswer_1 : decode cX4_laysAnswer 1 = .ok (.istore 4, 2) := by decide +kernel
theorem dX4_laysAnswer_3 : decode cX4_laysAnswer 3 = .ok (.iload 4, 2) := by decide +kernel
theorem dX4_laysAnswer_5 : decode cX4_laysAnswer 5 = .ok (.iconst 5, 1) := by decide +kernel
theorem dX4_laysAnswer_6 : decode cX4_laysAnswer 6 = .ok (.if_icmp .ge 46, 3) := by decide +kernel
theorem dX4_laysAnswer_9 : decode cX4_laysAnswer 9 = .ok (.aload_n 0, 1) := by decide +kernel
theorem dX4_laysAnswer_10 : decode cX4_laysAnswer 10 = .ok (.iload_n 2, 1) := by decide +kernel
theorem dX4_laysAnswer_11 : decode cX4_laysAnswer 11 = .ok (.iload 4, 2) := by decide +kernel
theorem dX4_laysAnswer_13 : decode cX4_laysAnswer 13 = .ok (.invokevirtual 214, 3) := by decide +kernel
theorem dX4_laysAnswer_16 : decode cX4_laysAnswer 16 = .ok (.istore 5, 2) := by decide +kernel
theorem dX4_laysAnswer_18 : decode cX4_laysAnswer 18 = .ok (.aload_n 0, 1) := by decide +kernel
theorem dX4_laysAnswer_19 : decode cX4_laysAnswer 19 = .ok (.getfield 59, 3) := by decide +kernel
theorem dX4_laysAnswer_22 : decode cX4_laysAnswer 22 = .ok (.iload 4, 2) := by decide +kernel
theorem dX4_laysAnswer_24 : decode cX4_laysAnswer 24 = .ok (.aload_n 1, 1) := by decide +kernel
theorem dX4_laysAnswer_25 : decode cX4_laysAnswer 25 = .ok (.iload 4, 2) := by decide +kernel
theorem dX4_laysAnswer_27 : decode cX4_laysAnswer 27 = .ok (.laload, 1) := by decide +kernel
theorem dX4_laysAnswer_28 : decode cX4_laysAnswer 28 = .ok (.iload_n 3, 1) := by decide +kernel
theorem dX4_laysAnswer_29 : decode cX4_laysAnswer 29 = .ok (.iconst 1, 1) := by decide +kernel
theorem dX4_laysAnswer_30 : decode cX4_laysAnswer 30 = .ok (.if_icmp .ne 8, 3) := by decide +kernel
theorem dX4_laysAnswer_33 : decode cX4_laysAnswer 33 = .ok (.iload 5, 2) := by decide +kernel
theorem dX4_laysAnswer_35 : decode cX4_laysAnswer 35 = .ok (.goto 8, 3) := by decide +kernel
theorem dX4_laysAnswer_38 : decode cX4_laysAnswer 38 = .ok (.bipush 10, 2) := by decide +kernel
theorem dX4_laysAnswer_40 : decode cX4_laysAnswer 40 = .ok (.iload 5, 2) := by decide +kernel
theorem dX4_laysAnswer_42 : decode cX4_laysAnswer 42 = .ok (.isub, 1) := by decide +kernel
theorem dX4_laysAnswer_43 : decode cX4_laysAnswer 43 = .ok (.i2l, 1) := by decide +kernel
theorem dX4_laysAnswer_44 : decode cX4_laysAnswer 44 = .ok (.lmul, 1) := by decide +kernel
theorem dX4_laysAnswer_45 : decode cX4_laysAnswer 45 = .ok (.lastore, 1) := by decide +kernel
theorem dX4_laysAnswer_46 : decode cX4_laysAnswer 46 = .ok (.iinc 4 1, 3) := by decide +kernel
theorem dX4_laysAnswer_49 : decode cX4_laysAnswer 49 = .ok (.goto (-46), 3) := by decide +kernel
theorem dX4_laysAnswer_52 : decode cX4_laysAnswer 52 = .ok (.return_, 1) := by decide +kernel
theorem dX4_bestBehind_0 : decode cX4_bestBehind 0 = .ok (.aload_n 0, 1) := by decide +kernel
theorem dX4_bestBehind_1 : decode cX4_bestBehind 1 = .ok (.aload_n 1, 1) := by decide +kernel
theorem dX4_bestBehind_2 : decode cX4_bestBehind 2 = .ok (.iload_n 2, 1) := by decide +kernel
theorem dX4_bestBehind_3 : decode cX4_bestBehind 3 = .ok (.iconst 1, 1) := by decide +kernel
theorem dX4_bestBehind_4 : decode cX4_bestBehind 4 = .ok (.invokevirtual 259, 3) := by decide +kernel
theorem dX4_bestBehind_7 : decode cX4_bestBehind 7 = .ok (.aload_n 0, 1) := by decide +kernel
theorem dX4_bestBehind_8 : decode cX4_bestBehind 8 = .ok (.aload_n 0, 1) := by decide +kernel
theorem dX4_bestBehind_9 : decode cX4_bestBehind 9 = .ok (.getfield 59, 3) := by decide +kernel
theorem dX4_bestBehind_12 : decode cX4_bestBehind 12 = .ok (.iload_n 3, 1) := by decide +kernel
theorem dX4_bestBehind_13 : decode cX4_bestBehind 13 = .ok (.invokevirtual 263, 3) := by decide +kernel
theorem dX4_bestBehind_16 : decode cX4_bestBehind 16 = .ok (.lstore 4, 2) := by decide +kernel
theorem dX4_bestBehind_18 : decode cX4_bestBehind 18 = .ok (.aload_n 0, 1) := by decide +kernel
theorem dX4_bestBehind_19 : decode cX4_bestBehind 19 = .ok (.aload_n 1, 1) := by decide +kernel
theorem dX4_bestBehind_20 : decode cX4_bestBehind 20 = .ok (.iload_n 2, 1) := by decide +kernel
theorem dX4_bestBehind_21 : decode cX4_bestBehind 21 = .ok (.iconst 0, 1) := by decide +kernel
theorem dX4_bestBehind_22 : decode cX4_bestBehind 22 = .ok (.invokevirtual 259, 3) := by decide +kernel
theorem dX4_bestBehind_25 : decode cX4_bestBehind 25 = .ok (.lload 4, 2) := by decide +kernel
theorem dX4_bestBehind_27 : decode cX4_bestBehind 27 = .ok (.aload_n 0, 1) := by decide +kernel
theorem dX4_bestBehind_28 : decode cX4_bestBehind 28 = .ok (.aload_n 0, 1) := by decide +kernel
theorem dX4_bestBehind_29 : decode cX4_bestBehind 29 = .ok (.getfield 59, 3) := by decide +kernel
theorem dX4_bestBehind_32 : decode cX4_bestBehind 32 = .ok (.iload_n 3, 1) := by decide +kernel
theorem dX4_bestBehind_33 : decode cX4_bestBehind 33 = .ok (.invokevirtual 263, 3) := by decide +kernel
theorem dX4_bestBehind_36 : decode cX4_bestBehind 36 = .ok (.ladd, 1) := by decide +kernel
theorem dX4_bestBehind_37 : decode cX4_bestBehind 37 = .ok (.lreturn, 1) := by decide +kernel
theorem dX4_lookParts_0 : decode cX4_lookParts 0 = .ok (.ldc2_w 267, 3) := by decide +kernel
theorem dX4_lookParts_3 : decode cX4_lookParts 3 = .ok (.aload_n 0, 1) := by decide +kernel
theorem dX4_lookParts_4 : decode cX4_lookParts 4 = .ok (.aload_n 0, 1) := by decide +kernel
theorem dX4_lookParts_5 : decode cX4_lookParts 5 = .ok (.getfield 52, 3) := by decide +kernel
theorem dX4_lookParts_8 : decode cX4_lookParts 8 = .ok (.iload_n 2, 1) := by decide +kernel
theorem dX4_lookParts_9 : decode cX4_lookParts 9 = .ok (.invokevirtual 263, 3) := by decide +kernel
theorem dX4_lookParts_12 : decode cX4_lookParts 12 = .ok (.lmul, 1) := by decide +kernel
theorem dX4_lookParts_13 : decode cX4_lookParts 13 = .ok (.lstore_n 3, 1) := by decide +kernel
theorem dX4_lookParts_14 : decode cX4_lookParts 14 = .ok (.aload_n 0, 1) := by decide +kernel
theorem dX4_lookParts_15 : decode cX4_lookParts 15 = .ok (.aload_n 0, 1) := by decide +kernel
theorem dX4_lookParts_16 : decode cX4_lookParts 16 = .ok (.getfield 52, 3) := by decide +kernel
theorem dX4_lookParts_19 : decode cX4_lookParts 19 = .ok (.iload_n 1, 1) := by decide +kernel
theorem dX4_lookParts_20 : decode cX4_lookParts 20 = .ok (.iload_n 2, 1) := by decide +kernel
theorem dX4_lookParts_21 : decode cX4_lookParts 21 = .ok (.invokevirtual 269, 3) := by decide +kernel
theorem dX4_lookParts_24 : decode cX4_lookParts 24 = .ok (.lload_n 3, 1) := by decide +kernel
theorem dX4_lookParts_25 : decode cX4_lookParts 25 = .ok (.lsub, 1) := by decide +kernel
theorem dX4_lookParts_26 : decode cX4_lookParts 26 = .ok (.aload_n 0, 1) := by decide +kernel
theorem dX4_lookParts_27 : decode cX4_lookParts 27 = .ok (.getfield 19, 3) := by decide +kernel
theorem dX4_lookParts_30 : decode cX4_lookParts 30 = .ok (.aload_n 0, 1) := by decide +kernel
theorem dX4_lookParts_31 : decode cX4_lookParts 31 = .ok (.getfield 117, 3) := by decide +kernel
theorem dX4_lookParts_34 : decode cX4_lookParts 34 = .ok (.iaload, 1) := by decide +kernel
theorem dX4_lookParts_35 : decode cX4_lookParts 35 = .ok (.i2l, 1) := by decide +kernel
theorem dX4_lookParts_36 : decode cX4_lookParts 36 = .ok (.lmul, 1) := by decide +kernel
theorem dX4_lookParts_37 : decode cX4_lookParts 37 = .ok (.ldc2_w 267, 3) := by decide +kernel
theorem dX4_lookParts_40 : decode cX4_lookParts 40 = .ok (.aload_n 0, 1) := by decide +kernel
theorem dX4_lookParts_41 : decode cX4_lookParts 41 = .ok (.invokevirtual 242, 3) := by decide +kernel
theorem dX4_lookParts_44 : decode cX4_lookParts 44 = .ok (.lmul, 1) := by decide +kernel
theorem dX4_lookParts_45 : decode cX4_lookParts 45 = .ok (.aload_n 0, 1) := by decide +kernel
theorem dX4_lookParts_46 : decode cX4_lookParts 46 = .ok (.getfield 25, 3) := by decide +kernel
theorem dX4_lookParts_49 : decode cX4_lookParts 49 = .ok (.iload_n 1, 1) := by decide +kernel
theorem dX4_lookParts_50 : decode cX4_lookParts 50 = .ok (.iaload, 1) := by decide +kernel
theorem dX4_lookParts_51 : decode cX4_lookParts 51 = .ok (.i2l, 1) := by decide +kernel
theorem dX4_lookParts_52 : decode cX4_lookParts 52 = .ok (.lmul, 1) := by decide +kernel
theorem dX4_lookParts_53 : decode cX4_lookParts 53 = .ok (.lsub, 1) := by decide +kernel
theorem dX4_lookParts_54 : decode cX4_lookParts 54 = .ok (.lreturn, 1) := by decide +kernel
theorem dX4_looking_0 : decode cX4_looking 0 = .ok (.iload_n 1, 1) := by decide +kernel
theorem dX4_looking_1 : decode cX4_looking 1 = .ok (.invokestatic 192, 3) := by decide +kernel
theorem dX4_looking_4 : decode cX4_looking 4 = .ok (.ifCond .eq 10, 3) := by decide +kernel
theorem dX4_looking_7 : decode cX4_looking 7 = .ok (.iload_n 2, 1) := by decide +kernel
theorem dX4_looking_8 : decode cX4_looking 8 = .ok (.invokestatic 250, 3) := by decide +kernel
theorem dX4_looking_11 : decode cX4_looking 11 = .ok (.ifCond .ne 7, 3) := by decide +kernel
theorem dX4_looking_14 : decode cX4_looking 14 = .ok (.iconst (-1), 1) := by decide +kernel
theorem dX4_looking_15 : decode cX4_looking 15 = .ok (.goto 30, 3) := by decide +kernel
theorem dX4_looking_18 : decode cX4_looking 18 = .ok (.iload_n 3, 1) := by decide +kernel
theorem dX4_looking_19 : decode cX4_looking 19 = .ok (.iconst 0, 1) := by decide +kernel
theorem dX4_looking_20 : decode cX4_looking 20 = .ok (.iconst 1, 1) := by decide +kernel
theorem dX4_looking_21 : decode cX4_looking 21 = .ok (.invokestatic 96, 3) := by decide +kernel
theorem dX4_looking_24 : decode cX4_looking 24 = .ok (.ifCond .ne 8, 3) := by decide +kernel
theorem dX4_looking_27 : decode cX4_looking 27 = .ok (.bipush (-2), 2) := by decide +kernel
theorem dX4_looking_29 : decode cX4_looking 29 = .ok (.goto 16, 3) := by decide +kernel
theorem dX4_looking_32 : decode cX4_looking 32 = .ok (.aload_n 0, 1) := by decide +kernel
theorem dX4_looking_33 : decode cX4_looking 33 = .ok (.getfield 75, 3) := by decide +kernel
theorem dX4_looking_36 : decode cX4_looking 36 = .ok (.ifCond .ne 8, 3) := by decide +kernel
theorem dX4_looking_39 : decode cX4_looking 39 = .ok (.bipush (-3), 2) := by decide +kernel
theorem dX4_looking_41 : decode cX4_looking 41 = .ok (.goto 4, 3) := by decide +kernel
theorem dX4_looking_44 : decode cX4_looking 44 = .ok (.iconst 0, 1) := by decide +kernel
theorem dX4_looking_45 : decode cX4_looking 45 = .ok (.istore 4, 2) := by decide +kernel
theorem dX4_looking_47 : decode cX4_looking 47 = .ok (.iload 4, 2) := by decide +kernel
theorem dX4_looking_49 : decode cX4_looking 49 = .ok (.ifCond .eq 10, 3) := by decide +kernel
theorem dX4_looking_52 : decode cX4_looking 52 = .ok (.aload_n 0, 1) := by decide +kernel
theorem dX4_looking_53 : decode cX4_looking 53 = .ok (.iload 4, 2) := by decide +kernel
theorem dX4_looking_55 : decode cX4_looking 55 = .ok (.invokevirtual 235, 3) := by decide +kernel
theorem dX4_looking_58 : decode cX4_looking 58 = .ok (.lreturn, 1) := by decide +kernel
theorem dX4_looking_59 : decode cX4_looking 59 = .ok (.aload_n 0, 1) := by decide +kernel
theorem dX4_looking_60 : decode cX4_looking 60 = .ok (.invokevirtual 239, 3) := by decide +kernel
theorem dX4_looking_63 : decode cX4_looking 63 = .ok (.aload_n 0, 1) := by decide +kernel
theorem dX4_looking_64 : decode cX4_looking 64 = .ok (.iload_n 1, 1) := by decide +kernel
theorem dX4_looking_65 : decode cX4_looking 65 = .ok (.iload_n 2, 1) := by decide +kernel
theorem dX4_looking_66 : decode cX4_looking 66 = .ok (.invokevirtual 272, 3) := by decide +kernel
theorem dX4_looking_69 : decode cX4_looking 69 = .ok (.ldc2_w 267, 3) := by decide +kernel
theorem dX4_looking_72 : decode cX4_looking 72 = .ok (.aload_n 0, 1) := by decide +kernel
theorem dX4_looking_73 : decode cX4_looking 73 = .ok (.invokevirtual 242, 3) := by decide +kernel
theorem dX4_looking_76 : decode cX4_looking 76 = .ok (.lmul, 1) := by decide +kernel
theorem dX4_looking_77 : decode cX4_looking 77 = .ok (.iload_n 3, 1) := by decide +kernel
theorem dX4_looking_78 : decode cX4_looking 78 = .ok (.invokestatic 246, 3) := by decide +kernel
theorem dX4_looking_81 : decode cX4_looking 81 = .ok (.lreturn, 1) := by decide +kernel
theorem dX4_bestTest_0 : decode cX4_bestTest 0 = .ok (.aload_n 0, 1) := by decide +kernel
theorem dX4_bestTest_1 : decode cX4_bestTest 1 = .ok (.iload_n 1, 1) := by decide +kernel
theorem dX4_bestTest_2 : decode cX4_bestTest 2 = .ok (.invokevirtual 253, 3) := by decide +kernel
theorem dX4_bestTest_5 : decode cX4_bestTest 5 = .ok (.istore_n 2, 1) := by decide +kernel
theorem dX4_bestTest_6 : decode cX4_bestTest 6 = .ok (.iload_n 2, 1) := by decide +kernel
theorem dX4_bestTest_7 : decode cX4_bestTest 7 = .ok (.ifCond .eq 9, 3) := by decide +kernel
theorem dX4_bestTest_10 : decode cX4_bestTest 10 = .ok (.aload_n 0, 1) := by decide +kernel
theorem dX4_bestTest_11 : decode cX4_bestTest 11 = .ok (.iload_n 2, 1) := by decide +kernel
theorem dX4_bestTest_12 : decode cX4_bestTest 12 = .ok (.invokevirtual 85, 3) := by decide +kernel
theorem dX4_bestTest_15 : decode cX4_bestTest 15 = .ok (.ireturn, 1) := by decide +kernel
theorem dX4_bestTest_16 : decode cX4_bestTest 16 = .ok (.aload_n 0, 1) := by decide +kernel
theorem dX4_bestTest_17 : decode cX4_bestTest 17 = .ok (.invokevirtual 239, 3) := by decide +kernel
theorem dX4_bestTest_20 : decode cX4_bestTest 20 = .ok (.bipush (-9), 2) := by decide +kernel
theorem dX4_bestTest_22 : decode cX4_bestTest 22 = .ok (.istore_n 3, 1) := by decide +kernel
theorem dX4_bestTest_23 : decode cX4_bestTest 23 = .ok (.lconst 0, 1) := by decide +kernel
theorem dX4_bestTest_24 : decode cX4_bestTest 24 = .ok (.lstore 4, 2) := by decide +kernel
theorem dX4_bestTest_26 : decode cX4_bestTest 26 = .ok (.iconst 0, 1) := by decide +kernel
theorem dX4_bestTest_27 : decode cX4_bestTest 27 = .ok (.istore 6, 2) := by decide +kernel
theorem dX4_bestTest_29 : decode cX4_bestTest 29 = .ok (.iload 6, 2) := by decide +kernel
theorem dX4_bestTest_31 : decode cX4_bestTest 31 = .ok (.iconst 4, 1) := by decide +kernel
theorem dX4_bestTest_32 : decode cX4_bestTest 32 = .ok (.if_icmp .ge 36, 3) := by decide +kernel
theorem dX4_bestTest_35 : decode cX4_bestTest 35 = .ok (.aload_n 0, 1) := by decide +kernel
theorem dX4_bestTest_36 : decode cX4_bestTest 36 = .ok (.iload 6, 2) := by decide +kernel
theorem dX4_bestTest_38 : decode cX4_bestTest 38 = .ok (.iload_n 1, 1) := by decide +kernel
theorem dX4_bestTest_39 : decode cX4_bestTest 39 = .ok (.invokevirtual 272, 3) := by decide +kernel
theorem dX4_bestTest_42 : decode cX4_bestTest 42 = .ok (.lstore 7, 2) := by decide +kernel
theorem dX4_bestTest_44 : decode cX4_bestTest 44 = .ok (.lload 7, 2) := by decide +kernel
theorem dX4_bestTest_46 : decode cX4_bestTest 46 = .ok (.lload 4, 2) := by decide +kernel
theorem dX4_bestTest_48 : decode cX4_bestTest 48 = .ok (.lcmp, 1) := by decide +kernel
theorem dX4_bestTest_49 : decode cX4_bestTest 49 = .ok (.ifCond .gt 6, 3) := by decide +kernel
theorem dX4_bestTest_52 : decode cX4_bestTest 52 = .ok (.goto 10, 3) := by decide +kernel
theorem dX4_bestTest_55 : decode cX4_bestTest 55 = .ok (.iload 6, 2) := by decide +kernel
theorem dX4_bestTest_57 : decode cX4_bestTest 57 = .ok (.istore_n 3, 1) := by decide +kernel
theorem dX4_bestTest_58 : decode cX4_bestTest 58 = .ok (.lload 7, 2) := by decide +kernel
theorem dX4_bestTest_60 : decode cX4_bestTest 60 = .ok (.lstore 4, 2) := by decide +kernel
theorem dX4_bestTest_62 : decode cX4_bestTest 62 = .ok (.iinc 6 1, 3) := by decide +kernel
theorem dX4_bestTest_65 : decode cX4_bestTest 65 = .ok (.goto (-36), 3) := by decide +kernel
theorem dX4_bestTest_68 : decode cX4_bestTest 68 = .ok (.iload_n 3, 1) := by decide +kernel
theorem dX4_bestTest_69 : decode cX4_bestTest 69 = .ok (.ireturn, 1) := by decide +kernel
theorem dX4_laysParts_0 : decode cX4_laysParts 0 = .ok (.aload_n 0, 1) := by decide +kernel
theorem dX4_laysParts_1 : decode cX4_laysParts 1 = .ok (.aload_n 0, 1) := by decide +kernel
theorem dX4_laysParts_2 : decode cX4_laysParts 2 = .ok (.getfield 52, 3) := by decide +kernel
theorem dX4_laysParts_5 : decode cX4_laysParts 5 = .ok (.iload_n 1, 1) := by decide +kernel
theorem dX4_laysParts_6 : decode cX4_laysParts 6 = .ok (.iload_n 2, 1) := by decide +kernel
theorem dX4_laysParts_7 : decode cX4_laysParts 7 = .ok (.invokevirtual 259, 3) := by decide +kernel
theorem dX4_laysParts_10 : decode cX4_laysParts 10 = .ok (.iconst 0, 1) := by decide +kernel
theorem dX4_laysParts_11 : decode cX4_laysParts 11 = .ok (.istore_n 3, 1) := by decide +kernel
theorem dX4_laysParts_12 : decode cX4_laysParts 12 = .ok (.iload_n 3, 1) := by decide +kernel
theorem dX4_laysParts_13 : decode cX4_laysParts 13 = .ok (.iconst 5, 1) := by decide +kernel
theorem dX4_laysParts_14 : decode cX4_laysParts 14 = .ok (.if_icmp .ge 21, 3) := by decide +kernel
theorem dX4_laysParts_17 : decode cX4_laysParts 17 = .ok (.aload_n 0, 1) := by decide +kernel
theorem dX4_laysParts_18 : decode cX4_laysParts 18 = .ok (.getfield 56, 3) := by decide +kernel
theorem dX4_laysParts_21 : decode cX4_laysParts 21 = .ok (.iload_n 3, 1) := by decide +kernel
theorem dX4_laysParts_22 : decode cX4_laysParts 22 = .ok (.aload_n 0, 1) := by decide +kernel
theorem dX4_laysParts_23 : decode cX4_laysParts 23 = .ok (.getfield 59, 3) := by decide +kernel
theorem dX4_laysParts_26 : decode cX4_laysParts 26 = .ok (.iload_n 3, 1) := by decide +kernel
theorem dX4_laysParts_27 : decode cX4_laysParts 27 = .ok (.laload, 1) := by decide +kernel
theorem dX4_laysParts_28 : decode cX4_laysParts 28 = .ok (.lastore, 1) := by decide +kernel
theorem dX4_laysParts_29 : decode cX4_laysParts 29 = .ok (.iinc 3 1, 3) := by decide +kernel
theorem dX4_laysParts_32 : decode cX4_laysParts 32 = .ok (.goto (-20), 3) := by decide +kernel
theorem dX4_laysParts_35 : decode cX4_laysParts 35 = .ok (.return_, 1) := by decide +kernel
theorem dX4_twoParts_0 : decode cX4_twoParts 0 = .ok (.lconst 0, 1) := by decide +kernel
theorem dX4_twoParts_1 : decode cX4_twoParts 1 = .ok (.lstore 4, 2) := by decide +kernel
theorem dX4_twoParts_3 : decode cX4_twoParts 3 = .ok (.iconst 0, 1) := by decide +kernel
theorem dX4_twoParts_4 : decode cX4_twoParts 4 = .ok (.istore 6, 2) := by decide +kernel
theorem dX4_twoParts_6 : decode cX4_twoParts 6 = .ok (.iload 6, 2) := by decide +kernel
theorem dX4_twoParts_8 : decode cX4_twoParts 8 = .ok (.iconst 2, 1) := by decide +kernel
theorem dX4_twoParts_9 : decode cX4_twoParts 9 = .ok (.if_icmp .ge 31, 3) := by decide +kernel
theorem dX4_twoParts_12 : decode cX4_twoParts 12 = .ok (.aload_n 0, 1) := by decide +kernel
theorem dX4_twoParts_13 : decode cX4_twoParts 13 = .ok (.iload_n 1, 1) := by decide +kernel
theorem dX4_twoParts_14 : decode cX4_twoParts 14 = .ok (.iload 6, 2) := by decide +kernel
theorem dX4_twoParts_16 : decode cX4_twoParts 16 = .ok (.invokevirtual 276, 3) := by decide +kernel
theorem dX4_twoParts_19 : decode cX4_twoParts 19 = .ok (.lload 4, 2) := by decide +kernel
theorem dX4_twoParts_21 : decode cX4_twoParts 21 = .ok (.aload_n 0, 1) := by decide +kernel
theorem dX4_twoParts_22 : decode cX4_twoParts 22 = .ok (.aload_n 0, 1) := by decide +kernel
theorem dX4_twoParts_23 : decode cX4_twoParts 23 = .ok (.getfield 56, 3) := by decide +kernel
theorem dX4_twoParts_26 : decode cX4_twoParts 26 = .ok (.iload_n 2, 1) := by decide +kernel
theorem dX4_twoParts_27 : decode cX4_twoParts 27 = .ok (.iload_n 3, 1) := by decide +kernel
theorem dX4_twoParts_28 : decode cX4_twoParts 28 = .ok (.invokevirtual 269, 3) := by decide +kernel
theorem dX4_twoParts_31 : decode cX4_twoParts 31 = .ok (.ladd, 1) := by decide +kernel
theorem dX4_twoParts_32 : decode cX4_twoParts 32 = .ok (.lstore 4, 2) := by decide +kernel
theorem dX4_twoParts_34 : decode cX4_twoParts 34 = .ok (.iinc 6 1, 3) := by decide +kernel
theorem dX4_twoParts_37 : decode cX4_twoParts 37 = .ok (.goto (-31), 3) := by decide +kernel
theorem dX4_twoParts_40 : decode cX4_twoParts 40 = .ok (.lload 4, 2) := by decide +kernel
theorem dX4_twoParts_42 : decode cX4_twoParts 42 = .ok (.ldc2_w 279, 3) := by decide +kernel
theorem dX4_twoParts_45 : decode cX4_twoParts 45 = .ok (.aload_n 0, 1) := by decide +kernel
theorem dX4_twoParts_46 : decode cX4_twoParts 46 = .ok (.aload_n 0, 1) := by decide +kernel
theorem dX4_twoParts_47 : decode cX4_twoParts 47 = .ok (.getfield 52, 3) := by decide +kernel
theorem dX4_twoParts_50 : decode cX4_twoParts 50 = .ok (.iload_n 3, 1) := by decide +kernel
theorem dX4_twoParts_51 : decode cX4_twoParts 51 = .ok (.invokevirtual 263, 3) := by decide +kernel
theorem dX4_twoParts_54 : decode cX4_twoParts 54 = .ok (.lmul, 1) := by decide +kernel
theorem dX4_twoParts_55 : decode cX4_twoParts 55 = .ok (.lsub, 1) := by decide +kernel
theorem dX4_twoParts_56 : decode cX4_twoParts 56 = .ok (.aload_n 0, 1) := by decide +kernel
theorem dX4_twoParts_57 : decode cX4_twoParts 57 = .ok (.getfield 19, 3) := by decide +kernel
theorem dX4_twoParts_60 : decode cX4_twoParts 60 = .ok (.aload_n 0, 1) := by decide +kernel
theorem dX4_twoParts_61 : decode cX4_twoParts 61 = .ok (.getfield 117, 3) := by decide +kernel
theorem dX4_twoParts_64 : decode cX4_twoParts 64 = .ok (.iaload, 1) := by decide +kernel
theorem dX4_twoParts_65 : decode cX4_twoParts 65 = .ok (.i2l, 1) := by decide +kernel
theorem dX4_twoParts_66 : decode cX4_twoParts 66 = .ok (.lmul, 1) := by decide +kernel
theorem dX4_twoParts_67 : decode cX4_twoParts 67 = .ok (.ldc2_w 279, 3) := by decide +kernel
theorem dX4_twoParts_70 : decode cX4_twoParts 70 = .ok (.aload_n 0, 1) := by decide +kernel
theorem dX4_twoParts_71 : decode cX4_twoParts 71 = .ok (.invokevirtual 242, 3) := by decide +kernel
theorem dX4_twoParts_74 : decode cX4_twoParts 74 = .ok (.lmul, 1) := by decide +kernel
theorem dX4_twoParts_75 : decode cX4_twoParts 75 = .ok (.aload_n 0, 1) := by decide +kernel
theorem dX4_twoParts_76 : decode cX4_twoParts 76 = .ok (.getfield 25, 3) := by decide +kernel
theorem dX4_twoParts_79 : decode cX4_twoParts 79 = .ok (.iload_n 1, 1) := by decide +kernel
theorem dX4_twoParts_80 : decode cX4_twoParts 80 = .ok (.iaload, 1) := by decide +kernel
theorem dX4_twoParts_81 : decode cX4_twoParts 81 = .ok (.aload_n 0, 1) := by decide +kernel
theorem dX4_twoParts_82 : decode cX4_twoParts 82 = .ok (.getfield 25, 3) := by decide +kernel
theorem dX4_twoParts_85 : decode cX4_twoParts 85 = .ok (.iload_n 2, 1) := by decide +kernel
theorem dX4_twoParts_86 : decode cX4_twoParts 86 = .ok (.iaload, 1) := by decide +kernel
theorem dX4_twoParts_87 : decode cX4_twoParts 87 = .ok (.iadd, 1) := by decide +kernel
theorem dX4_twoParts_88 : decode cX4_twoParts 88 = .ok (.i2l, 1) := by decide +kernel
theorem dX4_twoParts_89 : decode cX4_twoParts 89 = .ok (.lmul, 1) := by decide +kernel
theorem dX4_twoParts_90 : decode cX4_twoParts 90 = .ok (.lsub, 1) := by decide +kernel
theorem dX4_twoParts_91 : decode cX4_twoParts 91 = .ok (.lreturn, 1) := by decide +kernel
theorem dX4_bestTwo_0 : decode cX4_bestTwo 0 = .ok (.iconst 0, 1) := by decide +kernel
theorem dX4_bestTwo_1 : decode cX4_bestTwo 1 = .ok (.istore_n 2, 1) := by decide +kernel
theorem dX4_bestTwo_2 : decode cX4_bestTwo 2 = .ok (.iconst 1, 1) := by decide +kernel
theorem dX4_bestTwo_3 : decode cX4_bestTwo 3 = .ok (.istore_n 3, 1) := by decide +kernel
theorem dX4_bestTwo_4 : decode cX4_bestTwo 4 = .ok (.iload_n 3, 1) := by decide +kernel
theorem dX4_bestTwo_5 : decode cX4_bestTwo 5 = .ok (.bipush 16, 2) := by decide +kernel
theorem dX4_bestTwo_7 : decode cX4_bestTwo 7 = .ok (.if_icmp .ge 41, 3) := by decide +kernel
theorem dX4_bestTwo_10 : decode cX4_bestTwo 10 = .ok (.aload_n 0, 1) := by decide +kernel
theorem dX4_bestTwo_11 : decode cX4_bestTwo 11 = .ok (.iload_n 3, 1) := by decide +kernel
theorem dX4_bestTwo_12 : decode cX4_bestTwo 12 = .ok (.iconst 4, 1) := by decide +kernel
theorem dX4_bestTwo_13 : decode cX4_bestTwo 13 = .ok (.idiv, 1) := by decide +kernel
theorem dX4_bestTwo_14 : decode cX4_bestTwo 14 = .ok (.iload_n 3, 1) := by decide +kernel
theorem dX4_bestTwo_15 : decode cX4_bestTwo 15 = .ok (.iconst 4, 1) := by decide +kernel
theorem dX4_bestTwo_16 : decode cX4_bestTwo 16 = .ok (.irem, 1) := by decide +kernel
theorem dX4_bestTwo_17 : decode cX4_bestTwo 17 = .ok (.iload_n 1, 1) := by decide +kernel
theorem dX4_bestTwo_18 : decode cX4_bestTwo 18 = .ok (.invokevirtual 281, 3) := by decide +kernel
theorem dX4_bestTwo_21 : decode cX4_bestTwo 21 = .ok (.aload_n 0, 1) := by decide +kernel
theorem dX4_bestTwo_22 : decode cX4_bestTwo 22 = .ok (.iload_n 2, 1) := by decide +kernel
theorem dX4_bestTwo_23 : decode cX4_bestTwo 23 = .ok (.iconst 4, 1) := by decide +kernel
theorem dX4_bestTwo_24 : decode cX4_bestTwo 24 = .ok (.idiv, 1) := by decide +kernel
theorem dX4_bestTwo_25 : decode cX4_bestTwo 25 = .ok (.iload_n 2, 1) := by decide +kernel
theorem dX4_bestTwo_26 : decode cX4_bestTwo 26 = .ok (.iconst 4, 1) := by decide +kernel
theorem dX4_bestTwo_27 : decode cX4_bestTwo 27 = .ok (.irem, 1) := by decide +kernel
theorem dX4_bestTwo_28 : decode cX4_bestTwo 28 = .ok (.iload_n 1, 1) := by decide +kernel
theorem dX4_bestTwo_29 : decode cX4_bestTwo 29 = .ok (.invokevirtual 281, 3) := by decide +kernel
theorem dX4_bestTwo_32 : decode cX4_bestTwo 32 = .ok (.lcmp, 1) := by decide +kernel
theorem dX4_bestTwo_33 : decode cX4_bestTwo 33 = .ok (.ifCond .le 7, 3) := by decide +kernel
theorem dX4_bestTwo_36 : decode cX4_bestTwo 36 = .ok (.iload_n 3, 1) := by decide +kernel
theorem dX4_bestTwo_37 : decode cX4_bestTwo 37 = .ok (.goto 4, 3) := by decide +kernel
theorem dX4_bestTwo_40 : decode cX4_bestTwo 40 = .ok (.iload_n 2, 1) := by decide +kernel
theorem dX4_bestTwo_41 : decode cX4_bestTwo 41 = .ok (.istore_n 2, 1) := by decide +kernel
theorem dX4_bestTwo_42 : decode cX4_bestTwo 42 = .ok (.iinc 3 1, 3) := by decide +kernel
theorem dX4_bestTwo_45 : decode cX4_bestTwo 45 = .ok (.goto (-41), 3) := by decide +kernel
theorem dX4_bestTwo_48 : decode cX4_bestTwo 48 = .ok (.iload_n 2, 1) := by decide +kernel
theorem dX4_bestTwo_49 : decode cX4_bestTwo 49 = .ok (.ireturn, 1) := by decide +kernel
theorem dX4_two_0 : decode cX4_two 0 = .ok (.aload_n 0, 1) := by decide +kernel
theorem dX4_two_1 : decode cX4_two 1 = .ok (.iload_n 1, 1) := by decide +kernel
theorem dX4_two_2 : decode cX4_two 2 = .ok (.invokevirtual 253, 3) := by decide +kernel
theorem dX4_two_5 : decode cX4_two 5 = .ok (.istore_n 2, 1) := by decide +kernel
theorem dX4_two_6 : decode cX4_two 6 = .ok (.iload_n 2, 1) := by decide +kernel
theorem dX4_two_7 : decode cX4_two 7 = .ok (.ifCond .eq 9, 3) := by decide +kernel
theorem dX4_two_10 : decode cX4_two 10 = .ok (.aload_n 0, 1) := by decide +kernel
theorem dX4_two_11 : decode cX4_two 11 = .ok (.iload_n 2, 1) := by decide +kernel
theorem dX4_two_12 : decode cX4_two 12 = .ok (.invokevirtual 85, 3) := by decide +kernel
theorem dX4_two_15 : decode cX4_two 15 = .ok (.ireturn, 1) := by decide +kernel
theorem dX4_two_16 : decode cX4_two 16 = .ok (.aload_n 0, 1) := by decide +kernel
theorem dX4_two_17 : decode cX4_two 17 = .ok (.invokevirtual 239, 3) := by decide +kernel
theorem dX4_two_20 : decode cX4_two 20 = .ok (.aload_n 0, 1) := by decide +kernel
theorem dX4_two_21 : decode cX4_two 21 = .ok (.iload_n 1, 1) := by decide +kernel
theorem dX4_two_22 : decode cX4_two 22 = .ok (.invokevirtual 285, 3) := by decide +kernel
theorem dX4_two_25 : decode cX4_two 25 = .ok (.istore_n 3, 1) := by decide +kernel
theorem dX4_two_26 : decode cX4_two 26 = .ok (.bipush 10, 2) := by decide +kernel
theorem dX4_two_28 : decode cX4_two 28 = .ok (.iload_n 3, 1) := by decide +kernel
theorem dX4_two_29 : decode cX4_two 29 = .ok (.iconst 4, 1) := by decide +kernel
theorem dX4_two_30 : decode cX4_two 30 = .ok (.idiv, 1) := by decide +kernel
theorem dX4_two_31 : decode cX4_two 31 = .ok (.imul, 1) := by decide +kernel
theorem dX4_two_32 : decode cX4_two 32 = .ok (.iload_n 3, 1) := by decide +kernel
theorem dX4_two_33 : decode cX4_two 33 = .ok (.iconst 4, 1) := by decide +kernel
theorem dX4_two_34 : decode cX4_two 34 = .ok (.irem, 1) := by decide +kernel
theorem dX4_two_35 : decode cX4_two 35 = .ok (.iadd, 1) := by decide +kernel
theorem dX4_two_36 : decode cX4_two 36 = .ok (.ireturn, 1) := by decide +kernel
theorem dX4_notPart_0 : decode cX4_notPart 0 = .ok (.iload_n 1, 1) := by decide +kernel
theorem dX4_notPart_1 : decode cX4_notPart 1 = .ok (.invokestatic 250, 3) := by decide +kernel
theorem dX4_notPart_4 : decode cX4_notPart 4 = .ok (.ifCond .ne 7, 3) := by decide +kernel
theorem dX4_notPart_7 : decode cX4_notPart 7 = .ok (.iconst (-1), 1) := by decide +kernel
theorem dX4_notPart_8 : decode cX4_notPart 8 = .ok (.goto 30, 3) := by decide +kernel
theorem dX4_notPart_11 : decode cX4_notPart 11 = .ok (.iload_n 2, 1) := by decide +kernel
theorem dX4_notPart_12 : decode cX4_notPart 12 = .ok (.iconst 0, 1) := by decide +kernel
theorem dX4_notPart_13 : decode cX4_notPart 13 = .ok (.iconst 1, 1) := by decide +kernel
theorem dX4_notPart_14 : decode cX4_notPart 14 = .ok (.invokestatic 96, 3) := by decide +kernel
theorem dX4_notPart_17 : decode cX4_notPart 17 = .ok (.ifCond .ne 8, 3) := by decide +kernel
theorem dX4_notPart_20 : decode cX4_notPart 20 = .ok (.bipush (-2), 2) := by decide +kernel
theorem dX4_notPart_22 : decode cX4_notPart 22 = .ok (.goto 16, 3) := by decide +kernel
theorem dX4_notPart_25 : decode cX4_notPart 25 = .ok (.aload_n 0, 1) := by decide +kernel
theorem dX4_notPart_26 : decode cX4_notPart 26 = .ok (.getfield 75, 3) := by decide +kernel
theorem dX4_notPart_29 : decode cX4_notPart 29 = .ok (.ifCond .ne 8, 3) := by decide +kernel
theorem dX4_notPart_32 : decode cX4_notPart 32 = .ok (.bipush (-3), 2) := by decide +kernel
theorem dX4_notPart_34 : decode cX4_notPart 34 = .ok (.goto 4, 3) := by decide +kernel
theorem dX4_notPart_37 : decode cX4_notPart 37 = .ok (.iconst 0, 1) := by decide +kernel
theorem dX4_notPart_38 : decode cX4_notPart 38 = .ok (.ireturn, 1) := by decide +kernel
theorem dX4_twoWorth_0 : decode cX4_twoWorth 0 = .ok (.aload_n 0, 1) := by decide +kernel
theorem dX4_twoWorth_1 : decode cX4_twoWorth 1 = .ok (.iload_n 1, 1) := by decide +kernel
theorem dX4_twoWorth_2 : decode cX4_twoWorth 2 = .ok (.iload_n 2, 1) := by decide +kernel
theorem dX4_twoWorth_3 : decode cX4_twoWorth 3 = .ok (.invokevirtual 288, 3) := by decide +kernel
theorem dX4_twoWorth_6 : decode cX4_twoWorth 6 = .ok (.istore_n 3, 1) := by decide +kernel
theorem dX4_twoWorth_7 : decode cX4_twoWorth 7 = .ok (.iload_n 3, 1) := by decide +kernel
theorem dX4_twoWorth_8 : decode cX4_twoWorth 8 = .ok (.ifCond .eq 9, 3) := by decide +kernel
theorem dX4_twoWorth_11 : decode cX4_twoWorth 11 = .ok (.aload_n 0, 1) := by decide +kernel
theorem dX4_twoWorth_12 : decode cX4_twoWorth 12 = .ok (.iload_n 3, 1) := by decide +kernel
theorem dX4_twoWorth_13 : decode cX4_twoWorth 13 = .ok (.invokevirtual 235, 3) := by decide +kernel
theorem dX4_twoWorth_16 : decode cX4_twoWorth 16 = .ok (.lreturn, 1) := by decide +kernel
theorem dX4_twoWorth_17 : decode cX4_twoWorth 17 = .ok (.aload_n 0, 1) := by decide +kernel
theorem dX4_twoWorth_18 : decode cX4_twoWorth 18 = .ok (.invokevirtual 239, 3) := by decide +kernel
theorem dX4_twoWorth_21 : decode cX4_twoWorth 21 = .ok (.aload_n 0, 1) := by decide +kernel
theorem dX4_twoWorth_22 : decode cX4_twoWorth 22 = .ok (.iload_n 1, 1) := by decide +kernel
theorem dX4_twoWorth_23 : decode cX4_twoWorth 23 = .ok (.invokevirtual 285, 3) := by decide +kernel
theorem dX4_twoWorth_26 : decode cX4_twoWorth 26 = .ok (.istore 4, 2) := by decide +kernel
theorem dX4_twoWorth_28 : decode cX4_twoWorth 28 = .ok (.aload_n 0, 1) := by decide +kernel
theorem dX4_twoWorth_29 : decode cX4_twoWorth 29 = .ok (.iload 4, 2) := by decide +kernel
theorem dX4_twoWorth_31 : decode cX4_twoWorth 31 = .ok (.iconst 4, 1) := by decide +kernel
theorem dX4_twoWorth_32 : decode cX4_twoWorth 32 = .ok (.idiv, 1) := by decide +kernel
theorem dX4_twoWorth_33 : decode cX4_twoWorth 33 = .ok (.iload 4, 2) := by decide +kernel
theorem dX4_twoWorth_35 : decode cX4_twoWorth 35 = .ok (.iconst 4, 1) := by decide +kernel
theorem dX4_twoWorth_36 : decode cX4_twoWorth 36 = .ok (.irem, 1) := by decide +kernel
theorem dX4_twoWorth_37 : decode cX4_twoWorth 37 = .ok (.iload_n 1, 1) := by decide +kernel
theorem dX4_twoWorth_38 : decode cX4_twoWorth 38 = .ok (.invokevirtual 281, 3) := by decide +kernel
theorem dX4_twoWorth_41 : decode cX4_twoWorth 41 = .ok (.ldc2_w 279, 3) := by decide +kernel
theorem dX4_twoWorth_44 : decode cX4_twoWorth 44 = .ok (.aload_n 0, 1) := by decide +kernel
theorem dX4_twoWorth_45 : decode cX4_twoWorth 45 = .ok (.invokevirtual 242, 3) := by decide +kernel
theorem dX4_twoWorth_48 : decode cX4_twoWorth 48 = .ok (.lmul, 1) := by decide +kernel
theorem dX4_twoWorth_49 : decode cX4_twoWorth 49 = .ok (.iload_n 2, 1) := by decide +kernel
theorem dX4_twoWorth_50 : decode cX4_twoWorth 50 = .ok (.invokestatic 246, 3) := by decide +kernel
theorem dX4_twoWorth_53 : decode cX4_twoWorth 53 = .ok (.lreturn, 1) := by decide +kernel
theorem dX4_allParts_0 : decode cX4_allParts 0 = .ok (.lconst 0, 1) := by decide +kernel
theorem dX4_allParts_1 : decode cX4_allParts 1 = .ok (.lstore_n 1, 1) := by decide +kernel
theorem dX4_allParts_2 : decode cX4_allParts 2 = .ok (.iconst 0, 1) := by decide +kernel
theorem dX4_allParts_3 : decode cX4_allParts 3 = .ok (.istore_n 3, 1) := by decide +kernel
theorem dX4_allParts_4 : decode cX4_allParts 4 = .ok (.iload_n 3, 1) := by decide +kernel
theorem dX4_allParts_5 : decode cX4_allParts 5 = .ok (.iconst 5, 1) := by decide +kernel
theorem dX4_allParts_6 : decode cX4_allParts 6 = .ok (.if_icmp .ge 18, 3) := by decide +kernel
theorem dX4_allParts_9 : decode cX4_allParts 9 = .ok (.lload_n 1, 1) := by decide +kernel
theorem dX4_allParts_10 : decode cX4_allParts 10 = .ok (.aload_n 0, 1) := by decide +kernel
theorem dX4_allParts_11 : decode cX4_allParts 11 = .ok (.getfield 56, 3) := by decide +kernel
theorem dX4_allParts_14 : decode cX4_allParts 14 = .ok (.iload_n 3, 1) := by decide +kernel
theorem dX4_allParts_15 : decode cX4_allParts 15 = .ok (.laload, 1) := by decide +kernel
theorem dX4_allParts_16 : decode cX4_allParts 16 = .ok (.ladd, 1) := by decide +kernel
theorem dX4_allParts_17 : decode cX4_allParts 17 = .ok (.lstore_n 1, 1) := by decide +kernel
theorem dX4_allParts_18 : decode cX4_allParts 18 = .ok (.iinc 3 1, 3) := by decide +kernel
theorem dX4_allParts_21 : decode cX4_allParts 21 = .ok (.goto (-17), 3) := by decide +kernel
theorem dX4_allParts_24 : decode cX4_allParts 24 = .ok (.lload_n 1, 1) := by decide +kernel
theorem dX4_allParts_25 : decode cX4_allParts 25 = .ok (.lreturn, 1) := by decide +kernel
theorem dX4_freeParts_0 : decode cX4_freeParts 0 = .ok (.lconst 0, 1) := by decide +kernel
theorem dX4_freeParts_1 : decode cX4_freeParts 1 = .ok (.lstore_n 3, 1) := by decide +kernel
theorem dX4_freeParts_2 : decode cX4_freeParts 2 = .ok (.iconst 0, 1) := by decide +kernel
theorem dX4_freeParts_3 : decode cX4_freeParts 3 = .ok (.istore 5, 2) := by decide +kernel
theorem dX4_freeParts_5 : decode cX4_freeParts 5 = .ok (.iload 5, 2) := by decide +kernel
theorem dX4_freeParts_7 : decode cX4_freeParts 7 = .ok (.iconst 2, 1) := by decide +kernel
theorem dX4_freeParts_8 : decode cX4_freeParts 8 = .ok (.if_icmp .ge 121, 3) := by decide +kernel
theorem dX4_freeParts_11 : decode cX4_freeParts 11 = .ok (.aload_n 0, 1) := by decide +kernel
theorem dX4_freeParts_12 : decode cX4_freeParts 12 = .ok (.iload_n 1, 1) := by decide +kernel
theorem dX4_freeParts_13 : decode cX4_freeParts 13 = .ok (.iload 5, 2) := by decide +kernel
theorem dX4_freeParts_15 : decode cX4_freeParts 15 = .ok (.invokevirtual 276, 3) := by decide +kernel
theorem dX4_freeParts_18 : decode cX4_freeParts 18 = .ok (.ldc2_w 267, 3) := by decide +kernel
theorem dX4_freeParts_21 : decode cX4_freeParts 21 = .ok (.aload_n 0, 1) := by decide +kernel
theorem dX4_freeParts_22 : decode cX4_freeParts 22 = .ok (.aload_n 0, 1) := by decide +kernel
theorem dX4_freeParts_23 : decode cX4_freeParts 23 = .ok (.getfield 56, 3) := by decide +kernel
theorem dX4_freeParts_26 : decode cX4_freeParts 26 = .ok (.iload_n 2, 1) := by decide +kernel
theorem dX4_freeParts_27 : decode cX4_freeParts 27 = .ok (.invokevirtual 263, 3) := by decide +kernel
theorem dX4_freeParts_30 : decode cX4_freeParts 30 = .ok (.lmul, 1) := by decide +kernel
theorem dX4_freeParts_31 : decode cX4_freeParts 31 = .ok (.aload_n 0, 1) := by decide +kernel
theorem dX4_freeParts_32 : decode cX4_freeParts 32 = .ok (.getfield 19, 3) := by decide +kernel
theorem dX4_freeParts_35 : decode cX4_freeParts 35 = .ok (.aload_n 0, 1) := by decide +kernel
theorem dX4_freeParts_36 : decode cX4_freeParts 36 = .ok (.getfield 117, 3) := by decide +kernel
theorem dX4_freeParts_39 : decode cX4_freeParts 39 = .ok (.iaload, 1) := by decide +kernel
theorem dX4_freeParts_40 : decode cX4_freeParts 40 = .ok (.i2l, 1) := by decide +kernel
theorem dX4_freeParts_41 : decode cX4_freeParts 41 = .ok (.lmul, 1) := by decide +kernel
theorem dX4_freeParts_42 : decode cX4_freeParts 42 = .ok (.lstore 6, 2) := by decide +kernel
theorem dX4_freeParts_44 : decode cX4_freeParts 44 = .ok (.iconst 0, 1) := by decide +kernel
theorem dX4_freeParts_45 : decode cX4_freeParts 45 = .ok (.istore 8, 2) := by decide +kernel
theorem dX4_freeParts_47 : decode cX4_freeParts 47 = .ok (.iload 8, 2) := by decide +kernel
theorem dX4_freeParts_49 : decode cX4_freeParts 49 = .ok (.iconst 4, 1) := by decide +kernel
theorem dX4_freeParts_50 : decode cX4_freeParts 50 = .ok (.if_icmp .ge 68, 3) := by decide +kernel
theorem dX4_freeParts_53 : decode cX4_freeParts 53 = .ok (.aload_n 0, 1) := by decide +kernel
theorem dX4_freeParts_54 : decode cX4_freeParts 54 = .ok (.aload_n 0, 1) := by decide +kernel
theorem dX4_freeParts_55 : decode cX4_freeParts 55 = .ok (.getfield 56, 3) := by decide +kernel
theorem dX4_freeParts_58 : decode cX4_freeParts 58 = .ok (.iload 8, 2) := by decide +kernel
theorem dX4_freeParts_60 : decode cX4_freeParts 60 = .ok (.iload_n 2, 1) := by decide +kernel
theorem dX4_freeParts_61 : decode cX4_freeParts 61 = .ok (.invokevirtual 269, 3) := by decide +kernel
theorem dX4_freeParts_64 : decode cX4_freeParts 64 = .ok (.aload_n 0, 1) := by decide +kernel
theorem dX4_freeParts_65 : decode cX4_freeParts 65 = .ok (.getfield 19, 3) := by decide +kernel
theorem dX4_freeParts_68 : decode cX4_freeParts 68 = .ok (.aload_n 0, 1) := by decide +kernel
theorem dX4_freeParts_69 : decode cX4_freeParts 69 = .ok (.getfield 117, 3) := by decide +kernel
theorem dX4_freeParts_72 : decode cX4_freeParts 72 = .ok (.iaload, 1) := by decide +kernel
theorem dX4_freeParts_73 : decode cX4_freeParts 73 = .ok (.i2l, 1) := by decide +kernel
theorem dX4_freeParts_74 : decode cX4_freeParts 74 = .ok (.lmul, 1) := by decide +kernel
theorem dX4_freeParts_75 : decode cX4_freeParts 75 = .ok (.ldc2_w 267, 3) := by decide +kernel
theorem dX4_freeParts_78 : decode cX4_freeParts 78 = .ok (.aload_n 0, 1) := by decide +kernel
theorem dX4_freeParts_79 : decode cX4_freeParts 79 = .ok (.invokevirtual 291, 3) := by decide +kernel
theorem dX4_freeParts_82 : decode cX4_freeParts 82 = .ok (.lmul, 1) := by decide +kernel
theorem dX4_freeParts_83 : decode cX4_freeParts 83 = .ok (.aload_n 0, 1) := by decide +kernel
theorem dX4_freeParts_84 : decode cX4_freeParts 84 = .ok (.getfield 25, 3) := by decide +kernel
theorem dX4_freeParts_87 : decode cX4_freeParts 87 = .ok (.iload 8, 2) := by decide +kernel
theorem dX4_freeParts_89 : decode cX4_freeParts 89 = .ok (.iaload, 1) := by decide +kernel
theorem dX4_freeParts_90 : decode cX4_freeParts 90 = .ok (.i2l, 1) := by decide +kernel
theorem dX4_freeParts_91 : decode cX4_freeParts 91 = .ok (.lmul, 1) := by decide +kernel
theorem dX4_freeParts_92 : decode cX4_freeParts 92 = .ok (.lsub, 1) := by decide +kernel
theorem dX4_freeParts_93 : decode cX4_freeParts 93 = .ok (.lstore 9, 2) := by decide +kernel
theorem dX4_freeParts_95 : decode cX4_freeParts 95 = .ok (.lload 9, 2) := by decide +kernel
theorem dX4_freeParts_97 : decode cX4_freeParts 97 = .ok (.lload 6, 2) := by decide +kernel
theorem dX4_freeParts_99 : decode cX4_freeParts 99 = .ok (.lcmp, 1) := by decide +kernel
theorem dX4_freeParts_100 : decode cX4_freeParts 100 = .ok (.ifCond .le 8, 3) := by decide +kernel
theorem dX4_freeParts_103 : decode cX4_freeParts 103 = .ok (.lload 9, 2) := by decide +kernel
theorem dX4_freeParts_105 : decode cX4_freeParts 105 = .ok (.goto 5, 3) := by decide +kernel
theorem dX4_freeParts_108 : decode cX4_freeParts 108 = .ok (.lload 6, 2) := by decide +kernel
theorem dX4_freeParts_110 : decode cX4_freeParts 110 = .ok (.lstore 6, 2) := by decide +kernel
theorem dX4_freeParts_112 : decode cX4_freeParts 112 = .ok (.iinc 8 1, 3) := by decide +kernel
theorem dX4_freeParts_115 : decode cX4_freeParts 115 = .ok (.goto (-68), 3) := by decide +kernel
theorem dX4_freeParts_118 : decode cX4_freeParts 118 = .ok (.lload_n 3, 1) := by decide +kernel
theorem dX4_freeParts_119 : decode cX4_freeParts 119 = .ok (.lload 6, 2) := by decide +kernel
theorem dX4_freeParts_121 : decode cX4_freeParts 121 = .ok (.ladd, 1) := by decide +kernel
theorem dX4_freeParts_122 : decode cX4_freeParts 122 = .ok (.lstore_n 3, 1) := by decide +kernel
theorem dX4_freeParts_123 : decode cX4_freeParts 123 = .ok (.iinc 5 1, 3) := by decide +kernel
theorem dX4_freeParts_126 : decode cX4_freeParts 126 = .ok (.goto (-121), 3) := by decide +kernel
theorem dX4_freeParts_129 : decode cX4_freeParts 129 = .ok (.lload_n 3, 1) := by decide +kernel
theorem dX4_freeParts_130 : decode cX4_freeParts 130 = .ok (.ldc2_w 279, 3) := by decide +kernel
theorem dX4_freeParts_133 : decode cX4_freeParts 133 = .ok (.aload_n 0, 1) := by decide +kernel
theorem dX4_freeParts_134 : decode cX4_freeParts 134 = .ok (.aload_n 0, 1) := by decide +kernel
theorem dX4_freeParts_135 : decode cX4_freeParts 135 = .ok (.getfield 52, 3) := by decide +kernel
theorem dX4_freeParts_138 : decode cX4_freeParts 138 = .ok (.iload_n 2, 1) := by decide +kernel
theorem dX4_freeParts_139 : decode cX4_freeParts 139 = .ok (.invokevirtual 263, 3) := by decide +kernel
theorem dX4_freeParts_142 : decode cX4_freeParts 142 = .ok (.lmul, 1) := by decide +kernel
theorem dX4_freeParts_143 : decode cX4_freeParts 143 = .ok (.aload_n 0, 1) := by decide +kernel
theorem dX4_freeParts_144 : decode cX4_freeParts 144 = .ok (.getfield 19, 3) := by decide +kernel
theorem dX4_freeParts_147 : decode cX4_freeParts 147 = .ok (.aload_n 0, 1) := by decide +kernel
theorem dX4_freeParts_148 : decode cX4_freeParts 148 = .ok (.getfield 117, 3) := by decide +kernel
theorem dX4_freeParts_151 : decode cX4_freeParts 151 = .ok (.iaload, 1) := by decide +kernel
theorem dX4_freeParts_152 : decode cX4_freeParts 152 = .ok (.i2l, 1) := by decide +kernel
theorem dX4_freeParts_153 : decode cX4_freeParts 153 = .ok (.lmul, 1) := by decide +kernel
theorem dX4_freeParts_154 : decode cX4_freeParts 154 = .ok (.lsub, 1) := by decide +kernel
theorem dX4_freeParts_155 : decode cX4_freeParts 155 = .ok (.ldc2_w 279, 3) := by decide +kernel
theorem dX4_freeParts_158 : decode cX4_freeParts 158 = .ok (.aload_n 0, 1) := by decide +kernel
theorem dX4_freeParts_159 : decode cX4_freeParts 159 = .ok (.invokevirtual 242, 3) := by decide +kernel
theorem dX4_freeParts_162 : decode cX4_freeParts 162 = .ok (.lmul, 1) := by decide +kernel
theorem dX4_freeParts_163 : decode cX4_freeParts 163 = .ok (.aload_n 0, 1) := by decide +kernel
theorem dX4_freeParts_164 : decode cX4_freeParts 164 = .ok (.getfield 25, 3) := by decide +kernel
theorem dX4_freeParts_167 : decode cX4_freeParts 167 = .ok (.iload_n 1, 1) := by decide +kernel
theorem dX4_freeParts_168 : decode cX4_freeParts 168 = .ok (.iaload, 1) := by decide +kernel
theorem dX4_freeParts_169 : decode cX4_freeParts 169 = .ok (.i2l, 1) := by decide +kernel
theorem dX4_freeParts_170 : decode cX4_freeParts 170 = .ok (.lmul, 1) := by decide +kernel
theorem dX4_freeParts_171 : decode cX4_freeParts 171 = .ok (.lsub, 1) := by decide +kernel
theorem dX4_freeParts_172 : decode cX4_freeParts 172 = .ok (.lreturn, 1) := by decide +kernel
theorem dX4_bestFree_0 : decode cX4_bestFree 0 = .ok (.iconst 0, 1) := by decide +kernel
theorem dX4_bestFree_1 : decode cX4_bestFree 1 = .ok (.istore_n 2, 1) := by decide +kernel
theorem dX4_bestFree_2 : decode cX4_bestFree 2 = .ok (.iconst 1, 1) := by decide +kernel
theorem dX4_bestFree_3 : decode cX4_bestFree 3 = .ok (.istore_n 3, 1) := by decide +kernel
theorem dX4_bestFree_4 : decode cX4_bestFree 4 = .ok (.iload_n 3, 1) := by decide +kernel
theorem dX4_bestFree_5 : decode cX4_bestFree 5 = .ok (.iconst 4, 1) := by decide +kernel
theorem dX4_bestFree_6 : decode cX4_bestFree 6 = .ok (.if_icmp .ge 31, 3) := by decide +kernel
theorem dX4_bestFree_9 : decode cX4_bestFree 9 = .ok (.aload_n 0, 1) := by decide +kernel
theorem dX4_bestFree_10 : decode cX4_bestFree 10 = .ok (.iload_n 3, 1) := by decide +kernel
theorem dX4_bestFree_11 : decode cX4_bestFree 11 = .ok (.iload_n 1, 1) := by decide +kernel
theorem dX4_bestFree_12 : decode cX4_bestFree 12 = .ok (.invokevirtual 294, 3) := by decide +kernel
theorem dX4_bestFree_15 : decode cX4_bestFree 15 = .ok (.aload_n 0, 1) := by decide +kernel
theorem dX4_bestFree_16 : decode cX4_bestFree 16 = .ok (.iload_n 2, 1) := by decide +kernel
theorem dX4_bestFree_17 : decode cX4_bestFree 17 = .ok (.iload_n 1, 1) := by decide +kernel
theorem dX4_bestFree_18 : decode cX4_bestFree 18 = .ok (.invokevirtual 294, 3) := by decide +kernel
theorem dX4_bestFree_21 : decode cX4_bestFree 21 = .ok (.lcmp, 1) := by decide +kernel
theorem dX4_bestFree_22 : decode cX4_bestFree 22 = .ok (.ifCond .le 7, 3) := by decide +kernel
theorem dX4_bestFree_25 : decode cX4_bestFree 25 = .ok (.iload_n 3, 1) := by decide +kernel
theorem dX4_bestFree_26 : decode cX4_bestFree 26 = .ok (.goto 4, 3) := by decide +kernel
theorem dX4_bestFree_29 : decode cX4_bestFree 29 = .ok (.iload_n 2, 1) := by decide +kernel
theorem dX4_bestFree_30 : decode cX4_bestFree 30 = .ok (.istore_n 2, 1) := by decide +kernel
theorem dX4_bestFree_31 : decode cX4_bestFree 31 = .ok (.iinc 3 1, 3) := by decide +kernel
theorem dX4_bestFree_34 : decode cX4_bestFree 34 = .ok (.goto (-30), 3) := by decide +kernel
theorem dX4_bestFree_37 : decode cX4_bestFree 37 = .ok (.iload_n 2, 1) := by decide +kernel
theorem dX4_bestFree_38 : decode cX4_bestFree 38 = .ok (.ireturn, 1) := by decide +kernel
theorem dX4_free_0 : decode cX4_free 0 = .ok (.aload_n 0, 1) := by decide +kernel
theorem dX4_free_1 : decode cX4_free 1 = .ok (.iload_n 1, 1) := by decide +kernel
theorem dX4_free_2 : decode cX4_free 2 = .ok (.invokevirtual 253, 3) := by decide +kernel
theorem dX4_free_5 : decode cX4_free 5 = .ok (.istore_n 2, 1) := by decide +kernel
theorem dX4_free_6 : decode cX4_free 6 = .ok (.iload_n 2, 1) := by decide +kernel
theorem dX4_free_7 : decode cX4_free 7 = .ok (.ifCond .eq 9, 3) := by decide +kernel
theorem dX4_free_10 : decode cX4_free 10 = .ok (.aload_n 0, 1) := by decide +kernel
theorem dX4_free_11 : decode cX4_free 11 = .ok (.iload_n 2, 1) := by decide +kernel
theorem dX4_free_12 : decode cX4_free 12 = .ok (.invokevirtual 85, 3) := by decide +kernel
theorem dX4_free_15 : decode cX4_free 15 = .ok (.ireturn, 1) := by decide +kernel
theorem dX4_free_16 : decode cX4_free 16 = .ok (.aload_n 0, 1) := by decide +kernel
theorem dX4_free_17 : decode cX4_free 17 = .ok (.invokevirtual 239, 3) := by decide +kernel
theorem dX4_free_20 : decode cX4_free 20 = .ok (.aload_n 0, 1) := by decide +kernel
theorem dX4_free_21 : decode cX4_free 21 = .ok (.iload_n 1, 1) := by decide +kernel
theorem dX4_free_22 : decode cX4_free 22 = .ok (.invokevirtual 297, 3) := by decide +kernel
theorem dX4_free_25 : decode cX4_free 25 = .ok (.ireturn, 1) := by decide +kernel
theorem dX4_freeWorth_0 : decode cX4_freeWorth 0 = .ok (.aload_n 0, 1) := by decide +kernel
theorem dX4_freeWorth_1 : decode cX4_freeWorth 1 = .ok (.iload_n 1, 1) := by decide +kernel
theorem dX4_freeWorth_2 : decode cX4_freeWorth 2 = .ok (.iload_n 2, 1) := by decide +kernel
theorem dX4_freeWorth_3 : decode cX4_freeWorth 3 = .ok (.invokevirtual 288, 3) := by decide +kernel
theorem dX4_freeWorth_6 : decode cX4_freeWorth 6 = .ok (.istore_n 3, 1) := by decide +kernel
theorem dX4_freeWorth_7 : decode cX4_freeWorth 7 = .ok (.iload_n 3, 1) := by decide +kernel
theorem dX4_freeWorth_8 : decode cX4_freeWorth 8 = .ok (.ifCond .eq 9, 3) := by decide +kernel
theorem dX4_freeWorth_11 : decode cX4_freeWorth 11 = .ok (.aload_n 0, 1) := by decide +kernel
theorem dX4_freeWorth_12 : decode cX4_freeWorth 12 = .ok (.iload_n 3, 1) := by decide +kernel
theorem dX4_freeWorth_13 : decode cX4_freeWorth 13 = .ok (.invokevirtual 235, 3) := by decide +kernel
theorem dX4_freeWorth_16 : decode cX4_freeWorth 16 = .ok (.lreturn, 1) := by decide +kernel
theorem dX4_freeWorth_17 : decode cX4_freeWorth 17 = .ok (.aload_n 0, 1) := by decide +kernel
theorem dX4_freeWorth_18 : decode cX4_freeWorth 18 = .ok (.invokevirtual 239, 3) := by decide +kernel
theorem dX4_freeWorth_21 : decode cX4_freeWorth 21 = .ok (.aload_n 0, 1) := by decide +kernel
theorem dX4_freeWorth_22 : decode cX4_freeWorth 22 = .ok (.aload_n 0, 1) := by decide +kernel
theorem dX4_freeWorth_23 : decode cX4_freeWorth 23 = .ok (.iload_n 1, 1) := by decide +kernel
theorem dX4_freeWorth_24 : decode cX4_freeWorth 24 = .ok (.invokevirtual 297, 3) := by decide +kernel
theorem dX4_freeWorth_27 : decode cX4_freeWorth 27 = .ok (.iload_n 1, 1) := by decide +kernel
theorem dX4_freeWorth_28 : decode cX4_freeWorth 28 = .ok (.invokevirtual 294, 3) := by decide +kernel
theorem dX4_freeWorth_31 : decode cX4_freeWorth 31 = .ok (.ldc2_w 279, 3) := by decide +kernel
theorem dX4_freeWorth_34 : decode cX4_freeWorth 34 = .ok (.aload_n 0, 1) := by decide +kernel
theorem dX4_freeWorth_35 : decode cX4_freeWorth 35 = .ok (.invokevirtual 242, 3) := by decide +kernel
theorem dX4_freeWorth_38 : decode cX4_freeWorth 38 = .ok (.lmul, 1) := by decide +kernel
theorem dX4_freeWorth_39 : decode cX4_freeWorth 39 = .ok (.iload_n 2, 1) := by decide +kernel
theorem dX4_freeWorth_40 : decode cX4_freeWorth 40 = .ok (.invokestatic 246, 3) := by decide +kernel
theorem dX4_freeWorth_43 : decode cX4_freeWorth 43 = .ok (.lreturn, 1) := by decide +kernel
theorem dX4_useless_0 : decode cX4_useless 0 = .ok (.aload_n 0, 1) := by decide +kernel
theorem dX4_useless_1 : decode cX4_useless 1 = .ok (.iload_n 1, 1) := by decide +kernel
theorem dX4_useless_2 : decode cX4_useless 2 = .ok (.invokevirtual 253, 3) := by decide +kernel
theorem dX4_useless_5 : decode cX4_useless 5 = .ok (.istore_n 2, 1) := by decide +kernel
theorem dX4_useless_6 : decode cX4_useless 6 = .ok (.iload_n 2, 1) := by decide +kernel
theorem dX4_useless_7 : decode cX4_useless 7 = .ok (.ifCond .eq 9, 3) := by decide +kernel
theorem dX4_useless_10 : decode cX4_useless 10 = .ok (.aload_n 0, 1) := by decide +kernel
theorem dX4_useless_11 : decode cX4_useless 11 = .ok (.iload_n 2, 1) := by decide +kernel
theorem dX4_useless_12 : decode cX4_useless 12 = .ok (.invokevirtual 85, 3) := by decide +kernel
theorem dX4_useless_15 : decode cX4_useless 15 = .ok (.ireturn, 1) := by decide +kernel
theorem dX4_useless_16 : decode cX4_useless 16 = .ok (.aload_n 0, 1) := by decide +kernel
theorem dX4_useless_17 : decode cX4_useless 17 = .ok (.invokevirtual 239, 3) := by decide +kernel
theorem dX4_useless_20 : decode cX4_useless 20 = .ok (.aload_n 0, 1) := by decide +kernel
theorem dX4_useless_21 : decode cX4_useless 21 = .ok (.aload_n 0, 1) := by decide +kernel
theorem dX4_useless_22 : decode cX4_useless 22 = .ok (.getfield 52, 3) := by decide +kernel
theorem dX4_useless_25 : decode cX4_useless 25 = .ok (.iload_n 1, 1) := by decide +kernel
theorem dX4_useless_26 : decode cX4_useless 26 = .ok (.invokevirtual 224, 3) := by decide +kernel
theorem dX4_useless_29 : decode cX4_useless 29 = .ok (.istore_n 3, 1) := by decide +kernel
theorem dX4_useless_30 : decode cX4_useless 30 = .ok (.iconst 0, 1) := by decide +kernel
theorem dX4_useless_31 : decode cX4_useless 31 = .ok (.istore 4, 2) := by decide +kernel
theorem dX4_useless_33 : decode cX4_useless 33 = .ok (.iconst 0, 1) := by decide +kernel
theorem dX4_useless_34 : decode cX4_useless 34 = .ok (.istore 5, 2) := by decide +kernel
theorem dX4_useless_36 : decode cX4_useless 36 = .ok (.iload 5, 2) := by decide +kernel
theorem dX4_useless_38 : decode cX4_useless 38 = .ok (.iconst 4, 1) := by decide +kernel
theorem dX4_useless_39 : decode cX4_useless 39 = .ok (.if_icmp .ge 85, 3) := by decide +kernel
theorem dX4_useless_42 : decode cX4_useless 42 = .ok (.iconst 1, 1) := by decide +kernel
theorem dX4_useless_43 : decode cX4_useless 43 = .ok (.istore 6, 2) := by decide +kernel
theorem dX4_useless_45 : decode cX4_useless 45 = .ok (.iconst 0, 1) := by decide +kernel
theorem dX4_useless_46 : decode cX4_useless 46 = .ok (.istore 7, 2) := by decide +kernel
theorem dX4_useless_48 : decode cX4_useless 48 = .ok (.iload 7, 2) := by decide +kernel
theorem dX4_useless_50 : decode cX4_useless 50 = .ok (.iconst 2, 1) := by decide +kernel
theorem dX4_useless_51 : decode cX4_useless 51 = .ok (.if_icmp .ge 49, 3) := by decide +kernel
theorem dX4_useless_54 : decode cX4_useless 54 = .ok (.aload_n 0, 1) := by decide +kernel
theorem dX4_useless_55 : decode cX4_useless 55 = .ok (.iload 5, 2) := by decide +kernel
theorem dX4_useless_57 : decode cX4_useless 57 = .ok (.iload 7, 2) := by decide +kernel
theorem dX4_useless_59 : decode cX4_useless 59 = .ok (.invokevirtual 276, 3) := by decide +kernel
theorem dX4_useless_62 : decode cX4_useless 62 = .ok (.iload 6, 2) := by decide +kernel
theorem dX4_useless_64 : decode cX4_useless 64 = .ok (.aload_n 0, 1) := by decide +kernel
theorem dX4_useless_65 : decode cX4_useless 65 = .ok (.invokevirtual 291, 3) := by decide +kernel
theorem dX4_useless_68 : decode cX4_useless 68 = .ok (.lconst 0, 1) := by decide +kernel
theorem dX4_useless_69 : decode cX4_useless 69 = .ok (.lcmp, 1) := by decide +kernel
theorem dX4_useless_70 : decode cX4_useless 70 = .ok (.ifCond .eq 16, 3) := by decide +kernel
theorem dX4_useless_73 : decode cX4_useless 73 = .ok (.aload_n 0, 1) := by decide +kernel
theorem dX4_useless_74 : decode cX4_useless 74 = .ok (.aload_n 0, 1) := by decide +kernel
theorem dX4_useless_75 : decode cX4_useless 75 = .ok (.getfield 56, 3) := by decide +kernel
theorem dX4_useless_78 : decode cX4_useless 78 = .ok (.iload_n 1, 1) := by decide +kernel
theorem dX4_useless_79 : decode cX4_useless 79 = .ok (.invokevirtual 224, 3) := by decide +kernel
theorem dX4_useless_82 : decode cX4_useless 82 = .ok (.iload_n 3, 1) := by decide +kernel
theorem dX4_useless_83 : decode cX4_useless 83 = .ok (.if_icmp .ne 7, 3) := by decide +kernel
theorem dX4_useless_86 : decode cX4_useless 86 = .ok (.iconst 1, 1) := by decide +kernel
theorem dX4_useless_87 : decode cX4_useless 87 = .ok (.goto 4, 3) := by decide +kernel
theorem dX4_useless_90 : decode cX4_useless 90 = .ok (.iconst 0, 1) := by decide +kernel
theorem dX4_useless_91 : decode cX4_useless 91 = .ok (.iand, 1) := by decide +kernel
theorem dX4_useless_92 : decode cX4_useless 92 = .ok (.istore 6, 2) := by decide +kernel
theorem dX4_useless_94 : decode cX4_useless 94 = .ok (.iinc 7 1, 3) := by decide +kernel
theorem dX4_useless_97 : decode cX4_useless 97 = .ok (.goto (-49), 3) := by decide +kernel
theorem dX4_useless_100 : decode cX4_useless 100 = .ok (.iload 4, 2) := by decide +kernel
theorem dX4_useless_102 : decode cX4_useless 102 = .ok (.iload 6, 2) := by decide +kernel
theorem dX4_useless_104 : decode cX4_useless 104 = .ok (.ifCond .eq 10, 3) := by decide +kernel
theorem dX4_useless_107 : decode cX4_useless 107 = .ok (.iconst 1, 1) := by decide +kernel
theorem dX4_useless_108 : decode cX4_useless 108 = .ok (.iload 5, 2) := by decide +kernel
theorem dX4_useless_110 : decode cX4_useless 110 = .ok (.ishl, 1) := by decide +kernel
theorem dX4_useless_111 : decode cX4_useless 111 = .ok (.goto 4, 3) := by decide +kernel
theorem dX4_useless_114 : decode cX4_useless 114 = .ok (.iconst 0, 1) := by decide +kernel
theorem dX4_useless_115 : decode cX4_useless 115 = .ok (.ior, 1) := by decide +kernel
theorem dX4_useless_116 : decode cX4_useless 116 = .ok (.istore 4, 2) := by decide +kernel
theorem dX4_useless_118 : decode cX4_useless 118 = .ok (.iinc 5 1, 3) := by decide +kernel
theorem dX4_useless_121 : decode cX4_useless 121 = .ok (.goto (-85), 3) := by decide +kernel
theorem dX4_useless_124 : decode cX4_useless 124 = .ok (.iload 4, 2) := by decide +kernel
theorem dX4_useless_126 : decode cX4_useless 126 = .ok (.ireturn, 1) := by decide +kernel
theorem dX4_person_0 : decode cX4_person 0 = .ok (.iload_n 1, 1) := by decide +kernel
theorem dX4_person_1 : decode cX4_person 1 = .ok (.iconst 0, 1) := by decide +kernel
theorem dX4_person_2 : decode cX4_person 2 = .ok (.iconst 4, 1) := by decide +kernel
theorem dX4_person_3 : decode cX4_person 3 = .ok (.invokestatic 96, 3) := by decide +kernel
theorem dX4_person_6 : decode cX4_person 6 = .ok (.ifCond .ne 8, 3) := by decide +kernel
theorem dX4_person_9 : decode cX4_person 9 = .ok (.bipush (-2), 2) := by decide +kernel
theorem dX4_person_11 : decode cX4_person 11 = .ok (.goto 17, 3) := by decide +kernel
theorem dX4_person_14 : decode cX4_person 14 = .ok (.aload_n 0, 1) := by decide +kernel
theorem dX4_person_15 : decode cX4_person 15 = .ok (.getfield 171, 3) := by decide +kernel
theorem dX4_person_18 : decode cX4_person 18 = .ok (.iconst 4, 1) := by decide +kernel
theorem dX4_person_19 : decode cX4_person 19 = .ok (.if_icmp .ne 8, 3) := by decide +kernel
theorem dX4_person_22 : decode cX4_person 22 = .ok (.bipush (-6), 2) := by decide +kernel
theorem dX4_person_24 : decode cX4_person 24 = .ok (.goto 4, 3) := by decide +kernel
theorem dX4_person_27 : decode cX4_person 27 = .ok (.iconst 0, 1) := by decide +kernel
theorem dX4_person_28 : decode cX4_person 28 = .ok (.istore_n 2, 1) := by decide +kernel
theorem dX4_person_29 : decode cX4_person 29 = .ok (.iload_n 2, 1) := by decide +kernel
theorem dX4_person_30 : decode cX4_person 30 = .ok (.ifCond .eq 9, 3) := by decide +kernel
theorem dX4_person_33 : decode cX4_person 33 = .ok (.aload_n 0, 1) := by decide +kernel
