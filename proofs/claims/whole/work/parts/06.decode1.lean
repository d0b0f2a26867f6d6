theorem dX0_init_0 : decode cX0_init 0 = .ok (.aload_n 0, 1) := by decide +kernel
theorem dX0_init_1 : decode cX0_init 1 = .ok (.invokespecial 3, 3) := by decide +kernel
theorem dX0_init_4 : decode cX0_init 4 = .ok (.aload_n 0, 1) := by decide +kernel
theorem dX0_init_5 : decode cX0_init 5 = .ok (.iconst 0, 1) := by decide +kernel
theorem dX0_init_6 : decode cX0_init 6 = .ok (.putfield 9, 3) := by decide +kernel
theorem dX0_init_9 : decode cX0_init 9 = .ok (.aload_n 0, 1) := by decide +kernel
theorem dX0_init_10 : decode cX0_init 10 = .ok (.iconst 0, 1) := by decide +kernel
theorem dX0_init_11 : decode cX0_init 11 = .ok (.putfield 15, 3) := by decide +kernel
theorem dX0_init_14 : decode cX0_init 14 = .ok (.aload_n 0, 1) := by decide +kernel
theorem dX0_init_15 : decode cX0_init 15 = .ok (.iconst 0, 1) := by decide +kernel
theorem dX0_init_16 : decode cX0_init 16 = .ok (.putfield 18, 3) := by decide +kernel
theorem dX0_init_19 : decode cX0_init 19 = .ok (.aload_n 0, 1) := by decide +kernel
theorem dX0_init_20 : decode cX0_init 20 = .ok (.iconst 0, 1) := by decide +kernel
theorem dX0_init_21 : decode cX0_init 21 = .ok (.putfield 21, 3) := by decide +kernel
theorem dX0_init_24 : decode cX0_init 24 = .ok (.return_, 1) := by decide +kernel
theorem dX0_fill_0 : decode cX0_fill 0 = .ok (.aload_n 0, 1) := by decide +kernel
theorem dX0_fill_1 : decode cX0_fill 1 = .ok (.iload_n 1, 1) := by decide +kernel
theorem dX0_fill_2 : decode cX0_fill 2 = .ok (.putfield 9, 3) := by decide +kernel
theorem dX0_fill_5 : decode cX0_fill 5 = .ok (.aload_n 0, 1) := by decide +kernel
theorem dX0_fill_6 : decode cX0_fill 6 = .ok (.iload_n 2, 1) := by decide +kernel
theorem dX0_fill_7 : decode cX0_fill 7 = .ok (.putfield 15, 3) := by decide +kernel
theorem dX0_fill_10 : decode cX0_fill 10 = .ok (.aload_n 0, 1) := by decide +kernel
theorem dX0_fill_11 : decode cX0_fill 11 = .ok (.iload_n 3, 1) := by decide +kernel
theorem dX0_fill_12 : decode cX0_fill 12 = .ok (.putfield 18, 3) := by decide +kernel
theorem dX0_fill_15 : decode cX0_fill 15 = .ok (.aload_n 0, 1) := by decide +kernel
theorem dX0_fill_16 : decode cX0_fill 16 = .ok (.iload 4, 2) := by decide +kernel
theorem dX0_fill_18 : decode cX0_fill 18 = .ok (.putfield 21, 3) := by decide +kernel
theorem dX0_fill_21 : decode cX0_fill 21 = .ok (.return_, 1) := by decide +kernel
theorem dX0_fillFrom_0 : decode cX0_fillFrom 0 = .ok (.aload_n 0, 1) := by decide +kernel
theorem dX0_fillFrom_1 : decode cX0_fillFrom 1 = .ok (.aload_n 1, 1) := by decide +kernel
theorem dX0_fillFrom_2 : decode cX0_fillFrom 2 = .ok (.getfield 9, 3) := by decide +kernel
theorem dX0_fillFrom_5 : decode cX0_fillFrom 5 = .ok (.aload_n 1, 1) := by decide +kernel
theorem dX0_fillFrom_6 : decode cX0_fillFrom 6 = .ok (.getfield 15, 3) := by decide +kernel
theorem dX0_fillFrom_9 : decode cX0_fillFrom 9 = .ok (.aload_n 1, 1) := by decide +kernel
theorem dX0_fillFrom_10 : decode cX0_fillFrom 10 = .ok (.getfield 18, 3) := by decide +kernel
theorem dX0_fillFrom_13 : decode cX0_fillFrom 13 = .ok (.aload_n 1, 1) := by decide +kernel
theorem dX0_fillFrom_14 : decode cX0_fillFrom 14 = .ok (.getfield 21, 3) := by decide +kernel
theorem dX0_fillFrom_17 : decode cX0_fillFrom 17 = .ok (.invokevirtual 24, 3) := by decide +kernel
theorem dX0_fillFrom_20 : decode cX0_fillFrom 20 = .ok (.return_, 1) := by decide +kernel
theorem dX0_gain_0 : decode cX0_gain 0 = .ok (.aload_n 0, 1) := by decide +kernel
theorem dX0_gain_1 : decode cX0_gain 1 = .ok (.sipush 240, 3) := by decide +kernel
theorem dX0_gain_4 : decode cX0_gain 4 = .ok (.aload_n 0, 1) := by decide +kernel
theorem dX0_gain_5 : decode cX0_gain 5 = .ok (.getfield 21, 3) := by decide +kernel
theorem dX0_gain_8 : decode cX0_gain 8 = .ok (.iload_n 1, 1) := by decide +kernel
theorem dX0_gain_9 : decode cX0_gain 9 = .ok (.iadd, 1) := by decide +kernel
theorem dX0_gain_10 : decode cX0_gain 10 = .ok (.invokestatic 28, 3) := by decide +kernel
theorem dX0_gain_13 : decode cX0_gain 13 = .ok (.putfield 21, 3) := by decide +kernel
theorem dX0_gain_16 : decode cX0_gain 16 = .ok (.return_, 1) := by decide +kernel
theorem dX0_coldPoints_0 : decode cX0_coldPoints 0 = .ok (.aload_n 0, 1) := by decide +kernel
theorem dX0_coldPoints_1 : decode cX0_coldPoints 1 = .ok (.getfield 9, 3) := by decide +kernel
theorem dX0_coldPoints_4 : decode cX0_coldPoints 4 = .ok (.tableswitch 44 1 5 #[36, 38, 40, 38, 42], 36) := by decide +kernel
theorem dX0_coldPoints_40 : decode cX0_coldPoints 40 = .ok (.iconst 3, 1) := by decide +kernel
theorem dX0_coldPoints_41 : decode cX0_coldPoints 41 = .ok (.ireturn, 1) := by decide +kernel
theorem dX0_coldPoints_42 : decode cX0_coldPoints 42 = .ok (.iconst 1, 1) := by decide +kernel
theorem dX0_coldPoints_43 : decode cX0_coldPoints 43 = .ok (.ireturn, 1) := by decide +kernel
theorem dX0_coldPoints_44 : decode cX0_coldPoints 44 = .ok (.iconst 1, 1) := by decide +kernel
theorem dX0_coldPoints_45 : decode cX0_coldPoints 45 = .ok (.ireturn, 1) := by decide +kernel
theorem dX0_coldPoints_46 : decode cX0_coldPoints 46 = .ok (.iconst 1, 1) := by decide +kernel
theorem dX0_coldPoints_47 : decode cX0_coldPoints 47 = .ok (.ireturn, 1) := by decide +kernel
theorem dX0_coldPoints_48 : decode cX0_coldPoints 48 = .ok (.iconst 2, 1) := by decide +kernel
theorem dX0_coldPoints_49 : decode cX0_coldPoints 49 = .ok (.ireturn, 1) := by decide +kernel
theorem dX0_warmPoints_0 : decode cX0_warmPoints 0 = .ok (.aload_n 0, 1) := by decide +kernel
theorem dX0_warmPoints_1 : decode cX0_warmPoints 1 = .ok (.getfield 9, 3) := by decide +kernel
theorem dX0_warmPoints_4 : decode cX0_warmPoints 4 = .ok (.tableswitch 60 1 5 #[36, 39, 41, 51, 58], 36) := by decide +kernel
theorem dX0_warmPoints_40 : decode cX0_warmPoints 40 = .ok (.bipush 12, 2) := by decide +kernel
theorem dX0_warmPoints_42 : decode cX0_warmPoints 42 = .ok (.ireturn, 1) := by decide +kernel
theorem dX0_warmPoints_43 : decode cX0_warmPoints 43 = .ok (.iconst 4, 1) := by decide +kernel
theorem dX0_warmPoints_44 : decode cX0_warmPoints 44 = .ok (.ireturn, 1) := by decide +kernel
theorem dX0_warmPoints_45 : decode cX0_warmPoints 45 = .ok (.bipush 6, 2) := by decide +kernel
theorem dX0_warmPoints_47 : decode cX0_warmPoints 47 = .ok (.aload_n 0, 1) := by decide +kernel
theorem dX0_warmPoints_48 : decode cX0_warmPoints 48 = .ok (.getfield 15, 3) := by decide +kernel
theorem dX0_warmPoints_51 : decode cX0_warmPoints 51 = .ok (.iconst 2, 1) := by decide +kernel
theorem dX0_warmPoints_52 : decode cX0_warmPoints 52 = .ok (.idiv, 1) := by decide +kernel
theorem dX0_warmPoints_53 : decode cX0_warmPoints 53 = .ok (.isub, 1) := by decide +kernel
theorem dX0_warmPoints_54 : decode cX0_warmPoints 54 = .ok (.ireturn, 1) := by decide +kernel
theorem dX0_warmPoints_55 : decode cX0_warmPoints 55 = .ok (.iconst 4, 1) := by decide +kernel
theorem dX0_warmPoints_56 : decode cX0_warmPoints 56 = .ok (.aload_n 0, 1) := by decide +kernel
theorem dX0_warmPoints_57 : decode cX0_warmPoints 57 = .ok (.getfield 15, 3) := by decide +kernel
theorem dX0_warmPoints_60 : decode cX0_warmPoints 60 = .ok (.iadd, 1) := by decide +kernel
theorem dX0_warmPoints_61 : decode cX0_warmPoints 61 = .ok (.ireturn, 1) := by decide +kernel
theorem dX0_warmPoints_62 : decode cX0_warmPoints 62 = .ok (.iconst 3, 1) := by decide +kernel
theorem dX0_warmPoints_63 : decode cX0_warmPoints 63 = .ok (.ireturn, 1) := by decide +kernel
theorem dX0_warmPoints_64 : decode cX0_warmPoints 64 = .ok (.bipush 6, 2) := by decide +kernel
theorem dX0_warmPoints_66 : decode cX0_warmPoints 66 = .ok (.ireturn, 1) := by decide +kernel
theorem dX0_trueStage_0 : decode cX0_trueStage 0 = .ok (.iconst 4, 1) := by decide +kernel
theorem dX0_trueStage_1 : decode cX0_trueStage 1 = .ok (.aload_n 0, 1) := by decide +kernel
theorem dX0_trueStage_2 : decode cX0_trueStage 2 = .ok (.getfield 21, 3) := by decide +kernel
theorem dX0_trueStage_5 : decode cX0_trueStage 5 = .ok (.bipush 48, 2) := by decide +kernel
theorem dX0_trueStage_7 : decode cX0_trueStage 7 = .ok (.idiv, 1) := by decide +kernel
theorem dX0_trueStage_8 : decode cX0_trueStage 8 = .ok (.invokestatic 28, 3) := by decide +kernel
theorem dX0_trueStage_11 : decode cX0_trueStage 11 = .ok (.ireturn, 1) := by decide +kernel
theorem dX0_weightOf_0 : decode cX0_weightOf 0 = .ok (.iconst 0, 1) := by decide +kernel
theorem dX0_weightOf_1 : decode cX0_weightOf 1 = .ok (.bipush 6, 2) := by decide +kernel
theorem dX0_weightOf_3 : decode cX0_weightOf 3 = .ok (.iconst 2, 1) := by decide +kernel
theorem dX0_weightOf_4 : decode cX0_weightOf 4 = .ok (.iload_n 1, 1) := by decide +kernel
theorem dX0_weightOf_5 : decode cX0_weightOf 5 = .ok (.aload_n 0, 1) := by decide +kernel
theorem dX0_weightOf_6 : decode cX0_weightOf 6 = .ok (.invokevirtual 34, 3) := by decide +kernel
theorem dX0_weightOf_9 : decode cX0_weightOf 9 = .ok (.isub, 1) := by decide +kernel
theorem dX0_weightOf_10 : decode cX0_weightOf 10 = .ok (.invokestatic 38, 3) := by decide +kernel
theorem dX0_weightOf_13 : decode cX0_weightOf 13 = .ok (.imul, 1) := by decide +kernel
theorem dX0_weightOf_14 : decode cX0_weightOf 14 = .ok (.isub, 1) := by decide +kernel
theorem dX0_weightOf_15 : decode cX0_weightOf 15 = .ok (.invokestatic 42, 3) := by decide +kernel
theorem dX0_weightOf_18 : decode cX0_weightOf 18 = .ok (.istore_n 2, 1) := by decide +kernel
theorem dX0_weightOf_19 : decode cX0_weightOf 19 = .ok (.aload_n 0, 1) := by decide +kernel
theorem dX0_weightOf_20 : decode cX0_weightOf 20 = .ok (.getfield 9, 3) := by decide +kernel
theorem dX0_weightOf_23 : decode cX0_weightOf 23 = .ok (.iconst 3, 1) := by decide +kernel
theorem dX0_weightOf_24 : decode cX0_weightOf 24 = .ok (.if_icmp .ne 9, 3) := by decide +kernel
theorem dX0_weightOf_27 : decode cX0_weightOf 27 = .ok (.iload_n 2, 1) := by decide +kernel
theorem dX0_weightOf_28 : decode cX0_weightOf 28 = .ok (.iconst 1, 1) := by decide +kernel
theorem dX0_weightOf_29 : decode cX0_weightOf 29 = .ok (.iadd, 1) := by decide +kernel
theorem dX0_weightOf_30 : decode cX0_weightOf 30 = .ok (.goto 4, 3) := by decide +kernel
theorem dX0_weightOf_33 : decode cX0_weightOf 33 = .ok (.iload_n 2, 1) := by decide +kernel
theorem dX0_weightOf_34 : decode cX0_weightOf 34 = .ok (.ireturn, 1) := by decide +kernel
theorem dX0_offTenths_0 : decode cX0_offTenths 0 = .ok (.getstatic 45, 3) := by decide +kernel
theorem dX0_offTenths_3 : decode cX0_offTenths 3 = .ok (.iload_n 1, 1) := by decide +kernel
theorem dX0_offTenths_4 : decode cX0_offTenths 4 = .ok (.iconst 5, 1) := by decide +kernel
theorem dX0_offTenths_5 : decode cX0_offTenths 5 = .ok (.imul, 1) := by decide +kernel
theorem dX0_offTenths_6 : decode cX0_offTenths 6 = .ok (.iload_n 2, 1) := by decide +kernel
theorem dX0_offTenths_7 : decode cX0_offTenths 7 = .ok (.iadd, 1) := by decide +kernel
theorem dX0_offTenths_8 : decode cX0_offTenths 8 = .ok (.invokestatic 49, 3) := by decide +kernel
theorem dX0_offTenths_11 : decode cX0_offTenths 11 = .ok (.istore_n 3, 1) := by decide +kernel
theorem dX0_offTenths_12 : decode cX0_offTenths 12 = .ok (.iload_n 1, 1) := by decide +kernel
theorem dX0_offTenths_13 : decode cX0_offTenths 13 = .ok (.ifCond .ne 25, 3) := by decide +kernel
theorem dX0_offTenths_16 : decode cX0_offTenths 16 = .ok (.aload_n 0, 1) := by decide +kernel
theorem dX0_offTenths_17 : decode cX0_offTenths 17 = .ok (.getfield 9, 3) := by decide +kernel
theorem dX0_offTenths_20 : decode cX0_offTenths 20 = .ok (.iconst 1, 1) := by decide +kernel
theorem dX0_offTenths_21 : decode cX0_offTenths 21 = .ok (.if_icmp .eq 11, 3) := by decide +kernel
theorem dX0_offTenths_24 : decode cX0_offTenths 24 = .ok (.aload_n 0, 1) := by decide +kernel
theorem dX0_offTenths_25 : decode cX0_offTenths 25 = .ok (.getfield 9, 3) := by decide +kernel
theorem dX0_offTenths_28 : decode cX0_offTenths 28 = .ok (.iconst 5, 1) := by decide +kernel
theorem dX0_offTenths_29 : decode cX0_offTenths 29 = .ok (.if_icmp .ne 9, 3) := by decide +kernel
theorem dX0_offTenths_32 : decode cX0_offTenths 32 = .ok (.iinc 3 1, 3) := by decide +kernel
theorem dX0_offTenths_35 : decode cX0_offTenths 35 = .ok (.goto 45, 3) := by decide +kernel
theorem dX0_offTenths_38 : decode cX0_offTenths 38 = .ok (.iload_n 1, 1) := by decide +kernel
theorem dX0_offTenths_39 : decode cX0_offTenths 39 = .ok (.ifCond .ne 25, 3) := by decide +kernel
theorem dX0_offTenths_42 : decode cX0_offTenths 42 = .ok (.aload_n 0, 1) := by decide +kernel
theorem dX0_offTenths_43 : decode cX0_offTenths 43 = .ok (.getfield 9, 3) := by decide +kernel
theorem dX0_offTenths_46 : decode cX0_offTenths 46 = .ok (.iconst 2, 1) := by decide +kernel
theorem dX0_offTenths_47 : decode cX0_offTenths 47 = .ok (.if_icmp .eq 11, 3) := by decide +kernel
theorem dX0_offTenths_50 : decode cX0_offTenths 50 = .ok (.aload_n 0, 1) := by decide +kernel
theorem dX0_offTenths_51 : decode cX0_offTenths 51 = .ok (.getfield 9, 3) := by decide +kernel
theorem dX0_offTenths_54 : decode cX0_offTenths 54 = .ok (.iconst 4, 1) := by decide +kernel
theorem dX0_offTenths_55 : decode cX0_offTenths 55 = .ok (.if_icmp .ne 9, 3) := by decide +kernel
theorem dX0_offTenths_58 : decode cX0_offTenths 58 = .ok (.iinc 3 (-1), 3) := by decide +kernel
theorem dX0_offTenths_61 : decode cX0_offTenths 61 = .ok (.goto 19, 3) := by decide +kernel
theorem dX0_offTenths_64 : decode cX0_offTenths 64 = .ok (.iload_n 1, 1) := by decide +kernel
theorem dX0_offTenths_65 : decode cX0_offTenths 65 = .ok (.iconst 3, 1) := by decide +kernel
theorem dX0_offTenths_66 : decode cX0_offTenths 66 = .ok (.if_icmp .ne 14, 3) := by decide +kernel
theorem dX0_offTenths_69 : decode cX0_offTenths 69 = .ok (.aload_n 0, 1) := by decide +kernel
theorem dX0_offTenths_70 : decode cX0_offTenths 70 = .ok (.getfield 9, 3) := by decide +kernel
theorem dX0_offTenths_73 : decode cX0_offTenths 73 = .ok (.iconst 3, 1) := by decide +kernel
theorem dX0_offTenths_74 : decode cX0_offTenths 74 = .ok (.if_icmp .ne 6, 3) := by decide +kernel
theorem dX0_offTenths_77 : decode cX0_offTenths 77 = .ok (.iinc 3 (-2), 3) := by decide +kernel
theorem dX0_offTenths_80 : decode cX0_offTenths 80 = .ok (.iload_n 3, 1) := by decide +kernel
theorem dX0_offTenths_81 : decode cX0_offTenths 81 = .ok (.invokestatic 53, 3) := by decide +kernel
theorem dX0_offTenths_84 : decode cX0_offTenths 84 = .ok (.ireturn, 1) := by decide +kernel
theorem dX1_init_0 : decode cX1_init 0 = .ok (.aload_n 0, 1) := by decide +kernel
theorem dX1_init_1 : decode cX1_init 1 = .ok (.invokespecial 3, 3) := by decide +kernel
theorem dX1_init_4 : decode cX1_init 4 = .ok (.aload_n 0, 1) := by decide +kernel
theorem dX1_init_5 : decode cX1_init 5 = .ok (.iconst 5, 1) := by decide +kernel
theorem dX1_init_6 : decode cX1_init 6 = .ok (.anewarray 9, 3) := by decide +kernel
theorem dX1_init_9 : decode cX1_init 9 = .ok (.putfield 11, 3) := by decide +kernel
theorem dX1_init_12 : decode cX1_init 12 = .ok (.iconst 0, 1) := by decide +kernel
theorem dX1_init_13 : decode cX1_init 13 = .ok (.istore_n 1, 1) := by decide +kernel
theorem dX1_init_14 : decode cX1_init 14 = .ok (.iload_n 1, 1) := by decide +kernel
theorem dX1_init_15 : decode cX1_init 15 = .ok (.aload_n 0, 1) := by decide +kernel
theorem dX1_init_16 : decode cX1_init 16 = .ok (.getfield 11, 3) := by decide +kernel
theorem dX1_init_19 : decode cX1_init 19 = .ok (.arraylength, 1) := by decide +kernel
theorem dX1_init_20 : decode cX1_init 20 = .ok (.if_icmp .ge 22, 3) := by decide +kernel
theorem dX1_init_23 : decode cX1_init 23 = .ok (.aload_n 0, 1) := by decide +kernel
theorem dX1_init_24 : decode cX1_init 24 = .ok (.getfield 11, 3) := by decide +kernel
theorem dX1_init_27 : decode cX1_init 27 = .ok (.iload_n 1, 1) := by decide +kernel
theorem dX1_init_28 : decode cX1_init 28 = .ok (.new 9, 3) := by decide +kernel
theorem dX1_init_31 : decode cX1_init 31 = .ok (.dup, 1) := by decide +kernel
theorem dX1_init_32 : decode cX1_init 32 = .ok (.invokespecial 17, 3) := by decide +kernel
theorem dX1_init_35 : decode cX1_init 35 = .ok (.aastore, 1) := by decide +kernel
theorem dX1_init_36 : decode cX1_init 36 = .ok (.iinc 1 1, 3) := by decide +kernel
theorem dX1_init_39 : decode cX1_init 39 = .ok (.goto (-25), 3) := by decide +kernel
theorem dX1_init_42 : decode cX1_init 42 = .ok (.aload_n 0, 1) := by decide +kernel
theorem dX1_init_43 : decode cX1_init 43 = .ok (.iconst 0, 1) := by decide +kernel
theorem dX1_init_44 : decode cX1_init 44 = .ok (.putfield 18, 3) := by decide +kernel
theorem dX1_init_47 : decode cX1_init 47 = .ok (.aload_n 0, 1) := by decide +kernel
theorem dX1_init_48 : decode cX1_init 48 = .ok (.iconst 0, 1) := by decide +kernel
theorem dX1_init_49 : decode cX1_init 49 = .ok (.putfield 22, 3) := by decide +kernel
theorem dX1_init_52 : decode cX1_init 52 = .ok (.aload_n 0, 1) := by decide +kernel
theorem dX1_init_53 : decode cX1_init 53 = .ok (.bipush 8, 2) := by decide +kernel
theorem dX1_init_55 : decode cX1_init 55 = .ok (.newarray .int, 2) := by decide +kernel
theorem dX1_init_57 : decode cX1_init 57 = .ok (.putfield 25, 3) := by decide +kernel
theorem dX1_init_60 : decode cX1_init 60 = .ok (.aload_n 0, 1) := by decide +kernel
theorem dX1_init_61 : decode cX1_init 61 = .ok (.bipush 8, 2) := by decide +kernel
theorem dX1_init_63 : decode cX1_init 63 = .ok (.newarray .int, 2) := by decide +kernel
theorem dX1_init_65 : decode cX1_init 65 = .ok (.putfield 29, 3) := by decide +kernel
theorem dX1_init_68 : decode cX1_init 68 = .ok (.aload_n 0, 1) := by decide +kernel
theorem dX1_init_69 : decode cX1_init 69 = .ok (.iconst 0, 1) := by decide +kernel
theorem dX1_init_70 : decode cX1_init 70 = .ok (.putfield 32, 3) := by decide +kernel
theorem dX1_init_73 : decode cX1_init 73 = .ok (.aload_n 0, 1) := by decide +kernel
theorem dX1_init_74 : decode cX1_init 74 = .ok (.iconst 4, 1) := by decide +kernel
theorem dX1_init_75 : decode cX1_init 75 = .ok (.newarray .int, 2) := by decide +kernel
theorem dX1_init_77 : decode cX1_init 77 = .ok (.dup, 1) := by decide +kernel
theorem dX1_init_78 : decode cX1_init 78 = .ok (.iconst 0, 1) := by decide +kernel
theorem dX1_init_79 : decode cX1_init 79 = .ok (.iconst 1, 1) := by decide +kernel
theorem dX1_init_80 : decode cX1_init 80 = .ok (.iastore, 1) := by decide +kernel
theorem dX1_init_81 : decode cX1_init 81 = .ok (.dup, 1) := by decide +kernel
theorem dX1_init_82 : decode cX1_init 82 = .ok (.iconst 1, 1) := by decide +kernel
theorem dX1_init_83 : decode cX1_init 83 = .ok (.iconst 2, 1) := by decide +kernel
theorem dX1_init_84 : decode cX1_init 84 = .ok (.iastore, 1) := by decide +kernel
theorem dX1_init_85 : decode cX1_init 85 = .ok (.dup, 1) := by decide +kernel
theorem dX1_init_86 : decode cX1_init 86 = .ok (.iconst 2, 1) := by decide +kernel
theorem dX1_init_87 : decode cX1_init 87 = .ok (.iconst 3, 1) := by decide +kernel
theorem dX1_init_88 : decode cX1_init 88 = .ok (.iastore, 1) := by decide +kernel
theorem dX1_init_89 : decode cX1_init 89 = .ok (.dup, 1) := by decide +kernel
theorem dX1_init_90 : decode cX1_init 90 = .ok (.iconst 3, 1) := by decide +kernel
theorem dX1_init_91 : decode cX1_init 91 = .ok (.iconst 0, 1) := by decide +kernel
theorem dX1_init_92 : decode cX1_init 92 = .ok (.iastore, 1) := by decide +kernel
theorem dX1_init_93 : decode cX1_init 93 = .ok (.putfield 35, 3) := by decide +kernel
theorem dX1_init_96 : decode cX1_init 96 = .ok (.aload_n 0, 1) := by decide +kernel
theorem dX1_init_97 : decode cX1_init 97 = .ok (.iconst 1, 1) := by decide +kernel
theorem dX1_init_98 : decode cX1_init 98 = .ok (.putfield 38, 3) := by decide +kernel
theorem dX1_init_101 : decode cX1_init 101 = .ok (.aload_n 0, 1) := by decide +kernel
theorem dX1_init_102 : decode cX1_init 102 = .ok (.iconst 4, 1) := by decide +kernel
theorem dX1_init_103 : decode cX1_init 103 = .ok (.newarray .int, 2) := by decide +kernel
theorem dX1_init_105 : decode cX1_init 105 = .ok (.putfield 41, 3) := by decide +kernel
theorem dX1_init_108 : decode cX1_init 108 = .ok (.aload_n 0, 1) := by decide +kernel
theorem dX1_init_109 : decode cX1_init 109 = .ok (.iconst 0, 1) := by decide +kernel
theorem dX1_init_110 : decode cX1_init 110 = .ok (.putfield 44, 3) := by decide +kernel
theorem dX1_init_113 : decode cX1_init 113 = .ok (.return_, 1) := by decide +kernel
theorem dX1_copyFrom_0 : decode cX1_copyFrom 0 = .ok (.iconst 0, 1) := by decide +kernel
theorem dX1_copyFrom_1 : decode cX1_copyFrom 1 = .ok (.istore_n 2, 1) := by decide +kernel
theorem dX1_copyFrom_2 : decode cX1_copyFrom 2 = .ok (.iload_n 2, 1) := by decide +kernel
theorem dX1_copyFrom_3 : decode cX1_copyFrom 3 = .ok (.aload_n 0, 1) := by decide +kernel
theorem dX1_copyFrom_4 : decode cX1_copyFrom 4 = .ok (.getfield 11, 3) := by decide +kernel
theorem dX1_copyFrom_7 : decode cX1_copyFrom 7 = .ok (.arraylength, 1) := by decide +kernel
theorem dX1_copyFrom_8 : decode cX1_copyFrom 8 = .ok (.if_icmp .ge 38, 3) := by decide +kernel
theorem dX1_copyFrom_11 : decode cX1_copyFrom 11 = .ok (.aload_n 0, 1) := by decide +kernel
theorem dX1_copyFrom_12 : decode cX1_copyFrom 12 = .ok (.getfield 11, 3) := by decide +kernel
theorem dX1_copyFrom_15 : decode cX1_copyFrom 15 = .ok (.iload_n 2, 1) := by decide +kernel
theorem dX1_copyFrom_16 : decode cX1_copyFrom 16 = .ok (.aaload, 1) := by decide +kernel
theorem dX1_copyFrom_17 : decode cX1_copyFrom 17 = .ok (.astore_n 3, 1) := by decide +kernel
theorem dX1_copyFrom_18 : decode cX1_copyFrom 18 = .ok (.aload_n 1, 1) := by decide +kernel
theorem dX1_copyFrom_19 : decode cX1_copyFrom 19 = .ok (.iload_n 2, 1) := by decide +kernel
theorem dX1_copyFrom_20 : decode cX1_copyFrom 20 = .ok (.invokevirtual 47, 3) := by decide +kernel
theorem dX1_copyFrom_23 : decode cX1_copyFrom 23 = .ok (.astore 4, 2) := by decide +kernel
theorem dX1_copyFrom_25 : decode cX1_copyFrom 25 = .ok (.aload_n 3, 1) := by decide +kernel
theorem dX1_copyFrom_26 : decode cX1_copyFrom 26 = .ok (.ifnull 14, 3) := by decide +kernel
theorem dX1_copyFrom_29 : decode cX1_copyFrom 29 = .ok (.aload 4, 2) := by decide +kernel
theorem dX1_copyFrom_31 : decode cX1_copyFrom 31 = .ok (.ifnull 9, 3) := by decide +kernel
theorem dX1_copyFrom_34 : decode cX1_copyFrom 34 = .ok (.aload_n 3, 1) := by decide +kernel
theorem dX1_copyFrom_35 : decode cX1_copyFrom 35 = .ok (.aload 4, 2) := by decide +kernel
theorem dX1_copyFrom_37 : decode cX1_copyFrom 37 = .ok (.invokevirtual 51, 3) := by decide +kernel
theorem dX1_copyFrom_40 : decode cX1_copyFrom 40 = .ok (.iinc 2 1, 3) := by decide +kernel
theorem dX1_copyFrom_43 : decode cX1_copyFrom 43 = .ok (.goto (-41), 3) := by decide +kernel
theorem dX1_copyFrom_46 : decode cX1_copyFrom 46 = .ok (.aload_n 1, 1) := by decide +kernel
theorem dX1_copyFrom_47 : decode cX1_copyFrom 47 = .ok (.getfield 25, 3) := by decide +kernel
theorem dX1_copyFrom_50 : decode cX1_copyFrom 50 = .ok (.aload_n 0, 1) := by decide +kernel
theorem dX1_copyFrom_51 : decode cX1_copyFrom 51 = .ok (.getfield 25, 3) := by decide +kernel
theorem dX1_copyFrom_54 : decode cX1_copyFrom 54 = .ok (.invokestatic 55, 3) := by decide +kernel
theorem dX1_copyFrom_57 : decode cX1_copyFrom 57 = .ok (.aload_n 1, 1) := by decide +kernel
theorem dX1_copyFrom_58 : decode cX1_copyFrom 58 = .ok (.getfield 29, 3) := by decide +kernel
theorem dX1_copyFrom_61 : decode cX1_copyFrom 61 = .ok (.aload_n 0, 1) := by decide +kernel
theorem dX1_copyFrom_62 : decode cX1_copyFrom 62 = .ok (.getfield 29, 3) := by decide +kernel
theorem dX1_copyFrom_65 : decode cX1_copyFrom 65 = .ok (.invokestatic 55, 3) := by decide +kernel
theorem dX1_copyFrom_68 : decode cX1_copyFrom 68 = .ok (.aload_n 1, 1) := by decide +kernel
theorem dX1_copyFrom_69 : decode cX1_copyFrom 69 = .ok (.getfield 35, 3) := by decide +kernel
theorem dX1_copyFrom_72 : decode cX1_copyFrom 72 = .ok (.aload_n 0, 1) := by decide +kernel
theorem dX1_copyFrom_73 : decode cX1_copyFrom 73 = .ok (.getfield 35, 3) := by decide +kernel
theorem dX1_copyFrom_76 : decode cX1_copyFrom 76 = .ok (.invokestatic 55, 3) := by decide +kernel
theorem dX1_copyFrom_79 : decode cX1_copyFrom 79 = .ok (.aload_n 1, 1) := by decide +kernel
theorem dX1_copyFrom_80 : decode cX1_copyFrom 80 = .ok (.getfield 41, 3) := by decide +kernel
theorem dX1_copyFrom_83 : decode cX1_copyFrom 83 = .ok (.aload_n 0, 1) := by decide +kernel
theorem dX1_copyFrom_84 : decode cX1_copyFrom 84 = .ok (.getfield 41, 3) := by decide +kernel
theorem dX1_copyFrom_87 : decode cX1_copyFrom 87 = .ok (.invokestatic 55, 3) := by decide +kernel
theorem dX1_copyFrom_90 : decode cX1_copyFrom 90 = .ok (.aload_n 0, 1) := by decide +kernel
theorem dX1_copyFrom_91 : decode cX1_copyFrom 91 = .ok (.aload_n 1, 1) := by decide +kernel
theorem dX1_copyFrom_92 : decode cX1_copyFrom 92 = .ok (.getfield 18, 3) := by decide +kernel
theorem dX1_copyFrom_95 : decode cX1_copyFrom 95 = .ok (.putfield 18, 3) := by decide +kernel
theorem dX1_copyFrom_98 : decode cX1_copyFrom 98 = .ok (.aload_n 0, 1) := by decide +kernel
theorem dX1_copyFrom_99 : decode cX1_copyFrom 99 = .ok (.aload_n 1, 1) := by decide +kernel
theorem dX1_copyFrom_100 : decode cX1_copyFrom 100 = .ok (.getfield 22, 3) := by decide +kernel
theorem dX1_copyFrom_103 : decode cX1_copyFrom 103 = .ok (.putfield 22, 3) := by decide +kernel
theorem dX1_copyFrom_106 : decode cX1_copyFrom 106 = .ok (.aload_n 0, 1) := by decide +kernel
theorem dX1_copyFrom_107 : decode cX1_copyFrom 107 = .ok (.aload_n 1, 1) := by decide +kernel
theorem dX1_copyFrom_108 : decode cX1_copyFrom 108 = .ok (.getfield 32, 3) := by decide +kernel
theorem dX1_copyFrom_111 : decode cX1_copyFrom 111 = .ok (.putfield 32, 3) := by decide +kernel
theorem dX1_copyFrom_114 : decode cX1_copyFrom 114 = .ok (.aload_n 0, 1) := by decide +kernel
theorem dX1_copyFrom_115 : decode cX1_copyFrom 115 = .ok (.aload_n 1, 1) := by decide +kernel
theorem dX1_copyFrom_116 : decode cX1_copyFrom 116 = .ok (.getfield 38, 3) := by decide +kernel
theorem dX1_copyFrom_119 : decode cX1_copyFrom 119 = .ok (.putfield 38, 3) := by decide +kernel
theorem dX1_copyFrom_122 : decode cX1_copyFrom 122 = .ok (.aload_n 0, 1) := by decide +kernel
theorem dX1_copyFrom_123 : decode cX1_copyFrom 123 = .ok (.aload_n 1, 1) := by decide +kernel
theorem dX1_copyFrom_124 : decode cX1_copyFrom 124 = .ok (.getfield 44, 3) := by decide +kernel
theorem dX1_copyFrom_127 : decode cX1_copyFrom 127 = .ok (.putfield 44, 3) := by decide +kernel
theorem dX1_copyFrom_130 : decode cX1_copyFrom 130 = .ok (.return_, 1) := by decide +kernel
theorem dX1_copyRow_0 : decode cX1_copyRow 0 = .ok (.iconst 0, 1) := by decide +kernel
theorem dX1_copyRow_1 : decode cX1_copyRow 1 = .ok (.istore_n 2, 1) := by decide +kernel
theorem dX1_copyRow_2 : decode cX1_copyRow 2 = .ok (.iload_n 2, 1) := by decide +kernel
theorem dX1_copyRow_3 : decode cX1_copyRow 3 = .ok (.aload_n 0, 1) := by decide +kernel
theorem dX1_copyRow_4 : decode cX1_copyRow 4 = .ok (.arraylength, 1) := by decide +kernel
theorem dX1_copyRow_5 : decode cX1_copyRow 5 = .ok (.if_icmp .ge 21, 3) := by decide +kernel
theorem dX1_copyRow_8 : decode cX1_copyRow 8 = .ok (.iload_n 2, 1) := by decide +kernel
theorem dX1_copyRow_9 : decode cX1_copyRow 9 = .ok (.aload_n 1, 1) := by decide +kernel
theorem dX1_copyRow_10 : decode cX1_copyRow 10 = .ok (.arraylength, 1) := by decide +kernel
theorem dX1_copyRow_11 : decode cX1_copyRow 11 = .ok (.if_icmp .ge 15, 3) := by decide +kernel
theorem dX1_copyRow_14 : decode cX1_copyRow 14 = .ok (.aload_n 1, 1) := by decide +kernel
theorem dX1_copyRow_15 : decode cX1_copyRow 15 = .ok (.iload_n 2, 1) := by decide +kernel
theorem dX1_copyRow_16 : decode cX1_copyRow 16 = .ok (.aload_n 0, 1) := by decide +kernel
theorem dX1_copyRow_17 : decode cX1_copyRow 17 = .ok (.iload_n 2, 1) := by decide +kernel
theorem dX1_copyRow_18 : decode cX1_copyRow 18 = .ok (.iaload, 1) := by decide +kernel
theorem dX1_copyRow_19 : decode cX1_copyRow 19 = .ok (.iastore, 1) := by decide +kernel
theorem dX1_copyRow_20 : decode cX1_copyRow 20 = .ok (.iinc 2 1, 3) := by decide +kernel
theorem dX1_copyRow_23 : decode cX1_copyRow 23 = .ok (.goto (-21), 3) := by decide +kernel
theorem dX1_copyRow_26 : decode cX1_copyRow 26 = .ok (.return_, 1) := by decide +kernel
theorem dX1_jugAt_0 : decode cX1_jugAt 0 = .ok (.iload_n 1, 1) := by decide +kernel
theorem dX1_jugAt_1 : decode cX1_jugAt 1 = .ok (.aload_n 0, 1) := by decide +kernel
theorem dX1_jugAt_2 : decode cX1_jugAt 2 = .ok (.getfield 18, 3) := by decide +kernel
theorem dX1_jugAt_5 : decode cX1_jugAt 5 = .ok (.invokestatic 59, 3) := by decide +kernel
theorem dX1_jugAt_8 : decode cX1_jugAt 8 = .ok (.ifCond .eq 21, 3) := by decide +kernel
theorem dX1_jugAt_11 : decode cX1_jugAt 11 = .ok (.iload_n 1, 1) := by decide +kernel
theorem dX1_jugAt_12 : decode cX1_jugAt 12 = .ok (.aload_n 0, 1) := by decide +kernel
theorem dX1_jugAt_13 : decode cX1_jugAt 13 = .ok (.getfield 11, 3) := by decide +kernel
theorem dX1_jugAt_16 : decode cX1_jugAt 16 = .ok (.arraylength, 1) := by decide +kernel
theorem dX1_jugAt_17 : decode cX1_jugAt 17 = .ok (.if_icmp .ge 12, 3) := by decide +kernel
theorem dX1_jugAt_20 : decode cX1_jugAt 20 = .ok (.aload_n 0, 1) := by decide +kernel
theorem dX1_jugAt_21 : decode cX1_jugAt 21 = .ok (.getfield 11, 3) := by decide +kernel
theorem dX1_jugAt_24 : decode cX1_jugAt 24 = .ok (.iload_n 1, 1) := by decide +kernel
theorem dX1_jugAt_25 : decode cX1_jugAt 25 = .ok (.aaload, 1) := by decide +kernel
theorem dX1_jugAt_26 : decode cX1_jugAt 26 = .ok (.goto 4, 3) := by decide +kernel
theorem dX1_jugAt_29 : decode cX1_jugAt 29 = .ok (.aconst_null, 1) := by decide +kernel
theorem dX1_jugAt_30 : decode cX1_jugAt 30 = .ok (.areturn, 1) := by decide +kernel
theorem dX1_inHand_0 : decode cX1_inHand 0 = .ok (.aload_n 0, 1) := by decide +kernel
theorem dX1_inHand_1 : decode cX1_inHand 1 = .ok (.aload_n 0, 1) := by decide +kernel
theorem dX1_inHand_2 : decode cX1_inHand 2 = .ok (.getfield 22, 3) := by decide +kernel
theorem dX1_inHand_5 : decode cX1_inHand 5 = .ok (.invokevirtual 47, 3) := by decide +kernel
theorem dX1_inHand_8 : decode cX1_inHand 8 = .ok (.areturn, 1) := by decide +kernel
theorem dX1_addJug_0 : decode cX1_addJug 0 = .ok (.iload_n 1, 1) := by decide +kernel
theorem dX1_addJug_1 : decode cX1_addJug 1 = .ok (.bipush 6, 2) := by decide +kernel
theorem dX1_addJug_3 : decode cX1_addJug 3 = .ok (.invokestatic 59, 3) := by decide +kernel
theorem dX1_addJug_6 : decode cX1_addJug 6 = .ok (.ifCond .eq 23, 3) := by decide +kernel
theorem dX1_addJug_9 : decode cX1_addJug 9 = .ok (.iload_n 2, 1) := by decide +kernel
theorem dX1_addJug_10 : decode cX1_addJug 10 = .ok (.bipush 10, 2) := by decide +kernel
theorem dX1_addJug_12 : decode cX1_addJug 12 = .ok (.invokestatic 59, 3) := by decide +kernel
theorem dX1_addJug_15 : decode cX1_addJug 15 = .ok (.ifCond .eq 14, 3) := by decide +kernel
theorem dX1_addJug_18 : decode cX1_addJug 18 = .ok (.iload_n 3, 1) := by decide +kernel
theorem dX1_addJug_19 : decode cX1_addJug 19 = .ok (.iconst 1, 1) := by decide +kernel
theorem dX1_addJug_20 : decode cX1_addJug 20 = .ok (.if_icmp .lt 9, 3) := by decide +kernel
theorem dX1_addJug_23 : decode cX1_addJug 23 = .ok (.iload_n 3, 1) := by decide +kernel
theorem dX1_addJug_24 : decode cX1_addJug 24 = .ok (.bipush 9, 2) := by decide +kernel
theorem dX1_addJug_26 : decode cX1_addJug 26 = .ok (.if_icmp .le 5, 3) := by decide +kernel
theorem dX1_addJug_29 : decode cX1_addJug 29 = .ok (.iconst 0, 1) := by decide +kernel
theorem dX1_addJug_30 : decode cX1_addJug 30 = .ok (.ireturn, 1) := by decide +kernel
theorem dX1_addJug_31 : decode cX1_addJug 31 = .ok (.aload_n 0, 1) := by decide +kernel
theorem dX1_addJug_32 : decode cX1_addJug 32 = .ok (.getfield 18, 3) := by decide +kernel
theorem dX1_addJug_35 : decode cX1_addJug 35 = .ok (.aload_n 0, 1) := by decide +kernel
theorem dX1_addJug_36 : decode cX1_addJug 36 = .ok (.getfield 11, 3) := by decide +kernel
theorem dX1_addJug_39 : decode cX1_addJug 39 = .ok (.arraylength, 1) := by decide +kernel
theorem dX1_addJug_40 : decode cX1_addJug 40 = .ok (.invokestatic 59, 3) := by decide +kernel
theorem dX1_addJug_43 : decode cX1_addJug 43 = .ok (.ifCond .eq 15, 3) := by decide +kernel
theorem dX1_addJug_46 : decode cX1_addJug 46 = .ok (.aload_n 0, 1) := by decide +kernel
theorem dX1_addJug_47 : decode cX1_addJug 47 = .ok (.getfield 11, 3) := by decide +kernel
theorem dX1_addJug_50 : decode cX1_addJug 50 = .ok (.aload_n 0, 1) := by decide +kernel
theorem dX1_addJug_51 : decode cX1_addJug 51 = .ok (.getfield 18, 3) := by decide +kernel
theorem dX1_addJug_54 : decode cX1_addJug 54 = .ok (.aaload, 1) := by decide +kernel
theorem dX1_addJug_55 : decode cX1_addJug 55 = .ok (.goto 4, 3) := by decide +kernel
theorem dX1_addJug_58 : decode cX1_addJug 58 = .ok (.aconst_null, 1) := by decide +kernel
theorem dX1_addJug_59 : decode cX1_addJug 59 = .ok (.astore 5, 2) := by decide +kernel
theorem dX1_addJug_61 : decode cX1_addJug 61 = .ok (.iload 4, 2) := by decide +kernel
theorem dX1_addJug_63 : decode cX1_addJug 63 = .ok (.ifCond .lt 16, 3) := by decide +kernel
theorem dX1_addJug_66 : decode cX1_addJug 66 = .ok (.iload 4, 2) := by decide +kernel
theorem dX1_addJug_68 : decode cX1_addJug 68 = .ok (.sipush 240, 3) := by decide +kernel
theorem dX1_addJug_71 : decode cX1_addJug 71 = .ok (.if_icmp .gt 8, 3) := by decide +kernel
theorem dX1_addJug_74 : decode cX1_addJug 74 = .ok (.aload 5, 2) := by decide +kernel
theorem dX1_addJug_76 : decode cX1_addJug 76 = .ok (.ifnonnull 5, 3) := by decide +kernel
theorem dX1_addJug_79 : decode cX1_addJug 79 = .ok (.iconst 0, 1) := by decide +kernel
theorem dX1_addJug_80 : decode cX1_addJug 80 = .ok (.ireturn, 1) := by decide +kernel
theorem dX1_addJug_81 : decode cX1_addJug 81 = .ok (.aload 5, 2) := by decide +kernel
theorem dX1_addJug_83 : decode cX1_addJug 83 = .ok (.iload_n 1, 1) := by decide +kernel
theorem dX1_addJug_84 : decode cX1_addJug 84 = .ok (.iload_n 2, 1) := by decide +kernel
theorem dX1_addJug_85 : decode cX1_addJug 85 = .ok (.iload_n 3, 1) := by decide +kernel
theorem dX1_addJug_86 : decode cX1_addJug 86 = .ok (.iload 4, 2) := by decide +kernel
theorem dX1_addJug_88 : decode cX1_addJug 88 = .ok (.invokevirtual 63, 3) := by decide +kernel
theorem dX1_addJug_91 : decode cX1_addJug 91 = .ok (.aload_n 0, 1) := by decide +kernel
theorem dX1_addJug_92 : decode cX1_addJug 92 = .ok (.dup, 1) := by decide +kernel
theorem dX1_addJug_93 : decode cX1_addJug 93 = .ok (.getfield 18, 3) := by decide +kernel
theorem dX1_addJug_96 : decode cX1_addJug 96 = .ok (.iconst 1, 1) := by decide +kernel
theorem dX1_addJug_97 : decode cX1_addJug 97 = .ok (.iadd, 1) := by decide +kernel
theorem dX1_addJug_98 : decode cX1_addJug 98 = .ok (.putfield 18, 3) := by decide +kernel
theorem dX1_addJug_101 : decode cX1_addJug 101 = .ok (.iconst 1, 1) := by decide +kernel
theorem dX1_addJug_102 : decode cX1_addJug 102 = .ok (.ireturn, 1) := by decide +kernel
theorem dX1_standInCold_0 : decode cX1_standInCold 0 = .ok (.iconst 0, 1) := by decide +kernel
theorem dX1_standInCold_1 : decode cX1_standInCold 1 = .ok (.istore_n 2, 1) := by decide +kernel
theorem dX1_standInCold_2 : decode cX1_standInCold 2 = .ok (.iload_n 2, 1) := by decide +kernel
theorem dX1_standInCold_3 : decode cX1_standInCold 3 = .ok (.aload_n 0, 1) := by decide +kernel
theorem dX1_standInCold_4 : decode cX1_standInCold 4 = .ok (.getfield 18, 3) := by decide +kernel
theorem dX1_standInCold_7 : decode cX1_standInCold 7 = .ok (.if_icmp .ge 29, 3) := by decide +kernel
theorem dX1_standInCold_10 : decode cX1_standInCold 10 = .ok (.aload_n 0, 1) := by decide +kernel
theorem dX1_standInCold_11 : decode cX1_standInCold 11 = .ok (.iload_n 2, 1) := by decide +kernel
theorem dX1_standInCold_12 : decode cX1_standInCold 12 = .ok (.invokevirtual 47, 3) := by decide +kernel
theorem dX1_standInCold_15 : decode cX1_standInCold 15 = .ok (.astore_n 3, 1) := by decide +kernel
theorem dX1_standInCold_16 : decode cX1_standInCold 16 = .ok (.aload_n 3, 1) := by decide +kernel
theorem dX1_standInCold_17 : decode cX1_standInCold 17 = .ok (.ifnull 13, 3) := by decide +kernel
theorem dX1_standInCold_20 : decode cX1_standInCold 20 = .ok (.aload_n 3, 1) := by decide +kernel
theorem dX1_standInCold_21 : decode cX1_standInCold 21 = .ok (.iload_n 1, 1) := by decide +kernel
theorem dX1_standInCold_22 : decode cX1_standInCold 22 = .ok (.aload_n 3, 1) := by decide +kernel
theorem dX1_standInCold_23 : decode cX1_standInCold 23 = .ok (.invokevirtual 67, 3) := by decide +kernel
theorem dX1_standInCold_26 : decode cX1_standInCold 26 = .ok (.imul, 1) := by decide +kernel
theorem dX1_standInCold_27 : decode cX1_standInCold 27 = .ok (.invokevirtual 71, 3) := by decide +kernel
theorem dX1_standInCold_30 : decode cX1_standInCold 30 = .ok (.iinc 2 1, 3) := by decide +kernel
theorem dX1_standInCold_33 : decode cX1_standInCold 33 = .ok (.goto (-31), 3) := by decide +kernel
theorem dX1_standInCold_36 : decode cX1_standInCold 36 = .ok (.return_, 1) := by decide +kernel
theorem dX1_standInWarm_0 : decode cX1_standInWarm 0 = .ok (.aload_n 0, 1) := by decide +kernel
theorem dX1_standInWarm_1 : decode cX1_standInWarm 1 = .ok (.iload_n 1, 1) := by decide +kernel
theorem dX1_standInWarm_2 : decode cX1_standInWarm 2 = .ok (.invokevirtual 47, 3) := by decide +kernel
theorem dX1_standInWarm_5 : decode cX1_standInWarm 5 = .ok (.astore_n 3, 1) := by decide +kernel
theorem dX1_standInWarm_6 : decode cX1_standInWarm 6 = .ok (.aload_n 3, 1) := by decide +kernel
theorem dX1_standInWarm_7 : decode cX1_standInWarm 7 = .ok (.ifnonnull 5, 3) := by decide +kernel
theorem dX1_standInWarm_10 : decode cX1_standInWarm 10 = .ok (.iconst 0, 1) := by decide +kernel
theorem dX1_standInWarm_11 : decode cX1_standInWarm 11 = .ok (.ireturn, 1) := by decide +kernel
theorem dX1_standInWarm_12 : decode cX1_standInWarm 12 = .ok (.aload_n 3, 1) := by decide +kernel
theorem dX1_standInWarm_13 : decode cX1_standInWarm 13 = .ok (.iload_n 2, 1) := by decide +kernel
theorem dX1_standInWarm_14 : decode cX1_standInWarm 14 = .ok (.aload_n 3, 1) := by decide +kernel
theorem dX1_standInWarm_15 : decode cX1_standInWarm 15 = .ok (.invokevirtual 75, 3) := by decide +kernel
theorem dX1_standInWarm_18 : decode cX1_standInWarm 18 = .ok (.imul, 1) := by decide +kernel
theorem dX1_standInWarm_19 : decode cX1_standInWarm 19 = .ok (.invokevirtual 71, 3) := by decide +kernel
theorem dX1_standInWarm_22 : decode cX1_standInWarm 22 = .ok (.iconst 1, 1) := by decide +kernel
theorem dX1_standInWarm_23 : decode cX1_standInWarm 23 = .ok (.ireturn, 1) := by decide +kernel
theorem dX1_takeInHand_0 : decode cX1_takeInHand 0 = .ok (.aload_n 0, 1) := by decide +kernel
theorem dX1_takeInHand_1 : decode cX1_takeInHand 1 = .ok (.iload_n 1, 1) := by decide +kernel
theorem dX1_takeInHand_2 : decode cX1_takeInHand 2 = .ok (.invokevirtual 47, 3) := by decide +kernel
theorem dX1_takeInHand_5 : decode cX1_takeInHand 5 = .ok (.ifnonnull 5, 3) := by decide +kernel
theorem dX1_takeInHand_8 : decode cX1_takeInHand 8 = .ok (.iconst 0, 1) := by decide +kernel
theorem dX1_takeInHand_9 : decode cX1_takeInHand 9 = .ok (.ireturn, 1) := by decide +kernel
theorem dX1_takeInHand_10 : decode cX1_takeInHand 10 = .ok (.aload_n 0, 1) := by decide +kernel
theorem dX1_takeInHand_11 : decode cX1_takeInHand 11 = .ok (.iload_n 1, 1) := by decide +kernel
theorem dX1_takeInHand_12 : decode cX1_takeInHand 12 = .ok (.putfield 22, 3) := by decide +kernel
theorem dX1_takeInHand_15 : decode cX1_takeInHand 15 = .ok (.aload_n 0, 1) := by decide +kernel
theorem dX1_takeInHand_16 : decode cX1_takeInHand 16 = .ok (.iconst 0, 1) := by decide +kernel
theorem dX1_takeInHand_17 : decode cX1_takeInHand 17 = .ok (.putfield 32, 3) := by decide +kernel
theorem dX1_takeInHand_20 : decode cX1_takeInHand 20 = .ok (.iconst 1, 1) := by decide +kernel
theorem dX1_takeInHand_21 : decode cX1_takeInHand 21 = .ok (.ireturn, 1) := by decide +kernel
theorem dX1_addSeen_0 : decode cX1_addSeen 0 = .ok (.aload_n 0, 1) := by decide +kernel
theorem dX1_addSeen_1 : decode cX1_addSeen 1 = .ok (.invokevirtual 78, 3) := by decide +kernel
theorem dX1_addSeen_4 : decode cX1_addSeen 4 = .ok (.ifnull 31, 3) := by decide +kernel
theorem dX1_addSeen_7 : decode cX1_addSeen 7 = .ok (.iload_n 1, 1) := by decide +kernel
theorem dX1_addSeen_8 : decode cX1_addSeen 8 = .ok (.iconst 4, 1) := by decide +kernel
theorem dX1_addSeen_9 : decode cX1_addSeen 9 = .ok (.invokestatic 59, 3) := by decide +kernel
theorem dX1_addSeen_12 : decode cX1_addSeen 12 = .ok (.ifCond .eq 23, 3) := by decide +kernel
theorem dX1_addSeen_15 : decode cX1_addSeen 15 = .ok (.iload_n 2, 1) := by decide +kernel
theorem dX1_addSeen_16 : decode cX1_addSeen 16 = .ok (.iconst 2, 1) := by decide +kernel
theorem dX1_addSeen_17 : decode cX1_addSeen 17 = .ok (.invokestatic 59, 3) := by decide +kernel
theorem dX1_addSeen_20 : decode cX1_addSeen 20 = .ok (.ifCond .eq 15, 3) := by decide +kernel
theorem dX1_addSeen_23 : decode cX1_addSeen 23 = .ok (.aload_n 0, 1) := by decide +kernel
theorem dX1_addSeen_24 : decode cX1_addSeen 24 = .ok (.getfield 32, 3) := by decide +kernel
theorem dX1_addSeen_27 : decode cX1_addSeen 27 = .ok (.bipush 8, 2) := by decide +kernel
theorem dX1_addSeen_29 : decode cX1_addSeen 29 = .ok (.invokestatic 59, 3) := by decide +kernel
theorem dX1_addSeen_32 : decode cX1_addSeen 32 = .ok (.ifCond .ne 5, 3) := by decide +kernel
theorem dX1_addSeen_35 : decode cX1_addSeen 35 = .ok (.iconst 0, 1) := by decide +kernel
theorem dX1_addSeen_36 : decode cX1_addSeen 36 = .ok (.ireturn, 1) := by decide +kernel
theorem dX1_addSeen_37 : decode cX1_addSeen 37 = .ok (.aload_n 0, 1) := by decide +kernel
theorem dX1_addSeen_38 : decode cX1_addSeen 38 = .ok (.getfield 25, 3) := by decide +kernel
theorem dX1_addSeen_41 : decode cX1_addSeen 41 = .ok (.aload_n 0, 1) := by decide +kernel
theorem dX1_addSeen_42 : decode cX1_addSeen 42 = .ok (.getfield 32, 3) := by decide +kernel
theorem dX1_addSeen_45 : decode cX1_addSeen 45 = .ok (.iload_n 1, 1) := by decide +kernel
theorem dX1_addSeen_46 : decode cX1_addSeen 46 = .ok (.iastore, 1) := by decide +kernel
theorem dX1_addSeen_47 : decode cX1_addSeen 47 = .ok (.aload_n 0, 1) := by decide +kernel
theorem dX1_addSeen_48 : decode cX1_addSeen 48 = .ok (.getfield 29, 3) := by decide +kernel
theorem dX1_addSeen_51 : decode cX1_addSeen 51 = .ok (.aload_n 0, 1) := by decide +kernel
theorem dX1_addSeen_52 : decode cX1_addSeen 52 = .ok (.getfield 32, 3) := by decide +kernel
theorem dX1_addSeen_55 : decode cX1_addSeen 55 = .ok (.iload_n 2, 1) := by decide +kernel
theorem dX1_addSeen_56 : decode cX1_addSeen 56 = .ok (.iastore, 1) := by decide +kernel
theorem dX1_addSeen_57 : decode cX1_addSeen 57 = .ok (.aload_n 0, 1) := by decide +kernel
theorem dX1_addSeen_58 : decode cX1_addSeen 58 = .ok (.dup, 1) := by decide +kernel
theorem dX1_addSeen_59 : decode cX1_addSeen 59 = .ok (.getfield 32, 3) := by decide +kernel
theorem dX1_addSeen_62 : decode cX1_addSeen 62 = .ok (.iconst 1, 1) := by decide +kernel
theorem dX1_addSeen_63 : decode cX1_addSeen 63 = .ok (.iadd, 1) := by decide +kernel
theorem dX1_addSeen_64 : decode cX1_addSeen 64 = .ok (.putfield 32, 3) := by decide +kernel
theorem dX1_addSeen_67 : decode cX1_addSeen 67 = .ok (.iconst 1, 1) := by decide +kernel
theorem dX1_addSeen_68 : decode cX1_addSeen 68 = .ok (.ireturn, 1) := by decide +kernel
theorem dX1_takeCups_0 : decode cX1_takeCups 0 = .ok (.aload_n 0, 1) := by decide +kernel
theorem dX1_takeCups_1 : decode cX1_takeCups 1 = .ok (.invokevirtual 78, 3) := by decide +kernel
theorem dX1_takeCups_4 : decode cX1_takeCups 4 = .ok (.astore_n 2, 1) := by decide +kernel
theorem dX1_takeCups_5 : decode cX1_takeCups 5 = .ok (.aload_n 2, 1) := by decide +kernel
theorem dX1_takeCups_6 : decode cX1_takeCups 6 = .ok (.ifnull 16, 3) := by decide +kernel
theorem dX1_takeCups_9 : decode cX1_takeCups 9 = .ok (.iload_n 1, 1) := by decide +kernel
theorem dX1_takeCups_10 : decode cX1_takeCups 10 = .ok (.iconst 1, 1) := by decide +kernel
theorem dX1_takeCups_11 : decode cX1_takeCups 11 = .ok (.if_icmp .lt 11, 3) := by decide +kernel
theorem dX1_takeCups_14 : decode cX1_takeCups 14 = .ok (.iload_n 1, 1) := by decide +kernel
theorem dX1_takeCups_15 : decode cX1_takeCups 15 = .ok (.aload_n 2, 1) := by decide +kernel
theorem dX1_takeCups_16 : decode cX1_takeCups 16 = .ok (.getfield 82, 3) := by decide +kernel
theorem dX1_takeCups_19 : decode cX1_takeCups 19 = .ok (.if_icmp .le 5, 3) := by decide +kernel
theorem dX1_takeCups_22 : decode cX1_takeCups 22 = .ok (.iconst 0, 1) := by decide +kernel
theorem dX1_takeCups_23 : decode cX1_takeCups 23 = .ok (.ireturn, 1) := by decide +kernel
theorem dX1_takeCups_24 : decode cX1_takeCups 24 = .ok (.aload_n 2, 1) := by decide +kernel
theorem dX1_takeCups_25 : decode cX1_takeCups 25 = .ok (.dup, 1) := by decide +kernel
theorem dX1_takeCups_26 : decode cX1_takeCups 26 = .ok (.getfield 82, 3) := by decide +kernel
theorem dX1_takeCups_29 : decode cX1_takeCups 29 = .ok (.iload_n 1, 1) := by decide +kernel
theorem dX1_takeCups_30 : decode cX1_takeCups 30 = .ok (.isub, 1) := by decide +kernel
theorem dX1_takeCups_31 : decode cX1_takeCups 31 = .ok (.putfield 82, 3) := by decide +kernel
theorem dX1_takeCups_34 : decode cX1_takeCups 34 = .ok (.aload_n 2, 1) := by decide +kernel
theorem dX1_takeCups_35 : decode cX1_takeCups 35 = .ok (.getfield 82, 3) := by decide +kernel
theorem dX1_takeCups_38 : decode cX1_takeCups 38 = .ok (.ifCond .ne 8, 3) := by decide +kernel
theorem dX1_takeCups_41 : decode cX1_takeCups 41 = .ok (.aload_n 0, 1) := by decide +kernel
theorem dX1_takeCups_42 : decode cX1_takeCups 42 = .ok (.aload_n 2, 1) := by decide +kernel
theorem dX1_takeCups_43 : decode cX1_takeCups 43 = .ok (.invokevirtual 85, 3) := by decide +kernel
theorem dX1_takeCups_46 : decode cX1_takeCups 46 = .ok (.iconst 1, 1) := by decide +kernel
theorem dX1_takeCups_47 : decode cX1_takeCups 47 = .ok (.ireturn, 1) := by decide +kernel
theorem dX1_dropInHand_0 : decode cX1_dropInHand 0 = .ok (.iconst 0, 1) := by decide +kernel
theorem dX1_dropInHand_1 : decode cX1_dropInHand 1 = .ok (.aload_n 0, 1) := by decide +kernel
theorem dX1_dropInHand_2 : decode cX1_dropInHand 2 = .ok (.getfield 22, 3) := by decide +kernel
theorem dX1_dropInHand_5 : decode cX1_dropInHand 5 = .ok (.invokestatic 88, 3) := by decide +kernel
theorem dX1_dropInHand_8 : decode cX1_dropInHand 8 = .ok (.istore_n 2, 1) := by decide +kernel
theorem dX1_dropInHand_9 : decode cX1_dropInHand 9 = .ok (.iload_n 2, 1) := by decide +kernel
theorem dX1_dropInHand_10 : decode cX1_dropInHand 10 = .ok (.iconst 1, 1) := by decide +kernel
theorem dX1_dropInHand_11 : decode cX1_dropInHand 11 = .ok (.iadd, 1) := by decide +kernel
theorem dX1_dropInHand_12 : decode cX1_dropInHand 12 = .ok (.aload_n 0, 1) := by decide +kernel
theorem dX1_dropInHand_13 : decode cX1_dropInHand 13 = .ok (.getfield 18, 3) := by decide +kernel
theorem dX1_dropInHand_16 : decode cX1_dropInHand 16 = .ok (.if_icmp .ge 34, 3) := by decide +kernel
theorem dX1_dropInHand_19 : decode cX1_dropInHand 19 = .ok (.iload_n 2, 1) := by decide +kernel
theorem dX1_dropInHand_20 : decode cX1_dropInHand 20 = .ok (.iconst 1, 1) := by decide +kernel
theorem dX1_dropInHand_21 : decode cX1_dropInHand 21 = .ok (.iadd, 1) := by decide +kernel
theorem dX1_dropInHand_22 : decode cX1_dropInHand 22 = .ok (.aload_n 0, 1) := by decide +kernel
theorem dX1_dropInHand_23 : decode cX1_dropInHand 23 = .ok (.getfield 11, 3) := by decide +kernel
theorem dX1_dropInHand_26 : decode cX1_dropInHand 26 = .ok (.arraylength, 1) := by decide +kernel
theorem dX1_dropInHand_27 : decode cX1_dropInHand 27 = .ok (.if_icmp .ge 23, 3) := by decide +kernel
theorem dX1_dropInHand_30 : decode cX1_dropInHand 30 = .ok (.aload_n 0, 1) := by decide +kernel
theorem dX1_dropInHand_31 : decode cX1_dropInHand 31 = .ok (.getfield 11, 3) := by decide +kernel
theorem dX1_dropInHand_34 : decode cX1_dropInHand 34 = .ok (.iload_n 2, 1) := by decide +kernel
theorem dX1_dropInHand_35 : decode cX1_dropInHand 35 = .ok (.aload_n 0, 1) := by decide +kernel
theorem dX1_dropInHand_36 : decode cX1_dropInHand 36 = .ok (.getfield 11, 3) := by decide +kernel
theorem dX1_dropInHand_39 : decode cX1_dropInHand 39 = .ok (.iload_n 2, 1) := by decide +kernel
theorem dX1_dropInHand_40 : decode cX1_dropInHand 40 = .ok (.iconst 1, 1) := by decide +kernel
theorem dX1_dropInHand_41 : decode cX1_dropInHand 41 = .ok (.iadd, 1) := by decide +kernel
theorem dX1_dropInHand_42 : decode cX1_dropInHand 42 = .ok (.aaload, 1) := by decide +kernel
theorem dX1_dropInHand_43 : decode cX1_dropInHand 43 = .ok (.aastore, 1) := by decide +kernel
theorem dX1_dropInHand_44 : decode cX1_dropInHand 44 = .ok (.iinc 2 1, 3) := by decide +kernel
theorem dX1_dropInHand_47 : decode cX1_dropInHand 47 = .ok (.goto (-38), 3) := by decide +kernel
theorem dX1_dropInHand_50 : decode cX1_dropInHand 50 = .ok (.aload_n 0, 1) := by decide +kernel
theorem dX1_dropInHand_51 : decode cX1_dropInHand 51 = .ok (.dup, 1) := by decide +kernel
theorem dX1_dropInHand_52 : decode cX1_dropInHand 52 = .ok (.getfield 18, 3) := by decide +kernel
theorem dX1_dropInHand_55 : decode cX1_dropInHand 55 = .ok (.iconst 1, 1) := by decide +kernel
theorem dX1_dropInHand_56 : decode cX1_dropInHand 56 = .ok (.isub, 1) := by decide +kernel
theorem dX1_dropInHand_57 : decode cX1_dropInHand 57 = .ok (.putfield 18, 3) := by decide +kernel
theorem dX1_dropInHand_60 : decode cX1_dropInHand 60 = .ok (.aload_n 0, 1) := by decide +kernel
theorem dX1_dropInHand_61 : decode cX1_dropInHand 61 = .ok (.getfield 18, 3) := by decide +kernel
theorem dX1_dropInHand_64 : decode cX1_dropInHand 64 = .ok (.aload_n 0, 1) := by decide +kernel
theorem dX1_dropInHand_65 : decode cX1_dropInHand 65 = .ok (.getfield 11, 3) := by decide +kernel
theorem dX1_dropInHand_68 : decode cX1_dropInHand 68 = .ok (.arraylength, 1) := by decide +kernel
theorem dX1_dropInHand_69 : decode cX1_dropInHand 69 = .ok (.invokestatic 59, 3) := by decide +kernel
theorem dX1_dropInHand_72 : decode cX1_dropInHand 72 = .ok (.ifCond .eq 13, 3) := by decide +kernel
theorem dX1_dropInHand_75 : decode cX1_dropInHand 75 = .ok (.aload_n 0, 1) := by decide +kernel
theorem dX1_dropInHand_76 : decode cX1_dropInHand 76 = .ok (.getfield 11, 3) := by decide +kernel
theorem dX1_dropInHand_79 : decode cX1_dropInHand 79 = .ok (.aload_n 0, 1) := by decide +kernel
theorem dX1_dropInHand_80 : decode cX1_dropInHand 80 = .ok (.getfield 18, 3) := by decide +kernel
theorem dX1_dropInHand_83 : decode cX1_dropInHand 83 = .ok (.aload_n 1, 1) := by decide +kernel
theorem dX1_dropInHand_84 : decode cX1_dropInHand 84 = .ok (.aastore, 1) := by decide +kernel
theorem dX1_dropInHand_85 : decode cX1_dropInHand 85 = .ok (.aload_n 0, 1) := by decide +kernel
theorem dX1_dropInHand_86 : decode cX1_dropInHand 86 = .ok (.iconst 0, 1) := by decide +kernel
theorem dX1_dropInHand_87 : decode cX1_dropInHand 87 = .ok (.putfield 22, 3) := by decide +kernel
theorem dX1_dropInHand_90 : decode cX1_dropInHand 90 = .ok (.aload_n 0, 1) := by decide +kernel
theorem dX1_dropInHand_91 : decode cX1_dropInHand 91 = .ok (.iconst 0, 1) := by decide +kernel
theorem dX1_dropInHand_92 : decode cX1_dropInHand 92 = .ok (.putfield 32, 3) := by decide +kernel
theorem dX1_dropInHand_95 : decode cX1_dropInHand 95 = .ok (.return_, 1) := by decide +kernel
theorem dX1_costOf_0 : decode cX1_costOf 0 = .ok (.aload_n 0, 1) := by decide +kernel
theorem dX1_costOf_1 : decode cX1_costOf 1 = .ok (.getfield 35, 3) := by decide +kernel
theorem dX1_costOf_4 : decode cX1_costOf 4 = .ok (.iload_n 1, 1) := by decide +kernel
theorem dX1_costOf_5 : decode cX1_costOf 5 = .ok (.invokestatic 94, 3) := by decide +kernel
theorem dX1_costOf_8 : decode cX1_costOf 8 = .ok (.ireturn, 1) := by decide +kernel
theorem dX1_setCost_0 : decode cX1_setCost 0 = .ok (.iload_n 1, 1) := by decide +kernel
theorem dX1_setCost_1 : decode cX1_setCost 1 = .ok (.aload_n 0, 1) := by decide +kernel
theorem dX1_setCost_2 : decode cX1_setCost 2 = .ok (.getfield 35, 3) := by decide +kernel
theorem dX1_setCost_5 : decode cX1_setCost 5 = .ok (.arraylength, 1) := by decide +kernel
theorem dX1_setCost_6 : decode cX1_setCost 6 = .ok (.invokestatic 59, 3) := by decide +kernel
theorem dX1_setCost_9 : decode cX1_setCost 9 = .ok (.ifCond .ne 5, 3) := by decide +kernel
theorem dX1_setCost_12 : decode cX1_setCost 12 = .ok (.iconst 0, 1) := by decide +kernel
theorem dX1_setCost_13 : decode cX1_setCost 13 = .ok (.ireturn, 1) := by decide +kernel
theorem dX1_setCost_14 : decode cX1_setCost 14 = .ok (.aload_n 0, 1) := by decide +kernel
theorem dX1_setCost_15 : decode cX1_setCost 15 = .ok (.getfield 35, 3) := by decide +kernel
theorem dX1_setCost_18 : decode cX1_setCost 18 = .ok (.iload_n 1, 1) := by decide +kernel
theorem dX1_setCost_19 : decode cX1_setCost 19 = .ok (.iload_n 2, 1) := by decide +kernel
theorem dX1_setCost_20 : decode cX1_setCost 20 = .ok (.iastore, 1) := by decide +kernel
theorem dX1_setCost_21 : decode cX1_setCost 21 = .ok (.iconst 1, 1) := by decide +kernel
theorem dX1_setCost_22 : decode cX1_setCost 22 = .ok (.ireturn, 1) := by decide +kernel
theorem dX1_addPerson_0 : decode cX1_addPerson 0 = .ok (.aload_n 0, 1) := by decide +kernel
theorem dX1_addPerson_1 : decode cX1_addPerson 1 = .ok (.getfield 44, 3) := by decide +kernel
theorem dX1_addPerson_4 : decode cX1_addPerson 4 = .ok (.aload_n 0, 1) := by decide +kernel
theorem dX1_addPerson_5 : decode cX1_addPerson 5 = .ok (.getfield 41, 3) := by decide +kernel
theorem dX1_addPerson_8 : decode cX1_addPerson 8 = .ok (.arraylength, 1) := by decide +kernel
theorem dX1_addPerson_9 : decode cX1_addPerson 9 = .ok (.invokestatic 59, 3) := by decide +kernel
theorem dX1_addPerson_12 : decode cX1_addPerson 12 = .ok (.ifCond .ne 5, 3) := by decide +kernel
theorem dX1_addPerson_15 : decode cX1_addPerson 15 = .ok (.iconst 0, 1) := by decide +kernel
theorem dX1_addPerson_16 : decode cX1_addPerson 16 = .ok (.ireturn, 1) := by decide +kernel
theorem dX1_addPerson_17 : decode cX1_addPerson 17 = .ok (.aload_n 0, 1) := by decide +kernel
theorem dX1_addPerson_18 : decode cX1_addPerson 18 = .ok (.getfield 41, 3) := by decide +kernel
theorem dX1_addPerson_21 : decode cX1_addPerson 21 = .ok (.aload_n 0, 1) := by decide +kernel
theorem dX1_addPerson_22 : decode cX1_addPerson 22 = .ok (.getfield 44, 3) := by decide +kernel
theorem dX1_addPerson_25 : decode cX1_addPerson 25 = .ok (.iload_n 1, 1) := by decide +kernel
theorem dX1_addPerson_26 : decode cX1_addPerson 26 = .ok (.iastore, 1) := by decide +kernel
theorem dX1_addPerson_27 : decode cX1_addPerson 27 = .ok (.aload_n 0, 1) := by decide +kernel
theorem dX1_addPerson_28 : decode cX1_addPerson 28 = .ok (.dup, 1) := by decide +kernel
theorem dX1_addPerson_29 : decode cX1_addPerson 29 = .ok (.getfield 44, 3) := by decide +kernel
theorem dX1_addPerson_32 : decode cX1_addPerson 32 = .ok (.iconst 1, 1) := by decide +kernel
theorem dX1_addPerson_33 : decode cX1_addPerson 33 = .ok (.iadd, 1) := by decide +kernel
theorem dX1_addPerson_34 : decode cX1_addPerson 34 = .ok (.putfield 44, 3) := by decide +kernel
theorem dX1_addPerson_37 : decode cX1_addPerson 37 = .ok (.iconst 1, 1) := by decide +kernel
theorem dX1_addPerson_38 : decode cX1_addPerson 38 = .ok (.ireturn, 1) := by decide +kernel
theorem dX1_allCups_0 : decode cX1_allCups 0 = .ok (.iconst 0, 1) := by decide +kernel
theorem dX1_allCups_1 : decode cX1_allCups 1 = .ok (.istore_n 1, 1) := by decide +kernel
theorem dX1_allCups_2 : decode cX1_allCups 2 = .ok (.iconst 0, 1) := by decide +kernel
theorem dX1_allCups_3 : decode cX1_allCups 3 = .ok (.istore_n 2, 1) := by decide +kernel
theorem dX1_allCups_4 : decode cX1_allCups 4 = .ok (.iload_n 2, 1) := by decide +kernel
theorem dX1_allCups_5 : decode cX1_allCups 5 = .ok (.aload_n 0, 1) := by decide +kernel
theorem dX1_allCups_6 : decode cX1_allCups 6 = .ok (.getfield 18, 3) := by decide +kernel
theorem dX1_allCups_9 : decode cX1_allCups 9 = .ok (.if_icmp .ge 30, 3) := by decide +kernel
theorem dX1_allCups_12 : decode cX1_allCups 12 = .ok (.aload_n 0, 1) := by decide +kernel
theorem dX1_allCups_13 : decode cX1_allCups 13 = .ok (.iload_n 2, 1) := by decide +kernel
theorem dX1_allCups_14 : decode cX1_allCups 14 = .ok (.invokevirtual 47, 3) := by decide +kernel
theorem dX1_allCups_17 : decode cX1_allCups 17 = .ok (.astore_n 3, 1) := by decide +kernel
theorem dX1_allCups_18 : decode cX1_allCups 18 = .ok (.iload_n 1, 1) := by decide +kernel
theorem dX1_allCups_19 : decode cX1_allCups 19 = .ok (.aload_n 3, 1) := by decide +kernel
theorem dX1_allCups_20 : decode cX1_allCups 20 = .ok (.ifnonnull 7, 3) := by decide +kernel
theorem dX1_allCups_23 : decode cX1_allCups 23 = .ok (.iconst 0, 1) := by decide +kernel
theorem dX1_allCups_24 : decode cX1_allCups 24 = .ok (.goto 7, 3) := by decide +kernel
theorem dX1_allCups_27 : decode cX1_allCups 27 = .ok (.aload_n 3, 1) := by decide +kernel
theorem dX1_allCups_28 : decode cX1_allCups 28 = .ok (.getfield 82, 3) := by decide +kernel
theorem dX1_allCups_31 : decode cX1_allCups 31 = .ok (.iadd, 1) := by decide +kernel
theorem dX1_allCups_32 : decode cX1_allCups 32 = .ok (.istore_n 1, 1) := by decide +kernel
theorem dX1_allCups_33 : decode cX1_allCups 33 = .ok (.iinc 2 1, 3) := by decide +kernel
theorem dX1_allCups_36 : decode cX1_allCups 36 = .ok (.goto (-32), 3) := by decide +kernel
theorem dX1_allCups_39 : decode cX1_allCups 39 = .ok (.iload_n 1, 1) := by decide +kernel
theorem dX1_allCups_40 : decode cX1_allCups 40 = .ok (.ireturn, 1) := by decide +kernel
theorem dX1_allPoints_0 : decode cX1_allPoints 0 = .ok (.iconst 0, 1) := by decide +kernel
theorem dX1_allPoints_1 : decode cX1_allPoints 1 = .ok (.istore_n 1, 1) := by decide +kernel
theorem dX1_allPoints_2 : decode cX1_allPoints 2 = .ok (.iconst 0, 1) := by decide +kernel
theorem dX1_allPoints_3 : decode cX1_allPoints 3 = .ok (.istore_n 2, 1) := by decide +kernel
theorem dX1_allPoints_4 : decode cX1_allPoints 4 = .ok (.iload_n 2, 1) := by decide +kernel
theorem dX1_allPoints_5 : decode cX1_allPoints 5 = .ok (.aload_n 0, 1) := by decide +kernel
theorem dX1_allPoints_6 : decode cX1_allPoints 6 = .ok (.getfield 18, 3) := by decide +kernel
theorem dX1_allPoints_9 : decode cX1_allPoints 9 = .ok (.if_icmp .ge 30, 3) := by decide +kernel
theorem dX1_allPoints_12 : decode cX1_allPoints 12 = .ok (.aload_n 0, 1) := by decide +kernel
theorem dX1_allPoints_13 : decode cX1_allPoints 13 = .ok (.iload_n 2, 1) := by decide +kernel
theorem dX1_allPoints_14 : decode cX1_allPoints 14 = .ok (.invokevirtual 47, 3) := by decide +kernel
theorem dX1_allPoints_17 : decode cX1_allPoints 17 = .ok (.astore_n 3, 1) := by decide +kernel
theorem dX1_allPoints_18 : decode cX1_allPoints 18 = .ok (.iload_n 1, 1) := by decide +kernel
theorem dX1_allPoints_19 : decode cX1_allPoints 19 = .ok (.aload_n 3, 1) := by decide +kernel
theorem dX1_allPoints_20 : decode cX1_allPoints 20 = .ok (.ifnonnull 7, 3) := by decide +kernel
theorem dX1_allPoints_23 : decode cX1_allPoints 23 = .ok (.iconst 0, 1) := by decide +kernel
theorem dX1_allPoints_24 : decode cX1_allPoints 24 = .ok (.goto 7, 3) := by decide +kernel
theorem dX1_allPoints_27 : decode cX1_allPoints 27 = .ok (.aload_n 3, 1) := by decide +kernel
theorem dX1_allPoints_28 : decode cX1_allPoints 28 = .ok (.getfield 98, 3) := by decide +kernel
theorem dX1_allPoints_31 : decode cX1_allPoints 31 = .ok (.iadd, 1) := by decide +kernel
theorem dX1_allPoints_32 : decode cX1_allPoints 32 = .ok (.istore_n 1, 1) := by decide +kernel
theorem dX1_allPoints_33 : decode cX1_allPoints 33 = .ok (.iinc 2 1, 3) := by decide +kernel
theorem dX1_allPoints_36 : decode cX1_allPoints 36 = .ok (.goto (-32), 3) := by decide +kernel
theorem dX1_allPoints_39 : decode cX1_allPoints 39 = .ok (.iload_n 1, 1) := by decide +kernel
theorem dX1_allPoints_40 : decode cX1_allPoints 40 = .ok (.ireturn, 1) := by decide +kernel
theorem dX1_netOf_0 : decode cX1_netOf 0 = .ok (.iload_n 1, 1) := by decide +kernel
theorem dX1_netOf_1 : decode cX1_netOf 1 = .ok (.iconst 5, 1) := by decide +kernel
theorem dX1_netOf_2 : decode cX1_netOf 2 = .ok (.imul, 1) := by decide +kernel
theorem dX1_netOf_3 : decode cX1_netOf 3 = .ok (.iload_n 2, 1) := by decide +kernel
theorem dX1_netOf_4 : decode cX1_netOf 4 = .ok (.iadd, 1) := by decide +kernel
theorem dX1_netOf_5 : decode cX1_netOf 5 = .ok (.istore 4, 2) := by decide +kernel
theorem dX1_netOf_7 : decode cX1_netOf 7 = .ok (.iload_n 1, 1) := by decide +kernel
theorem dX1_netOf_8 : decode cX1_netOf 8 = .ok (.iconst 4, 1) := by decide +kernel
theorem dX1_netOf_9 : decode cX1_netOf 9 = .ok (.if_icmp .ne 11, 3) := by decide +kernel
theorem dX1_netOf_12 : decode cX1_netOf 12 = .ok (.aload_n 0, 1) := by decide +kernel
theorem dX1_netOf_13 : decode cX1_netOf 13 = .ok (.getfield 38, 3) := by decide +kernel
theorem dX1_netOf_16 : decode cX1_netOf 16 = .ok (.ineg, 1) := by decide +kernel
theorem dX1_netOf_17 : decode cX1_netOf 17 = .ok (.goto 11, 3) := by decide +kernel
theorem dX1_netOf_20 : decode cX1_netOf 20 = .ok (.getstatic 101, 3) := by decide +kernel
theorem dX1_netOf_23 : decode cX1_netOf 23 = .ok (.iload 4, 2) := by decide +kernel
theorem dX1_netOf_25 : decode cX1_netOf 25 = .ok (.invokestatic 94, 3) := by decide +kernel
theorem dX1_netOf_28 : decode cX1_netOf 28 = .ok (.istore 5, 2) := by decide +kernel
theorem dX1_netOf_30 : decode cX1_netOf 30 = .ok (.iload 5, 2) := by decide +kernel
theorem dX1_netOf_32 : decode cX1_netOf 32 = .ok (.getstatic 104, 3) := by decide +kernel
theorem dX1_netOf_35 : decode cX1_netOf 35 = .ok (.iload 4, 2) := by decide +kernel
theorem dX1_netOf_37 : decode cX1_netOf 37 = .ok (.invokestatic 94, 3) := by decide +kernel
theorem dX1_netOf_40 : decode cX1_netOf 40 = .ok (.getstatic 107, 3) := by decide +kernel
theorem dX1_netOf_43 : decode cX1_netOf 43 = .ok (.iload_n 3, 1) := by decide +kernel
theorem dX1_netOf_44 : decode cX1_netOf 44 = .ok (.invokestatic 94, 3) := by decide +kernel
theorem dX1_netOf_47 : decode cX1_netOf 47 = .ok (.imul, 1) := by decide +kernel
theorem dX1_netOf_48 : decode cX1_netOf 48 = .ok (.isub, 1) := by decide +kernel
theorem dX1_netOf_49 : decode cX1_netOf 49 = .ok (.ireturn, 1) := by decide +kernel
theorem dX1_netSum_0 : decode cX1_netSum 0 = .ok (.lconst 0, 1) := by decide +kernel
theorem dX1_netSum_1 : decode cX1_netSum 1 = .ok (.lstore 4, 2) := by decide +kernel
theorem dX1_netSum_3 : decode cX1_netSum 3 = .ok (.iconst 0, 1) := by decide +kernel
theorem dX1_netSum_4 : decode cX1_netSum 4 = .ok (.istore 6, 2) := by decide +kernel
theorem dX1_netSum_6 : decode cX1_netSum 6 = .ok (.iload 6, 2) := by decide +kernel
theorem dX1_netSum_8 : decode cX1_netSum 8 = .ok (.iconst 5, 1) := by decide +kernel
theorem dX1_netSum_9 : decode cX1_netSum 9 = .ok (.if_icmp .ge 32, 3) := by decide +kernel
theorem dX1_netSum_12 : decode cX1_netSum 12 = .ok (.lload 4, 2) := by decide +kernel
theorem dX1_netSum_14 : decode cX1_netSum 14 = .ok (.aload_n 0, 1) := by decide +kernel
theorem dX1_netSum_15 : decode cX1_netSum 15 = .ok (.iload_n 1, 1) := by decide +kernel
theorem dX1_netSum_16 : decode cX1_netSum 16 = .ok (.iload 6, 2) := by decide +kernel
theorem dX1_netSum_18 : decode cX1_netSum 18 = .ok (.iload_n 2, 1) := by decide +kernel
theorem dX1_netSum_19 : decode cX1_netSum 19 = .ok (.invokevirtual 110, 3) := by decide +kernel
theorem dX1_netSum_22 : decode cX1_netSum 22 = .ok (.i2l, 1) := by decide +kernel
theorem dX1_netSum_23 : decode cX1_netSum 23 = .ok (.aload_n 3, 1) := by decide +kernel
theorem dX1_netSum_24 : decode cX1_netSum 24 = .ok (.iload 6, 2) := by decide +kernel
theorem dX1_netSum_26 : decode cX1_netSum 26 = .ok (.iload 6, 2) := by decide +kernel
theorem dX1_netSum_28 : decode cX1_netSum 28 = .ok (.invokevirtual 114, 3) := by decide +kernel
theorem dX1_netSum_31 : decode cX1_netSum 31 = .ok (.lmul, 1) := by decide +kernel
theorem dX1_netSum_32 : decode cX1_netSum 32 = .ok (.ladd, 1) := by decide +kernel
theorem dX1_netSum_33 : decode cX1_netSum 33 = .ok (.lstore 4, 2) := by decide +kernel
theorem dX1_netSum_35 : decode cX1_netSum 35 = .ok (.iinc 6 1, 3) := by decide +kernel
theorem dX1_netSum_38 : decode cX1_netSum 38 = .ok (.goto (-32), 3) := by decide +kernel
theorem dX1_netSum_41 : decode cX1_netSum 41 = .ok (.lload 4, 2) := by decide +kernel
theorem dX1_netSum_43 : decode cX1_netSum 43 = .ok (.lreturn, 1) := by decide +kernel
theorem dX1_bestUse_0 : decode cX1_bestUse 0 = .ok (.iconst 0, 1) := by decide +kernel
theorem dX1_bestUse_1 : decode cX1_bestUse 1 = .ok (.istore_n 3, 1) := by decide +kernel
theorem dX1_bestUse_2 : decode cX1_bestUse 2 = .ok (.aload_n 0, 1) := by decide +kernel
theorem dX1_bestUse_3 : decode cX1_bestUse 3 = .ok (.iconst 0, 1) := by decide +kernel
theorem dX1_bestUse_4 : decode cX1_bestUse 4 = .ok (.iload_n 1, 1) := by decide +kernel
theorem dX1_bestUse_5 : decode cX1_bestUse 5 = .ok (.aload_n 2, 1) := by decide +kernel
theorem dX1_bestUse_6 : decode cX1_bestUse 6 = .ok (.invokevirtual 120, 3) := by decide +kernel
theorem dX1_bestUse_9 : decode cX1_bestUse 9 = .ok (.lstore 4, 2) := by decide +kernel
theorem dX1_bestUse_11 : decode cX1_bestUse 11 = .ok (.iconst 1, 1) := by decide +kernel
theorem dX1_bestUse_12 : decode cX1_bestUse 12 = .ok (.istore 6, 2) := by decide +kernel
theorem dX1_bestUse_14 : decode cX1_bestUse 14 = .ok (.iload 6, 2) := by decide +kernel
theorem dX1_bestUse_16 : decode cX1_bestUse 16 = .ok (.iconst 5, 1) := by decide +kernel
theorem dX1_bestUse_17 : decode cX1_bestUse 17 = .ok (.if_icmp .ge 34, 3) := by decide +kernel
theorem dX1_bestUse_20 : decode cX1_bestUse 20 = .ok (.aload_n 0, 1) := by decide +kernel
theorem dX1_bestUse_21 : decode cX1_bestUse 21 = .ok (.iload 6, 2) := by decide +kernel
theorem dX1_bestUse_23 : decode cX1_bestUse 23 = .ok (.iload_n 1, 1) := by decide +kernel
theorem dX1_bestUse_24 : decode cX1_bestUse 24 = .ok (.aload_n 2, 1) := by decide +kernel
theorem dX1_bestUse_25 : decode cX1_bestUse 25 = .ok (.invokevirtual 120, 3) := by decide +kernel
theorem dX1_bestUse_28 : decode cX1_bestUse 28 = .ok (.lstore 7, 2) := by decide +kernel
theorem dX1_bestUse_30 : decode cX1_bestUse 30 = .ok (.lload 7, 2) := by decide +kernel
theorem dX1_bestUse_32 : decode cX1_bestUse 32 = .ok (.lload 4, 2) := by decide +kernel
theorem dX1_bestUse_34 : decode cX1_bestUse 34 = .ok (.lcmp, 1) := by decide +kernel
theorem dX1_bestUse_35 : decode cX1_bestUse 35 = .ok (.ifCond .le 10, 3) := by decide +kernel
theorem dX1_bestUse_38 : decode cX1_bestUse 38 = .ok (.lload 7, 2) := by decide +kernel
theorem dX1_bestUse_40 : decode cX1_bestUse 40 = .ok (.lstore 4, 2) := by decide +kernel
theorem dX1_bestUse_42 : decode cX1_bestUse 42 = .ok (.iload 6, 2) := by decide +kernel
theorem dX1_bestUse_44 : decode cX1_bestUse 44 = .ok (.istore_n 3, 1) := by decide +kernel
theorem dX1_bestUse_45 : decode cX1_bestUse 45 = .ok (.iinc 6 1, 3) := by decide +kernel
theorem dX1_bestUse_48 : decode cX1_bestUse 48 = .ok (.goto (-34), 3) := by decide +kernel
theorem dX1_bestUse_51 : decode cX1_bestUse 51 = .ok (.iload_n 3, 1) := by decide +kernel
theorem dX1_bestUse_52 : decode cX1_bestUse 52 = .ok (.ireturn, 1) := by decide +kernel
theorem dX1_bestSum_0 : decode cX1_bestSum 0 = .ok (.aload_n 0, 1) := by decide +kernel
theorem dX1_bestSum_1 : decode cX1_bestSum 1 = .ok (.iconst 0, 1) := by decide +kernel
theorem dX1_bestSum_2 : decode cX1_bestSum 2 = .ok (.iload_n 1, 1) := by decide +kernel
theorem dX1_bestSum_3 : decode cX1_bestSum 3 = .ok (.aload_n 2, 1) := by decide +kernel
theorem dX1_bestSum_4 : decode cX1_bestSum 4 = .ok (.invokevirtual 120, 3) := by decide +kernel
theorem dX1_bestSum_7 : decode cX1_bestSum 7 = .ok (.lstore_n 3, 1) := by decide +kernel
theorem dX1_bestSum_8 : decode cX1_bestSum 8 = .ok (.iconst 1, 1) := by decide +kernel
theorem dX1_bestSum_9 : decode cX1_bestSum 9 = .ok (.istore 5, 2) := by decide +kernel
theorem dX1_bestSum_11 : decode cX1_bestSum 11 = .ok (.iload 5, 2) := by decide +kernel
theorem dX1_bestSum_13 : decode cX1_bestSum 13 = .ok (.iconst 5, 1) := by decide +kernel
theorem dX1_bestSum_14 : decode cX1_bestSum 14 = .ok (.if_icmp .ge 22, 3) := by decide +kernel
theorem dX1_bestSum_17 : decode cX1_bestSum 17 = .ok (.lload_n 3, 1) := by decide +kernel
theorem dX1_bestSum_18 : decode cX1_bestSum 18 = .ok (.aload_n 0, 1) := by decide +kernel
theorem dX1_bestSum_19 : decode cX1_bestSum 19 = .ok (.iload 5, 2) := by decide +kernel
theorem dX1_bestSum_21 : decode cX1_bestSum 21 = .ok (.iload_n 1, 1) := by decide +kernel
theorem dX1_bestSum_22 : decode cX1_bestSum 22 = .ok (.aload_n 2, 1) := by decide +kernel
theorem dX1_bestSum_23 : decode cX1_bestSum 23 = .ok (.invokevirtual 120, 3) := by decide +kernel
theorem dX1_bestSum_26 : decode cX1_bestSum 26 = .ok (.invokestatic 124, 3) := by decide +kernel
theorem dX1_bestSum_29 : decode cX1_bestSum 29 = .ok (.lstore_n 3, 1) := by decide +kernel
theorem dX1_bestSum_30 : decode cX1_bestSum 30 = .ok (.iinc 5 1, 3) := by decide +kernel
theorem dX1_bestSum_33 : decode cX1_bestSum 33 = .ok (.goto (-22), 3) := by decide +kernel
theorem dX1_bestSum_36 : decode cX1_bestSum 36 = .ok (.lload_n 3, 1) := by decide +kernel
theorem dX1_bestSum_37 : decode cX1_bestSum 37 = .ok (.lreturn, 1) := by decide +kernel
theorem dX2_init_0 : decode cX2_init 0 = .ok (.aload_n 0, 1) := by decide +kernel
theorem dX2_init_1 : decode cX2_init 1 = .ok (.invokespecial 3, 3) := by decide +kernel
theorem dX2_init_4 : decode cX2_init 4 = .ok (.aload_n 0, 1) := by decide +kernel
theorem dX2_init_5 : decode cX2_init 5 = .ok (.iconst 5, 1) := by decide +kernel
theorem dX2_init_6 : decode cX2_init 6 = .ok (.newarray .long, 2) := by decide +kernel
theorem dX2_init_8 : decode cX2_init 8 = .ok (.putfield 9, 3) := by decide +kernel
theorem dX2_init_11 : decode cX2_init 11 = .ok (.return_, 1) := by decide +kernel
theorem dX2_weigh_0 : decode cX2_weigh 0 = .ok (.iconst 0, 1) := by decide +kernel
theorem dX2_weigh_1 : decode cX2_weigh 1 = .ok (.istore_n 2, 1) := by decide +kernel
theorem dX2_weigh_2 : decode cX2_weigh 2 = .ok (.iload_n 2, 1) := by decide +kernel
theorem dX2_weigh_3 : decode cX2_weigh 3 = .ok (.aload_n 0, 1) := by decide +kernel
theorem dX2_weigh_4 : decode cX2_weigh 4 = .ok (.getfield 9, 3) := by decide +kernel
theorem dX2_weigh_7 : decode cX2_weigh 7 = .ok (.arraylength, 1) := by decide +kernel
theorem dX2_weigh_8 : decode cX2_weigh 8 = .ok (.if_icmp .ge 21, 3) := by decide +kernel
theorem dX2_weigh_11 : decode cX2_weigh 11 = .ok (.aload_n 0, 1) := by decide +kernel
theorem dX2_weigh_12 : decode cX2_weigh 12 = .ok (.getfield 9, 3) := by decide +kernel
theorem dX2_weigh_15 : decode cX2_weigh 15 = .ok (.iload_n 2, 1) := by decide +kernel
theorem dX2_weigh_16 : decode cX2_weigh 16 = .ok (.aload_n 1, 1) := by decide +kernel
theorem dX2_weigh_17 : decode cX2_weigh 17 = .ok (.iload_n 2, 1) := by decide +kernel
theorem dX2_weigh_18 : decode cX2_weigh 18 = .ok (.invokevirtual 15, 3) := by decide +kernel
theorem dX2_weigh_21 : decode cX2_weigh 21 = .ok (.i2l, 1) := by decide +kernel
theorem dX2_weigh_22 : decode cX2_weigh 22 = .ok (.lastore, 1) := by decide +kernel
theorem dX2_weigh_23 : decode cX2_weigh 23 = .ok (.iinc 2 1, 3) := by decide +kernel
theorem dX2_weigh_26 : decode cX2_weigh 26 = .ok (.goto (-24), 3) := by decide +kernel
theorem dX2_weigh_29 : decode cX2_weigh 29 = .ok (.return_, 1) := by decide +kernel
theorem dX2_narrow_0 : decode cX2_narrow 0 = .ok (.iconst 0, 1) := by decide +kernel
theorem dX2_narrow_1 : decode cX2_narrow 1 = .ok (.istore 5, 2) := by decide +kernel
theorem dX2_narrow_3 : decode cX2_narrow 3 = .ok (.iload 5, 2) := by decide +kernel
theorem dX2_narrow_5 : decode cX2_narrow 5 = .ok (.aload_n 0, 1) := by decide +kernel
theorem dX2_narrow_6 : decode cX2_narrow 6 = .ok (.getfield 9, 3) := by decide +kernel
theorem dX2_narrow_9 : decode cX2_narrow 9 = .ok (.arraylength, 1) := by decide +kernel
theorem dX2_narrow_10 : decode cX2_narrow 10 = .ok (.if_icmp .ge 51, 3) := by decide +kernel
theorem dX2_narrow_13 : decode cX2_narrow 13 = .ok (.aload_n 2, 1) := by decide +kernel
theorem dX2_narrow_14 : decode cX2_narrow 14 = .ok (.iload_n 3, 1) := by decide +kernel
theorem dX2_narrow_15 : decode cX2_narrow 15 = .ok (.iload 5, 2) := by decide +kernel
theorem dX2_narrow_17 : decode cX2_narrow 17 = .ok (.invokevirtual 21, 3) := by decide +kernel
theorem dX2_narrow_20 : decode cX2_narrow 20 = .ok (.istore 6, 2) := by decide +kernel
theorem dX2_narrow_22 : decode cX2_narrow 22 = .ok (.aload_n 0, 1) := by decide +kernel
theorem dX2_narrow_23 : decode cX2_narrow 23 = .ok (.getfield 9, 3) := by decide +kernel
theorem dX2_narrow_26 : decode cX2_narrow 26 = .ok (.iload 5, 2) := by decide +kernel
theorem dX2_narrow_28 : decode cX2_narrow 28 = .ok (.aload_n 1, 1) := by decide +kernel
theorem dX2_narrow_29 : decode cX2_narrow 29 = .ok (.iload 5, 2) := by decide +kernel
theorem dX2_narrow_31 : decode cX2_narrow 31 = .ok (.iload 5, 2) := by decide +kernel
theorem dX2_narrow_33 : decode cX2_narrow 33 = .ok (.invokevirtual 25, 3) := by decide +kernel
theorem dX2_narrow_36 : decode cX2_narrow 36 = .ok (.iload 4, 2) := by decide +kernel
theorem dX2_narrow_38 : decode cX2_narrow 38 = .ok (.iconst 1, 1) := by decide +kernel
theorem dX2_narrow_39 : decode cX2_narrow 39 = .ok (.if_icmp .ne 8, 3) := by decide +kernel
theorem dX2_narrow_42 : decode cX2_narrow 42 = .ok (.iload 6, 2) := by decide +kernel
theorem dX2_narrow_44 : decode cX2_narrow 44 = .ok (.goto 8, 3) := by decide +kernel
theorem dX2_narrow_47 : decode cX2_narrow 47 = .ok (.bipush 10, 2) := by decide +kernel
theorem dX2_narrow_49 : decode cX2_narrow 49 = .ok (.iload 6, 2) := by decide +kernel
theorem dX2_narrow_51 : decode cX2_narrow 51 = .ok (.isub, 1) := by decide +kernel
theorem dX2_narrow_52 : decode cX2_narrow 52 = .ok (.i2l, 1) := by decide +kernel
theorem dX2_narrow_53 : decode cX2_narrow 53 = .ok (.lmul, 1) := by decide +kernel
theorem dX2_narrow_54 : decode cX2_narrow 54 = .ok (.lastore, 1) := by decide +kernel
theorem dX2_narrow_55 : decode cX2_narrow 55 = .ok (.iinc 5 1, 3) := by decide +kernel
theorem dX2_narrow_58 : decode cX2_narrow 58 = .ok (.goto (-55), 3) := by decide +kernel
theorem dX2_narrow_61 : decode cX2_narrow 61 = .ok (.return_, 1) := by decide +kernel
theorem dX2_times_0 : decode cX2_times 0 = .ok (.iload_n 1, 1) := by decide +kernel
theorem dX2_times_1 : decode cX2_times 1 = .ok (.aload_n 0, 1) := by decide +kernel
theorem dX2_times_2 : decode cX2_times 2 = .ok (.getfield 9, 3) := by decide +kernel
theorem dX2_times_5 : decode cX2_times 5 = .ok (.arraylength, 1) := by decide +kernel
theorem dX2_times_6 : decode cX2_times 6 = .ok (.invokestatic 29, 3) := by decide +kernel
theorem dX2_times_9 : decode cX2_times 9 = .ok (.ifCond .eq 14, 3) := by decide +kernel
theorem dX2_times_12 : decode cX2_times 12 = .ok (.aload_n 0, 1) := by decide +kernel
theorem dX2_times_13 : decode cX2_times 13 = .ok (.getfield 9, 3) := by decide +kernel
theorem dX2_times_16 : decode cX2_times 16 = .ok (.iload_n 1, 1) := by decide +kernel
theorem dX2_times_17 : decode cX2_times 17 = .ok (.dup2, 1) := by decide +kernel
theorem dX2_times_18 : decode cX2_times 18 = .ok (.laload, 1) := by decide +kernel
theorem dX2_times_19 : decode cX2_times 19 = .ok (.iload_n 2, 1) := by decide +kernel
theorem dX2_times_20 : decode cX2_times 20 = .ok (.i2l, 1) := by decide +kernel
theorem dX2_times_21 : decode cX2_times 21 = .ok (.lmul, 1) := by decide +kernel
theorem dX2_times_22 : decode cX2_times 22 = .ok (.lastore, 1) := by decide +kernel
theorem dX2_times_23 : decode cX2_times 23 = .ok (.return_, 1) := by decide +kernel
theorem dX2_worseOf_0 : decode cX2_worseOf 0 = .ok (.iconst 0, 1) := by decide +kernel
theorem dX2_worseOf_1 : decode cX2_worseOf 1 = .ok (.istore_n 3, 1) := by decide +kernel
theorem dX2_worseOf_2 : decode cX2_worseOf 2 = .ok (.iload_n 3, 1) := by decide +kernel
theorem dX2_worseOf_3 : decode cX2_worseOf 3 = .ok (.aload_n 0, 1) := by decide +kernel
theorem dX2_worseOf_4 : decode cX2_worseOf 4 = .ok (.getfield 9, 3) := by decide +kernel
theorem dX2_worseOf_7 : decode cX2_worseOf 7 = .ok (.arraylength, 1) := by decide +kernel
theorem dX2_worseOf_8 : decode cX2_worseOf 8 = .ok (.if_icmp .ge 46, 3) := by decide +kernel
theorem dX2_worseOf_11 : decode cX2_worseOf 11 = .ok (.aload_n 0, 1) := by decide +kernel
theorem dX2_worseOf_12 : decode cX2_worseOf 12 = .ok (.getfield 9, 3) := by decide +kernel
theorem dX2_worseOf_15 : decode cX2_worseOf 15 = .ok (.iload_n 3, 1) := by decide +kernel
theorem dX2_worseOf_16 : decode cX2_worseOf 16 = .ok (.aload_n 1, 1) := by decide +kernel
theorem dX2_worseOf_17 : decode cX2_worseOf 17 = .ok (.iconst 0, 1) := by decide +kernel
theorem dX2_worseOf_18 : decode cX2_worseOf 18 = .ok (.iload_n 3, 1) := by decide +kernel
theorem dX2_worseOf_19 : decode cX2_worseOf 19 = .ok (.invokevirtual 25, 3) := by decide +kernel
theorem dX2_worseOf_22 : decode cX2_worseOf 22 = .ok (.aload_n 2, 1) := by decide +kernel
theorem dX2_worseOf_23 : decode cX2_worseOf 23 = .ok (.iconst 0, 1) := by decide +kernel
theorem dX2_worseOf_24 : decode cX2_worseOf 24 = .ok (.iload_n 3, 1) := by decide +kernel
theorem dX2_worseOf_25 : decode cX2_worseOf 25 = .ok (.invokevirtual 25, 3) := by decide +kernel
theorem dX2_worseOf_28 : decode cX2_worseOf 28 = .ok (.lmul, 1) := by decide +kernel
theorem dX2_worseOf_29 : decode cX2_worseOf 29 = .ok (.aload_n 1, 1) := by decide +kernel
theorem dX2_worseOf_30 : decode cX2_worseOf 30 = .ok (.iconst 0, 1) := by decide +kernel
theorem dX2_worseOf_31 : decode cX2_worseOf 31 = .ok (.iload_n 3, 1) := by decide +kernel
theorem dX2_worseOf_32 : decode cX2_worseOf 32 = .ok (.iconst 1, 1) := by decide +kernel
theorem dX2_worseOf_33 : decode cX2_worseOf 33 = .ok (.isub, 1) := by decide +kernel
theorem dX2_worseOf_34 : decode cX2_worseOf 34 = .ok (.invokevirtual 25, 3) := by decide +kernel
theorem dX2_worseOf_37 : decode cX2_worseOf 37 = .ok (.aload_n 2, 1) := by decide +kernel
theorem dX2_worseOf_38 : decode cX2_worseOf 38 = .ok (.iconst 0, 1) := by decide +kernel
theorem dX2_worseOf_39 : decode cX2_worseOf 39 = .ok (.iload_n 3, 1) := by decide +kernel
theorem dX2_worseOf_40 : decode cX2_worseOf 40 = .ok (.iconst 1, 1) := by decide +kernel
theorem dX2_worseOf_41 : decode cX2_worseOf 41 = .ok (.isub, 1) := by decide +kernel
theorem dX2_worseOf_42 : decode cX2_worseOf 42 = .ok (.invokevirtual 25, 3) := by decide +kernel
theorem dX2_worseOf_45 : decode cX2_worseOf 45 = .ok (.lmul, 1) := by decide +kernel
theorem dX2_worseOf_46 : decode cX2_worseOf 46 = .ok (.lsub, 1) := by decide +kernel
theorem dX2_worseOf_47 : decode cX2_worseOf 47 = .ok (.lastore, 1) := by decide +kernel
theorem dX2_worseOf_48 : decode cX2_worseOf 48 = .ok (.iinc 3 1, 3) := by decide +kernel
theorem dX2_worseOf_51 : decode cX2_worseOf 51 = .ok (.goto (-49), 3) := by decide +kernel
theorem dX2_worseOf_54 : decode cX2_worseOf 54 = .ok (.return_, 1) := by decide +kernel
theorem dX2_sumOf_0 : decode cX2_sumOf 0 = .ok (.lconst 0, 1) := by decide +kernel
theorem dX2_sumOf_1 : decode cX2_sumOf 1 = .ok (.lstore_n 3, 1) := by decide +kernel
theorem dX2_sumOf_2 : decode cX2_sumOf 2 = .ok (.iconst 0, 1) := by decide +kernel
theorem dX2_sumOf_3 : decode cX2_sumOf 3 = .ok (.iload_n 1, 1) := by decide +kernel
theorem dX2_sumOf_4 : decode cX2_sumOf 4 = .ok (.invokestatic 33, 3) := by decide +kernel
theorem dX2_sumOf_7 : decode cX2_sumOf 7 = .ok (.istore 5, 2) := by decide +kernel
theorem dX2_sumOf_9 : decode cX2_sumOf 9 = .ok (.iload 5, 2) := by decide +kernel
theorem dX2_sumOf_11 : decode cX2_sumOf 11 = .ok (.iload_n 2, 1) := by decide +kernel
theorem dX2_sumOf_12 : decode cX2_sumOf 12 = .ok (.if_icmp .gt 29, 3) := by decide +kernel
theorem dX2_sumOf_15 : decode cX2_sumOf 15 = .ok (.iload 5, 2) := by decide +kernel
theorem dX2_sumOf_17 : decode cX2_sumOf 17 = .ok (.aload_n 0, 1) := by decide +kernel
theorem dX2_sumOf_18 : decode cX2_sumOf 18 = .ok (.getfield 9, 3) := by decide +kernel
theorem dX2_sumOf_21 : decode cX2_sumOf 21 = .ok (.arraylength, 1) := by decide +kernel
theorem dX2_sumOf_22 : decode cX2_sumOf 22 = .ok (.if_icmp .ge 19, 3) := by decide +kernel
theorem dX2_sumOf_25 : decode cX2_sumOf 25 = .ok (.lload_n 3, 1) := by decide +kernel
theorem dX2_sumOf_26 : decode cX2_sumOf 26 = .ok (.aload_n 0, 1) := by decide +kernel
theorem dX2_sumOf_27 : decode cX2_sumOf 27 = .ok (.getfield 9, 3) := by decide +kernel
theorem dX2_sumOf_30 : decode cX2_sumOf 30 = .ok (.iload 5, 2) := by decide +kernel
theorem dX2_sumOf_32 : decode cX2_sumOf 32 = .ok (.laload, 1) := by decide +kernel
theorem dX2_sumOf_33 : decode cX2_sumOf 33 = .ok (.ladd, 1) := by decide +kernel
theorem dX2_sumOf_34 : decode cX2_sumOf 34 = .ok (.lstore_n 3, 1) := by decide +kernel
theorem dX2_sumOf_35 : decode cX2_sumOf 35 = .ok (.iinc 5 1, 3) := by decide +kernel
theorem dX2_sumOf_38 : decode cX2_sumOf 38 = .ok (.goto (-29), 3) := by decide +kernel
theorem dX2_sumOf_41 : decode cX2_sumOf 41 = .ok (.lload_n 3, 1) := by decide +kernel
theorem dX2_sumOf_42 : decode cX2_sumOf 42 = .ok (.lreturn, 1) := by decide +kernel
theorem dX2_sumOfAll_0 : decode cX2_sumOfAll 0 = .ok (.aload_n 0, 1) := by decide +kernel
theorem dX2_sumOfAll_1 : decode cX2_sumOfAll 1 = .ok (.iconst 0, 1) := by decide +kernel
theorem dX2_sumOfAll_2 : decode cX2_sumOfAll 2 = .ok (.iconst 4, 1) := by decide +kernel
theorem dX2_sumOfAll_3 : decode cX2_sumOfAll 3 = .ok (.invokevirtual 25, 3) := by decide +kernel
theorem dX2_sumOfAll_6 : decode cX2_sumOfAll 6 = .ok (.lreturn, 1) := by decide +kernel
theorem dX3_init_0 : decode cX3_init 0 = .ok (.aload_n 0, 1) := by decide +kernel
theorem dX3_init_1 : decode cX3_init 1 = .ok (.invokespecial 3, 3) := by decide +kernel
theorem dX3_init_4 : decode cX3_init 4 = .ok (.aload_n 0, 1) := by decide +kernel
theorem dX3_init_5 : decode cX3_init 5 = .ok (.new 9, 3) := by decide +kernel
theorem dX3_init_8 : decode cX3_init 8 = .ok (.dup, 1) := by decide +kernel
theorem dX3_init_9 : decode cX3_init 9 = .ok (.invokespecial 11, 3) := by decide +kernel
theorem dX3_init_12 : decode cX3_init 12 = .ok (.putfield 12, 3) := by decide +kernel
theorem dX3_init_15 : decode cX3_init 15 = .ok (.aload_n 0, 1) := by decide +kernel
theorem dX3_init_16 : decode cX3_init 16 = .ok (.new 9, 3) := by decide +kernel
theorem dX3_init_19 : decode cX3_init 19 = .ok (.dup, 1) := by decide +kernel
theorem dX3_init_20 : decode cX3_init 20 = .ok (.invokespecial 11, 3) := by decide +kernel
theorem dX3_init_23 : decode cX3_init 23 = .ok (.putfield 16, 3) := by decide +kernel
theorem dX3_init_26 : decode cX3_init 26 = .ok (.aload_n 0, 1) := by decide +kernel
theorem dX3_init_27 : decode cX3_init 27 = .ok (.new 9, 3) := by decide +kernel
theorem dX3_init_30 : decode cX3_init 30 = .ok (.dup, 1) := by decide +kernel
theorem dX3_init_31 : decode cX3_init 31 = .ok (.invokespecial 11, 3) := by decide +kernel
theorem dX3_init_34 : decode cX3_init 34 = .ok (.putfield 19, 3) := by decide +kernel
theorem dX3_init_37 : decode cX3_init 37 = .ok (.aload_n 0, 1) := by decide +kernel
theorem dX3_init_38 : decode cX3_init 38 = .ok (.iconst 0, 1) := by decide +kernel
theorem dX3_init_39 : decode cX3_init 39 = .ok (.putfield 22, 3) := by decide +kernel
theorem dX3_init_42 : decode cX3_init 42 = .ok (.aload_n 0, 1) := by decide +kernel
theorem dX3_init_43 : decode cX3_init 43 = .ok (.bipush 96, 2) := by decide +kernel
theorem dX3_init_45 : decode cX3_init 45 = .ok (.newarray .int, 2) := by decide +kernel
theorem dX3_init_47 : decode cX3_init 47 = .ok (.putfield 26, 3) := by decide +kernel
theorem dX3_init_50 : decode cX3_init 50 = .ok (.aload_n 0, 1) := by decide +kernel
theorem dX3_init_51 : decode cX3_init 51 = .ok (.iconst 0, 1) := by decide +kernel
theorem dX3_init_52 : decode cX3_init 52 = .ok (.putfield 30, 3) := by decide +kernel
theorem dX3_init_55 : decode cX3_init 55 = .ok (.aload_n 0, 1) := by decide +kernel
theorem dX3_init_56 : decode cX3_init 56 = .ok (.bipush 12, 2) := by decide +kernel
theorem dX3_init_58 : decode cX3_init 58 = .ok (.newarray .int, 2) := by decide +kernel
theorem dX3_init_60 : decode cX3_init 60 = .ok (.putfield 34, 3) := by decide +kernel
theorem dX3_init_63 : decode cX3_init 63 = .ok (.aload_n 0, 1) := by decide +kernel
theorem dX3_init_64 : decode cX3_init 64 = .ok (.iconst 0, 1) := by decide +kernel
theorem dX3_init_65 : decode cX3_init 65 = .ok (.putfield 37, 3) := by decide +kernel
theorem dX3_init_68 : decode cX3_init 68 = .ok (.aload_n 0, 1) := by decide +kernel
theorem dX3_init_69 : decode cX3_init 69 = .ok (.bipush 7, 2) := by decide +kernel
theorem dX3_init_71 : decode cX3_init 71 = .ok (.newarray .int, 2) := by decide +kernel
theorem dX3_init_73 : decode cX3_init 73 = .ok (.putfield 40, 3) := by decide +kernel
theorem dX3_init_76 : decode cX3_init 76 = .ok (.aload_n 0, 1) := by decide +kernel
theorem dX3_init_77 : decode cX3_init 77 = .ok (.new 43, 3) := by decide +kernel
theorem dX3_init_80 : decode cX3_init 80 = .ok (.dup, 1) := by decide +kernel
theorem dX3_init_81 : decode cX3_init 81 = .ok (.invokespecial 45, 3) := by decide +kernel
theorem dX3_init_84 : decode cX3_init 84 = .ok (.putfield 46, 3) := by decide +kernel
theorem dX3_init_87 : decode cX3_init 87 = .ok (.aload_n 0, 1) := by decide +kernel
theorem dX3_init_88 : decode cX3_init 88 = .ok (.new 43, 3) := by decide +kernel
theorem dX3_init_91 : decode cX3_init 91 = .ok (.dup, 1) := by decide +kernel
theorem dX3_init_92 : decode cX3_init 92 = .ok (.invokespecial 45, 3) := by decide +kernel
theorem dX3_init_95 : decode cX3_init 95 = .ok (.putfield 50, 3) := by decide +kernel
theorem dX3_init_98 : decode cX3_init 98 = .ok (.aload_n 0, 1) := by decide +kernel
theorem dX3_init_99 : decode cX3_init 99 = .ok (.new 53, 3) := by decide +kernel
theorem dX3_init_102 : decode cX3_init 102 = .ok (.dup, 1) := by decide +kernel
theorem dX3_init_103 : decode cX3_init 103 = .ok (.invokespecial 55, 3) := by decide +kernel
theorem dX3_init_106 : decode cX3_init 106 = .ok (.putfield 56, 3) := by decide +kernel
theorem dX3_init_109 : decode cX3_init 109 = .ok (.aload_n 0, 1) := by decide +kernel
theorem dX3_init_110 : decode cX3_init 110 = .ok (.new 53, 3) := by decide +kernel
theorem dX3_init_113 : decode cX3_init 113 = .ok (.dup, 1) := by decide +kernel
theorem dX3_init_114 : decode cX3_init 114 = .ok (.invokespecial 55, 3) := by decide +kernel
theorem dX3_init_117 : decode cX3_init 117 = .ok (.putfield 60, 3) := by decide +kernel
theorem dX3_init_120 : decode cX3_init 120 = .ok (.aload_n 0, 1) := by decide +kernel
theorem dX3_init_121 : decode cX3_init 121 = .ok (.new 53, 3) := by decide +kernel
theorem dX3_init_124 : decode cX3_init 124 = .ok (.dup, 1) := by decide +kernel
theorem dX3_init_125 : decode cX3_init 125 = .ok (.invokespecial 55, 3) := by decide +kernel
theorem dX3_init_128 : decode cX3_init 128 = .ok (.putfield 63, 3) := by decide +kernel
theorem dX3_init_131 : decode cX3_init 131 = .ok (.return_, 1) := by decide +kernel
theorem dX3_feed_0 : decode cX3_feed 0 = .ok (.iload_n 1, 1) := by decide +kernel
theorem dX3_feed_1 : decode cX3_feed 1 = .ok (.iconst 0, 1) := by decide +kernel
theorem dX3_feed_2 : decode cX3_feed 2 = .ok (.sipush 255, 3) := by decide +kernel
theorem dX3_feed_5 : decode cX3_feed 5 = .ok (.invokestatic 66, 3) := by decide +kernel
theorem dX3_feed_8 : decode cX3_feed 8 = .ok (.istore_n 2, 1) := by decide +kernel
theorem dX3_feed_9 : decode cX3_feed 9 = .ok (.iload_n 2, 1) := by decide +kernel
theorem dX3_feed_10 : decode cX3_feed 10 = .ok (.ifCond .ne 21, 3) := by decide +kernel
theorem dX3_feed_13 : decode cX3_feed 13 = .ok (.aload_n 0, 1) := by decide +kernel
theorem dX3_feed_14 : decode cX3_feed 14 = .ok (.getfield 30, 3) := by decide +kernel
theorem dX3_feed_17 : decode cX3_feed 17 = .ok (.aload_n 0, 1) := by decide +kernel
theorem dX3_feed_18 : decode cX3_feed 18 = .ok (.getfield 26, 3) := by decide +kernel
theorem dX3_feed_21 : decode cX3_feed 21 = .ok (.arraylength, 1) := by decide +kernel
theorem dX3_feed_22 : decode cX3_feed 22 = .ok (.invokestatic 70, 3) := by decide +kernel
theorem dX3_feed_25 : decode cX3_feed 25 = .ok (.ifCond .ne 6, 3) := by decide +kernel
theorem dX3_feed_28 : decode cX3_feed 28 = .ok (.bipush (-6), 2) := by decide +kernel
theorem dX3_feed_30 : decode cX3_feed 30 = .ok (.istore_n 2, 1) := by decide +kernel
theorem dX3_feed_31 : decode cX3_feed 31 = .ok (.iload_n 2, 1) := by decide +kernel
theorem dX3_feed_32 : decode cX3_feed 32 = .ok (.ifCond .eq 9, 3) := by decide +kernel
theorem dX3_feed_35 : decode cX3_feed 35 = .ok (.aload_n 0, 1) := by decide +kernel
theorem dX3_feed_36 : decode cX3_feed 36 = .ok (.iload_n 2, 1) := by decide +kernel
theorem dX3_feed_37 : decode cX3_feed 37 = .ok (.invokevirtual 74, 3) := by decide +kernel
theorem dX3_feed_40 : decode cX3_feed 40 = .ok (.ireturn, 1) := by decide +kernel
theorem dX3_feed_41 : decode cX3_feed 41 = .ok (.aload_n 0, 1) := by decide +kernel
theorem dX3_feed_42 : decode cX3_feed 42 = .ok (.getfield 26, 3) := by decide +kernel
theorem dX3_feed_45 : decode cX3_feed 45 = .ok (.aload_n 0, 1) := by decide +kernel
theorem dX3_feed_46 : decode cX3_feed 46 = .ok (.getfield 30, 3) := by decide +kernel
theorem dX3_feed_49 : decode cX3_feed 49 = .ok (.iload_n 1, 1) := by decide +kernel
theorem dX3_feed_50 : decode cX3_feed 50 = .ok (.iastore, 1) := by decide +kernel
theorem dX3_feed_51 : decode cX3_feed 51 = .ok (.aload_n 0, 1) := by decide +kernel
theorem dX3_feed_52 : decode cX3_feed 52 = .ok (.dup, 1) := by decide +kernel
theorem dX3_feed_53 : decode cX3_feed 53 = .ok (.getfield 30, 3) := by decide +kernel
theorem dX3_feed_56 : decode cX3_feed 56 = .ok (.iconst 1, 1) := by decide +kernel
theorem dX3_feed_57 : decode cX3_feed 57 = .ok (.iadd, 1) := by decide +kernel
theorem dX3_feed_58 : decode cX3_feed 58 = .ok (.putfield 30, 3) := by decide +kernel
theorem dX3_feed_61 : decode cX3_feed 61 = .ok (.aload_n 0, 1) := by decide +kernel
theorem dX3_feed_62 : decode cX3_feed 62 = .ok (.getfield 30, 3) := by decide +kernel
theorem dX3_feed_65 : decode cX3_feed 65 = .ok (.ireturn, 1) := by decide +kernel
theorem dX3_kitchen_0 : decode cX3_kitchen 0 = .ok (.aload_n 0, 1) := by decide +kernel
theorem dX3_kitchen_1 : decode cX3_kitchen 1 = .ok (.getfield 30, 3) := by decide +kernel
theorem dX3_kitchen_4 : decode cX3_kitchen 4 = .ok (.istore_n 1, 1) := by decide +kernel
theorem dX3_kitchen_5 : decode cX3_kitchen 5 = .ok (.aload_n 0, 1) := by decide +kernel
theorem dX3_kitchen_6 : decode cX3_kitchen 6 = .ok (.iload_n 1, 1) := by decide +kernel
theorem dX3_kitchen_7 : decode cX3_kitchen 7 = .ok (.invokevirtual 78, 3) := by decide +kernel
theorem dX3_kitchen_10 : decode cX3_kitchen 10 = .ok (.istore_n 2, 1) := by decide +kernel
theorem dX3_kitchen_11 : decode cX3_kitchen 11 = .ok (.aload_n 0, 1) := by decide +kernel
theorem dX3_kitchen_12 : decode cX3_kitchen 12 = .ok (.iconst 0, 1) := by decide +kernel
theorem dX3_kitchen_13 : decode cX3_kitchen 13 = .ok (.putfield 30, 3) := by decide +kernel
theorem dX3_kitchen_16 : decode cX3_kitchen 16 = .ok (.iload_n 2, 1) := by decide +kernel
theorem dX3_kitchen_17 : decode cX3_kitchen 17 = .ok (.ifCond .lt 9, 3) := by decide +kernel
theorem dX3_kitchen_20 : decode cX3_kitchen 20 = .ok (.sipush (-1000), 3) := by decide +kernel
theorem dX3_kitchen_23 : decode cX3_kitchen 23 = .ok (.iload_n 2, 1) := by decide +kernel
theorem dX3_kitchen_24 : decode cX3_kitchen 24 = .ok (.isub, 1) := by decide +kernel
theorem dX3_kitchen_25 : decode cX3_kitchen 25 = .ok (.ireturn, 1) := by decide +kernel
theorem dX3_kitchen_26 : decode cX3_kitchen 26 = .ok (.aload_n 0, 1) := by decide +kernel
theorem dX3_kitchen_27 : decode cX3_kitchen 27 = .ok (.getfield 16, 3) := by decide +kernel
theorem dX3_kitchen_30 : decode cX3_kitchen 30 = .ok (.aload_n 0, 1) := by decide +kernel
theorem dX3_kitchen_31 : decode cX3_kitchen 31 = .ok (.getfield 12, 3) := by decide +kernel
theorem dX3_kitchen_34 : decode cX3_kitchen 34 = .ok (.invokevirtual 81, 3) := by decide +kernel
theorem dX3_kitchen_37 : decode cX3_kitchen 37 = .ok (.iconst 0, 1) := by decide +kernel
theorem dX3_kitchen_38 : decode cX3_kitchen 38 = .ok (.istore_n 3, 1) := by decide +kernel
theorem dX3_kitchen_39 : decode cX3_kitchen 39 = .ok (.iconst 0, 1) := by decide +kernel
theorem dX3_kitchen_40 : decode cX3_kitchen 40 = .ok (.istore 4, 2) := by decide +kernel
theorem dX3_kitchen_42 : decode cX3_kitchen 42 = .ok (.iload 4, 2) := by decide +kernel
theorem dX3_kitchen_44 : decode cX3_kitchen 44 = .ok (.iload_n 1, 1) := by decide +kernel
theorem dX3_kitchen_45 : decode cX3_kitchen 45 = .ok (.if_icmp .ge 45, 3) := by decide +kernel
theorem dX3_kitchen_48 : decode cX3_kitchen 48 = .ok (.aload_n 0, 1) := by decide +kernel
theorem dX3_kitchen_49 : decode cX3_kitchen 49 = .ok (.iload 4, 2) := by decide +kernel
theorem dX3_kitchen_51 : decode cX3_kitchen 51 = .ok (.invokevirtual 85, 3) := by decide +kernel
theorem dX3_kitchen_54 : decode cX3_kitchen 54 = .ok (.ifCond .ne 10, 3) := by decide +kernel
theorem dX3_kitchen_57 : decode cX3_kitchen 57 = .ok (.sipush (-2000), 3) := by decide +kernel
theorem dX3_kitchen_60 : decode cX3_kitchen 60 = .ok (.iload 4, 2) := by decide +kernel
theorem dX3_kitchen_62 : decode cX3_kitchen 62 = .ok (.isub, 1) := by decide +kernel
theorem dX3_kitchen_63 : decode cX3_kitchen 63 = .ok (.ireturn, 1) := by decide +kernel
theorem dX3_kitchen_64 : decode cX3_kitchen 64 = .ok (.iinc 3 1, 3) := by decide +kernel
theorem dX3_kitchen_67 : decode cX3_kitchen 67 = .ok (.iload 4, 2) := by decide +kernel
theorem dX3_kitchen_69 : decode cX3_kitchen 69 = .ok (.iconst 0, 1) := by decide +kernel
theorem dX3_kitchen_70 : decode cX3_kitchen 70 = .ok (.aload_n 0, 1) := by decide +kernel
theorem dX3_kitchen_71 : decode cX3_kitchen 71 = .ok (.iload 4, 2) := by decide +kernel
theorem dX3_kitchen_73 : decode cX3_kitchen 73 = .ok (.invokevirtual 89, 3) := by decide +kernel
theorem dX3_kitchen_76 : decode cX3_kitchen 76 = .ok (.invokestatic 92, 3) := by decide +kernel
theorem dX3_kitchen_79 : decode cX3_kitchen 79 = .ok (.invokestatic 95, 3) := by decide +kernel
theorem dX3_kitchen_82 : decode cX3_kitchen 82 = .ok (.iconst 2, 1) := by decide +kernel
theorem dX3_kitchen_83 : decode cX3_kitchen 83 = .ok (.iadd, 1) := by decide +kernel
theorem dX3_kitchen_84 : decode cX3_kitchen 84 = .ok (.iadd, 1) := by decide +kernel
theorem dX3_kitchen_85 : decode cX3_kitchen 85 = .ok (.istore 4, 2) := by decide +kernel
theorem dX3_kitchen_87 : decode cX3_kitchen 87 = .ok (.goto (-45), 3) := by decide +kernel
theorem dX3_kitchen_90 : decode cX3_kitchen 90 = .ok (.aload_n 0, 1) := by decide +kernel
theorem dX3_kitchen_91 : decode cX3_kitchen 91 = .ok (.getfield 12, 3) := by decide +kernel
theorem dX3_kitchen_94 : decode cX3_kitchen 94 = .ok (.aload_n 0, 1) := by decide +kernel
theorem dX3_kitchen_95 : decode cX3_kitchen 95 = .ok (.getfield 16, 3) := by decide +kernel
theorem dX3_kitchen_98 : decode cX3_kitchen 98 = .ok (.invokevirtual 81, 3) := by decide +kernel
theorem dX3_kitchen_101 : decode cX3_kitchen 101 = .ok (.iload_n 3, 1) := by decide +kernel
theorem dX3_kitchen_102 : decode cX3_kitchen 102 = .ok (.ireturn, 1) := by decide +kernel
theorem dX3_firstBadLetter_0 : decode cX3_firstBadLetter 0 = .ok (.iconst 0, 1) := by decide +kernel
theorem dX3_firstBadLetter_1 : decode cX3_firstBadLetter 1 = .ok (.istore_n 2, 1) := by decide +kernel
theorem dX3_firstBadLetter_2 : decode cX3_firstBadLetter 2 = .ok (.iload_n 2, 1) := by decide +kernel
theorem dX3_firstBadLetter_3 : decode cX3_firstBadLetter 3 = .ok (.iload_n 1, 1) := by decide +kernel
theorem dX3_firstBadLetter_4 : decode cX3_firstBadLetter 4 = .ok (.if_icmp .ge 80, 3) := by decide +kernel
theorem dX3_firstBadLetter_7 : decode cX3_firstBadLetter 7 = .ok (.aload_n 0, 1) := by decide +kernel
theorem dX3_firstBadLetter_8 : decode cX3_firstBadLetter 8 = .ok (.iload_n 2, 1) := by decide +kernel
theorem dX3_firstBadLetter_9 : decode cX3_firstBadLetter 9 = .ok (.invokevirtual 89, 3) := by decide +kernel
theorem dX3_firstBadLetter_12 : decode cX3_firstBadLetter 12 = .ok (.invokestatic 92, 3) := by decide +kernel
theorem dX3_firstBadLetter_15 : decode cX3_firstBadLetter 15 = .ok (.istore_n 3, 1) := by decide +kernel
theorem dX3_firstBadLetter_16 : decode cX3_firstBadLetter 16 = .ok (.iload_n 3, 1) := by decide +kernel
theorem dX3_firstBadLetter_17 : decode cX3_firstBadLetter 17 = .ok (.ifCond .ge 5, 3) := by decide +kernel
theorem dX3_firstBadLetter_20 : decode cX3_firstBadLetter 20 = .ok (.iload_n 2, 1) := by decide +kernel
theorem dX3_firstBadLetter_21 : decode cX3_firstBadLetter 21 = .ok (.ireturn, 1) := by decide +kernel
theorem dX3_firstBadLetter_22 : decode cX3_firstBadLetter 22 = .ok (.iconst 0, 1) := by decide +kernel
theorem dX3_firstBadLetter_23 : decode cX3_firstBadLetter 23 = .ok (.istore 4, 2) := by decide +kernel
theorem dX3_firstBadLetter_25 : decode cX3_firstBadLetter 25 = .ok (.iload 4, 2) := by decide +kernel
theorem dX3_firstBadLetter_27 : decode cX3_firstBadLetter 27 = .ok (.iload_n 3, 1) := by decide +kernel
theorem dX3_firstBadLetter_28 : decode cX3_firstBadLetter 28 = .ok (.if_icmp .ge 30, 3) := by decide +kernel
theorem dX3_firstBadLetter_31 : decode cX3_firstBadLetter 31 = .ok (.iinc 2 1, 3) := by decide +kernel
theorem dX3_firstBadLetter_34 : decode cX3_firstBadLetter 34 = .ok (.iload_n 2, 1) := by decide +kernel
theorem dX3_firstBadLetter_35 : decode cX3_firstBadLetter 35 = .ok (.iload_n 1, 1) := by decide +kernel
theorem dX3_firstBadLetter_36 : decode cX3_firstBadLetter 36 = .ok (.if_icmp .ge 14, 3) := by decide +kernel
theorem dX3_firstBadLetter_39 : decode cX3_firstBadLetter 39 = .ok (.aload_n 0, 1) := by decide +kernel
theorem dX3_firstBadLetter_40 : decode cX3_firstBadLetter 40 = .ok (.iload_n 2, 1) := by decide +kernel
theorem dX3_firstBadLetter_41 : decode cX3_firstBadLetter 41 = .ok (.invokevirtual 89, 3) := by decide +kernel
theorem dX3_firstBadLetter_44 : decode cX3_firstBadLetter 44 = .ok (.invokestatic 101, 3) := by decide +kernel
theorem dX3_firstBadLetter_47 : decode cX3_firstBadLetter 47 = .ok (.ifCond .ne 5, 3) := by decide +kernel
theorem dX3_firstBadLetter_50 : decode cX3_firstBadLetter 50 = .ok (.iload_n 2, 1) := by decide +kernel
theorem dX3_firstBadLetter_51 : decode cX3_firstBadLetter 51 = .ok (.ireturn, 1) := by decide +kernel
theorem dX3_firstBadLetter_52 : decode cX3_firstBadLetter 52 = .ok (.iinc 4 1, 3) := by decide +kernel
theorem dX3_firstBadLetter_55 : decode cX3_firstBadLetter 55 = .ok (.goto (-30), 3) := by decide +kernel
theorem dX3_firstBadLetter_58 : decode cX3_firstBadLetter 58 = .ok (.iinc 2 1, 3) := by decide +kernel
theorem dX3_firstBadLetter_61 : decode cX3_firstBadLetter 61 = .ok (.iload_n 2, 1) := by decide +kernel
theorem dX3_firstBadLetter_62 : decode cX3_firstBadLetter 62 = .ok (.iload_n 1, 1) := by decide +kernel
theorem dX3_firstBadLetter_63 : decode cX3_firstBadLetter 63 = .ok (.if_icmp .ge 13, 3) := by decide +kernel
theorem dX3_firstBadLetter_66 : decode cX3_firstBadLetter 66 = .ok (.aload_n 0, 1) := by decide +kernel
theorem dX3_firstBadLetter_67 : decode cX3_firstBadLetter 67 = .ok (.iload_n 2, 1) := by decide +kernel
theorem dX3_firstBadLetter_68 : decode cX3_firstBadLetter 68 = .ok (.invokevirtual 89, 3) := by decide +kernel
theorem dX3_firstBadLetter_71 : decode cX3_firstBadLetter 71 = .ok (.bipush 59, 2) := by decide +kernel
theorem dX3_firstBadLetter_73 : decode cX3_firstBadLetter 73 = .ok (.if_icmp .eq 5, 3) := by decide +kernel
theorem dX3_firstBadLetter_76 : decode cX3_firstBadLetter 76 = .ok (.iload_n 2, 1) := by decide +kernel
theorem dX3_firstBadLetter_77 : decode cX3_firstBadLetter 77 = .ok (.ireturn, 1) := by decide +kernel
theorem dX3_firstBadLetter_78 : decode cX3_firstBadLetter 78 = .ok (.iinc 2 1, 3) := by decide +kernel
theorem dX3_firstBadLetter_81 : decode cX3_firstBadLetter 81 = .ok (.goto (-79), 3) := by decide +kernel
theorem dX3_firstBadLetter_84 : decode cX3_firstBadLetter 84 = .ok (.iload_n 1, 1) := by decide +kernel
theorem dX3_firstBadLetter_85 : decode cX3_firstBadLetter 85 = .ok (.ifCond .ne 7, 3) := by decide +kernel
theorem dX3_firstBadLetter_88 : decode cX3_firstBadLetter 88 = .ok (.iconst 0, 1) := by decide +kernel
theorem dX3_firstBadLetter_89 : decode cX3_firstBadLetter 89 = .ok (.goto 4, 3) := by decide +kernel
theorem dX3_firstBadLetter_92 : decode cX3_firstBadLetter 92 = .ok (.iconst (-1), 1) := by decide +kernel
theorem dX3_firstBadLetter_93 : decode cX3_firstBadLetter 93 = .ok (.ireturn, 1) := by decide +kernel
theorem dX3_digitsOf_0 : decode cX3_digitsOf 0 = .ok (.iload_n 0, 1) := by decide +kernel
theorem dX3_digitsOf_1 : decode cX3_digitsOf 1 = .ok (.tableswitch 108 99 119 #[104, 108, 108, 108, 108, 106, 108, 99, 108, 108, 108, 108, 108, 106, 108, 108, 104, 104, 106, 108, 102], 99) := by decide +kernel
theorem dX3_digitsOf_100 : decode cX3_digitsOf 100 = .ok (.bipush 6, 2) := by decide +kernel
theorem dX3_digitsOf_102 : decode cX3_digitsOf 102 = .ok (.ireturn, 1) := by decide +kernel
theorem dX3_digitsOf_103 : decode cX3_digitsOf 103 = .ok (.iconst 3, 1) := by decide +kernel
theorem dX3_digitsOf_104 : decode cX3_digitsOf 104 = .ok (.ireturn, 1) := by decide +kernel
theorem dX3_digitsOf_105 : decode cX3_digitsOf 105 = .ok (.iconst 2, 1) := by decide +kernel
theorem dX3_digitsOf_106 : decode cX3_digitsOf 106 = .ok (.ireturn, 1) := by decide +kernel
theorem dX3_digitsOf_107 : decode cX3_digitsOf 107 = .ok (.iconst 1, 1) := by decide +kernel
theorem dX3_digitsOf_108 : decode cX3_digitsOf 108 = .ok (.ireturn, 1) := by decide +kernel
theorem dX3_digitsOf_109 : decode cX3_digitsOf 109 = .ok (.iconst (-1), 1) := by decide +kernel
theorem dX3_digitsOf_110 : decode cX3_digitsOf 110 = .ok (.ireturn, 1) := by decide +kernel
theorem dX3_statementComes_0 : decode cX3_statementComes 0 = .ok (.aload_n 0, 1) := by decide +kernel
theorem dX3_statementComes_1 : decode cX3_statementComes 1 = .ok (.iload_n 1, 1) := by decide +kernel
theorem dX3_statementComes_2 : decode cX3_statementComes 2 = .ok (.iconst 1, 1) := by decide +kernel
theorem dX3_statementComes_3 : decode cX3_statementComes 3 = .ok (.iadd, 1) := by decide +kernel
theorem dX3_statementComes_4 : decode cX3_statementComes 4 = .ok (.invokevirtual 104, 3) := by decide +kernel
theorem dX3_statementComes_7 : decode cX3_statementComes 7 = .ok (.istore_n 2, 1) := by decide +kernel
theorem dX3_statementComes_8 : decode cX3_statementComes 8 = .ok (.aload_n 0, 1) := by decide +kernel
theorem dX3_statementComes_9 : decode cX3_statementComes 9 = .ok (.iload_n 1, 1) := by decide +kernel
theorem dX3_statementComes_10 : decode cX3_statementComes 10 = .ok (.iconst 2, 1) := by decide +kernel
theorem dX3_statementComes_11 : decode cX3_statementComes 11 = .ok (.iadd, 1) := by decide +kernel
theorem dX3_statementComes_12 : decode cX3_statementComes 12 = .ok (.invokevirtual 104, 3) := by decide +kernel
theorem dX3_statementComes_15 : decode cX3_statementComes 15 = .ok (.istore_n 3, 1) := by decide +kernel
theorem dX3_statementComes_16 : decode cX3_statementComes 16 = .ok (.aload_n 0, 1) := by decide +kernel
theorem dX3_statementComes_17 : decode cX3_statementComes 17 = .ok (.iload_n 1, 1) := by decide +kernel
theorem dX3_statementComes_18 : decode cX3_statementComes 18 = .ok (.invokevirtual 89, 3) := by decide +kernel
theorem dX3_statementComes_21 : decode cX3_statementComes 21 = .ok (.tableswitch 214 99 119 #[134, 214, 214, 214, 214, 186, 214, 99, 214, 214, 214, 214, 214, 176, 214, 214, 195, 166, 205, 214, 150], 99) := by decide +kernel
theorem dX3_statementComes_120 : decode cX3_statementComes 120 = .ok (.aload_n 0, 1) := by decide +kernel
theorem dX3_statementComes_121 : decode cX3_statementComes 121 = .ok (.getfield 16, 3) := by decide +kernel
theorem dX3_statementComes_124 : decode cX3_statementComes 124 = .ok (.iload_n 2, 1) := by decide +kernel
theorem dX3_statementComes_125 : decode cX3_statementComes 125 = .ok (.iload_n 3, 1) := by decide +kernel
theorem dX3_statementComes_126 : decode cX3_statementComes 126 = .ok (.aload_n 0, 1) := by decide +kernel
theorem dX3_statementComes_127 : decode cX3_statementComes 127 = .ok (.iload_n 1, 1) := by decide +kernel
theorem dX3_statementComes_128 : decode cX3_statementComes 128 = .ok (.iconst 3, 1) := by decide +kernel
theorem dX3_statementComes_129 : decode cX3_statementComes 129 = .ok (.iadd, 1) := by decide +kernel
theorem dX3_statementComes_130 : decode cX3_statementComes 130 = .ok (.invokevirtual 104, 3) := by decide +kernel
theorem dX3_statementComes_133 : decode cX3_statementComes 133 = .ok (.aload_n 0, 1) := by decide +kernel
theorem dX3_statementComes_134 : decode cX3_statementComes 134 = .ok (.iload_n 1, 1) := by decide +kernel
theorem dX3_statementComes_135 : decode cX3_statementComes 135 = .ok (.iconst 4, 1) := by decide +kernel
theorem dX3_statementComes_136 : decode cX3_statementComes 136 = .ok (.iadd, 1) := by decide +kernel
theorem dX3_statementComes_137 : decode cX3_statementComes 137 = .ok (.invokevirtual 104, 3) := by decide +kernel
theorem dX3_statementComes_140 : decode cX3_statementComes 140 = .ok (.bipush 100, 2) := by decide +kernel
theorem dX3_statementComes_142 : decode cX3_statementComes 142 = .ok (.imul, 1) := by decide +kernel
theorem dX3_statementComes_143 : decode cX3_statementComes 143 = .ok (.aload_n 0, 1) := by decide +kernel
theorem dX3_statementComes_144 : decode cX3_statementComes 144 = .ok (.iload_n 1, 1) := by decide +kernel
theorem dX3_statementComes_145 : decode cX3_statementComes 145 = .ok (.iconst 5, 1) := by decide +kernel
theorem dX3_statementComes_146 : decode cX3_statementComes 146 = .ok (.iadd, 1) := by decide +kernel
theorem dX3_statementComes_147 : decode cX3_statementComes 147 = .ok (.invokevirtual 107, 3) := by decide +kernel
theorem dX3_statementComes_150 : decode cX3_statementComes 150 = .ok (.iadd, 1) := by decide +kernel
theorem dX3_statementComes_151 : decode cX3_statementComes 151 = .ok (.invokevirtual 110, 3) := by decide +kernel
theorem dX3_statementComes_154 : decode cX3_statementComes 154 = .ok (.ireturn, 1) := by decide +kernel
theorem dX3_statementComes_155 : decode cX3_statementComes 155 = .ok (.aload_n 0, 1) := by decide +kernel
theorem dX3_statementComes_156 : decode cX3_statementComes 156 = .ok (.getfield 16, 3) := by decide +kernel
theorem dX3_statementComes_159 : decode cX3_statementComes 159 = .ok (.aload_n 0, 1) := by decide +kernel
theorem dX3_statementComes_160 : decode cX3_statementComes 160 = .ok (.iload_n 1, 1) := by decide +kernel
theorem dX3_statementComes_161 : decode cX3_statementComes 161 = .ok (.iconst 1, 1) := by decide +kernel
theorem dX3_statementComes_162 : decode cX3_statementComes 162 = .ok (.iadd, 1) := by decide +kernel
theorem dX3_statementComes_163 : decode cX3_statementComes 163 = .ok (.invokevirtual 107, 3) := by decide +kernel
theorem dX3_statementComes_166 : decode cX3_statementComes 166 = .ok (.invokevirtual 114, 3) := by decide +kernel
theorem dX3_statementComes_169 : decode cX3_statementComes 169 = .ok (.iconst 1, 1) := by decide +kernel
theorem dX3_statementComes_170 : decode cX3_statementComes 170 = .ok (.ireturn, 1) := by decide +kernel
theorem dX3_statementComes_171 : decode cX3_statementComes 171 = .ok (.aload_n 0, 1) := by decide +kernel
theorem dX3_statementComes_172 : decode cX3_statementComes 172 = .ok (.getfield 16, 3) := by decide +kernel
theorem dX3_statementComes_175 : decode cX3_statementComes 175 = .ok (.iload_n 2, 1) := by decide +kernel
theorem dX3_statementComes_176 : decode cX3_statementComes 176 = .ok (.aload_n 0, 1) := by decide +kernel
theorem dX3_statementComes_177 : decode cX3_statementComes 177 = .ok (.iload_n 1, 1) := by decide +kernel
theorem dX3_statementComes_178 : decode cX3_statementComes 178 = .ok (.iconst 2, 1) := by decide +kernel
theorem dX3_statementComes_179 : decode cX3_statementComes 179 = .ok (.iadd, 1) := by decide +kernel
theorem dX3_statementComes_180 : decode cX3_statementComes 180 = .ok (.invokevirtual 107, 3) := by decide +kernel
theorem dX3_statementComes_183 : decode cX3_statementComes 183 = .ok (.invokevirtual 118, 3) := by decide +kernel
theorem dX3_statementComes_186 : decode cX3_statementComes 186 = .ok (.ireturn, 1) := by decide +kernel
theorem dX3_statementComes_187 : decode cX3_statementComes 187 = .ok (.aload_n 0, 1) := by decide +kernel
theorem dX3_statementComes_188 : decode cX3_statementComes 188 = .ok (.getfield 16, 3) := by decide +kernel
theorem dX3_statementComes_191 : decode cX3_statementComes 191 = .ok (.iload_n 2, 1) := by decide +kernel
theorem dX3_statementComes_192 : decode cX3_statementComes 192 = .ok (.iload_n 3, 1) := by decide +kernel
theorem dX3_statementComes_193 : decode cX3_statementComes 193 = .ok (.invokevirtual 121, 3) := by decide +kernel
theorem dX3_statementComes_196 : decode cX3_statementComes 196 = .ok (.ireturn, 1) := by decide +kernel
theorem dX3_statementComes_197 : decode cX3_statementComes 197 = .ok (.aload_n 0, 1) := by decide +kernel
theorem dX3_statementComes_198 : decode cX3_statementComes 198 = .ok (.getfield 16, 3) := by decide +kernel
theorem dX3_statementComes_201 : decode cX3_statementComes 201 = .ok (.iload_n 2, 1) := by decide +kernel
theorem dX3_statementComes_202 : decode cX3_statementComes 202 = .ok (.putfield 124, 3) := by decide +kernel
theorem dX3_statementComes_205 : decode cX3_statementComes 205 = .ok (.iconst 1, 1) := by decide +kernel
theorem dX3_statementComes_206 : decode cX3_statementComes 206 = .ok (.ireturn, 1) := by decide +kernel
theorem dX3_statementComes_207 : decode cX3_statementComes 207 = .ok (.aload_n 0, 1) := by decide +kernel
theorem dX3_statementComes_208 : decode cX3_statementComes 208 = .ok (.getfield 16, 3) := by decide +kernel
theorem dX3_statementComes_211 : decode cX3_statementComes 211 = .ok (.iload_n 2, 1) := by decide +kernel
theorem dX3_statementComes_212 : decode cX3_statementComes 212 = .ok (.invokevirtual 127, 3) := by decide +kernel
theorem dX3_statementComes_215 : decode cX3_statementComes 215 = .ok (.ireturn, 1) := by decide +kernel
theorem dX3_statementComes_216 : decode cX3_statementComes 216 = .ok (.aload_n 0, 1) := by decide +kernel
theorem dX3_statementComes_217 : decode cX3_statementComes 217 = .ok (.getfield 16, 3) := by decide +kernel
theorem dX3_statementComes_220 : decode cX3_statementComes 220 = .ok (.iload_n 2, 1) := by decide +kernel
theorem dX3_statementComes_221 : decode cX3_statementComes 221 = .ok (.iload_n 3, 1) := by decide +kernel
theorem dX3_statementComes_222 : decode cX3_statementComes 222 = .ok (.invokevirtual 130, 3) := by decide +kernel
theorem dX3_statementComes_225 : decode cX3_statementComes 225 = .ok (.ireturn, 1) := by decide +kernel
theorem dX3_statementComes_226 : decode cX3_statementComes 226 = .ok (.aload_n 0, 1) := by decide +kernel
theorem dX3_statementComes_227 : decode cX3_statementComes 227 = .ok (.getfield 16, 3) := by decide +kernel
theorem dX3_statementComes_230 : decode cX3_statementComes 230 = .ok (.iload_n 2, 1) := by decide +kernel
theorem dX3_statementComes_231 : decode cX3_statementComes 231 = .ok (.invokevirtual 133, 3) := by decide +kernel
theorem dX3_statementComes_234 : decode cX3_statementComes 234 = .ok (.ireturn, 1) := by decide +kernel
theorem dX3_statementComes_235 : decode cX3_statementComes 235 = .ok (.iconst 0, 1) := by decide +kernel
theorem dX3_statementComes_236 : decode cX3_statementComes 236 = .ok (.ireturn, 1) := by decide +kernel
theorem dX3_letterAt_0 : decode cX3_letterAt 0 = .ok (.aload_n 0, 1) := by decide +kernel
theorem dX3_letterAt_1 : decode cX3_letterAt 1 = .ok (.getfield 26, 3) := by decide +kernel
theorem dX3_letterAt_4 : decode cX3_letterAt 4 = .ok (.iload_n 1, 1) := by decide +kernel
theorem dX3_letterAt_5 : decode cX3_letterAt 5 = .ok (.invokestatic 136, 3) := by decide +kernel
theorem dX3_letterAt_8 : decode cX3_letterAt 8 = .ok (.ireturn, 1) := by decide +kernel
theorem dX3_digitAt_0 : decode cX3_digitAt 0 = .ok (.aload_n 0, 1) := by decide +kernel
theorem dX3_digitAt_1 : decode cX3_digitAt 1 = .ok (.iload_n 1, 1) := by decide +kernel
theorem dX3_digitAt_2 : decode cX3_digitAt 2 = .ok (.invokevirtual 89, 3) := by decide +kernel
theorem dX3_digitAt_5 : decode cX3_digitAt 5 = .ok (.bipush 48, 2) := by decide +kernel
theorem dX3_digitAt_7 : decode cX3_digitAt 7 = .ok (.isub, 1) := by decide +kernel
theorem dX3_digitAt_8 : decode cX3_digitAt 8 = .ok (.ireturn, 1) := by decide +kernel
theorem dX3_twoDigitsAt_0 : decode cX3_twoDigitsAt 0 = .ok (.bipush 10, 2) := by decide +kernel
theorem dX3_twoDigitsAt_2 : decode cX3_twoDigitsAt 2 = .ok (.aload_n 0, 1) := by decide +kernel
theorem dX3_twoDigitsAt_3 : decode cX3_twoDigitsAt 3 = .ok (.iload_n 1, 1) := by decide +kernel
theorem dX3_twoDigitsAt_4 : decode cX3_twoDigitsAt 4 = .ok (.invokevirtual 104, 3) := by decide +kernel
theorem dX3_twoDigitsAt_7 : decode cX3_twoDigitsAt 7 = .ok (.imul, 1) := by decide +kernel
theorem dX3_twoDigitsAt_8 : decode cX3_twoDigitsAt 8 = .ok (.aload_n 0, 1) := by decide +kernel
theorem dX3_twoDigitsAt_9 : decode cX3_twoDigitsAt 9 = .ok (.iload_n 1, 1) := by decide +kernel
theorem dX3_twoDigitsAt_10 : decode cX3_twoDigitsAt 10 = .ok (.iconst 1, 1) := by decide +kernel
theorem dX3_twoDigitsAt_11 : decode cX3_twoDigitsAt 11 = .ok (.iadd, 1) := by decide +kernel
theorem dX3_twoDigitsAt_12 : decode cX3_twoDigitsAt 12 = .ok (.invokevirtual 104, 3) := by decide +kernel
theorem dX3_twoDigitsAt_15 : decode cX3_twoDigitsAt 15 = .ok (.iadd, 1) := by decide +kernel
theorem dX3_twoDigitsAt_16 : decode cX3_twoDigitsAt 16 = .ok (.ireturn, 1) := by decide +kernel
theorem dX3_isDigit_0 : decode cX3_isDigit 0 = .ok (.iload_n 0, 1) := by decide +kernel
theorem dX3_isDigit_1 : decode cX3_isDigit 1 = .ok (.bipush 48, 2) := by decide +kernel
theorem dX3_isDigit_3 : decode cX3_isDigit 3 = .ok (.if_icmp .lt 13, 3) := by decide +kernel
theorem dX3_isDigit_6 : decode cX3_isDigit 6 = .ok (.iload_n 0, 1) := by decide +kernel
theorem dX3_isDigit_7 : decode cX3_isDigit 7 = .ok (.bipush 57, 2) := by decide +kernel
theorem dX3_isDigit_9 : decode cX3_isDigit 9 = .ok (.if_icmp .gt 7, 3) := by decide +kernel
theorem dX3_isDigit_12 : decode cX3_isDigit 12 = .ok (.iconst 1, 1) := by decide +kernel
theorem dX3_isDigit_13 : decode cX3_isDigit 13 = .ok (.goto 4, 3) := by decide +kernel
theorem dX3_isDigit_16 : decode cX3_isDigit 16 = .ok (.iconst 0, 1) := by decide +kernel
theorem dX3_isDigit_17 : decode cX3_isDigit 17 = .ok (.ireturn, 1) := by decide +kernel
theorem dX3_jug_0 : decode cX3_jug 0 = .ok (.aload_n 0, 1) := by decide +kernel
theorem dX3_jug_1 : decode cX3_jug 1 = .ok (.getfield 12, 3) := by decide +kernel
theorem dX3_jug_4 : decode cX3_jug 4 = .ok (.iload_n 1, 1) := by decide +kernel
theorem dX3_jug_5 : decode cX3_jug 5 = .ok (.invokevirtual 140, 3) := by decide +kernel
theorem dX3_jug_8 : decode cX3_jug 8 = .ok (.astore_n 3, 1) := by decide +kernel
theorem dX3_jug_9 : decode cX3_jug 9 = .ok (.aload_n 3, 1) := by decide +kernel
theorem dX3_jug_10 : decode cX3_jug 10 = .ok (.ifnonnull 9, 3) := by decide +kernel
theorem dX3_jug_13 : decode cX3_jug 13 = .ok (.aload_n 0, 1) := by decide +kernel
theorem dX3_jug_14 : decode cX3_jug 14 = .ok (.iconst (-1), 1) := by decide +kernel
theorem dX3_jug_15 : decode cX3_jug 15 = .ok (.invokevirtual 74, 3) := by decide +kernel
theorem dX3_jug_18 : decode cX3_jug 18 = .ok (.ireturn, 1) := by decide +kernel
theorem dX3_jug_19 : decode cX3_jug 19 = .ok (.iload_n 2, 1) := by decide +kernel
theorem dX3_jug_20 : decode cX3_jug 20 = .ok (.tableswitch 79 0 6 #[44, 49, 54, 59, 64, 69, 74], 44) := by decide +kernel
theorem dX3_jug_64 : decode cX3_jug 64 = .ok (.aload_n 3, 1) := by decide +kernel
theorem dX3_jug_65 : decode cX3_jug 65 = .ok (.getfield 144, 3) := by decide +kernel
theorem dX3_jug_68 : decode cX3_jug 68 = .ok (.ireturn, 1) := by decide +kernel
theorem dX3_jug_69 : decode cX3_jug 69 = .ok (.aload_n 3, 1) := by decide +kernel
theorem dX3_jug_70 : decode cX3_jug 70 = .ok (.getfield 147, 3) := by decide +kernel
theorem dX3_jug_73 : decode cX3_jug 73 = .ok (.ireturn, 1) := by decide +kernel
theorem dX3_jug_74 : decode cX3_jug 74 = .ok (.aload_n 3, 1) := by decide +kernel
theorem dX3_jug_75 : decode cX3_jug 75 = .ok (.getfield 150, 3) := by decide +kernel
theorem dX3_jug_78 : decode cX3_jug 78 = .ok (.ireturn, 1) := by decide +kernel
theorem dX3_jug_79 : decode cX3_jug 79 = .ok (.aload_n 3, 1) := by decide +kernel
theorem dX3_jug_80 : decode cX3_jug 80 = .ok (.getfield 153, 3) := by decide +kernel
theorem dX3_jug_83 : decode cX3_jug 83 = .ok (.ireturn, 1) := by decide +kernel
theorem dX3_jug_84 : decode cX3_jug 84 = .ok (.aload_n 3, 1) := by decide +kernel
theorem dX3_jug_85 : decode cX3_jug 85 = .ok (.invokevirtual 156, 3) := by decide +kernel
theorem dX3_jug_88 : decode cX3_jug 88 = .ok (.ireturn, 1) := by decide +kernel
theorem dX3_jug_89 : decode cX3_jug 89 = .ok (.aload_n 3, 1) := by decide +kernel
theorem dX3_jug_90 : decode cX3_jug 90 = .ok (.invokevirtual 160, 3) := by decide +kernel
theorem dX3_jug_93 : decode cX3_jug 93 = .ok (.ireturn, 1) := by decide +kernel
theorem dX3_jug_94 : decode cX3_jug 94 = .ok (.aload_n 3, 1) := by decide +kernel
theorem dX3_jug_95 : decode cX3_jug 95 = .ok (.invokevirtual 163, 3) := by decide +kernel
theorem dX3_jug_98 : decode cX3_jug 98 = .ok (.ireturn, 1) := by decide +kernel
theorem dX3_jug_99 : decode cX3_jug 99 = .ok (.aload_n 0, 1) := by decide +kernel
theorem dX3_jug_100 : decode cX3_jug 100 = .ok (.bipush (-2), 2) := by decide +kernel
theorem dX3_jug_102 : decode cX3_jug 102 = .ok (.invokevirtual 74, 3) := by decide +kernel
theorem dX3_jug_105 : decode cX3_jug 105 = .ok (.ireturn, 1) := by decide +kernel
theorem dX3_cold_0 : decode cX3_cold 0 = .ok (.iload_n 1, 1) := by decide +kernel
theorem dX3_cold_1 : decode cX3_cold 1 = .ok (.iconst 0, 1) := by decide +kernel
theorem dX3_cold_2 : decode cX3_cold 2 = .ok (.bipush 99, 2) := by decide +kernel
theorem dX3_cold_4 : decode cX3_cold 4 = .ok (.invokestatic 66, 3) := by decide +kernel
theorem dX3_cold_7 : decode cX3_cold 7 = .ok (.istore_n 2, 1) := by decide +kernel
theorem dX3_cold_8 : decode cX3_cold 8 = .ok (.iload_n 2, 1) := by decide +kernel
theorem dX3_cold_9 : decode cX3_cold 9 = .ok (.ifCond .eq 9, 3) := by decide +kernel
theorem dX3_cold_12 : decode cX3_cold 12 = .ok (.aload_n 0, 1) := by decide +kernel
theorem dX3_cold_13 : decode cX3_cold 13 = .ok (.iload_n 2, 1) := by decide +kernel
theorem dX3_cold_14 : decode cX3_cold 14 = .ok (.invokevirtual 74, 3) := by decide +kernel
theorem dX3_cold_17 : decode cX3_cold 17 = .ok (.ireturn, 1) := by decide +kernel
theorem dX3_cold_18 : decode cX3_cold 18 = .ok (.aload_n 0, 1) := by decide +kernel
theorem dX3_cold_19 : decode cX3_cold 19 = .ok (.getfield 12, 3) := by decide +kernel
theorem dX3_cold_22 : decode cX3_cold 22 = .ok (.iload_n 1, 1) := by decide +kernel
theorem dX3_cold_23 : decode cX3_cold 23 = .ok (.invokevirtual 114, 3) := by decide +kernel
theorem dX3_cold_26 : decode cX3_cold 26 = .ok (.aload_n 0, 1) := by decide +kernel
theorem dX3_cold_27 : decode cX3_cold 27 = .ok (.getfield 12, 3) := by decide +kernel
theorem dX3_cold_30 : decode cX3_cold 30 = .ok (.invokevirtual 166, 3) := by decide +kernel
theorem dX3_cold_33 : decode cX3_cold 33 = .ok (.ireturn, 1) := by decide +kernel
theorem dX3_warm_0 : decode cX3_warm 0 = .ok (.aload_n 0, 1) := by decide +kernel
theorem dX3_warm_1 : decode cX3_warm 1 = .ok (.getfield 12, 3) := by decide +kernel
theorem dX3_warm_4 : decode cX3_warm 4 = .ok (.iload_n 1, 1) := by decide +kernel
theorem dX3_warm_5 : decode cX3_warm 5 = .ok (.invokevirtual 140, 3) := by decide +kernel
theorem dX3_warm_8 : decode cX3_warm 8 = .ok (.astore_n 3, 1) := by decide +kernel
theorem dX3_warm_9 : decode cX3_warm 9 = .ok (.aload_n 3, 1) := by decide +kernel
theorem dX3_warm_10 : decode cX3_warm 10 = .ok (.ifnonnull 7, 3) := by decide +kernel
theorem dX3_warm_13 : decode cX3_warm 13 = .ok (.iconst (-1), 1) := by decide +kernel
theorem dX3_warm_14 : decode cX3_warm 14 = .ok (.goto 10, 3) := by decide +kernel
theorem dX3_warm_17 : decode cX3_warm 17 = .ok (.iload_n 2, 1) := by decide +kernel
theorem dX3_warm_18 : decode cX3_warm 18 = .ok (.iconst 0, 1) := by decide +kernel
theorem dX3_warm_19 : decode cX3_warm 19 = .ok (.bipush 99, 2) := by decide +kernel
theorem dX3_warm_21 : decode cX3_warm 21 = .ok (.invokestatic 66, 3) := by decide +kernel
theorem dX3_warm_24 : decode cX3_warm 24 = .ok (.istore 4, 2) := by decide +kernel
theorem dX3_warm_26 : decode cX3_warm 26 = .ok (.aload_n 3, 1) := by decide +kernel
theorem dX3_warm_27 : decode cX3_warm 27 = .ok (.ifnull 8, 3) := by decide +kernel
theorem dX3_warm_30 : decode cX3_warm 30 = .ok (.iload 4, 2) := by decide +kernel
theorem dX3_warm_32 : decode cX3_warm 32 = .ok (.ifCond .eq 10, 3) := by decide +kernel
theorem dX3_warm_35 : decode cX3_warm 35 = .ok (.aload_n 0, 1) := by decide +kernel
theorem dX3_warm_36 : decode cX3_warm 36 = .ok (.iload 4, 2) := by decide +kernel
theorem dX3_warm_38 : decode cX3_warm 38 = .ok (.invokevirtual 74, 3) := by decide +kernel
theorem dX3_warm_41 : decode cX3_warm 41 = .ok (.ireturn, 1) := by decide +kernel
theorem dX3_warm_42 : decode cX3_warm 42 = .ok (.aload_n 3, 1) := by decide +kernel
theorem dX3_warm_43 : decode cX3_warm 43 = .ok (.iload_n 2, 1) := by decide +kernel
theorem dX3_warm_44 : decode cX3_warm 44 = .ok (.aload_n 3, 1) := by decide +kernel
theorem dX3_warm_45 : decode cX3_warm 45 = .ok (.invokevirtual 163, 3) := by decide +kernel
theorem dX3_warm_48 : decode cX3_warm 48 = .ok (.imul, 1) := by decide +kernel
theorem dX3_warm_49 : decode cX3_warm 49 = .ok (.invokevirtual 169, 3) := by decide +kernel
theorem dX3_warm_52 : decode cX3_warm 52 = .ok (.aload_n 3, 1) := by decide +kernel
theorem dX3_warm_53 : decode cX3_warm 53 = .ok (.getfield 153, 3) := by decide +kernel
theorem dX3_warm_56 : decode cX3_warm 56 = .ok (.ireturn, 1) := by decide +kernel
theorem dX3_hand_0 : decode cX3_hand 0 = .ok (.aload_n 0, 1) := by decide +kernel
theorem dX3_hand_1 : decode cX3_hand 1 = .ok (.getfield 12, 3) := by decide +kernel
theorem dX3_hand_4 : decode cX3_hand 4 = .ok (.getfield 172, 3) := by decide +kernel
theorem dX3_hand_7 : decode cX3_hand 7 = .ok (.istore_n 2, 1) := by decide +kernel
theorem dX3_hand_8 : decode cX3_hand 8 = .ok (.aload_n 0, 1) := by decide +kernel
theorem dX3_hand_9 : decode cX3_hand 9 = .ok (.getfield 12, 3) := by decide +kernel
theorem dX3_hand_12 : decode cX3_hand 12 = .ok (.iload_n 1, 1) := by decide +kernel
theorem dX3_hand_13 : decode cX3_hand 13 = .ok (.invokevirtual 127, 3) := by decide +kernel
theorem dX3_hand_16 : decode cX3_hand 16 = .ok (.ifCond .eq 7, 3) := by decide +kernel
theorem dX3_hand_19 : decode cX3_hand 19 = .ok (.iload_n 2, 1) := by decide +kernel
theorem dX3_hand_20 : decode cX3_hand 20 = .ok (.goto 8, 3) := by decide +kernel
theorem dX3_hand_23 : decode cX3_hand 23 = .ok (.aload_n 0, 1) := by decide +kernel
theorem dX3_hand_24 : decode cX3_hand 24 = .ok (.iconst (-1), 1) := by decide +kernel
theorem dX3_hand_25 : decode cX3_hand 25 = .ok (.invokevirtual 74, 3) := by decide +kernel
theorem dX3_hand_28 : decode cX3_hand 28 = .ok (.ireturn, 1) := by decide +kernel
theorem dX3_see_0 : decode cX3_see 0 = .ok (.aload_n 0, 1) := by decide +kernel
theorem dX3_see_1 : decode cX3_see 1 = .ok (.iload_n 1, 1) := by decide +kernel
theorem dX3_see_2 : decode cX3_see 2 = .ok (.iconst 4, 1) := by decide +kernel
theorem dX3_see_3 : decode cX3_see 3 = .ok (.invokestatic 70, 3) := by decide +kernel
theorem dX3_see_6 : decode cX3_see 6 = .ok (.iload_n 2, 1) := by decide +kernel
theorem dX3_see_7 : decode cX3_see 7 = .ok (.iconst 2, 1) := by decide +kernel
theorem dX3_see_8 : decode cX3_see 8 = .ok (.invokestatic 70, 3) := by decide +kernel
theorem dX3_see_11 : decode cX3_see 11 = .ok (.invokevirtual 175, 3) := by decide +kernel
theorem dX3_see_14 : decode cX3_see 14 = .ok (.istore_n 3, 1) := by decide +kernel
theorem dX3_see_15 : decode cX3_see 15 = .ok (.iload_n 3, 1) := by decide +kernel
theorem dX3_see_16 : decode cX3_see 16 = .ok (.ifCond .eq 9, 3) := by decide +kernel
theorem dX3_see_19 : decode cX3_see 19 = .ok (.aload_n 0, 1) := by decide +kernel
theorem dX3_see_20 : decode cX3_see 20 = .ok (.iload_n 3, 1) := by decide +kernel
theorem dX3_see_21 : decode cX3_see 21 = .ok (.invokevirtual 74, 3) := by decide +kernel
theorem dX3_see_24 : decode cX3_see 24 = .ok (.ireturn, 1) := by decide +kernel
theorem dX3_see_25 : decode cX3_see 25 = .ok (.aload_n 0, 1) := by decide +kernel
theorem dX3_see_26 : decode cX3_see 26 = .ok (.getfield 12, 3) := by decide +kernel
theorem dX3_see_29 : decode cX3_see 29 = .ok (.iload_n 1, 1) := by decide +kernel
theorem dX3_see_30 : decode cX3_see 30 = .ok (.iload_n 2, 1) := by decide +kernel
theorem dX3_see_31 : decode cX3_see 31 = .ok (.invokevirtual 130, 3) := by decide +kernel
theorem dX3_see_34 : decode cX3_see 34 = .ok (.ifCond .eq 13, 3) := by decide +kernel
theorem dX3_see_37 : decode cX3_see 37 = .ok (.aload_n 0, 1) := by decide +kernel
theorem dX3_see_38 : decode cX3_see 38 = .ok (.getfield 12, 3) := by decide +kernel
theorem dX3_see_41 : decode cX3_see 41 = .ok (.getfield 179, 3) := by decide +kernel
theorem dX3_see_44 : decode cX3_see 44 = .ok (.goto 9, 3) := by decide +kernel
theorem dX3_see_47 : decode cX3_see 47 = .ok (.aload_n 0, 1) := by decide +kernel
theorem dX3_see_48 : decode cX3_see 48 = .ok (.bipush (-6), 2) := by decide +kernel
theorem dX3_see_50 : decode cX3_see 50 = .ok (.invokevirtual 74, 3) := by decide +kernel
theorem dX3_see_53 : decode cX3_see 53 = .ok (.ireturn, 1) := by decide +kernel
theorem dX3_unsee_0 : decode cX3_unsee 0 = .ok (.aload_n 0, 1) := by decide +kernel
theorem dX3_unsee_1 : decode cX3_unsee 1 = .ok (.getfield 12, 3) := by decide +kernel
theorem dX3_unsee_4 : decode cX3_unsee 4 = .ok (.getfield 179, 3) := by decide +kernel
theorem dX3_unsee_7 : decode cX3_unsee 7 = .ok (.ifCond .gt 10, 3) := by decide +kernel
theorem dX3_unsee_10 : decode cX3_unsee 10 = .ok (.aload_n 0, 1) := by decide +kernel
theorem dX3_unsee_11 : decode cX3_unsee 11 = .ok (.bipush (-3), 2) := by decide +kernel
theorem dX3_unsee_13 : decode cX3_unsee 13 = .ok (.invokevirtual 74, 3) := by decide +kernel
theorem dX3_unsee_16 : decode cX3_unsee 16 = .ok (.ireturn, 1) := by decide +kernel
theorem dX3_unsee_17 : decode cX3_unsee 17 = .ok (.aload_n 0, 1) := by decide +kernel
theorem dX3_unsee_18 : decode cX3_unsee 18 = .ok (.getfield 12, 3) := by decide +kernel
theorem dX3_unsee_21 : decode cX3_unsee 21 = .ok (.dup, 1) := by decide +kernel
theorem dX3_unsee_22 : decode cX3_unsee 22 = .ok (.getfield 179, 3) := by decide +kernel
theorem dX3_unsee_25 : decode cX3_unsee 25 = .ok (.iconst 1, 1) := by decide +kernel
theorem dX3_unsee_26 : decode cX3_unsee 26 = .ok (.isub, 1) := by decide +kernel
theorem dX3_unsee_27 : decode cX3_unsee 27 = .ok (.putfield 179, 3) := by decide +kernel
theorem dX3_unsee_30 : decode cX3_unsee 30 = .ok (.aload_n 0, 1) := by decide +kernel
theorem dX3_unsee_31 : decode cX3_unsee 31 = .ok (.getfield 12, 3) := by decide +kernel
theorem dX3_unsee_34 : decode cX3_unsee 34 = .ok (.getfield 179, 3) := by decide +kernel
theorem dX3_unsee_37 : decode cX3_unsee 37 = .ok (.ireturn, 1) := by decide +kernel
theorem dX3_use_0 : decode cX3_use 0 = .ok (.aload_n 0, 1) := by decide +kernel
theorem dX3_use_1 : decode cX3_use 1 = .ok (.getfield 12, 3) := by decide +kernel
theorem dX3_use_4 : decode cX3_use 4 = .ok (.invokevirtual 182, 3) := by decide +kernel
theorem dX3_use_7 : decode cX3_use 7 = .ok (.astore_n 2, 1) := by decide +kernel
theorem dX3_use_8 : decode cX3_use 8 = .ok (.aload_n 2, 1) := by decide +kernel
theorem dX3_use_9 : decode cX3_use 9 = .ok (.ifnonnull 10, 3) := by decide +kernel
theorem dX3_use_12 : decode cX3_use 12 = .ok (.aload_n 0, 1) := by decide +kernel
theorem dX3_use_13 : decode cX3_use 13 = .ok (.bipush (-3), 2) := by decide +kernel
theorem dX3_use_15 : decode cX3_use 15 = .ok (.invokevirtual 74, 3) := by decide +kernel
theorem dX3_use_18 : decode cX3_use 18 = .ok (.ireturn, 1) := by decide +kernel
theorem dX3_use_19 : decode cX3_use 19 = .ok (.iload_n 1, 1) := by decide +kernel
theorem dX3_use_20 : decode cX3_use 20 = .ok (.iconst 1, 1) := by decide +kernel
theorem dX3_use_21 : decode cX3_use 21 = .ok (.if_icmp .ge 10, 3) := by decide +kernel
theorem dX3_use_24 : decode cX3_use 24 = .ok (.aload_n 0, 1) := by decide +kernel
theorem dX3_use_25 : decode cX3_use 25 = .ok (.bipush (-4), 2) := by decide +kernel
theorem dX3_use_27 : decode cX3_use 27 = .ok (.invokevirtual 74, 3) := by decide +kernel
theorem dX3_use_30 : decode cX3_use 30 = .ok (.ireturn, 1) := by decide +kernel
theorem dX3_use_31 : decode cX3_use 31 = .ok (.aload_n 2, 1) := by decide +kernel
theorem dX3_use_32 : decode cX3_use 32 = .ok (.getfield 150, 3) := by decide +kernel
theorem dX3_use_35 : decode cX3_use 35 = .ok (.iload_n 1, 1) := by decide +kernel
theorem dX3_use_36 : decode cX3_use 36 = .ok (.isub, 1) := by decide +kernel
theorem dX3_use_37 : decode cX3_use 37 = .ok (.istore_n 3, 1) := by decide +kernel
theorem dX3_use_38 : decode cX3_use 38 = .ok (.aload_n 0, 1) := by decide +kernel
theorem dX3_use_39 : decode cX3_use 39 = .ok (.getfield 12, 3) := by decide +kernel
theorem dX3_use_42 : decode cX3_use 42 = .ok (.iload_n 1, 1) := by decide +kernel
theorem dX3_use_43 : decode cX3_use 43 = .ok (.invokevirtual 133, 3) := by decide +kernel
theorem dX3_use_46 : decode cX3_use 46 = .ok (.ifCond .eq 7, 3) := by decide +kernel
theorem dX3_use_49 : decode cX3_use 49 = .ok (.iload_n 3, 1) := by decide +kernel
theorem dX3_use_50 : decode cX3_use 50 = .ok (.goto 9, 3) := by decide +kernel
theorem dX3_use_53 : decode cX3_use 53 = .ok (.aload_n 0, 1) := by decide +kernel
theorem dX3_use_54 : decode cX3_use 54 = .ok (.bipush (-6), 2) := by decide +kernel
theorem dX3_use_56 : decode cX3_use 56 = .ok (.invokevirtual 74, 3) := by decide +kernel
theorem dX3_use_59 : decode cX3_use 59 = .ok (.ireturn, 1) := by decide +kernel
theorem dX3_cost_0 : decode cX3_cost 0 = .ok (.iload_n 1, 1) := by decide +kernel
theorem dX3_cost_1 : decode cX3_cost 1 = .ok (.iconst 4, 1) := by decide +kernel
theorem dX3_cost_2 : decode cX3_cost 2 = .ok (.invokestatic 70, 3) := by decide +kernel
theorem dX3_cost_5 : decode cX3_cost 5 = .ok (.ifCond .eq 13, 3) := by decide +kernel
theorem dX3_cost_8 : decode cX3_cost 8 = .ok (.iload_n 2, 1) := by decide +kernel
theorem dX3_cost_9 : decode cX3_cost 9 = .ok (.iconst 0, 1) := by decide +kernel
theorem dX3_cost_10 : decode cX3_cost 10 = .ok (.bipush 9, 2) := by decide +kernel
theorem dX3_cost_12 : decode cX3_cost 12 = .ok (.invokestatic 66, 3) := by decide +kernel
theorem dX3_cost_15 : decode cX3_cost 15 = .ok (.goto 4, 3) := by decide +kernel
theorem dX3_cost_18 : decode cX3_cost 18 = .ok (.iconst (-1), 1) := by decide +kernel
theorem dX3_cost_19 : decode cX3_cost 19 = .ok (.istore_n 3, 1) := by decide +kernel
theorem dX3_cost_20 : decode cX3_cost 20 = .ok (.iload_n 3, 1) := by decide +kernel
theorem dX3_cost_21 : decode cX3_cost 21 = .ok (.ifCond .eq 9, 3) := by decide +kernel
theorem dX3_cost_24 : decode cX3_cost 24 = .ok (.aload_n 0, 1) := by decide +kernel
theorem dX3_cost_25 : decode cX3_cost 25 = .ok (.iload_n 3, 1) := by decide +kernel
theorem dX3_cost_26 : decode cX3_cost 26 = .ok (.invokevirtual 74, 3) := by decide +kernel
theorem dX3_cost_29 : decode cX3_cost 29 = .ok (.ireturn, 1) := by decide +kernel
theorem dX3_cost_30 : decode cX3_cost 30 = .ok (.aload_n 0, 1) := by decide +kernel
theorem dX3_cost_31 : decode cX3_cost 31 = .ok (.getfield 12, 3) := by decide +kernel
theorem dX3_cost_34 : decode cX3_cost 34 = .ok (.iload_n 1, 1) := by decide +kernel
theorem dX3_cost_35 : decode cX3_cost 35 = .ok (.invokevirtual 186, 3) := by decide +kernel
theorem dX3_cost_38 : decode cX3_cost 38 = .ok (.istore 4, 2) := by decide +kernel
theorem dX3_cost_40 : decode cX3_cost 40 = .ok (.aload_n 0, 1) := by decide +kernel
theorem dX3_cost_41 : decode cX3_cost 41 = .ok (.getfield 12, 3) := by decide +kernel
theorem dX3_cost_44 : decode cX3_cost 44 = .ok (.iload_n 1, 1) := by decide +kernel
theorem dX3_cost_45 : decode cX3_cost 45 = .ok (.iload_n 2, 1) := by decide +kernel
theorem dX3_cost_46 : decode cX3_cost 46 = .ok (.invokevirtual 121, 3) := by decide +kernel
theorem dX3_cost_49 : decode cX3_cost 49 = .ok (.pop, 1) := by decide +kernel
theorem dX3_cost_50 : decode cX3_cost 50 = .ok (.iload 4, 2) := by decide +kernel
theorem dX3_cost_52 : decode cX3_cost 52 = .ok (.ireturn, 1) := by decide +kernel
theorem dX3_price_0 : decode cX3_price 0 = .ok (.iload_n 1, 1) := by decide +kernel
theorem dX3_price_1 : decode cX3_price 1 = .ok (.iconst 0, 1) := by decide +kernel
theorem dX3_price_2 : decode cX3_price 2 = .ok (.bipush 9, 2) := by decide +kernel
theorem dX3_price_4 : decode cX3_price 4 = .ok (.invokestatic 66, 3) := by decide +kernel
theorem dX3_price_7 : decode cX3_price 7 = .ok (.istore_n 2, 1) := by decide +kernel
theorem dX3_price_8 : decode cX3_price 8 = .ok (.iload_n 2, 1) := by decide +kernel
theorem dX3_price_9 : decode cX3_price 9 = .ok (.ifCond .eq 9, 3) := by decide +kernel
theorem dX3_price_12 : decode cX3_price 12 = .ok (.aload_n 0, 1) := by decide +kernel
theorem dX3_price_13 : decode cX3_price 13 = .ok (.iload_n 2, 1) := by decide +kernel
theorem dX3_price_14 : decode cX3_price 14 = .ok (.invokevirtual 74, 3) := by decide +kernel
theorem dX3_price_17 : decode cX3_price 17 = .ok (.ireturn, 1) := by decide +kernel
theorem dX3_price_18 : decode cX3_price 18 = .ok (.aload_n 0, 1) := by decide +kernel
theorem dX3_price_19 : decode cX3_price 19 = .ok (.getfield 12, 3) := by decide +kernel
theorem dX3_price_22 : decode cX3_price 22 = .ok (.getfield 124, 3) := by decide +kernel
theorem dX3_price_25 : decode cX3_price 25 = .ok (.istore_n 3, 1) := by decide +kernel
theorem dX3_price_26 : decode cX3_price 26 = .ok (.aload_n 0, 1) := by decide +kernel
theorem dX3_price_27 : decode cX3_price 27 = .ok (.getfield 12, 3) := by decide +kernel
theorem dX3_price_30 : decode cX3_price 30 = .ok (.iload_n 1, 1) := by decide +kernel
theorem dX3_price_31 : decode cX3_price 31 = .ok (.putfield 124, 3) := by decide +kernel
theorem dX3_price_34 : decode cX3_price 34 = .ok (.iload_n 3, 1) := by decide +kernel
theorem dX3_price_35 : decode cX3_price 35 = .ok (.ireturn, 1) := by decide +kernel
theorem dX3_says_0 : decode cX3_says 0 = .ok (.aload_n 0, 1) := by decide +kernel
theorem dX3_says_1 : decode cX3_says 1 = .ok (.iload_n 1, 1) := by decide +kernel
theorem dX3_says_2 : decode cX3_says 2 = .ok (.iconst 4, 1) := by decide +kernel
theorem dX3_says_3 : decode cX3_says 3 = .ok (.invokestatic 70, 3) := by decide +kernel
theorem dX3_says_6 : decode cX3_says 6 = .ok (.ifCond .eq 15, 3) := by decide +kernel
theorem dX3_says_9 : decode cX3_says 9 = .ok (.iload_n 2, 1) := by decide +kernel
theorem dX3_says_10 : decode cX3_says 10 = .ok (.iconst 5, 1) := by decide +kernel
theorem dX3_says_11 : decode cX3_says 11 = .ok (.invokestatic 70, 3) := by decide +kernel
theorem dX3_says_14 : decode cX3_says 14 = .ok (.ifCond .eq 7, 3) := by decide +kernel
theorem dX3_says_17 : decode cX3_says 17 = .ok (.iconst 1, 1) := by decide +kernel
theorem dX3_says_18 : decode cX3_says 18 = .ok (.goto 4, 3) := by decide +kernel
theorem dX3_says_21 : decode cX3_says 21 = .ok (.iconst 0, 1) := by decide +kernel
theorem dX3_says_22 : decode cX3_says 22 = .ok (.iconst 1, 1) := by decide +kernel
theorem dX3_says_23 : decode cX3_says 23 = .ok (.invokevirtual 175, 3) := by decide +kernel
theorem dX3_says_26 : decode cX3_says 26 = .ok (.istore_n 3, 1) := by decide +kernel
theorem dX3_says_27 : decode cX3_says 27 = .ok (.iload_n 3, 1) := by decide +kernel
theorem dX3_says_28 : decode cX3_says 28 = .ok (.ifCond .eq 9, 3) := by decide +kernel
theorem dX3_says_31 : decode cX3_says 31 = .ok (.aload_n 0, 1) := by decide +kernel
theorem dX3_says_32 : decode cX3_says 32 = .ok (.iload_n 3, 1) := by decide +kernel
theorem dX3_says_33 : decode cX3_says 33 = .ok (.invokevirtual 74, 3) := by decide +kernel
theorem dX3_says_36 : decode cX3_says 36 = .ok (.ireturn, 1) := by decide +kernel
theorem dX3_says_37 : decode cX3_says 37 = .ok (.aload_n 0, 1) := by decide +kernel
theorem dX3_says_38 : decode cX3_says 38 = .ok (.invokevirtual 189, 3) := by decide +kernel
theorem dX3_says_41 : decode cX3_says 41 = .ok (.aload_n 0, 1) := by decide +kernel
theorem dX3_says_42 : decode cX3_says 42 = .ok (.getfield 46, 3) := by decide +kernel
theorem dX3_says_45 : decode cX3_says 45 = .ok (.iload_n 1, 1) := by decide +kernel
theorem dX3_says_46 : decode cX3_says 46 = .ok (.iload_n 2, 1) := by decide +kernel
theorem dX3_says_47 : decode cX3_says 47 = .ok (.invokevirtual 192, 3) := by decide +kernel
theorem dX3_says_50 : decode cX3_says 50 = .ok (.ireturn, 1) := by decide +kernel
theorem dX3_thought_0 : decode cX3_thought 0 = .ok (.aload_n 0, 1) := by decide +kernel
theorem dX3_thought_1 : decode cX3_thought 1 = .ok (.iload_n 1, 1) := by decide +kernel
theorem dX3_thought_2 : decode cX3_thought 2 = .ok (.iconst 5, 1) := by decide +kernel
theorem dX3_thought_3 : decode cX3_thought 3 = .ok (.invokestatic 70, 3) := by decide +kernel
theorem dX3_thought_6 : decode cX3_thought 6 = .ok (.iconst 1, 1) := by decide +kernel
theorem dX3_thought_7 : decode cX3_thought 7 = .ok (.invokevirtual 175, 3) := by decide +kernel
theorem dX3_thought_10 : decode cX3_thought 10 = .ok (.istore_n 2, 1) := by decide +kernel
theorem dX3_thought_11 : decode cX3_thought 11 = .ok (.iload_n 2, 1) := by decide +kernel
theorem dX3_thought_12 : decode cX3_thought 12 = .ok (.ifCond .eq 9, 3) := by decide +kernel
theorem dX3_thought_15 : decode cX3_thought 15 = .ok (.aload_n 0, 1) := by decide +kernel
theorem dX3_thought_16 : decode cX3_thought 16 = .ok (.iload_n 2, 1) := by decide +kernel
theorem dX3_thought_17 : decode cX3_thought 17 = .ok (.invokevirtual 195, 3) := by decide +kernel
theorem dX3_thought_20 : decode cX3_thought 20 = .ok (.lreturn, 1) := by decide +kernel
theorem dX3_thought_21 : decode cX3_thought 21 = .ok (.aload_n 0, 1) := by decide +kernel
theorem dX3_thought_22 : decode cX3_thought 22 = .ok (.invokevirtual 189, 3) := by decide +kernel
theorem dX3_thought_25 : decode cX3_thought 25 = .ok (.aload_n 0, 1) := by decide +kernel
theorem dX3_thought_26 : decode cX3_thought 26 = .ok (.getfield 56, 3) := by decide +kernel
theorem dX3_thought_29 : decode cX3_thought 29 = .ok (.iload_n 1, 1) := by decide +kernel
theorem dX3_thought_30 : decode cX3_thought 30 = .ok (.iload_n 1, 1) := by decide +kernel
theorem dX3_thought_31 : decode cX3_thought 31 = .ok (.invokevirtual 199, 3) := by decide +kernel
theorem dX3_thought_34 : decode cX3_thought 34 = .ok (.lreturn, 1) := by decide +kernel
theorem dX3_likely_0 : decode cX3_likely 0 = .ok (.aload_n 0, 1) := by decide +kernel
theorem dX3_likely_1 : decode cX3_likely 1 = .ok (.iload_n 1, 1) := by decide +kernel
theorem dX3_likely_2 : decode cX3_likely 2 = .ok (.iconst 5, 1) := by decide +kernel
theorem dX3_likely_3 : decode cX3_likely 3 = .ok (.invokestatic 70, 3) := by decide +kernel
theorem dX3_likely_6 : decode cX3_likely 6 = .ok (.iload_n 2, 1) := by decide +kernel
theorem dX3_likely_7 : decode cX3_likely 7 = .ok (.iconst 2, 1) := by decide +kernel
theorem dX3_likely_8 : decode cX3_likely 8 = .ok (.invokestatic 70, 3) := by decide +kernel
theorem dX3_likely_11 : decode cX3_likely 11 = .ok (.invokevirtual 175, 3) := by decide +kernel
theorem dX3_likely_14 : decode cX3_likely 14 = .ok (.istore_n 3, 1) := by decide +kernel
theorem dX3_likely_15 : decode cX3_likely 15 = .ok (.iload_n 3, 1) := by decide +kernel
theorem dX3_likely_16 : decode cX3_likely 16 = .ok (.ifCond .eq 9, 3) := by decide +kernel
theorem dX3_likely_19 : decode cX3_likely 19 = .ok (.aload_n 0, 1) := by decide +kernel
theorem dX3_likely_20 : decode cX3_likely 20 = .ok (.iload_n 3, 1) := by decide +kernel
theorem dX3_likely_21 : decode cX3_likely 21 = .ok (.invokevirtual 195, 3) := by decide +kernel
theorem dX3_likely_24 : decode cX3_likely 24 = .ok (.lreturn, 1) := by decide +kernel
theorem dX3_likely_25 : decode cX3_likely 25 = .ok (.aload_n 0, 1) := by decide +kernel
theorem dX3_likely_26 : decode cX3_likely 26 = .ok (.invokevirtual 189, 3) := by decide +kernel
theorem dX3_likely_29 : decode cX3_likely 29 = .ok (.aload_n 0, 1) := by decide +kernel
theorem dX3_likely_30 : decode cX3_likely 30 = .ok (.getfield 56, 3) := by decide +kernel
theorem dX3_likely_33 : decode cX3_likely 33 = .ok (.iload_n 1, 1) := by decide +kernel
theorem dX3_likely_34 : decode cX3_likely 34 = .ok (.iload_n 1, 1) := by decide +kernel
theorem dX3_likely_35 : decode cX3_likely 35 = .ok (.invokevirtual 199, 3) := by decide +kernel
theorem dX3_likely_38 : decode cX3_likely 38 = .ok (.aload_n 0, 1) := by decide +kernel
theorem dX3_likely_39 : decode cX3_likely 39 = .ok (.getfield 56, 3) := by decide +kernel
theorem dX3_likely_42 : decode cX3_likely 42 = .ok (.invokevirtual 203, 3) := by decide +kernel
theorem dX3_likely_45 : decode cX3_likely 45 = .ok (.iload_n 2, 1) := by decide +kernel
theorem dX3_likely_46 : decode cX3_likely 46 = .ok (.invokestatic 207, 3) := by decide +kernel
theorem dX3_likely_49 : decode cX3_likely 49 = .ok (.lreturn, 1) := by decide +kernel
theorem dX3_good_0 : decode cX3_good 0 = .ok (.aload_n 0, 1) := by decide +kernel
theorem dX3_good_1 : decode cX3_good 1 = .ok (.iconst 1, 1) := by decide +kernel
theorem dX3_good_2 : decode cX3_good 2 = .ok (.iload_n 1, 1) := by decide +kernel
theorem dX3_good_3 : decode cX3_good 3 = .ok (.iconst 2, 1) := by decide +kernel
theorem dX3_good_4 : decode cX3_good 4 = .ok (.invokestatic 70, 3) := by decide +kernel
theorem dX3_good_7 : decode cX3_good 7 = .ok (.invokevirtual 175, 3) := by decide +kernel
theorem dX3_good_10 : decode cX3_good 10 = .ok (.istore_n 2, 1) := by decide +kernel
theorem dX3_good_11 : decode cX3_good 11 = .ok (.iload_n 2, 1) := by decide +kernel
theorem dX3_good_12 : decode cX3_good 12 = .ok (.ifCond .eq 9, 3) := by decide +kernel
theorem dX3_good_15 : decode cX3_good 15 = .ok (.aload_n 0, 1) := by decide +kernel
theorem dX3_good_16 : decode cX3_good 16 = .ok (.iload_n 2, 1) := by decide +kernel
theorem dX3_good_17 : decode cX3_good 17 = .ok (.invokevirtual 195, 3) := by decide +kernel
theorem dX3_good_20 : decode cX3_good 20 = .ok (.lreturn, 1) := by decide +kernel
theorem dX3_good_21 : decode cX3_good 21 = .ok (.aload_n 0, 1) := by decide +kernel
theorem dX3_good_22 : decode cX3_good 22 = .ok (.invokevirtual 189, 3) := by decide +kernel
theorem dX3_good_25 : decode cX3_good 25 = .ok (.aload_n 0, 1) := by decide +kernel
theorem dX3_good_26 : decode cX3_good 26 = .ok (.getfield 56, 3) := by decide +kernel
theorem dX3_good_29 : decode cX3_good 29 = .ok (.iconst 0, 1) := by decide +kernel
theorem dX3_good_30 : decode cX3_good 30 = .ok (.iconst 1, 1) := by decide +kernel
theorem dX3_good_31 : decode cX3_good 31 = .ok (.invokevirtual 199, 3) := by decide +kernel
theorem dX3_good_34 : decode cX3_good 34 = .ok (.aload_n 0, 1) := by decide +kernel
theorem dX3_good_35 : decode cX3_good 35 = .ok (.getfield 56, 3) := by decide +kernel
theorem dX3_good_38 : decode cX3_good 38 = .ok (.invokevirtual 203, 3) := by decide +kernel
theorem dX3_good_41 : decode cX3_good 41 = .ok (.iload_n 1, 1) := by decide +kernel
theorem dX3_good_42 : decode cX3_good 42 = .ok (.invokestatic 207, 3) := by decide +kernel
theorem dX3_good_45 : decode cX3_good 45 = .ok (.lreturn, 1) := by decide +kernel
theorem dX3_mean_0 : decode cX3_mean 0 = .ok (.aload_n 0, 1) := by decide +kernel
theorem dX3_mean_1 : decode cX3_mean 1 = .ok (.iload_n 1, 1) := by decide +kernel
theorem dX3_mean_2 : decode cX3_mean 2 = .ok (.iconst 5, 1) := by decide +kernel
theorem dX3_mean_3 : decode cX3_mean 3 = .ok (.invokestatic 70, 3) := by decide +kernel
theorem dX3_mean_6 : decode cX3_mean 6 = .ok (.ifCond .eq 15, 3) := by decide +kernel
theorem dX3_mean_9 : decode cX3_mean 9 = .ok (.iload_n 2, 1) := by decide +kernel
theorem dX3_mean_10 : decode cX3_mean 10 = .ok (.iconst 3, 1) := by decide +kernel
theorem dX3_mean_11 : decode cX3_mean 11 = .ok (.invokestatic 70, 3) := by decide +kernel
theorem dX3_mean_14 : decode cX3_mean 14 = .ok (.ifCond .eq 7, 3) := by decide +kernel
theorem dX3_mean_17 : decode cX3_mean 17 = .ok (.iconst 1, 1) := by decide +kernel
theorem dX3_mean_18 : decode cX3_mean 18 = .ok (.goto 4, 3) := by decide +kernel
theorem dX3_mean_21 : decode cX3_mean 21 = .ok (.iconst 0, 1) := by decide +kernel
theorem dX3_mean_22 : decode cX3_mean 22 = .ok (.iload_n 3, 1) := by decide +kernel
theorem dX3_mean_23 : decode cX3_mean 23 = .ok (.iconst 2, 1) := by decide +kernel
theorem dX3_mean_24 : decode cX3_mean 24 = .ok (.invokestatic 70, 3) := by decide +kernel
theorem dX3_mean_27 : decode cX3_mean 27 = .ok (.invokevirtual 175, 3) := by decide +kernel
theorem dX3_mean_30 : decode cX3_mean 30 = .ok (.istore 4, 2) := by decide +kernel
theorem dX3_mean_32 : decode cX3_mean 32 = .ok (.iload 4, 2) := by decide +kernel
