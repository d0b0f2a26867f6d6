theorem dX4_person_34 : decode cX4_person 34 = .ok (.iload_n 2, 1) := by decide +kernel
theorem dX4_person_35 : decode cX4_person 35 = .ok (.invokevirtual 85, 3) := by decide +kernel
theorem dX4_person_38 : decode cX4_person 38 = .ok (.ireturn, 1) := by decide +kernel
theorem dX4_person_39 : decode cX4_person 39 = .ok (.aload_n 0, 1) := by decide +kernel
theorem dX4_person_40 : decode cX4_person 40 = .ok (.getfield 34, 3) := by decide +kernel
theorem dX4_person_43 : decode cX4_person 43 = .ok (.aload_n 0, 1) := by decide +kernel
theorem dX4_person_44 : decode cX4_person 44 = .ok (.getfield 171, 3) := by decide +kernel
theorem dX4_person_47 : decode cX4_person 47 = .ok (.iload_n 1, 1) := by decide +kernel
theorem dX4_person_48 : decode cX4_person 48 = .ok (.iastore, 1) := by decide +kernel
theorem dX4_person_49 : decode cX4_person 49 = .ok (.aload_n 0, 1) := by decide +kernel
theorem dX4_person_50 : decode cX4_person 50 = .ok (.dup, 1) := by decide +kernel
theorem dX4_person_51 : decode cX4_person 51 = .ok (.getfield 171, 3) := by decide +kernel
theorem dX4_person_54 : decode cX4_person 54 = .ok (.iconst 1, 1) := by decide +kernel
theorem dX4_person_55 : decode cX4_person 55 = .ok (.iadd, 1) := by decide +kernel
theorem dX4_person_56 : decode cX4_person 56 = .ok (.putfield 171, 3) := by decide +kernel
theorem dX4_person_59 : decode cX4_person 59 = .ok (.aload_n 0, 1) := by decide +kernel
theorem dX4_person_60 : decode cX4_person 60 = .ok (.getfield 171, 3) := by decide +kernel
theorem dX4_person_63 : decode cX4_person 63 = .ok (.ireturn, 1) := by decide +kernel
theorem dX4_nobody_0 : decode cX4_nobody 0 = .ok (.aload_n 0, 1) := by decide +kernel
theorem dX4_nobody_1 : decode cX4_nobody 1 = .ok (.getfield 171, 3) := by decide +kernel
theorem dX4_nobody_4 : decode cX4_nobody 4 = .ok (.istore_n 1, 1) := by decide +kernel
theorem dX4_nobody_5 : decode cX4_nobody 5 = .ok (.aload_n 0, 1) := by decide +kernel
theorem dX4_nobody_6 : decode cX4_nobody 6 = .ok (.iconst 0, 1) := by decide +kernel
theorem dX4_nobody_7 : decode cX4_nobody 7 = .ok (.putfield 171, 3) := by decide +kernel
theorem dX4_nobody_10 : decode cX4_nobody 10 = .ok (.iload_n 1, 1) := by decide +kernel
theorem dX4_nobody_11 : decode cX4_nobody 11 = .ok (.ireturn, 1) := by decide +kernel
theorem dX4_personOff_0 : decode cX4_personOff 0 = .ok (.aload_n 0, 1) := by decide +kernel
theorem dX4_personOff_1 : decode cX4_personOff 1 = .ok (.iconst 0, 1) := by decide +kernel
theorem dX4_personOff_2 : decode cX4_personOff 2 = .ok (.iload_n 2, 1) := by decide +kernel
theorem dX4_personOff_3 : decode cX4_personOff 3 = .ok (.invokevirtual 214, 3) := by decide +kernel
theorem dX4_personOff_6 : decode cX4_personOff 6 = .ok (.istore_n 3, 1) := by decide +kernel
theorem dX4_personOff_7 : decode cX4_personOff 7 = .ok (.aload_n 0, 1) := by decide +kernel
theorem dX4_personOff_8 : decode cX4_personOff 8 = .ok (.getfield 34, 3) := by decide +kernel
theorem dX4_personOff_11 : decode cX4_personOff 11 = .ok (.iload_n 1, 1) := by decide +kernel
theorem dX4_personOff_12 : decode cX4_personOff 12 = .ok (.iaload, 1) := by decide +kernel
theorem dX4_personOff_13 : decode cX4_personOff 13 = .ok (.tableswitch 50 1 4 #[31, 33, 36, 43], 31) := by decide +kernel
theorem dX4_personOff_44 : decode cX4_personOff 44 = .ok (.iconst 0, 1) := by decide +kernel
theorem dX4_personOff_45 : decode cX4_personOff 45 = .ok (.ireturn, 1) := by decide +kernel
theorem dX4_personOff_46 : decode cX4_personOff 46 = .ok (.bipush 10, 2) := by decide +kernel
theorem dX4_personOff_48 : decode cX4_personOff 48 = .ok (.ireturn, 1) := by decide +kernel
theorem dX4_personOff_49 : decode cX4_personOff 49 = .ok (.iload_n 3, 1) := by decide +kernel
theorem dX4_personOff_50 : decode cX4_personOff 50 = .ok (.iconst 3, 1) := by decide +kernel
theorem dX4_personOff_51 : decode cX4_personOff 51 = .ok (.isub, 1) := by decide +kernel
theorem dX4_personOff_52 : decode cX4_personOff 52 = .ok (.invokestatic 199, 3) := by decide +kernel
theorem dX4_personOff_55 : decode cX4_personOff 55 = .ok (.ireturn, 1) := by decide +kernel
theorem dX4_personOff_56 : decode cX4_personOff 56 = .ok (.iload_n 3, 1) := by decide +kernel
theorem dX4_personOff_57 : decode cX4_personOff 57 = .ok (.iconst 3, 1) := by decide +kernel
theorem dX4_personOff_58 : decode cX4_personOff 58 = .ok (.iadd, 1) := by decide +kernel
theorem dX4_personOff_59 : decode cX4_personOff 59 = .ok (.invokestatic 199, 3) := by decide +kernel
theorem dX4_personOff_62 : decode cX4_personOff 62 = .ok (.ireturn, 1) := by decide +kernel
theorem dX4_personOff_63 : decode cX4_personOff 63 = .ok (.iload_n 3, 1) := by decide +kernel
theorem dX4_personOff_64 : decode cX4_personOff 64 = .ok (.ireturn, 1) := by decide +kernel
theorem dX4_said_0 : decode cX4_said 0 = .ok (.iload_n 1, 1) := by decide +kernel
theorem dX4_said_1 : decode cX4_said 1 = .ok (.ifCond .lt 12, 3) := by decide +kernel
theorem dX4_said_4 : decode cX4_said 4 = .ok (.iload_n 1, 1) := by decide +kernel
theorem dX4_said_5 : decode cX4_said 5 = .ok (.aload_n 0, 1) := by decide +kernel
theorem dX4_said_6 : decode cX4_said 6 = .ok (.getfield 171, 3) := by decide +kernel
theorem dX4_said_9 : decode cX4_said 9 = .ok (.ishr, 1) := by decide +kernel
theorem dX4_said_10 : decode cX4_said 10 = .ok (.ifCond .eq 7, 3) := by decide +kernel
theorem dX4_said_13 : decode cX4_said 13 = .ok (.iconst (-1), 1) := by decide +kernel
theorem dX4_said_14 : decode cX4_said 14 = .ok (.goto 39, 3) := by decide +kernel
theorem dX4_said_17 : decode cX4_said 17 = .ok (.iload_n 2, 1) := by decide +kernel
theorem dX4_said_18 : decode cX4_said 18 = .ok (.iconst 0, 1) := by decide +kernel
theorem dX4_said_19 : decode cX4_said 19 = .ok (.iconst 1, 1) := by decide +kernel
theorem dX4_said_20 : decode cX4_said 20 = .ok (.invokestatic 96, 3) := by decide +kernel
theorem dX4_said_23 : decode cX4_said 23 = .ok (.ifCond .eq 12, 3) := by decide +kernel
theorem dX4_said_26 : decode cX4_said 26 = .ok (.iload_n 3, 1) := by decide +kernel
theorem dX4_said_27 : decode cX4_said 27 = .ok (.iconst 0, 1) := by decide +kernel
theorem dX4_said_28 : decode cX4_said 28 = .ok (.iconst 1, 1) := by decide +kernel
theorem dX4_said_29 : decode cX4_said 29 = .ok (.invokestatic 96, 3) := by decide +kernel
theorem dX4_said_32 : decode cX4_said 32 = .ok (.ifCond .ne 8, 3) := by decide +kernel
theorem dX4_said_35 : decode cX4_said 35 = .ok (.bipush (-2), 2) := by decide +kernel
theorem dX4_said_37 : decode cX4_said 37 = .ok (.goto 16, 3) := by decide +kernel
theorem dX4_said_40 : decode cX4_said 40 = .ok (.aload_n 0, 1) := by decide +kernel
theorem dX4_said_41 : decode cX4_said 41 = .ok (.getfield 75, 3) := by decide +kernel
theorem dX4_said_44 : decode cX4_said 44 = .ok (.ifCond .ne 8, 3) := by decide +kernel
theorem dX4_said_47 : decode cX4_said 47 = .ok (.bipush (-3), 2) := by decide +kernel
theorem dX4_said_49 : decode cX4_said 49 = .ok (.goto 4, 3) := by decide +kernel
theorem dX4_said_52 : decode cX4_said 52 = .ok (.iconst 0, 1) := by decide +kernel
theorem dX4_said_53 : decode cX4_said 53 = .ok (.istore 4, 2) := by decide +kernel
theorem dX4_said_55 : decode cX4_said 55 = .ok (.iload 4, 2) := by decide +kernel
theorem dX4_said_57 : decode cX4_said 57 = .ok (.ifCond .eq 10, 3) := by decide +kernel
theorem dX4_said_60 : decode cX4_said 60 = .ok (.aload_n 0, 1) := by decide +kernel
theorem dX4_said_61 : decode cX4_said 61 = .ok (.iload 4, 2) := by decide +kernel
theorem dX4_said_63 : decode cX4_said 63 = .ok (.invokevirtual 235, 3) := by decide +kernel
theorem dX4_said_66 : decode cX4_said 66 = .ok (.lreturn, 1) := by decide +kernel
theorem dX4_said_67 : decode cX4_said 67 = .ok (.aload_n 0, 1) := by decide +kernel
theorem dX4_said_68 : decode cX4_said 68 = .ok (.invokevirtual 239, 3) := by decide +kernel
theorem dX4_said_71 : decode cX4_said 71 = .ok (.aload_n 0, 1) := by decide +kernel
theorem dX4_said_72 : decode cX4_said 72 = .ok (.invokevirtual 242, 3) := by decide +kernel
theorem dX4_said_75 : decode cX4_said 75 = .ok (.lstore 5, 2) := by decide +kernel
theorem dX4_said_77 : decode cX4_said 77 = .ok (.iconst 0, 1) := by decide +kernel
theorem dX4_said_78 : decode cX4_said 78 = .ok (.istore 7, 2) := by decide +kernel
theorem dX4_said_80 : decode cX4_said 80 = .ok (.iload 7, 2) := by decide +kernel
theorem dX4_said_82 : decode cX4_said 82 = .ok (.iconst 5, 1) := by decide +kernel
theorem dX4_said_83 : decode cX4_said 83 = .ok (.if_icmp .ge 85, 3) := by decide +kernel
theorem dX4_said_86 : decode cX4_said 86 = .ok (.aload_n 0, 1) := by decide +kernel
theorem dX4_said_87 : decode cX4_said 87 = .ok (.getfield 56, 3) := by decide +kernel
theorem dX4_said_90 : decode cX4_said 90 = .ok (.iload 7, 2) := by decide +kernel
theorem dX4_said_92 : decode cX4_said 92 = .ok (.aload_n 0, 1) := by decide +kernel
theorem dX4_said_93 : decode cX4_said 93 = .ok (.getfield 52, 3) := by decide +kernel
theorem dX4_said_96 : decode cX4_said 96 = .ok (.iload 7, 2) := by decide +kernel
theorem dX4_said_98 : decode cX4_said 98 = .ok (.laload, 1) := by decide +kernel
theorem dX4_said_99 : decode cX4_said 99 = .ok (.lastore, 1) := by decide +kernel
theorem dX4_said_100 : decode cX4_said 100 = .ok (.iconst 0, 1) := by decide +kernel
theorem dX4_said_101 : decode cX4_said 101 = .ok (.istore 8, 2) := by decide +kernel
theorem dX4_said_103 : decode cX4_said 103 = .ok (.iload 8, 2) := by decide +kernel
theorem dX4_said_105 : decode cX4_said 105 = .ok (.aload_n 0, 1) := by decide +kernel
theorem dX4_said_106 : decode cX4_said 106 = .ok (.getfield 171, 3) := by decide +kernel
theorem dX4_said_109 : decode cX4_said 109 = .ok (.if_icmp .ge 53, 3) := by decide +kernel
theorem dX4_said_112 : decode cX4_said 112 = .ok (.aload_n 0, 1) := by decide +kernel
theorem dX4_said_113 : decode cX4_said 113 = .ok (.getfield 56, 3) := by decide +kernel
theorem dX4_said_116 : decode cX4_said 116 = .ok (.iload 7, 2) := by decide +kernel
theorem dX4_said_118 : decode cX4_said 118 = .ok (.dup2, 1) := by decide +kernel
theorem dX4_said_119 : decode cX4_said 119 = .ok (.laload, 1) := by decide +kernel
theorem dX4_said_120 : decode cX4_said 120 = .ok (.iload_n 1, 1) := by decide +kernel
theorem dX4_said_121 : decode cX4_said 121 = .ok (.iload 8, 2) := by decide +kernel
theorem dX4_said_123 : decode cX4_said 123 = .ok (.ishr, 1) := by decide +kernel
theorem dX4_said_124 : decode cX4_said 124 = .ok (.iconst 1, 1) := by decide +kernel
theorem dX4_said_125 : decode cX4_said 125 = .ok (.iand, 1) := by decide +kernel
theorem dX4_said_126 : decode cX4_said 126 = .ok (.iconst 1, 1) := by decide +kernel
theorem dX4_said_127 : decode cX4_said 127 = .ok (.if_icmp .ne 15, 3) := by decide +kernel
theorem dX4_said_130 : decode cX4_said 130 = .ok (.aload_n 0, 1) := by decide +kernel
theorem dX4_said_131 : decode cX4_said 131 = .ok (.iload 8, 2) := by decide +kernel
theorem dX4_said_133 : decode cX4_said 133 = .ok (.iload 7, 2) := by decide +kernel
theorem dX4_said_135 : decode cX4_said 135 = .ok (.invokevirtual 300, 3) := by decide +kernel
theorem dX4_said_138 : decode cX4_said 138 = .ok (.i2l, 1) := by decide +kernel
theorem dX4_said_139 : decode cX4_said 139 = .ok (.goto 15, 3) := by decide +kernel
theorem dX4_said_142 : decode cX4_said 142 = .ok (.bipush 10, 2) := by decide +kernel
theorem dX4_said_144 : decode cX4_said 144 = .ok (.aload_n 0, 1) := by decide +kernel
theorem dX4_said_145 : decode cX4_said 145 = .ok (.iload 8, 2) := by decide +kernel
theorem dX4_said_147 : decode cX4_said 147 = .ok (.iload 7, 2) := by decide +kernel
theorem dX4_said_149 : decode cX4_said 149 = .ok (.invokevirtual 300, 3) := by decide +kernel
theorem dX4_said_152 : decode cX4_said 152 = .ok (.isub, 1) := by decide +kernel
theorem dX4_said_153 : decode cX4_said 153 = .ok (.i2l, 1) := by decide +kernel
theorem dX4_said_154 : decode cX4_said 154 = .ok (.lmul, 1) := by decide +kernel
theorem dX4_said_155 : decode cX4_said 155 = .ok (.lastore, 1) := by decide +kernel
theorem dX4_said_156 : decode cX4_said 156 = .ok (.iinc 8 1, 3) := by decide +kernel
theorem dX4_said_159 : decode cX4_said 159 = .ok (.goto (-56), 3) := by decide +kernel
theorem dX4_said_162 : decode cX4_said 162 = .ok (.iinc 7 1, 3) := by decide +kernel
theorem dX4_said_165 : decode cX4_said 165 = .ok (.goto (-85), 3) := by decide +kernel
theorem dX4_said_168 : decode cX4_said 168 = .ok (.iconst 0, 1) := by decide +kernel
theorem dX4_said_169 : decode cX4_said 169 = .ok (.istore 7, 2) := by decide +kernel
theorem dX4_said_171 : decode cX4_said 171 = .ok (.iload 7, 2) := by decide +kernel
theorem dX4_said_173 : decode cX4_said 173 = .ok (.aload_n 0, 1) := by decide +kernel
theorem dX4_said_174 : decode cX4_said 174 = .ok (.getfield 171, 3) := by decide +kernel
theorem dX4_said_177 : decode cX4_said 177 = .ok (.if_icmp .ge 17, 3) := by decide +kernel
theorem dX4_said_180 : decode cX4_said 180 = .ok (.lload 5, 2) := by decide +kernel
theorem dX4_said_182 : decode cX4_said 182 = .ok (.ldc2_w 267, 3) := by decide +kernel
theorem dX4_said_185 : decode cX4_said 185 = .ok (.lmul, 1) := by decide +kernel
theorem dX4_said_186 : decode cX4_said 186 = .ok (.lstore 5, 2) := by decide +kernel
theorem dX4_said_188 : decode cX4_said 188 = .ok (.iinc 7 1, 3) := by decide +kernel
theorem dX4_said_191 : decode cX4_said 191 = .ok (.goto (-20), 3) := by decide +kernel
theorem dX4_said_194 : decode cX4_said 194 = .ok (.iload_n 2, 1) := by decide +kernel
theorem dX4_said_195 : decode cX4_said 195 = .ok (.ifCond .ne 16, 3) := by decide +kernel
theorem dX4_said_198 : decode cX4_said 198 = .ok (.aload_n 0, 1) := by decide +kernel
theorem dX4_said_199 : decode cX4_said 199 = .ok (.invokevirtual 291, 3) := by decide +kernel
theorem dX4_said_202 : decode cX4_said 202 = .ok (.lload 5, 2) := by decide +kernel
theorem dX4_said_204 : decode cX4_said 204 = .ok (.iload_n 3, 1) := by decide +kernel
theorem dX4_said_205 : decode cX4_said 205 = .ok (.invokestatic 246, 3) := by decide +kernel
theorem dX4_said_208 : decode cX4_said 208 = .ok (.goto 24, 3) := by decide +kernel
theorem dX4_said_211 : decode cX4_said 211 = .ok (.aload_n 0, 1) := by decide +kernel
theorem dX4_said_212 : decode cX4_said 212 = .ok (.getfield 56, 3) := by decide +kernel
theorem dX4_said_215 : decode cX4_said 215 = .ok (.iconst 0, 1) := by decide +kernel
theorem dX4_said_216 : decode cX4_said 216 = .ok (.laload, 1) := by decide +kernel
theorem dX4_said_217 : decode cX4_said 217 = .ok (.aload_n 0, 1) := by decide +kernel
theorem dX4_said_218 : decode cX4_said 218 = .ok (.getfield 56, 3) := by decide +kernel
theorem dX4_said_221 : decode cX4_said 221 = .ok (.iconst 1, 1) := by decide +kernel
theorem dX4_said_222 : decode cX4_said 222 = .ok (.laload, 1) := by decide +kernel
theorem dX4_said_223 : decode cX4_said 223 = .ok (.ladd, 1) := by decide +kernel
theorem dX4_said_224 : decode cX4_said 224 = .ok (.aload_n 0, 1) := by decide +kernel
theorem dX4_said_225 : decode cX4_said 225 = .ok (.invokevirtual 291, 3) := by decide +kernel
theorem dX4_said_228 : decode cX4_said 228 = .ok (.iload_n 3, 1) := by decide +kernel
theorem dX4_said_229 : decode cX4_said 229 = .ok (.invokestatic 246, 3) := by decide +kernel
theorem dX4_said_232 : decode cX4_said 232 = .ok (.lreturn, 1) := by decide +kernel
theorem dX4_rightOf_0 : decode cX4_rightOf 0 = .ok (.lconst 0, 1) := by decide +kernel
theorem dX4_rightOf_1 : decode cX4_rightOf 1 = .ok (.lstore_n 2, 1) := by decide +kernel
theorem dX4_rightOf_2 : decode cX4_rightOf 2 = .ok (.iconst 0, 1) := by decide +kernel
theorem dX4_rightOf_3 : decode cX4_rightOf 3 = .ok (.istore 4, 2) := by decide +kernel
theorem dX4_rightOf_5 : decode cX4_rightOf 5 = .ok (.iload 4, 2) := by decide +kernel
theorem dX4_rightOf_7 : decode cX4_rightOf 7 = .ok (.iconst 5, 1) := by decide +kernel
theorem dX4_rightOf_8 : decode cX4_rightOf 8 = .ok (.if_icmp .ge 47, 3) := by decide +kernel
theorem dX4_rightOf_11 : decode cX4_rightOf 11 = .ok (.lload_n 2, 1) := by decide +kernel
theorem dX4_rightOf_12 : decode cX4_rightOf 12 = .ok (.aload_n 0, 1) := by decide +kernel
theorem dX4_rightOf_13 : decode cX4_rightOf 13 = .ok (.getfield 52, 3) := by decide +kernel
theorem dX4_rightOf_16 : decode cX4_rightOf 16 = .ok (.iload 4, 2) := by decide +kernel
theorem dX4_rightOf_18 : decode cX4_rightOf 18 = .ok (.laload, 1) := by decide +kernel
theorem dX4_rightOf_19 : decode cX4_rightOf 19 = .ok (.iload 4, 2) := by decide +kernel
theorem dX4_rightOf_21 : decode cX4_rightOf 21 = .ok (.iconst 1, 1) := by decide +kernel
theorem dX4_rightOf_22 : decode cX4_rightOf 22 = .ok (.if_icmp .le 13, 3) := by decide +kernel
theorem dX4_rightOf_25 : decode cX4_rightOf 25 = .ok (.aload_n 0, 1) := by decide +kernel
theorem dX4_rightOf_26 : decode cX4_rightOf 26 = .ok (.iload_n 1, 1) := by decide +kernel
theorem dX4_rightOf_27 : decode cX4_rightOf 27 = .ok (.iload 4, 2) := by decide +kernel
theorem dX4_rightOf_29 : decode cX4_rightOf 29 = .ok (.invokevirtual 300, 3) := by decide +kernel
theorem dX4_rightOf_32 : decode cX4_rightOf 32 = .ok (.goto 13, 3) := by decide +kernel
theorem dX4_rightOf_35 : decode cX4_rightOf 35 = .ok (.bipush 10, 2) := by decide +kernel
theorem dX4_rightOf_37 : decode cX4_rightOf 37 = .ok (.aload_n 0, 1) := by decide +kernel
theorem dX4_rightOf_38 : decode cX4_rightOf 38 = .ok (.iload_n 1, 1) := by decide +kernel
theorem dX4_rightOf_39 : decode cX4_rightOf 39 = .ok (.iload 4, 2) := by decide +kernel
theorem dX4_rightOf_41 : decode cX4_rightOf 41 = .ok (.invokevirtual 300, 3) := by decide +kernel
theorem dX4_rightOf_44 : decode cX4_rightOf 44 = .ok (.isub, 1) := by decide +kernel
theorem dX4_rightOf_45 : decode cX4_rightOf 45 = .ok (.i2l, 1) := by decide +kernel
theorem dX4_rightOf_46 : decode cX4_rightOf 46 = .ok (.lmul, 1) := by decide +kernel
theorem dX4_rightOf_47 : decode cX4_rightOf 47 = .ok (.ladd, 1) := by decide +kernel
theorem dX4_rightOf_48 : decode cX4_rightOf 48 = .ok (.lstore_n 2, 1) := by decide +kernel
theorem dX4_rightOf_49 : decode cX4_rightOf 49 = .ok (.iinc 4 1, 3) := by decide +kernel
theorem dX4_rightOf_52 : decode cX4_rightOf 52 = .ok (.goto (-47), 3) := by decide +kernel
theorem dX4_rightOf_55 : decode cX4_rightOf 55 = .ok (.lload_n 2, 1) := by decide +kernel
theorem dX4_rightOf_56 : decode cX4_rightOf 56 = .ok (.lreturn, 1) := by decide +kernel
theorem dX4_ask_0 : decode cX4_ask 0 = .ok (.aload_n 0, 1) := by decide +kernel
theorem dX4_ask_1 : decode cX4_ask 1 = .ok (.getfield 75, 3) := by decide +kernel
theorem dX4_ask_4 : decode cX4_ask 4 = .ok (.ifCond .ne 10, 3) := by decide +kernel
theorem dX4_ask_7 : decode cX4_ask 7 = .ok (.aload_n 0, 1) := by decide +kernel
theorem dX4_ask_8 : decode cX4_ask 8 = .ok (.bipush (-3), 2) := by decide +kernel
theorem dX4_ask_10 : decode cX4_ask 10 = .ok (.invokevirtual 85, 3) := by decide +kernel
theorem dX4_ask_13 : decode cX4_ask 13 = .ok (.ireturn, 1) := by decide +kernel
theorem dX4_ask_14 : decode cX4_ask 14 = .ok (.aload_n 0, 1) := by decide +kernel
theorem dX4_ask_15 : decode cX4_ask 15 = .ok (.invokevirtual 239, 3) := by decide +kernel
theorem dX4_ask_18 : decode cX4_ask 18 = .ok (.bipush (-9), 2) := by decide +kernel
theorem dX4_ask_20 : decode cX4_ask 20 = .ok (.istore_n 1, 1) := by decide +kernel
theorem dX4_ask_21 : decode cX4_ask 21 = .ok (.iconst 0, 1) := by decide +kernel
theorem dX4_ask_22 : decode cX4_ask 22 = .ok (.istore_n 2, 1) := by decide +kernel
theorem dX4_ask_23 : decode cX4_ask 23 = .ok (.iload_n 2, 1) := by decide +kernel
theorem dX4_ask_24 : decode cX4_ask 24 = .ok (.aload_n 0, 1) := by decide +kernel
theorem dX4_ask_25 : decode cX4_ask 25 = .ok (.getfield 171, 3) := by decide +kernel
theorem dX4_ask_28 : decode cX4_ask 28 = .ok (.if_icmp .ge 33, 3) := by decide +kernel
theorem dX4_ask_31 : decode cX4_ask 31 = .ok (.iload_n 1, 1) := by decide +kernel
theorem dX4_ask_32 : decode cX4_ask 32 = .ok (.ifCond .lt 17, 3) := by decide +kernel
theorem dX4_ask_35 : decode cX4_ask 35 = .ok (.aload_n 0, 1) := by decide +kernel
theorem dX4_ask_36 : decode cX4_ask 36 = .ok (.iload_n 2, 1) := by decide +kernel
theorem dX4_ask_37 : decode cX4_ask 37 = .ok (.invokevirtual 303, 3) := by decide +kernel
theorem dX4_ask_40 : decode cX4_ask 40 = .ok (.aload_n 0, 1) := by decide +kernel
theorem dX4_ask_41 : decode cX4_ask 41 = .ok (.iload_n 1, 1) := by decide +kernel
theorem dX4_ask_42 : decode cX4_ask 42 = .ok (.invokevirtual 303, 3) := by decide +kernel
theorem dX4_ask_45 : decode cX4_ask 45 = .ok (.lcmp, 1) := by decide +kernel
theorem dX4_ask_46 : decode cX4_ask 46 = .ok (.ifCond .le 7, 3) := by decide +kernel
theorem dX4_ask_49 : decode cX4_ask 49 = .ok (.iload_n 2, 1) := by decide +kernel
theorem dX4_ask_50 : decode cX4_ask 50 = .ok (.goto 4, 3) := by decide +kernel
theorem dX4_ask_53 : decode cX4_ask 53 = .ok (.iload_n 1, 1) := by decide +kernel
theorem dX4_ask_54 : decode cX4_ask 54 = .ok (.istore_n 1, 1) := by decide +kernel
theorem dX4_ask_55 : decode cX4_ask 55 = .ok (.iinc 2 1, 3) := by decide +kernel
theorem dX4_ask_58 : decode cX4_ask 58 = .ok (.goto (-35), 3) := by decide +kernel
theorem dX4_ask_61 : decode cX4_ask 61 = .ok (.iload_n 1, 1) := by decide +kernel
theorem dX4_ask_62 : decode cX4_ask 62 = .ok (.ireturn, 1) := by decide +kernel
theorem dX4_laysWeights_0 : decode cX4_laysWeights 0 = .ok (.iconst 0, 1) := by decide +kernel
theorem dX4_laysWeights_1 : decode cX4_laysWeights 1 = .ok (.istore 4, 2) := by decide +kernel
theorem dX4_laysWeights_3 : decode cX4_laysWeights 3 = .ok (.iload 4, 2) := by decide +kernel
theorem dX4_laysWeights_5 : decode cX4_laysWeights 5 = .ok (.iconst 5, 1) := by decide +kernel
theorem dX4_laysWeights_6 : decode cX4_laysWeights 6 = .ok (.if_icmp .ge 22, 3) := by decide +kernel
theorem dX4_laysWeights_9 : decode cX4_laysWeights 9 = .ok (.aload_n 1, 1) := by decide +kernel
theorem dX4_laysWeights_10 : decode cX4_laysWeights 10 = .ok (.iload 4, 2) := by decide +kernel
theorem dX4_laysWeights_12 : decode cX4_laysWeights 12 = .ok (.aload_n 0, 1) := by decide +kernel
theorem dX4_laysWeights_13 : decode cX4_laysWeights 13 = .ok (.iload_n 2, 1) := by decide +kernel
theorem dX4_laysWeights_14 : decode cX4_laysWeights 14 = .ok (.iload_n 3, 1) := by decide +kernel
theorem dX4_laysWeights_15 : decode cX4_laysWeights 15 = .ok (.iload 4, 2) := by decide +kernel
theorem dX4_laysWeights_17 : decode cX4_laysWeights 17 = .ok (.invokevirtual 211, 3) := by decide +kernel
theorem dX4_laysWeights_20 : decode cX4_laysWeights 20 = .ok (.i2l, 1) := by decide +kernel
theorem dX4_laysWeights_21 : decode cX4_laysWeights 21 = .ok (.lastore, 1) := by decide +kernel
theorem dX4_laysWeights_22 : decode cX4_laysWeights 22 = .ok (.iinc 4 1, 3) := by decide +kernel
theorem dX4_laysWeights_25 : decode cX4_laysWeights 25 = .ok (.goto (-22), 3) := by decide +kernel
theorem dX4_laysWeights_28 : decode cX4_laysWeights 28 = .ok (.return_, 1) := by decide +kernel
theorem dX4_keep_0 : decode cX4_keep 0 = .ok (.aload_n 0, 1) := by decide +kernel
theorem dX4_keep_1 : decode cX4_keep 1 = .ok (.iload_n 1, 1) := by decide +kernel
theorem dX4_keep_2 : decode cX4_keep 2 = .ok (.invokevirtual 253, 3) := by decide +kernel
theorem dX4_keep_5 : decode cX4_keep 5 = .ok (.istore 4, 2) := by decide +kernel
theorem dX4_keep_7 : decode cX4_keep 7 = .ok (.iload 4, 2) := by decide +kernel
theorem dX4_keep_9 : decode cX4_keep 9 = .ok (.ifCond .ne 36, 3) := by decide +kernel
theorem dX4_keep_12 : decode cX4_keep 12 = .ok (.iload_n 2, 1) := by decide +kernel
theorem dX4_keep_13 : decode cX4_keep 13 = .ok (.ifCond .lt 7, 3) := by decide +kernel
theorem dX4_keep_16 : decode cX4_keep 16 = .ok (.iload_n 3, 1) := by decide +kernel
theorem dX4_keep_17 : decode cX4_keep 17 = .ok (.ifCond .ge 8, 3) := by decide +kernel
theorem dX4_keep_20 : decode cX4_keep 20 = .ok (.bipush (-4), 2) := by decide +kernel
theorem dX4_keep_22 : decode cX4_keep 22 = .ok (.goto 21, 3) := by decide +kernel
theorem dX4_keep_25 : decode cX4_keep 25 = .ok (.iload_n 2, 1) := by decide +kernel
theorem dX4_keep_26 : decode cX4_keep 26 = .ok (.bipush 7, 2) := by decide +kernel
theorem dX4_keep_28 : decode cX4_keep 28 = .ok (.if_icmp .gt 9, 3) := by decide +kernel
theorem dX4_keep_31 : decode cX4_keep 31 = .ok (.iload_n 3, 1) := by decide +kernel
theorem dX4_keep_32 : decode cX4_keep 32 = .ok (.bipush 9, 2) := by decide +kernel
theorem dX4_keep_34 : decode cX4_keep 34 = .ok (.if_icmp .le 8, 3) := by decide +kernel
theorem dX4_keep_37 : decode cX4_keep 37 = .ok (.bipush (-6), 2) := by decide +kernel
theorem dX4_keep_39 : decode cX4_keep 39 = .ok (.goto 4, 3) := by decide +kernel
theorem dX4_keep_42 : decode cX4_keep 42 = .ok (.iconst 0, 1) := by decide +kernel
theorem dX4_keep_43 : decode cX4_keep 43 = .ok (.istore 4, 2) := by decide +kernel
theorem dX4_keep_45 : decode cX4_keep 45 = .ok (.iload 4, 2) := by decide +kernel
theorem dX4_keep_47 : decode cX4_keep 47 = .ok (.ifCond .eq 10, 3) := by decide +kernel
theorem dX4_keep_50 : decode cX4_keep 50 = .ok (.aload_n 0, 1) := by decide +kernel
theorem dX4_keep_51 : decode cX4_keep 51 = .ok (.iload 4, 2) := by decide +kernel
theorem dX4_keep_53 : decode cX4_keep 53 = .ok (.invokevirtual 85, 3) := by decide +kernel
theorem dX4_keep_56 : decode cX4_keep 56 = .ok (.ireturn, 1) := by decide +kernel
theorem dX4_keep_57 : decode cX4_keep 57 = .ok (.iconst 0, 1) := by decide +kernel
theorem dX4_keep_58 : decode cX4_keep 58 = .ok (.istore 5, 2) := by decide +kernel
theorem dX4_keep_60 : decode cX4_keep 60 = .ok (.lconst 0, 1) := by decide +kernel
theorem dX4_keep_61 : decode cX4_keep 61 = .ok (.lstore 6, 2) := by decide +kernel
theorem dX4_keep_63 : decode cX4_keep 63 = .ok (.lconst 0, 1) := by decide +kernel
theorem dX4_keep_64 : decode cX4_keep 64 = .ok (.lstore 8, 2) := by decide +kernel
theorem dX4_keep_66 : decode cX4_keep 66 = .ok (.iconst 0, 1) := by decide +kernel
theorem dX4_keep_67 : decode cX4_keep 67 = .ok (.istore 10, 2) := by decide +kernel
theorem dX4_keep_69 : decode cX4_keep 69 = .ok (.iload 10, 2) := by decide +kernel
theorem dX4_keep_71 : decode cX4_keep 71 = .ok (.iload_n 2, 1) := by decide +kernel
theorem dX4_keep_72 : decode cX4_keep 72 = .ok (.if_icmp .gt 126, 3) := by decide +kernel
theorem dX4_keep_75 : decode cX4_keep 75 = .ok (.aload_n 0, 1) := by decide +kernel
theorem dX4_keep_76 : decode cX4_keep 76 = .ok (.aload_n 0, 1) := by decide +kernel
theorem dX4_keep_77 : decode cX4_keep 77 = .ok (.getfield 56, 3) := by decide +kernel
theorem dX4_keep_80 : decode cX4_keep 80 = .ok (.aload_n 0, 1) := by decide +kernel
theorem dX4_keep_81 : decode cX4_keep 81 = .ok (.getfield 117, 3) := by decide +kernel
theorem dX4_keep_84 : decode cX4_keep 84 = .ok (.aload_n 0, 1) := by decide +kernel
theorem dX4_keep_85 : decode cX4_keep 85 = .ok (.getfield 22, 3) := by decide +kernel
theorem dX4_keep_88 : decode cX4_keep 88 = .ok (.aload_n 0, 1) := by decide +kernel
theorem dX4_keep_89 : decode cX4_keep 89 = .ok (.getfield 117, 3) := by decide +kernel
theorem dX4_keep_92 : decode cX4_keep 92 = .ok (.iaload, 1) := by decide +kernel
theorem dX4_keep_93 : decode cX4_keep 93 = .ok (.bipush 24, 2) := by decide +kernel
theorem dX4_keep_95 : decode cX4_keep 95 = .ok (.iload 10, 2) := by decide +kernel
theorem dX4_keep_97 : decode cX4_keep 97 = .ok (.imul, 1) := by decide +kernel
theorem dX4_keep_98 : decode cX4_keep 98 = .ok (.aload_n 0, 1) := by decide +kernel
theorem dX4_keep_99 : decode cX4_keep 99 = .ok (.getfield 13, 3) := by decide +kernel
theorem dX4_keep_102 : decode cX4_keep 102 = .ok (.aload_n 0, 1) := by decide +kernel
theorem dX4_keep_103 : decode cX4_keep 103 = .ok (.getfield 117, 3) := by decide +kernel
theorem dX4_keep_106 : decode cX4_keep 106 = .ok (.iaload, 1) := by decide +kernel
theorem dX4_keep_107 : decode cX4_keep 107 = .ok (.invokestatic 180, 3) := by decide +kernel
theorem dX4_keep_110 : decode cX4_keep 110 = .ok (.imul, 1) := by decide +kernel
theorem dX4_keep_111 : decode cX4_keep 111 = .ok (.iadd, 1) := by decide +kernel
theorem dX4_keep_112 : decode cX4_keep 112 = .ok (.invokestatic 177, 3) := by decide +kernel
theorem dX4_keep_115 : decode cX4_keep 115 = .ok (.invokevirtual 306, 3) := by decide +kernel
theorem dX4_keep_118 : decode cX4_keep 118 = .ok (.aload_n 0, 1) := by decide +kernel
theorem dX4_keep_119 : decode cX4_keep 119 = .ok (.invokevirtual 291, 3) := by decide +kernel
theorem dX4_keep_122 : decode cX4_keep 122 = .ok (.lstore 11, 2) := by decide +kernel
theorem dX4_keep_124 : decode cX4_keep 124 = .ok (.aload_n 0, 1) := by decide +kernel
theorem dX4_keep_125 : decode cX4_keep 125 = .ok (.aload_n 0, 1) := by decide +kernel
theorem dX4_keep_126 : decode cX4_keep 126 = .ok (.getfield 56, 3) := by decide +kernel
theorem dX4_keep_129 : decode cX4_keep 129 = .ok (.iload_n 1, 1) := by decide +kernel
theorem dX4_keep_130 : decode cX4_keep 130 = .ok (.invokevirtual 263, 3) := by decide +kernel
theorem dX4_keep_133 : decode cX4_keep 133 = .ok (.aload_n 0, 1) := by decide +kernel
theorem dX4_keep_134 : decode cX4_keep 134 = .ok (.getfield 19, 3) := by decide +kernel
theorem dX4_keep_137 : decode cX4_keep 137 = .ok (.aload_n 0, 1) := by decide +kernel
theorem dX4_keep_138 : decode cX4_keep 138 = .ok (.getfield 117, 3) := by decide +kernel
theorem dX4_keep_141 : decode cX4_keep 141 = .ok (.iaload, 1) := by decide +kernel
theorem dX4_keep_142 : decode cX4_keep 142 = .ok (.i2l, 1) := by decide +kernel
theorem dX4_keep_143 : decode cX4_keep 143 = .ok (.lmul, 1) := by decide +kernel
theorem dX4_keep_144 : decode cX4_keep 144 = .ok (.lload 11, 2) := by decide +kernel
theorem dX4_keep_146 : decode cX4_keep 146 = .ok (.iload_n 3, 1) := by decide +kernel
theorem dX4_keep_147 : decode cX4_keep 147 = .ok (.i2l, 1) := by decide +kernel
theorem dX4_keep_148 : decode cX4_keep 148 = .ok (.lmul, 1) := by decide +kernel
theorem dX4_keep_149 : decode cX4_keep 149 = .ok (.iload 10, 2) := by decide +kernel
theorem dX4_keep_151 : decode cX4_keep 151 = .ok (.i2l, 1) := by decide +kernel
theorem dX4_keep_152 : decode cX4_keep 152 = .ok (.lmul, 1) := by decide +kernel
theorem dX4_keep_153 : decode cX4_keep 153 = .ok (.lsub, 1) := by decide +kernel
theorem dX4_keep_154 : decode cX4_keep 154 = .ok (.lstore 13, 2) := by decide +kernel
theorem dX4_keep_156 : decode cX4_keep 156 = .ok (.lload 8, 2) := by decide +kernel
theorem dX4_keep_158 : decode cX4_keep 158 = .ok (.lconst 0, 1) := by decide +kernel
theorem dX4_keep_159 : decode cX4_keep 159 = .ok (.lcmp, 1) := by decide +kernel
theorem dX4_keep_160 : decode cX4_keep 160 = .ok (.ifCond .le 20, 3) := by decide +kernel
theorem dX4_keep_163 : decode cX4_keep 163 = .ok (.lload 13, 2) := by decide +kernel
theorem dX4_keep_165 : decode cX4_keep 165 = .ok (.lload 8, 2) := by decide +kernel
theorem dX4_keep_167 : decode cX4_keep 167 = .ok (.lmul, 1) := by decide +kernel
theorem dX4_keep_168 : decode cX4_keep 168 = .ok (.lload 6, 2) := by decide +kernel
theorem dX4_keep_170 : decode cX4_keep 170 = .ok (.lload 11, 2) := by decide +kernel
theorem dX4_keep_172 : decode cX4_keep 172 = .ok (.lmul, 1) := by decide +kernel
theorem dX4_keep_173 : decode cX4_keep 173 = .ok (.lcmp, 1) := by decide +kernel
theorem dX4_keep_174 : decode cX4_keep 174 = .ok (.ifCond .gt 6, 3) := by decide +kernel
theorem dX4_keep_177 : decode cX4_keep 177 = .ok (.goto 15, 3) := by decide +kernel
theorem dX4_keep_180 : decode cX4_keep 180 = .ok (.iload 10, 2) := by decide +kernel
theorem dX4_keep_182 : decode cX4_keep 182 = .ok (.istore 5, 2) := by decide +kernel
theorem dX4_keep_184 : decode cX4_keep 184 = .ok (.lload 13, 2) := by decide +kernel
theorem dX4_keep_186 : decode cX4_keep 186 = .ok (.lstore 6, 2) := by decide +kernel
theorem dX4_keep_188 : decode cX4_keep 188 = .ok (.lload 11, 2) := by decide +kernel
theorem dX4_keep_190 : decode cX4_keep 190 = .ok (.lstore 8, 2) := by decide +kernel
theorem dX4_keep_192 : decode cX4_keep 192 = .ok (.iinc 10 1, 3) := by decide +kernel
theorem dX4_keep_195 : decode cX4_keep 195 = .ok (.goto (-126), 3) := by decide +kernel
theorem dX4_keep_198 : decode cX4_keep 198 = .ok (.iload 5, 2) := by decide +kernel
theorem dX4_keep_200 : decode cX4_keep 200 = .ok (.ireturn, 1) := by decide +kernel
theorem dX4_seldom_0 : decode cX4_seldom 0 = .ok (.aload_n 0, 1) := by decide +kernel
theorem dX4_seldom_1 : decode cX4_seldom 1 = .ok (.iload_n 1, 1) := by decide +kernel
theorem dX4_seldom_2 : decode cX4_seldom 2 = .ok (.invokevirtual 253, 3) := by decide +kernel
theorem dX4_seldom_5 : decode cX4_seldom 5 = .ok (.istore_n 3, 1) := by decide +kernel
theorem dX4_seldom_6 : decode cX4_seldom 6 = .ok (.iload_n 3, 1) := by decide +kernel
theorem dX4_seldom_7 : decode cX4_seldom 7 = .ok (.ifCond .ne 11, 3) := by decide +kernel
theorem dX4_seldom_10 : decode cX4_seldom 10 = .ok (.iload_n 2, 1) := by decide +kernel
theorem dX4_seldom_11 : decode cX4_seldom 11 = .ok (.iconst 0, 1) := by decide +kernel
theorem dX4_seldom_12 : decode cX4_seldom 12 = .ok (.bipush 100, 2) := by decide +kernel
theorem dX4_seldom_14 : decode cX4_seldom 14 = .ok (.invokestatic 78, 3) := by decide +kernel
theorem dX4_seldom_17 : decode cX4_seldom 17 = .ok (.istore_n 3, 1) := by decide +kernel
theorem dX4_seldom_18 : decode cX4_seldom 18 = .ok (.iload_n 3, 1) := by decide +kernel
theorem dX4_seldom_19 : decode cX4_seldom 19 = .ok (.ifCond .eq 9, 3) := by decide +kernel
theorem dX4_seldom_22 : decode cX4_seldom 22 = .ok (.aload_n 0, 1) := by decide +kernel
theorem dX4_seldom_23 : decode cX4_seldom 23 = .ok (.iload_n 3, 1) := by decide +kernel
theorem dX4_seldom_24 : decode cX4_seldom 24 = .ok (.invokevirtual 85, 3) := by decide +kernel
theorem dX4_seldom_27 : decode cX4_seldom 27 = .ok (.ireturn, 1) := by decide +kernel
theorem dX4_seldom_28 : decode cX4_seldom 28 = .ok (.aload_n 0, 1) := by decide +kernel
theorem dX4_seldom_29 : decode cX4_seldom 29 = .ok (.invokevirtual 239, 3) := by decide +kernel
theorem dX4_seldom_32 : decode cX4_seldom 32 = .ok (.bipush (-9), 2) := by decide +kernel
theorem dX4_seldom_34 : decode cX4_seldom 34 = .ok (.istore 4, 2) := by decide +kernel
theorem dX4_seldom_36 : decode cX4_seldom 36 = .ok (.iconst 0, 1) := by decide +kernel
theorem dX4_seldom_37 : decode cX4_seldom 37 = .ok (.istore 5, 2) := by decide +kernel
theorem dX4_seldom_39 : decode cX4_seldom 39 = .ok (.iload 5, 2) := by decide +kernel
theorem dX4_seldom_41 : decode cX4_seldom 41 = .ok (.iconst 5, 1) := by decide +kernel
theorem dX4_seldom_42 : decode cX4_seldom 42 = .ok (.if_icmp .ge 68, 3) := by decide +kernel
theorem dX4_seldom_45 : decode cX4_seldom 45 = .ok (.ldc2_w 279, 3) := by decide +kernel
theorem dX4_seldom_48 : decode cX4_seldom 48 = .ok (.aload_n 0, 1) := by decide +kernel
theorem dX4_seldom_49 : decode cX4_seldom 49 = .ok (.iload 5, 2) := by decide +kernel
theorem dX4_seldom_51 : decode cX4_seldom 51 = .ok (.invokevirtual 256, 3) := by decide +kernel
theorem dX4_seldom_54 : decode cX4_seldom 54 = .ok (.lmul, 1) := by decide +kernel
theorem dX4_seldom_55 : decode cX4_seldom 55 = .ok (.iload_n 2, 1) := by decide +kernel
theorem dX4_seldom_56 : decode cX4_seldom 56 = .ok (.i2l, 1) := by decide +kernel
theorem dX4_seldom_57 : decode cX4_seldom 57 = .ok (.aload_n 0, 1) := by decide +kernel
theorem dX4_seldom_58 : decode cX4_seldom 58 = .ok (.invokevirtual 242, 3) := by decide +kernel
theorem dX4_seldom_61 : decode cX4_seldom 61 = .ok (.lmul, 1) := by decide +kernel
theorem dX4_seldom_62 : decode cX4_seldom 62 = .ok (.lcmp, 1) := by decide +kernel
theorem dX4_seldom_63 : decode cX4_seldom 63 = .ok (.ifCond .le 6, 3) := by decide +kernel
theorem dX4_seldom_66 : decode cX4_seldom 66 = .ok (.goto 38, 3) := by decide +kernel
theorem dX4_seldom_69 : decode cX4_seldom 69 = .ok (.iload 4, 2) := by decide +kernel
theorem dX4_seldom_71 : decode cX4_seldom 71 = .ok (.ifCond .lt 29, 3) := by decide +kernel
theorem dX4_seldom_74 : decode cX4_seldom 74 = .ok (.aload_n 0, 1) := by decide +kernel
theorem dX4_seldom_75 : decode cX4_seldom 75 = .ok (.aload_n 0, 1) := by decide +kernel
theorem dX4_seldom_76 : decode cX4_seldom 76 = .ok (.getfield 52, 3) := by decide +kernel
theorem dX4_seldom_79 : decode cX4_seldom 79 = .ok (.iload 5, 2) := by decide +kernel
theorem dX4_seldom_81 : decode cX4_seldom 81 = .ok (.iload_n 1, 1) := by decide +kernel
theorem dX4_seldom_82 : decode cX4_seldom 82 = .ok (.invokevirtual 220, 3) := by decide +kernel
theorem dX4_seldom_85 : decode cX4_seldom 85 = .ok (.aload_n 0, 1) := by decide +kernel
theorem dX4_seldom_86 : decode cX4_seldom 86 = .ok (.aload_n 0, 1) := by decide +kernel
theorem dX4_seldom_87 : decode cX4_seldom 87 = .ok (.getfield 52, 3) := by decide +kernel
theorem dX4_seldom_90 : decode cX4_seldom 90 = .ok (.iload 4, 2) := by decide +kernel
theorem dX4_seldom_92 : decode cX4_seldom 92 = .ok (.iload_n 1, 1) := by decide +kernel
theorem dX4_seldom_93 : decode cX4_seldom 93 = .ok (.invokevirtual 220, 3) := by decide +kernel
theorem dX4_seldom_96 : decode cX4_seldom 96 = .ok (.lcmp, 1) := by decide +kernel
theorem dX4_seldom_97 : decode cX4_seldom 97 = .ok (.ifCond .le 7, 3) := by decide +kernel
theorem dX4_seldom_100 : decode cX4_seldom 100 = .ok (.iload 5, 2) := by decide +kernel
theorem dX4_seldom_102 : decode cX4_seldom 102 = .ok (.istore 4, 2) := by decide +kernel
theorem dX4_seldom_104 : decode cX4_seldom 104 = .ok (.iinc 5 1, 3) := by decide +kernel
theorem dX4_seldom_107 : decode cX4_seldom 107 = .ok (.goto (-68), 3) := by decide +kernel
theorem dX4_seldom_110 : decode cX4_seldom 110 = .ok (.iload 4, 2) := by decide +kernel
theorem dX4_seldom_112 : decode cX4_seldom 112 = .ok (.ireturn, 1) := by decide +kernel
theorem dX4_join_0 : decode cX4_join 0 = .ok (.aload_n 0, 1) := by decide +kernel
theorem dX4_join_1 : decode cX4_join 1 = .ok (.iload_n 1, 1) := by decide +kernel
theorem dX4_join_2 : decode cX4_join 2 = .ok (.invokevirtual 131, 3) := by decide +kernel
theorem dX4_join_5 : decode cX4_join 5 = .ok (.ifCond .eq 23, 3) := by decide +kernel
theorem dX4_join_8 : decode cX4_join 8 = .ok (.aload_n 0, 1) := by decide +kernel
theorem dX4_join_9 : decode cX4_join 9 = .ok (.iload_n 2, 1) := by decide +kernel
theorem dX4_join_10 : decode cX4_join 10 = .ok (.invokevirtual 131, 3) := by decide +kernel
theorem dX4_join_13 : decode cX4_join 13 = .ok (.ifCond .eq 15, 3) := by decide +kernel
theorem dX4_join_16 : decode cX4_join 16 = .ok (.iload_n 1, 1) := by decide +kernel
theorem dX4_join_17 : decode cX4_join 17 = .ok (.iload_n 2, 1) := by decide +kernel
theorem dX4_join_18 : decode cX4_join 18 = .ok (.if_icmp .eq 10, 3) := by decide +kernel
theorem dX4_join_21 : decode cX4_join 21 = .ok (.iload_n 3, 1) := by decide +kernel
theorem dX4_join_22 : decode cX4_join 22 = .ok (.invokestatic 250, 3) := by decide +kernel
theorem dX4_join_25 : decode cX4_join 25 = .ok (.ifCond .ne 7, 3) := by decide +kernel
theorem dX4_join_28 : decode cX4_join 28 = .ok (.iconst (-1), 1) := by decide +kernel
theorem dX4_join_29 : decode cX4_join 29 = .ok (.goto 19, 3) := by decide +kernel
theorem dX4_join_32 : decode cX4_join 32 = .ok (.iload 4, 2) := by decide +kernel
theorem dX4_join_34 : decode cX4_join 34 = .ok (.iconst 0, 1) := by decide +kernel
theorem dX4_join_35 : decode cX4_join 35 = .ok (.iconst 1, 1) := by decide +kernel
theorem dX4_join_36 : decode cX4_join 36 = .ok (.invokestatic 96, 3) := by decide +kernel
theorem dX4_join_39 : decode cX4_join 39 = .ok (.ifCond .ne 8, 3) := by decide +kernel
theorem dX4_join_42 : decode cX4_join 42 = .ok (.bipush (-2), 2) := by decide +kernel
theorem dX4_join_44 : decode cX4_join 44 = .ok (.goto 4, 3) := by decide +kernel
theorem dX4_join_47 : decode cX4_join 47 = .ok (.iconst 0, 1) := by decide +kernel
theorem dX4_join_48 : decode cX4_join 48 = .ok (.istore 5, 2) := by decide +kernel
theorem dX4_join_50 : decode cX4_join 50 = .ok (.iload 5, 2) := by decide +kernel
theorem dX4_join_52 : decode cX4_join 52 = .ok (.ifCond .eq 10, 3) := by decide +kernel
theorem dX4_join_55 : decode cX4_join 55 = .ok (.aload_n 0, 1) := by decide +kernel
theorem dX4_join_56 : decode cX4_join 56 = .ok (.iload 5, 2) := by decide +kernel
theorem dX4_join_58 : decode cX4_join 58 = .ok (.invokevirtual 235, 3) := by decide +kernel
theorem dX4_join_61 : decode cX4_join 61 = .ok (.lreturn, 1) := by decide +kernel
theorem dX4_join_62 : decode cX4_join 62 = .ok (.aload_n 0, 1) := by decide +kernel
theorem dX4_join_63 : decode cX4_join 63 = .ok (.aload_n 0, 1) := by decide +kernel
theorem dX4_join_64 : decode cX4_join 64 = .ok (.getfield 56, 3) := by decide +kernel
theorem dX4_join_67 : decode cX4_join 67 = .ok (.iload_n 1, 1) := by decide +kernel
theorem dX4_join_68 : decode cX4_join 68 = .ok (.aload_n 0, 1) := by decide +kernel
theorem dX4_join_69 : decode cX4_join 69 = .ok (.getfield 22, 3) := by decide +kernel
theorem dX4_join_72 : decode cX4_join 72 = .ok (.iload_n 1, 1) := by decide +kernel
theorem dX4_join_73 : decode cX4_join 73 = .ok (.iaload, 1) := by decide +kernel
theorem dX4_join_74 : decode cX4_join 74 = .ok (.invokevirtual 306, 3) := by decide +kernel
theorem dX4_join_77 : decode cX4_join 77 = .ok (.aload_n 0, 1) := by decide +kernel
theorem dX4_join_78 : decode cX4_join 78 = .ok (.invokevirtual 291, 3) := by decide +kernel
theorem dX4_join_81 : decode cX4_join 81 = .ok (.lstore 6, 2) := by decide +kernel
theorem dX4_join_83 : decode cX4_join 83 = .ok (.aload_n 0, 1) := by decide +kernel
theorem dX4_join_84 : decode cX4_join 84 = .ok (.aload_n 0, 1) := by decide +kernel
theorem dX4_join_85 : decode cX4_join 85 = .ok (.getfield 56, 3) := by decide +kernel
theorem dX4_join_88 : decode cX4_join 88 = .ok (.iload_n 3, 1) := by decide +kernel
theorem dX4_join_89 : decode cX4_join 89 = .ok (.invokevirtual 263, 3) := by decide +kernel
theorem dX4_join_92 : decode cX4_join 92 = .ok (.aload_n 0, 1) := by decide +kernel
theorem dX4_join_93 : decode cX4_join 93 = .ok (.getfield 19, 3) := by decide +kernel
theorem dX4_join_96 : decode cX4_join 96 = .ok (.iload_n 1, 1) := by decide +kernel
theorem dX4_join_97 : decode cX4_join 97 = .ok (.iaload, 1) := by decide +kernel
theorem dX4_join_98 : decode cX4_join 98 = .ok (.i2l, 1) := by decide +kernel
theorem dX4_join_99 : decode cX4_join 99 = .ok (.lmul, 1) := by decide +kernel
theorem dX4_join_100 : decode cX4_join 100 = .ok (.lstore 8, 2) := by decide +kernel
theorem dX4_join_102 : decode cX4_join 102 = .ok (.aload_n 0, 1) := by decide +kernel
theorem dX4_join_103 : decode cX4_join 103 = .ok (.aload_n 0, 1) := by decide +kernel
theorem dX4_join_104 : decode cX4_join 104 = .ok (.getfield 59, 3) := by decide +kernel
theorem dX4_join_107 : decode cX4_join 107 = .ok (.iload_n 2, 1) := by decide +kernel
theorem dX4_join_108 : decode cX4_join 108 = .ok (.aload_n 0, 1) := by decide +kernel
theorem dX4_join_109 : decode cX4_join 109 = .ok (.getfield 22, 3) := by decide +kernel
theorem dX4_join_112 : decode cX4_join 112 = .ok (.iload_n 2, 1) := by decide +kernel
theorem dX4_join_113 : decode cX4_join 113 = .ok (.iaload, 1) := by decide +kernel
theorem dX4_join_114 : decode cX4_join 114 = .ok (.invokevirtual 306, 3) := by decide +kernel
theorem dX4_join_117 : decode cX4_join 117 = .ok (.lconst 0, 1) := by decide +kernel
theorem dX4_join_118 : decode cX4_join 118 = .ok (.lstore 10, 2) := by decide +kernel
theorem dX4_join_120 : decode cX4_join 120 = .ok (.iconst 0, 1) := by decide +kernel
theorem dX4_join_121 : decode cX4_join 121 = .ok (.istore 12, 2) := by decide +kernel
theorem dX4_join_123 : decode cX4_join 123 = .ok (.iload 12, 2) := by decide +kernel
theorem dX4_join_125 : decode cX4_join 125 = .ok (.iconst 5, 1) := by decide +kernel
theorem dX4_join_126 : decode cX4_join 126 = .ok (.if_icmp .ge 21, 3) := by decide +kernel
theorem dX4_join_129 : decode cX4_join 129 = .ok (.lload 10, 2) := by decide +kernel
theorem dX4_join_131 : decode cX4_join 131 = .ok (.aload_n 0, 1) := by decide +kernel
theorem dX4_join_132 : decode cX4_join 132 = .ok (.getfield 59, 3) := by decide +kernel
theorem dX4_join_135 : decode cX4_join 135 = .ok (.iload 12, 2) := by decide +kernel
theorem dX4_join_137 : decode cX4_join 137 = .ok (.laload, 1) := by decide +kernel
theorem dX4_join_138 : decode cX4_join 138 = .ok (.ladd, 1) := by decide +kernel
theorem dX4_join_139 : decode cX4_join 139 = .ok (.lstore 10, 2) := by decide +kernel
theorem dX4_join_141 : decode cX4_join 141 = .ok (.iinc 12 1, 3) := by decide +kernel
theorem dX4_join_144 : decode cX4_join 144 = .ok (.goto (-21), 3) := by decide +kernel
theorem dX4_join_147 : decode cX4_join 147 = .ok (.aload_n 0, 1) := by decide +kernel
theorem dX4_join_148 : decode cX4_join 148 = .ok (.aload_n 0, 1) := by decide +kernel
theorem dX4_join_149 : decode cX4_join 149 = .ok (.getfield 59, 3) := by decide +kernel
theorem dX4_join_152 : decode cX4_join 152 = .ok (.iload_n 3, 1) := by decide +kernel
theorem dX4_join_153 : decode cX4_join 153 = .ok (.invokevirtual 263, 3) := by decide +kernel
theorem dX4_join_156 : decode cX4_join 156 = .ok (.aload_n 0, 1) := by decide +kernel
theorem dX4_join_157 : decode cX4_join 157 = .ok (.getfield 19, 3) := by decide +kernel
theorem dX4_join_160 : decode cX4_join 160 = .ok (.iload_n 2, 1) := by decide +kernel
theorem dX4_join_161 : decode cX4_join 161 = .ok (.iaload, 1) := by decide +kernel
theorem dX4_join_162 : decode cX4_join 162 = .ok (.i2l, 1) := by decide +kernel
theorem dX4_join_163 : decode cX4_join 163 = .ok (.lmul, 1) := by decide +kernel
theorem dX4_join_164 : decode cX4_join 164 = .ok (.lstore 12, 2) := by decide +kernel
theorem dX4_join_166 : decode cX4_join 166 = .ok (.iconst 0, 1) := by decide +kernel
theorem dX4_join_167 : decode cX4_join 167 = .ok (.istore 14, 2) := by decide +kernel
theorem dX4_join_169 : decode cX4_join 169 = .ok (.iload 14, 2) := by decide +kernel
theorem dX4_join_171 : decode cX4_join 171 = .ok (.iconst 5, 1) := by decide +kernel
theorem dX4_join_172 : decode cX4_join 172 = .ok (.if_icmp .ge 17, 3) := by decide +kernel
theorem dX4_join_175 : decode cX4_join 175 = .ok (.aload_n 0, 1) := by decide +kernel
theorem dX4_join_176 : decode cX4_join 176 = .ok (.getfield 52, 3) := by decide +kernel
theorem dX4_join_179 : decode cX4_join 179 = .ok (.iload 14, 2) := by decide +kernel
theorem dX4_join_181 : decode cX4_join 181 = .ok (.lconst 0, 1) := by decide +kernel
theorem dX4_join_182 : decode cX4_join 182 = .ok (.lastore, 1) := by decide +kernel
theorem dX4_join_183 : decode cX4_join 183 = .ok (.iinc 14 1, 3) := by decide +kernel
theorem dX4_join_186 : decode cX4_join 186 = .ok (.goto (-17), 3) := by decide +kernel
theorem dX4_join_189 : decode cX4_join 189 = .ok (.iconst 0, 1) := by decide +kernel
theorem dX4_join_190 : decode cX4_join 190 = .ok (.istore 14, 2) := by decide +kernel
theorem dX4_join_192 : decode cX4_join 192 = .ok (.iload 14, 2) := by decide +kernel
theorem dX4_join_194 : decode cX4_join 194 = .ok (.bipush 25, 2) := by decide +kernel
theorem dX4_join_196 : decode cX4_join 196 = .ok (.if_icmp .ge 58, 3) := by decide +kernel
theorem dX4_join_199 : decode cX4_join 199 = .ok (.aload_n 0, 1) := by decide +kernel
theorem dX4_join_200 : decode cX4_join 200 = .ok (.getfield 52, 3) := by decide +kernel
theorem dX4_join_203 : decode cX4_join 203 = .ok (.iload 14, 2) := by decide +kernel
theorem dX4_join_205 : decode cX4_join 205 = .ok (.iconst 5, 1) := by decide +kernel
theorem dX4_join_206 : decode cX4_join 206 = .ok (.idiv, 1) := by decide +kernel
theorem dX4_join_207 : decode cX4_join 207 = .ok (.iload 14, 2) := by decide +kernel
theorem dX4_join_209 : decode cX4_join 209 = .ok (.iconst 5, 1) := by decide +kernel
theorem dX4_join_210 : decode cX4_join 210 = .ok (.irem, 1) := by decide +kernel
theorem dX4_join_211 : decode cX4_join 211 = .ok (.if_icmp .le 10, 3) := by decide +kernel
theorem dX4_join_214 : decode cX4_join 214 = .ok (.iload 14, 2) := by decide +kernel
theorem dX4_join_216 : decode cX4_join 216 = .ok (.iconst 5, 1) := by decide +kernel
theorem dX4_join_217 : decode cX4_join 217 = .ok (.idiv, 1) := by decide +kernel
theorem dX4_join_218 : decode cX4_join 218 = .ok (.goto 7, 3) := by decide +kernel
theorem dX4_join_221 : decode cX4_join 221 = .ok (.iload 14, 2) := by decide +kernel
theorem dX4_join_223 : decode cX4_join 223 = .ok (.iconst 5, 1) := by decide +kernel
theorem dX4_join_224 : decode cX4_join 224 = .ok (.irem, 1) := by decide +kernel
theorem dX4_join_225 : decode cX4_join 225 = .ok (.dup2, 1) := by decide +kernel
theorem dX4_join_226 : decode cX4_join 226 = .ok (.laload, 1) := by decide +kernel
theorem dX4_join_227 : decode cX4_join 227 = .ok (.aload_n 0, 1) := by decide +kernel
theorem dX4_join_228 : decode cX4_join 228 = .ok (.getfield 56, 3) := by decide +kernel
theorem dX4_join_231 : decode cX4_join 231 = .ok (.iload 14, 2) := by decide +kernel
theorem dX4_join_233 : decode cX4_join 233 = .ok (.iconst 5, 1) := by decide +kernel
theorem dX4_join_234 : decode cX4_join 234 = .ok (.idiv, 1) := by decide +kernel
theorem dX4_join_235 : decode cX4_join 235 = .ok (.laload, 1) := by decide +kernel
theorem dX4_join_236 : decode cX4_join 236 = .ok (.aload_n 0, 1) := by decide +kernel
theorem dX4_join_237 : decode cX4_join 237 = .ok (.getfield 59, 3) := by decide +kernel
theorem dX4_join_240 : decode cX4_join 240 = .ok (.iload 14, 2) := by decide +kernel
theorem dX4_join_242 : decode cX4_join 242 = .ok (.iconst 5, 1) := by decide +kernel
theorem dX4_join_243 : decode cX4_join 243 = .ok (.irem, 1) := by decide +kernel
theorem dX4_join_244 : decode cX4_join 244 = .ok (.laload, 1) := by decide +kernel
theorem dX4_join_245 : decode cX4_join 245 = .ok (.lmul, 1) := by decide +kernel
theorem dX4_join_246 : decode cX4_join 246 = .ok (.ladd, 1) := by decide +kernel
theorem dX4_join_247 : decode cX4_join 247 = .ok (.lastore, 1) := by decide +kernel
theorem dX4_join_248 : decode cX4_join 248 = .ok (.iinc 14 1, 3) := by decide +kernel
theorem dX4_join_251 : decode cX4_join 251 = .ok (.goto (-59), 3) := by decide +kernel
theorem dX4_join_254 : decode cX4_join 254 = .ok (.aload_n 0, 1) := by decide +kernel
theorem dX4_join_255 : decode cX4_join 255 = .ok (.aload_n 0, 1) := by decide +kernel
theorem dX4_join_256 : decode cX4_join 256 = .ok (.getfield 52, 3) := by decide +kernel
theorem dX4_join_259 : decode cX4_join 259 = .ok (.iload_n 3, 1) := by decide +kernel
theorem dX4_join_260 : decode cX4_join 260 = .ok (.invokevirtual 263, 3) := by decide +kernel
theorem dX4_join_263 : decode cX4_join 263 = .ok (.aload_n 0, 1) := by decide +kernel
theorem dX4_join_264 : decode cX4_join 264 = .ok (.getfield 19, 3) := by decide +kernel
theorem dX4_join_267 : decode cX4_join 267 = .ok (.iload_n 1, 1) := by decide +kernel
theorem dX4_join_268 : decode cX4_join 268 = .ok (.iaload, 1) := by decide +kernel
theorem dX4_join_269 : decode cX4_join 269 = .ok (.aload_n 0, 1) := by decide +kernel
theorem dX4_join_270 : decode cX4_join 270 = .ok (.getfield 19, 3) := by decide +kernel
theorem dX4_join_273 : decode cX4_join 273 = .ok (.iload_n 2, 1) := by decide +kernel
theorem dX4_join_274 : decode cX4_join 274 = .ok (.iaload, 1) := by decide +kernel
theorem dX4_join_275 : decode cX4_join 275 = .ok (.iadd, 1) := by decide +kernel
theorem dX4_join_276 : decode cX4_join 276 = .ok (.i2l, 1) := by decide +kernel
theorem dX4_join_277 : decode cX4_join 277 = .ok (.lmul, 1) := by decide +kernel
theorem dX4_join_278 : decode cX4_join 278 = .ok (.lload 8, 2) := by decide +kernel
theorem dX4_join_280 : decode cX4_join 280 = .ok (.lload 10, 2) := by decide +kernel
theorem dX4_join_282 : decode cX4_join 282 = .ok (.lmul, 1) := by decide +kernel
theorem dX4_join_283 : decode cX4_join 283 = .ok (.lsub, 1) := by decide +kernel
theorem dX4_join_284 : decode cX4_join 284 = .ok (.lload 12, 2) := by decide +kernel
theorem dX4_join_286 : decode cX4_join 286 = .ok (.lload 6, 2) := by decide +kernel
theorem dX4_join_288 : decode cX4_join 288 = .ok (.lmul, 1) := by decide +kernel
theorem dX4_join_289 : decode cX4_join 289 = .ok (.lsub, 1) := by decide +kernel
theorem dX4_join_290 : decode cX4_join 290 = .ok (.lstore 14, 2) := by decide +kernel
theorem dX4_join_292 : decode cX4_join 292 = .ok (.lload 14, 2) := by decide +kernel
theorem dX4_join_294 : decode cX4_join 294 = .ok (.lload 6, 2) := by decide +kernel
theorem dX4_join_296 : decode cX4_join 296 = .ok (.lload 10, 2) := by decide +kernel
theorem dX4_join_298 : decode cX4_join 298 = .ok (.lmul, 1) := by decide +kernel
theorem dX4_join_299 : decode cX4_join 299 = .ok (.iload 4, 2) := by decide +kernel
theorem dX4_join_301 : decode cX4_join 301 = .ok (.invokestatic 246, 3) := by decide +kernel
theorem dX4_join_304 : decode cX4_join 304 = .ok (.lreturn, 1) := by decide +kernel
theorem dX4_larderBy_0 : decode cX4_larderBy 0 = .ok (.iconst 0, 1) := by decide +kernel
theorem dX4_larderBy_1 : decode cX4_larderBy 1 = .ok (.istore 5, 2) := by decide +kernel
theorem dX4_larderBy_3 : decode cX4_larderBy 3 = .ok (.iload 5, 2) := by decide +kernel
theorem dX4_larderBy_5 : decode cX4_larderBy 5 = .ok (.iconst 4, 1) := by decide +kernel
theorem dX4_larderBy_6 : decode cX4_larderBy 6 = .ok (.if_icmp .ge 17, 3) := by decide +kernel
theorem dX4_larderBy_9 : decode cX4_larderBy 9 = .ok (.aload_n 0, 1) := by decide +kernel
theorem dX4_larderBy_10 : decode cX4_larderBy 10 = .ok (.getfield 65, 3) := by decide +kernel
theorem dX4_larderBy_13 : decode cX4_larderBy 13 = .ok (.iload 5, 2) := by decide +kernel
theorem dX4_larderBy_15 : decode cX4_larderBy 15 = .ok (.iconst 0, 1) := by decide +kernel
theorem dX4_larderBy_16 : decode cX4_larderBy 16 = .ok (.iastore, 1) := by decide +kernel
theorem dX4_larderBy_17 : decode cX4_larderBy 17 = .ok (.iinc 5 1, 3) := by decide +kernel
theorem dX4_larderBy_20 : decode cX4_larderBy 20 = .ok (.goto (-17), 3) := by decide +kernel
theorem dX4_larderBy_23 : decode cX4_larderBy 23 = .ok (.iconst 0, 1) := by decide +kernel
theorem dX4_larderBy_24 : decode cX4_larderBy 24 = .ok (.istore 5, 2) := by decide +kernel
theorem dX4_larderBy_26 : decode cX4_larderBy 26 = .ok (.iconst 0, 1) := by decide +kernel
theorem dX4_larderBy_27 : decode cX4_larderBy 27 = .ok (.istore 6, 2) := by decide +kernel
theorem dX4_larderBy_29 : decode cX4_larderBy 29 = .ok (.iload 6, 2) := by decide +kernel
theorem dX4_larderBy_31 : decode cX4_larderBy 31 = .ok (.iload_n 1, 1) := by decide +kernel
theorem dX4_larderBy_32 : decode cX4_larderBy 32 = .ok (.if_icmp .ge 159, 3) := by decide +kernel
theorem dX4_larderBy_35 : decode cX4_larderBy 35 = .ok (.iload 6, 2) := by decide +kernel
theorem dX4_larderBy_37 : decode cX4_larderBy 37 = .ok (.iload_n 2, 1) := by decide +kernel
theorem dX4_larderBy_38 : decode cX4_larderBy 38 = .ok (.irem, 1) := by decide +kernel
theorem dX4_larderBy_39 : decode cX4_larderBy 39 = .ok (.ifCond .ne 22, 3) := by decide +kernel
theorem dX4_larderBy_42 : decode cX4_larderBy 42 = .ok (.aload_n 0, 1) := by decide +kernel
theorem dX4_larderBy_43 : decode cX4_larderBy 43 = .ok (.getfield 65, 3) := by decide +kernel
theorem dX4_larderBy_46 : decode cX4_larderBy 46 = .ok (.iconst 0, 1) := by decide +kernel
theorem dX4_larderBy_47 : decode cX4_larderBy 47 = .ok (.dup2, 1) := by decide +kernel
theorem dX4_larderBy_48 : decode cX4_larderBy 48 = .ok (.iaload, 1) := by decide +kernel
theorem dX4_larderBy_49 : decode cX4_larderBy 49 = .ok (.iload_n 3, 1) := by decide +kernel
theorem dX4_larderBy_50 : decode cX4_larderBy 50 = .ok (.iadd, 1) := by decide +kernel
theorem dX4_larderBy_51 : decode cX4_larderBy 51 = .ok (.iastore, 1) := by decide +kernel
theorem dX4_larderBy_52 : decode cX4_larderBy 52 = .ok (.iload 5, 2) := by decide +kernel
theorem dX4_larderBy_54 : decode cX4_larderBy 54 = .ok (.iload_n 3, 1) := by decide +kernel
theorem dX4_larderBy_55 : decode cX4_larderBy 55 = .ok (.iload 4, 2) := by decide +kernel
theorem dX4_larderBy_57 : decode cX4_larderBy 57 = .ok (.imul, 1) := by decide +kernel
theorem dX4_larderBy_58 : decode cX4_larderBy 58 = .ok (.iadd, 1) := by decide +kernel
theorem dX4_larderBy_59 : decode cX4_larderBy 59 = .ok (.istore 5, 2) := by decide +kernel
theorem dX4_larderBy_61 : decode cX4_larderBy 61 = .ok (.aload_n 0, 1) := by decide +kernel
theorem dX4_larderBy_62 : decode cX4_larderBy 62 = .ok (.getfield 62, 3) := by decide +kernel
theorem dX4_larderBy_65 : decode cX4_larderBy 65 = .ok (.iload 6, 2) := by decide +kernel
theorem dX4_larderBy_67 : decode cX4_larderBy 67 = .ok (.bipush 7, 2) := by decide +kernel
theorem dX4_larderBy_69 : decode cX4_larderBy 69 = .ok (.irem, 1) := by decide +kernel
theorem dX4_larderBy_70 : decode cX4_larderBy 70 = .ok (.iaload, 1) := by decide +kernel
theorem dX4_larderBy_71 : decode cX4_larderBy 71 = .ok (.istore 7, 2) := by decide +kernel
theorem dX4_larderBy_73 : decode cX4_larderBy 73 = .ok (.iconst 2, 1) := by decide +kernel
theorem dX4_larderBy_74 : decode cX4_larderBy 74 = .ok (.istore 8, 2) := by decide +kernel
theorem dX4_larderBy_76 : decode cX4_larderBy 76 = .ok (.iload 8, 2) := by decide +kernel
theorem dX4_larderBy_78 : decode cX4_larderBy 78 = .ok (.ifCond .lt 54, 3) := by decide +kernel
theorem dX4_larderBy_81 : decode cX4_larderBy 81 = .ok (.iload 7, 2) := by decide +kernel
theorem dX4_larderBy_83 : decode cX4_larderBy 83 = .ok (.aload_n 0, 1) := by decide +kernel
theorem dX4_larderBy_84 : decode cX4_larderBy 84 = .ok (.getfield 65, 3) := by decide +kernel
theorem dX4_larderBy_87 : decode cX4_larderBy 87 = .ok (.iload 8, 2) := by decide +kernel
theorem dX4_larderBy_89 : decode cX4_larderBy 89 = .ok (.iaload, 1) := by decide +kernel
theorem dX4_larderBy_90 : decode cX4_larderBy 90 = .ok (.if_icmp .ge 8, 3) := by decide +kernel
theorem dX4_larderBy_93 : decode cX4_larderBy 93 = .ok (.iload 7, 2) := by decide +kernel
theorem dX4_larderBy_95 : decode cX4_larderBy 95 = .ok (.goto 10, 3) := by decide +kernel
theorem dX4_larderBy_98 : decode cX4_larderBy 98 = .ok (.aload_n 0, 1) := by decide +kernel
theorem dX4_larderBy_99 : decode cX4_larderBy 99 = .ok (.getfield 65, 3) := by decide +kernel
theorem dX4_larderBy_102 : decode cX4_larderBy 102 = .ok (.iload 8, 2) := by decide +kernel
theorem dX4_larderBy_104 : decode cX4_larderBy 104 = .ok (.iaload, 1) := by decide +kernel
theorem dX4_larderBy_105 : decode cX4_larderBy 105 = .ok (.istore 9, 2) := by decide +kernel
theorem dX4_larderBy_107 : decode cX4_larderBy 107 = .ok (.aload_n 0, 1) := by decide +kernel
theorem dX4_larderBy_108 : decode cX4_larderBy 108 = .ok (.getfield 65, 3) := by decide +kernel
theorem dX4_larderBy_111 : decode cX4_larderBy 111 = .ok (.iload 8, 2) := by decide +kernel
theorem dX4_larderBy_113 : decode cX4_larderBy 113 = .ok (.dup2, 1) := by decide +kernel
theorem dX4_larderBy_114 : decode cX4_larderBy 114 = .ok (.iaload, 1) := by decide +kernel
theorem dX4_larderBy_115 : decode cX4_larderBy 115 = .ok (.iload 9, 2) := by decide +kernel
theorem dX4_larderBy_117 : decode cX4_larderBy 117 = .ok (.isub, 1) := by decide +kernel
theorem dX4_larderBy_118 : decode cX4_larderBy 118 = .ok (.iastore, 1) := by decide +kernel
theorem dX4_larderBy_119 : decode cX4_larderBy 119 = .ok (.iload 7, 2) := by decide +kernel
theorem dX4_larderBy_121 : decode cX4_larderBy 121 = .ok (.iload 9, 2) := by decide +kernel
theorem dX4_larderBy_123 : decode cX4_larderBy 123 = .ok (.isub, 1) := by decide +kernel
theorem dX4_larderBy_124 : decode cX4_larderBy 124 = .ok (.istore 7, 2) := by decide +kernel
theorem dX4_larderBy_126 : decode cX4_larderBy 126 = .ok (.iinc 8 (-1), 3) := by decide +kernel
theorem dX4_larderBy_129 : decode cX4_larderBy 129 = .ok (.goto (-53), 3) := by decide +kernel
theorem dX4_larderBy_132 : decode cX4_larderBy 132 = .ok (.iload 5, 2) := by decide +kernel
theorem dX4_larderBy_134 : decode cX4_larderBy 134 = .ok (.bipush 9, 2) := by decide +kernel
theorem dX4_larderBy_136 : decode cX4_larderBy 136 = .ok (.iload 7, 2) := by decide +kernel
theorem dX4_larderBy_138 : decode cX4_larderBy 138 = .ok (.imul, 1) := by decide +kernel
theorem dX4_larderBy_139 : decode cX4_larderBy 139 = .ok (.aload_n 0, 1) := by decide +kernel
theorem dX4_larderBy_140 : decode cX4_larderBy 140 = .ok (.getfield 68, 3) := by decide +kernel
theorem dX4_larderBy_143 : decode cX4_larderBy 143 = .ok (.aload_n 0, 1) := by decide +kernel
theorem dX4_larderBy_144 : decode cX4_larderBy 144 = .ok (.getfield 65, 3) := by decide +kernel
theorem dX4_larderBy_147 : decode cX4_larderBy 147 = .ok (.iconst 2, 1) := by decide +kernel
theorem dX4_larderBy_148 : decode cX4_larderBy 148 = .ok (.iaload, 1) := by decide +kernel
theorem dX4_larderBy_149 : decode cX4_larderBy 149 = .ok (.imul, 1) := by decide +kernel
theorem dX4_larderBy_150 : decode cX4_larderBy 150 = .ok (.iadd, 1) := by decide +kernel
theorem dX4_larderBy_151 : decode cX4_larderBy 151 = .ok (.iadd, 1) := by decide +kernel
theorem dX4_larderBy_152 : decode cX4_larderBy 152 = .ok (.istore 5, 2) := by decide +kernel
theorem dX4_larderBy_154 : decode cX4_larderBy 154 = .ok (.aload_n 0, 1) := by decide +kernel
theorem dX4_larderBy_155 : decode cX4_larderBy 155 = .ok (.getfield 65, 3) := by decide +kernel
theorem dX4_larderBy_158 : decode cX4_larderBy 158 = .ok (.iconst 2, 1) := by decide +kernel
theorem dX4_larderBy_159 : decode cX4_larderBy 159 = .ok (.aload_n 0, 1) := by decide +kernel
theorem dX4_larderBy_160 : decode cX4_larderBy 160 = .ok (.getfield 65, 3) := by decide +kernel
theorem dX4_larderBy_163 : decode cX4_larderBy 163 = .ok (.iconst 1, 1) := by decide +kernel
theorem dX4_larderBy_164 : decode cX4_larderBy 164 = .ok (.iaload, 1) := by decide +kernel
theorem dX4_larderBy_165 : decode cX4_larderBy 165 = .ok (.iastore, 1) := by decide +kernel
theorem dX4_larderBy_166 : decode cX4_larderBy 166 = .ok (.aload_n 0, 1) := by decide +kernel
theorem dX4_larderBy_167 : decode cX4_larderBy 167 = .ok (.getfield 65, 3) := by decide +kernel
theorem dX4_larderBy_170 : decode cX4_larderBy 170 = .ok (.iconst 1, 1) := by decide +kernel
theorem dX4_larderBy_171 : decode cX4_larderBy 171 = .ok (.aload_n 0, 1) := by decide +kernel
theorem dX4_larderBy_172 : decode cX4_larderBy 172 = .ok (.getfield 65, 3) := by decide +kernel
theorem dX4_larderBy_175 : decode cX4_larderBy 175 = .ok (.iconst 0, 1) := by decide +kernel
theorem dX4_larderBy_176 : decode cX4_larderBy 176 = .ok (.iaload, 1) := by decide +kernel
theorem dX4_larderBy_177 : decode cX4_larderBy 177 = .ok (.iastore, 1) := by decide +kernel
theorem dX4_larderBy_178 : decode cX4_larderBy 178 = .ok (.aload_n 0, 1) := by decide +kernel
theorem dX4_larderBy_179 : decode cX4_larderBy 179 = .ok (.getfield 65, 3) := by decide +kernel
theorem dX4_larderBy_182 : decode cX4_larderBy 182 = .ok (.iconst 0, 1) := by decide +kernel
theorem dX4_larderBy_183 : decode cX4_larderBy 183 = .ok (.iconst 0, 1) := by decide +kernel
theorem dX4_larderBy_184 : decode cX4_larderBy 184 = .ok (.iastore, 1) := by decide +kernel
theorem dX4_larderBy_185 : decode cX4_larderBy 185 = .ok (.iinc 6 1, 3) := by decide +kernel
theorem dX4_larderBy_188 : decode cX4_larderBy 188 = .ok (.goto (-159), 3) := by decide +kernel
theorem dX4_larderBy_191 : decode cX4_larderBy 191 = .ok (.iload 5, 2) := by decide +kernel
theorem dX4_larderBy_193 : decode cX4_larderBy 193 = .ok (.ireturn, 1) := by decide +kernel
theorem dX4_larder_0 : decode cX4_larder 0 = .ok (.iload_n 1, 1) := by decide +kernel
theorem dX4_larder_1 : decode cX4_larder 1 = .ok (.iconst 1, 1) := by decide +kernel
theorem dX4_larder_2 : decode cX4_larder 2 = .ok (.if_icmp .lt 18, 3) := by decide +kernel
theorem dX4_larder_5 : decode cX4_larder 5 = .ok (.iload_n 2, 1) := by decide +kernel
theorem dX4_larder_6 : decode cX4_larder 6 = .ok (.iconst 1, 1) := by decide +kernel
theorem dX4_larder_7 : decode cX4_larder 7 = .ok (.if_icmp .lt 13, 3) := by decide +kernel
theorem dX4_larder_10 : decode cX4_larder 10 = .ok (.iload_n 3, 1) := by decide +kernel
theorem dX4_larder_11 : decode cX4_larder 11 = .ok (.iconst 1, 1) := by decide +kernel
theorem dX4_larder_12 : decode cX4_larder 12 = .ok (.if_icmp .lt 8, 3) := by decide +kernel
theorem dX4_larder_15 : decode cX4_larder 15 = .ok (.iload 4, 2) := by decide +kernel
theorem dX4_larder_17 : decode cX4_larder 17 = .ok (.ifCond .ge 8, 3) := by decide +kernel
theorem dX4_larder_20 : decode cX4_larder 20 = .ok (.bipush (-4), 2) := by decide +kernel
theorem dX4_larder_22 : decode cX4_larder 22 = .ok (.goto 48, 3) := by decide +kernel
theorem dX4_larder_25 : decode cX4_larder 25 = .ok (.iload_n 1, 1) := by decide +kernel
theorem dX4_larder_26 : decode cX4_larder 26 = .ok (.bipush 30, 2) := by decide +kernel
theorem dX4_larder_28 : decode cX4_larder 28 = .ok (.if_icmp .gt 22, 3) := by decide +kernel
theorem dX4_larder_31 : decode cX4_larder 31 = .ok (.iload_n 2, 1) := by decide +kernel
theorem dX4_larder_32 : decode cX4_larder 32 = .ok (.bipush 7, 2) := by decide +kernel
theorem dX4_larder_34 : decode cX4_larder 34 = .ok (.if_icmp .gt 16, 3) := by decide +kernel
theorem dX4_larder_37 : decode cX4_larder 37 = .ok (.iload_n 3, 1) := by decide +kernel
theorem dX4_larder_38 : decode cX4_larder 38 = .ok (.bipush 9, 2) := by decide +kernel
theorem dX4_larder_40 : decode cX4_larder 40 = .ok (.if_icmp .gt 10, 3) := by decide +kernel
theorem dX4_larder_43 : decode cX4_larder 43 = .ok (.iload 4, 2) := by decide +kernel
theorem dX4_larder_45 : decode cX4_larder 45 = .ok (.bipush 9, 2) := by decide +kernel
theorem dX4_larder_47 : decode cX4_larder 47 = .ok (.if_icmp .le 8, 3) := by decide +kernel
theorem dX4_larder_50 : decode cX4_larder 50 = .ok (.bipush (-6), 2) := by decide +kernel
theorem dX4_larder_52 : decode cX4_larder 52 = .ok (.goto 18, 3) := by decide +kernel
theorem dX4_larder_55 : decode cX4_larder 55 = .ok (.aload_n 0, 1) := by decide +kernel
theorem dX4_larder_56 : decode cX4_larder 56 = .ok (.getfield 309, 3) := by decide +kernel
theorem dX4_larder_59 : decode cX4_larder 59 = .ok (.bipush 7, 2) := by decide +kernel
theorem dX4_larder_61 : decode cX4_larder 61 = .ok (.if_icmp .eq 8, 3) := by decide +kernel
theorem dX4_larder_64 : decode cX4_larder 64 = .ok (.bipush (-3), 2) := by decide +kernel
theorem dX4_larder_66 : decode cX4_larder 66 = .ok (.goto 4, 3) := by decide +kernel
theorem dX4_larder_69 : decode cX4_larder 69 = .ok (.iconst 0, 1) := by decide +kernel
theorem dX4_larder_70 : decode cX4_larder 70 = .ok (.istore 5, 2) := by decide +kernel
theorem dX4_larder_72 : decode cX4_larder 72 = .ok (.iload 5, 2) := by decide +kernel
theorem dX4_larder_74 : decode cX4_larder 74 = .ok (.ifCond .eq 12, 3) := by decide +kernel
theorem dX4_larder_77 : decode cX4_larder 77 = .ok (.aload_n 0, 1) := by decide +kernel
theorem dX4_larder_78 : decode cX4_larder 78 = .ok (.iload 5, 2) := by decide +kernel
theorem dX4_larder_80 : decode cX4_larder 80 = .ok (.invokevirtual 85, 3) := by decide +kernel
theorem dX4_larder_83 : decode cX4_larder 83 = .ok (.goto 12, 3) := by decide +kernel
theorem dX4_larder_86 : decode cX4_larder 86 = .ok (.aload_n 0, 1) := by decide +kernel
theorem dX4_larder_87 : decode cX4_larder 87 = .ok (.iload_n 1, 1) := by decide +kernel
theorem dX4_larder_88 : decode cX4_larder 88 = .ok (.iload_n 2, 1) := by decide +kernel
theorem dX4_larder_89 : decode cX4_larder 89 = .ok (.iload_n 3, 1) := by decide +kernel
theorem dX4_larder_90 : decode cX4_larder 90 = .ok (.iload 4, 2) := by decide +kernel
theorem dX4_larder_92 : decode cX4_larder 92 = .ok (.invokevirtual 312, 3) := by decide +kernel
theorem dX4_larder_95 : decode cX4_larder 95 = .ok (.ireturn, 1) := by decide +kernel
theorem dX4_buy_0 : decode cX4_buy 0 = .ok (.iload_n 1, 1) := by decide +kernel
theorem dX4_buy_1 : decode cX4_buy 1 = .ok (.iconst 1, 1) := by decide +kernel
theorem dX4_buy_2 : decode cX4_buy 2 = .ok (.if_icmp .lt 7, 3) := by decide +kernel
theorem dX4_buy_5 : decode cX4_buy 5 = .ok (.iload_n 2, 1) := by decide +kernel
theorem dX4_buy_6 : decode cX4_buy 6 = .ok (.ifCond .ge 8, 3) := by decide +kernel
theorem dX4_buy_9 : decode cX4_buy 9 = .ok (.bipush (-4), 2) := by decide +kernel
theorem dX4_buy_11 : decode cX4_buy 11 = .ok (.goto 35, 3) := by decide +kernel
theorem dX4_buy_14 : decode cX4_buy 14 = .ok (.iload_n 1, 1) := by decide +kernel
theorem dX4_buy_15 : decode cX4_buy 15 = .ok (.bipush 30, 2) := by decide +kernel
theorem dX4_buy_17 : decode cX4_buy 17 = .ok (.if_icmp .gt 9, 3) := by decide +kernel
theorem dX4_buy_20 : decode cX4_buy 20 = .ok (.iload_n 2, 1) := by decide +kernel
theorem dX4_buy_21 : decode cX4_buy 21 = .ok (.bipush 9, 2) := by decide +kernel
theorem dX4_buy_23 : decode cX4_buy 23 = .ok (.if_icmp .le 8, 3) := by decide +kernel
theorem dX4_buy_26 : decode cX4_buy 26 = .ok (.bipush (-6), 2) := by decide +kernel
theorem dX4_buy_28 : decode cX4_buy 28 = .ok (.goto 18, 3) := by decide +kernel
theorem dX4_buy_31 : decode cX4_buy 31 = .ok (.aload_n 0, 1) := by decide +kernel
theorem dX4_buy_32 : decode cX4_buy 32 = .ok (.getfield 309, 3) := by decide +kernel
theorem dX4_buy_35 : decode cX4_buy 35 = .ok (.bipush 7, 2) := by decide +kernel
theorem dX4_buy_37 : decode cX4_buy 37 = .ok (.if_icmp .eq 8, 3) := by decide +kernel
theorem dX4_buy_40 : decode cX4_buy 40 = .ok (.bipush (-3), 2) := by decide +kernel
theorem dX4_buy_42 : decode cX4_buy 42 = .ok (.goto 4, 3) := by decide +kernel
theorem dX4_buy_45 : decode cX4_buy 45 = .ok (.iconst 0, 1) := by decide +kernel
theorem dX4_buy_46 : decode cX4_buy 46 = .ok (.istore_n 3, 1) := by decide +kernel
theorem dX4_buy_47 : decode cX4_buy 47 = .ok (.iload_n 3, 1) := by decide +kernel
theorem dX4_buy_48 : decode cX4_buy 48 = .ok (.ifCond .eq 9, 3) := by decide +kernel
theorem dX4_buy_51 : decode cX4_buy 51 = .ok (.aload_n 0, 1) := by decide +kernel
theorem dX4_buy_52 : decode cX4_buy 52 = .ok (.iload_n 3, 1) := by decide +kernel
theorem dX4_buy_53 : decode cX4_buy 53 = .ok (.invokevirtual 85, 3) := by decide +kernel
theorem dX4_buy_56 : decode cX4_buy 56 = .ok (.ireturn, 1) := by decide +kernel
theorem dX4_buy_57 : decode cX4_buy 57 = .ok (.bipush 11, 2) := by decide +kernel
theorem dX4_buy_59 : decode cX4_buy 59 = .ok (.istore 4, 2) := by decide +kernel
theorem dX4_buy_61 : decode cX4_buy 61 = .ok (.aload_n 0, 1) := by decide +kernel
theorem dX4_buy_62 : decode cX4_buy 62 = .ok (.iload_n 1, 1) := by decide +kernel
theorem dX4_buy_63 : decode cX4_buy 63 = .ok (.iconst 1, 1) := by decide +kernel
theorem dX4_buy_64 : decode cX4_buy 64 = .ok (.iconst 1, 1) := by decide +kernel
theorem dX4_buy_65 : decode cX4_buy 65 = .ok (.iload_n 2, 1) := by decide +kernel
theorem dX4_buy_66 : decode cX4_buy 66 = .ok (.invokevirtual 312, 3) := by decide +kernel
theorem dX4_buy_69 : decode cX4_buy 69 = .ok (.istore 5, 2) := by decide +kernel
theorem dX4_buy_71 : decode cX4_buy 71 = .ok (.bipush 12, 2) := by decide +kernel
theorem dX4_buy_73 : decode cX4_buy 73 = .ok (.istore 6, 2) := by decide +kernel
theorem dX4_buy_75 : decode cX4_buy 75 = .ok (.iload 6, 2) := by decide +kernel
theorem dX4_buy_77 : decode cX4_buy 77 = .ok (.bipush 98, 2) := by decide +kernel
theorem dX4_buy_79 : decode cX4_buy 79 = .ok (.if_icmp .ge 69, 3) := by decide +kernel
theorem dX4_buy_82 : decode cX4_buy 82 = .ok (.iload 6, 2) := by decide +kernel
theorem dX4_buy_84 : decode cX4_buy 84 = .ok (.bipush 10, 2) := by decide +kernel
theorem dX4_buy_86 : decode cX4_buy 86 = .ok (.irem, 1) := by decide +kernel
theorem dX4_buy_87 : decode cX4_buy 87 = .ok (.iconst 1, 1) := by decide +kernel
theorem dX4_buy_88 : decode cX4_buy 88 = .ok (.bipush 7, 2) := by decide +kernel
theorem dX4_buy_90 : decode cX4_buy 90 = .ok (.invokestatic 96, 3) := by decide +kernel
theorem dX4_buy_93 : decode cX4_buy 93 = .ok (.ifCond .eq 49, 3) := by decide +kernel
theorem dX4_buy_96 : decode cX4_buy 96 = .ok (.aload_n 0, 1) := by decide +kernel
theorem dX4_buy_97 : decode cX4_buy 97 = .ok (.iload_n 1, 1) := by decide +kernel
theorem dX4_buy_98 : decode cX4_buy 98 = .ok (.iload 6, 2) := by decide +kernel
theorem dX4_buy_100 : decode cX4_buy 100 = .ok (.bipush 10, 2) := by decide +kernel
theorem dX4_buy_102 : decode cX4_buy 102 = .ok (.irem, 1) := by decide +kernel
theorem dX4_buy_103 : decode cX4_buy 103 = .ok (.iload 6, 2) := by decide +kernel
theorem dX4_buy_105 : decode cX4_buy 105 = .ok (.bipush 10, 2) := by decide +kernel
theorem dX4_buy_107 : decode cX4_buy 107 = .ok (.idiv, 1) := by decide +kernel
theorem dX4_buy_108 : decode cX4_buy 108 = .ok (.iload_n 2, 1) := by decide +kernel
theorem dX4_buy_109 : decode cX4_buy 109 = .ok (.invokevirtual 312, 3) := by decide +kernel
theorem dX4_buy_112 : decode cX4_buy 112 = .ok (.iload 5, 2) := by decide +kernel
theorem dX4_buy_114 : decode cX4_buy 114 = .ok (.if_icmp .lt 6, 3) := by decide +kernel
theorem dX4_buy_117 : decode cX4_buy 117 = .ok (.goto 25, 3) := by decide +kernel
theorem dX4_buy_120 : decode cX4_buy 120 = .ok (.iload 6, 2) := by decide +kernel
theorem dX4_buy_122 : decode cX4_buy 122 = .ok (.istore 4, 2) := by decide +kernel
theorem dX4_buy_124 : decode cX4_buy 124 = .ok (.aload_n 0, 1) := by decide +kernel
theorem dX4_buy_125 : decode cX4_buy 125 = .ok (.iload_n 1, 1) := by decide +kernel
theorem dX4_buy_126 : decode cX4_buy 126 = .ok (.iload 6, 2) := by decide +kernel
theorem dX4_buy_128 : decode cX4_buy 128 = .ok (.bipush 10, 2) := by decide +kernel
theorem dX4_buy_130 : decode cX4_buy 130 = .ok (.irem, 1) := by decide +kernel
theorem dX4_buy_131 : decode cX4_buy 131 = .ok (.iload 6, 2) := by decide +kernel
theorem dX4_buy_133 : decode cX4_buy 133 = .ok (.bipush 10, 2) := by decide +kernel
theorem dX4_buy_135 : decode cX4_buy 135 = .ok (.idiv, 1) := by decide +kernel
theorem dX4_buy_136 : decode cX4_buy 136 = .ok (.iload_n 2, 1) := by decide +kernel
theorem dX4_buy_137 : decode cX4_buy 137 = .ok (.invokevirtual 312, 3) := by decide +kernel
theorem dX4_buy_140 : decode cX4_buy 140 = .ok (.istore 5, 2) := by decide +kernel
theorem dX4_buy_142 : decode cX4_buy 142 = .ok (.iinc 6 1, 3) := by decide +kernel
theorem dX4_buy_145 : decode cX4_buy 145 = .ok (.goto (-70), 3) := by decide +kernel
theorem dX4_buy_148 : decode cX4_buy 148 = .ok (.iload 4, 2) := by decide +kernel
theorem dX4_buy_150 : decode cX4_buy 150 = .ok (.ireturn, 1) := by decide +kernel
theorem dX4_useBy_0 : decode cX4_useBy 0 = .ok (.iload_n 2, 1) := by decide +kernel
theorem dX4_useBy_1 : decode cX4_useBy 1 = .ok (.tableswitch 122 0 3 #[31, 55, 57, 72], 31) := by decide +kernel
theorem dX4_useBy_32 : decode cX4_useBy 32 = .ok (.aload_n 0, 1) := by decide +kernel
theorem dX4_useBy_33 : decode cX4_useBy 33 = .ok (.getfield 22, 3) := by decide +kernel
theorem dX4_useBy_36 : decode cX4_useBy 36 = .ok (.iload_n 1, 1) := by decide +kernel
theorem dX4_useBy_37 : decode cX4_useBy 37 = .ok (.iaload, 1) := by decide +kernel
theorem dX4_useBy_38 : decode cX4_useBy 38 = .ok (.bipush 10, 2) := by decide +kernel
theorem dX4_useBy_40 : decode cX4_useBy 40 = .ok (.aload_n 0, 1) := by decide +kernel
theorem dX4_useBy_41 : decode cX4_useBy 41 = .ok (.getfield 16, 3) := by decide +kernel
theorem dX4_useBy_44 : decode cX4_useBy 44 = .ok (.iload_n 1, 1) := by decide +kernel
theorem dX4_useBy_45 : decode cX4_useBy 45 = .ok (.iaload, 1) := by decide +kernel
theorem dX4_useBy_46 : decode cX4_useBy 46 = .ok (.imul, 1) := by decide +kernel
theorem dX4_useBy_47 : decode cX4_useBy 47 = .ok (.if_icmp .le 7, 3) := by decide +kernel
theorem dX4_useBy_50 : decode cX4_useBy 50 = .ok (.iconst 4, 1) := by decide +kernel
theorem dX4_useBy_51 : decode cX4_useBy 51 = .ok (.goto 4, 3) := by decide +kernel
theorem dX4_useBy_54 : decode cX4_useBy 54 = .ok (.iconst 0, 1) := by decide +kernel
theorem dX4_useBy_55 : decode cX4_useBy 55 = .ok (.ireturn, 1) := by decide +kernel
theorem dX4_useBy_56 : decode cX4_useBy 56 = .ok (.iconst 0, 1) := by decide +kernel
theorem dX4_useBy_57 : decode cX4_useBy 57 = .ok (.ireturn, 1) := by decide +kernel
theorem dX4_useBy_58 : decode cX4_useBy 58 = .ok (.aload_n 0, 1) := by decide +kernel
theorem dX4_useBy_59 : decode cX4_useBy 59 = .ok (.iload_n 1, 1) := by decide +kernel
theorem dX4_useBy_60 : decode cX4_useBy 60 = .ok (.invokevirtual 186, 3) := by decide +kernel
theorem dX4_useBy_63 : decode cX4_useBy 63 = .ok (.iconst 2, 1) := by decide +kernel
theorem dX4_useBy_64 : decode cX4_useBy 64 = .ok (.if_icmp .le 7, 3) := by decide +kernel
theorem dX4_useBy_67 : decode cX4_useBy 67 = .ok (.iconst 4, 1) := by decide +kernel
theorem dX4_useBy_68 : decode cX4_useBy 68 = .ok (.goto 4, 3) := by decide +kernel
theorem dX4_useBy_71 : decode cX4_useBy 71 = .ok (.iconst 0, 1) := by decide +kernel
theorem dX4_useBy_72 : decode cX4_useBy 72 = .ok (.ireturn, 1) := by decide +kernel
theorem dX4_useBy_73 : decode cX4_useBy 73 = .ok (.iconst 0, 1) := by decide +kernel
theorem dX4_useBy_74 : decode cX4_useBy 74 = .ok (.aload_n 0, 1) := by decide +kernel
theorem dX4_useBy_75 : decode cX4_useBy 75 = .ok (.iload_n 1, 1) := by decide +kernel
theorem dX4_useBy_76 : decode cX4_useBy 76 = .ok (.invokevirtual 186, 3) := by decide +kernel
theorem dX4_useBy_79 : decode cX4_useBy 79 = .ok (.invokestatic 205, 3) := by decide +kernel
theorem dX4_useBy_82 : decode cX4_useBy 82 = .ok (.ifCond .ne 7, 3) := by decide +kernel
theorem dX4_useBy_85 : decode cX4_useBy 85 = .ok (.iconst 0, 1) := by decide +kernel
theorem dX4_useBy_86 : decode cX4_useBy 86 = .ok (.goto 36, 3) := by decide +kernel
theorem dX4_useBy_89 : decode cX4_useBy 89 = .ok (.iconst 1, 1) := by decide +kernel
theorem dX4_useBy_90 : decode cX4_useBy 90 = .ok (.aload_n 0, 1) := by decide +kernel
theorem dX4_useBy_91 : decode cX4_useBy 91 = .ok (.iload_n 1, 1) := by decide +kernel
theorem dX4_useBy_92 : decode cX4_useBy 92 = .ok (.invokevirtual 186, 3) := by decide +kernel
theorem dX4_useBy_95 : decode cX4_useBy 95 = .ok (.invokestatic 205, 3) := by decide +kernel
theorem dX4_useBy_98 : decode cX4_useBy 98 = .ok (.ifCond .ne 7, 3) := by decide +kernel
theorem dX4_useBy_101 : decode cX4_useBy 101 = .ok (.iconst 1, 1) := by decide +kernel
theorem dX4_useBy_102 : decode cX4_useBy 102 = .ok (.goto 20, 3) := by decide +kernel
theorem dX4_useBy_105 : decode cX4_useBy 105 = .ok (.iconst 2, 1) := by decide +kernel
theorem dX4_useBy_106 : decode cX4_useBy 106 = .ok (.aload_n 0, 1) := by decide +kernel
theorem dX4_useBy_107 : decode cX4_useBy 107 = .ok (.iload_n 1, 1) := by decide +kernel
theorem dX4_useBy_108 : decode cX4_useBy 108 = .ok (.invokevirtual 186, 3) := by decide +kernel
theorem dX4_useBy_111 : decode cX4_useBy 111 = .ok (.invokestatic 205, 3) := by decide +kernel
theorem dX4_useBy_114 : decode cX4_useBy 114 = .ok (.ifCond .ne 7, 3) := by decide +kernel
theorem dX4_useBy_117 : decode cX4_useBy 117 = .ok (.iconst 2, 1) := by decide +kernel
theorem dX4_useBy_118 : decode cX4_useBy 118 = .ok (.goto 4, 3) := by decide +kernel
theorem dX4_useBy_121 : decode cX4_useBy 121 = .ok (.iconst 3, 1) := by decide +kernel
theorem dX4_useBy_122 : decode cX4_useBy 122 = .ok (.ireturn, 1) := by decide +kernel
theorem dX4_useBy_123 : decode cX4_useBy 123 = .ok (.aload_n 0, 1) := by decide +kernel
theorem dX4_useBy_124 : decode cX4_useBy 124 = .ok (.aload_n 0, 1) := by decide +kernel
theorem dX4_useBy_125 : decode cX4_useBy 125 = .ok (.getfield 56, 3) := by decide +kernel
theorem dX4_useBy_128 : decode cX4_useBy 128 = .ok (.iload_n 1, 1) := by decide +kernel
theorem dX4_useBy_129 : decode cX4_useBy 129 = .ok (.aload_n 0, 1) := by decide +kernel
theorem dX4_useBy_130 : decode cX4_useBy 130 = .ok (.getfield 22, 3) := by decide +kernel
theorem dX4_useBy_133 : decode cX4_useBy 133 = .ok (.iload_n 1, 1) := by decide +kernel
theorem dX4_useBy_134 : decode cX4_useBy 134 = .ok (.iaload, 1) := by decide +kernel
theorem dX4_useBy_135 : decode cX4_useBy 135 = .ok (.invokevirtual 306, 3) := by decide +kernel
theorem dX4_useBy_138 : decode cX4_useBy 138 = .ok (.aload_n 0, 1) := by decide +kernel
theorem dX4_useBy_139 : decode cX4_useBy 139 = .ok (.aload_n 0, 1) := by decide +kernel
theorem dX4_useBy_140 : decode cX4_useBy 140 = .ok (.getfield 56, 3) := by decide +kernel
theorem dX4_useBy_143 : decode cX4_useBy 143 = .ok (.iload_n 3, 1) := by decide +kernel
theorem dX4_useBy_144 : decode cX4_useBy 144 = .ok (.invokevirtual 224, 3) := by decide +kernel
theorem dX4_useBy_147 : decode cX4_useBy 147 = .ok (.ireturn, 1) := by decide +kernel
theorem dX4_netByRule_0 : decode cX4_netByRule 0 = .ok (.aload_n 0, 1) := by decide +kernel
theorem dX4_netByRule_1 : decode cX4_netByRule 1 = .ok (.aload_n 0, 1) := by decide +kernel
theorem dX4_netByRule_2 : decode cX4_netByRule 2 = .ok (.iload_n 1, 1) := by decide +kernel
theorem dX4_netByRule_3 : decode cX4_netByRule 3 = .ok (.iload_n 2, 1) := by decide +kernel
theorem dX4_netByRule_4 : decode cX4_netByRule 4 = .ok (.iload_n 3, 1) := by decide +kernel
theorem dX4_netByRule_5 : decode cX4_netByRule 5 = .ok (.invokevirtual 316, 3) := by decide +kernel
theorem dX4_netByRule_8 : decode cX4_netByRule 8 = .ok (.iload_n 3, 1) := by decide +kernel
theorem dX4_netByRule_9 : decode cX4_netByRule 9 = .ok (.aload_n 0, 1) := by decide +kernel
theorem dX4_netByRule_10 : decode cX4_netByRule 10 = .ok (.iload_n 1, 1) := by decide +kernel
theorem dX4_netByRule_11 : decode cX4_netByRule 11 = .ok (.invokevirtual 186, 3) := by decide +kernel
theorem dX4_netByRule_14 : decode cX4_netByRule 14 = .ok (.invokevirtual 217, 3) := by decide +kernel
theorem dX4_netByRule_17 : decode cX4_netByRule 17 = .ok (.aload_n 0, 1) := by decide +kernel
theorem dX4_netByRule_18 : decode cX4_netByRule 18 = .ok (.getfield 19, 3) := by decide +kernel
theorem dX4_netByRule_21 : decode cX4_netByRule 21 = .ok (.iload_n 1, 1) := by decide +kernel
theorem dX4_netByRule_22 : decode cX4_netByRule 22 = .ok (.iaload, 1) := by decide +kernel
theorem dX4_netByRule_23 : decode cX4_netByRule 23 = .ok (.imul, 1) := by decide +kernel
theorem dX4_netByRule_24 : decode cX4_netByRule 24 = .ok (.ireturn, 1) := by decide +kernel
theorem dX4_rule_0 : decode cX4_rule 0 = .ok (.aload_n 0, 1) := by decide +kernel
theorem dX4_rule_1 : decode cX4_rule 1 = .ok (.iload_n 1, 1) := by decide +kernel
theorem dX4_rule_2 : decode cX4_rule 2 = .ok (.invokevirtual 131, 3) := by decide +kernel
theorem dX4_rule_5 : decode cX4_rule 5 = .ok (.ifCond .eq 10, 3) := by decide +kernel
theorem dX4_rule_8 : decode cX4_rule 8 = .ok (.iload_n 3, 1) := by decide +kernel
theorem dX4_rule_9 : decode cX4_rule 9 = .ok (.invokestatic 250, 3) := by decide +kernel
theorem dX4_rule_12 : decode cX4_rule 12 = .ok (.ifCond .ne 7, 3) := by decide +kernel
theorem dX4_rule_15 : decode cX4_rule 15 = .ok (.iconst (-1), 1) := by decide +kernel
theorem dX4_rule_16 : decode cX4_rule 16 = .ok (.goto 28, 3) := by decide +kernel
theorem dX4_rule_19 : decode cX4_rule 19 = .ok (.iload_n 2, 1) := by decide +kernel
theorem dX4_rule_20 : decode cX4_rule 20 = .ok (.iconst 0, 1) := by decide +kernel
theorem dX4_rule_21 : decode cX4_rule 21 = .ok (.iconst 4, 1) := by decide +kernel
theorem dX4_rule_22 : decode cX4_rule 22 = .ok (.invokestatic 96, 3) := by decide +kernel
theorem dX4_rule_25 : decode cX4_rule 25 = .ok (.ifCond .eq 13, 3) := by decide +kernel
theorem dX4_rule_28 : decode cX4_rule 28 = .ok (.iload 4, 2) := by decide +kernel
theorem dX4_rule_30 : decode cX4_rule 30 = .ok (.iconst 0, 1) := by decide +kernel
theorem dX4_rule_31 : decode cX4_rule 31 = .ok (.iconst 1, 1) := by decide +kernel
theorem dX4_rule_32 : decode cX4_rule 32 = .ok (.invokestatic 96, 3) := by decide +kernel
theorem dX4_rule_35 : decode cX4_rule 35 = .ok (.ifCond .ne 8, 3) := by decide +kernel
theorem dX4_rule_38 : decode cX4_rule 38 = .ok (.bipush (-2), 2) := by decide +kernel
theorem dX4_rule_40 : decode cX4_rule 40 = .ok (.goto 4, 3) := by decide +kernel
theorem dX4_rule_43 : decode cX4_rule 43 = .ok (.iconst 0, 1) := by decide +kernel
theorem dX4_rule_44 : decode cX4_rule 44 = .ok (.istore 5, 2) := by decide +kernel
theorem dX4_rule_46 : decode cX4_rule 46 = .ok (.iload 5, 2) := by decide +kernel
theorem dX4_rule_48 : decode cX4_rule 48 = .ok (.ifCond .eq 10, 3) := by decide +kernel
theorem dX4_rule_51 : decode cX4_rule 51 = .ok (.aload_n 0, 1) := by decide +kernel
theorem dX4_rule_52 : decode cX4_rule 52 = .ok (.iload 5, 2) := by decide +kernel
theorem dX4_rule_54 : decode cX4_rule 54 = .ok (.invokevirtual 319, 3) := by decide +kernel
theorem dX4_rule_57 : decode cX4_rule 57 = .ok (.ireturn, 1) := by decide +kernel
theorem dX4_rule_58 : decode cX4_rule 58 = .ok (.iload 4, 2) := by decide +kernel
theorem dX4_rule_60 : decode cX4_rule 60 = .ok (.ifCond .ne 13, 3) := by decide +kernel
theorem dX4_rule_63 : decode cX4_rule 63 = .ok (.aload_n 0, 1) := by decide +kernel
theorem dX4_rule_64 : decode cX4_rule 64 = .ok (.iload_n 1, 1) := by decide +kernel
theorem dX4_rule_65 : decode cX4_rule 65 = .ok (.iload_n 2, 1) := by decide +kernel
theorem dX4_rule_66 : decode cX4_rule 66 = .ok (.iload_n 3, 1) := by decide +kernel
theorem dX4_rule_67 : decode cX4_rule 67 = .ok (.invokevirtual 316, 3) := by decide +kernel
theorem dX4_rule_70 : decode cX4_rule 70 = .ok (.goto 10, 3) := by decide +kernel
theorem dX4_rule_73 : decode cX4_rule 73 = .ok (.aload_n 0, 1) := by decide +kernel
theorem dX4_rule_74 : decode cX4_rule 74 = .ok (.iload_n 1, 1) := by decide +kernel
theorem dX4_rule_75 : decode cX4_rule 75 = .ok (.iload_n 2, 1) := by decide +kernel
theorem dX4_rule_76 : decode cX4_rule 76 = .ok (.iload_n 3, 1) := by decide +kernel
theorem dX4_rule_77 : decode cX4_rule 77 = .ok (.invokevirtual 322, 3) := by decide +kernel
theorem dX4_rule_80 : decode cX4_rule 80 = .ok (.ireturn, 1) := by decide +kernel
theorem dX4_netOfAll_0 : decode cX4_netOfAll 0 = .ok (.iconst 0, 1) := by decide +kernel
theorem dX4_netOfAll_1 : decode cX4_netOfAll 1 = .ok (.istore_n 3, 1) := by decide +kernel
theorem dX4_netOfAll_2 : decode cX4_netOfAll 2 = .ok (.iconst 0, 1) := by decide +kernel
theorem dX4_netOfAll_3 : decode cX4_netOfAll 3 = .ok (.istore 4, 2) := by decide +kernel
theorem dX4_netOfAll_5 : decode cX4_netOfAll 5 = .ok (.iload 4, 2) := by decide +kernel
theorem dX4_netOfAll_7 : decode cX4_netOfAll 7 = .ok (.aload_n 0, 1) := by decide +kernel
theorem dX4_netOfAll_8 : decode cX4_netOfAll 8 = .ok (.getfield 75, 3) := by decide +kernel
theorem dX4_netOfAll_11 : decode cX4_netOfAll 11 = .ok (.if_icmp .ge 20, 3) := by decide +kernel
theorem dX4_netOfAll_14 : decode cX4_netOfAll 14 = .ok (.iload_n 3, 1) := by decide +kernel
theorem dX4_netOfAll_15 : decode cX4_netOfAll 15 = .ok (.aload_n 0, 1) := by decide +kernel
theorem dX4_netOfAll_16 : decode cX4_netOfAll 16 = .ok (.iload 4, 2) := by decide +kernel
theorem dX4_netOfAll_18 : decode cX4_netOfAll 18 = .ok (.iload_n 1, 1) := by decide +kernel
theorem dX4_netOfAll_19 : decode cX4_netOfAll 19 = .ok (.iload_n 2, 1) := by decide +kernel
theorem dX4_netOfAll_20 : decode cX4_netOfAll 20 = .ok (.invokevirtual 322, 3) := by decide +kernel
theorem dX4_netOfAll_23 : decode cX4_netOfAll 23 = .ok (.iadd, 1) := by decide +kernel
theorem dX4_netOfAll_24 : decode cX4_netOfAll 24 = .ok (.istore_n 3, 1) := by decide +kernel
theorem dX4_netOfAll_25 : decode cX4_netOfAll 25 = .ok (.iinc 4 1, 3) := by decide +kernel
theorem dX4_netOfAll_28 : decode cX4_netOfAll 28 = .ok (.goto (-23), 3) := by decide +kernel
theorem dX4_netOfAll_31 : decode cX4_netOfAll 31 = .ok (.iload_n 3, 1) := by decide +kernel
theorem dX4_netOfAll_32 : decode cX4_netOfAll 32 = .ok (.ireturn, 1) := by decide +kernel
theorem dX4_bestRule_0 : decode cX4_bestRule 0 = .ok (.iload_n 1, 1) := by decide +kernel
theorem dX4_bestRule_1 : decode cX4_bestRule 1 = .ok (.invokestatic 250, 3) := by decide +kernel
theorem dX4_bestRule_4 : decode cX4_bestRule 4 = .ok (.ifCond .ne 9, 3) := by decide +kernel
theorem dX4_bestRule_7 : decode cX4_bestRule 7 = .ok (.aload_n 0, 1) := by decide +kernel
theorem dX4_bestRule_8 : decode cX4_bestRule 8 = .ok (.iconst (-1), 1) := by decide +kernel
theorem dX4_bestRule_9 : decode cX4_bestRule 9 = .ok (.invokevirtual 85, 3) := by decide +kernel
theorem dX4_bestRule_12 : decode cX4_bestRule 12 = .ok (.ireturn, 1) := by decide +kernel
theorem dX4_bestRule_13 : decode cX4_bestRule 13 = .ok (.iconst 0, 1) := by decide +kernel
theorem dX4_bestRule_14 : decode cX4_bestRule 14 = .ok (.istore_n 2, 1) := by decide +kernel
theorem dX4_bestRule_15 : decode cX4_bestRule 15 = .ok (.iconst 1, 1) := by decide +kernel
theorem dX4_bestRule_16 : decode cX4_bestRule 16 = .ok (.istore_n 3, 1) := by decide +kernel
theorem dX4_bestRule_17 : decode cX4_bestRule 17 = .ok (.iload_n 3, 1) := by decide +kernel
theorem dX4_bestRule_18 : decode cX4_bestRule 18 = .ok (.iconst 5, 1) := by decide +kernel
theorem dX4_bestRule_19 : decode cX4_bestRule 19 = .ok (.if_icmp .ge 30, 3) := by decide +kernel
theorem dX4_bestRule_22 : decode cX4_bestRule 22 = .ok (.aload_n 0, 1) := by decide +kernel
theorem dX4_bestRule_23 : decode cX4_bestRule 23 = .ok (.iload_n 3, 1) := by decide +kernel
theorem dX4_bestRule_24 : decode cX4_bestRule 24 = .ok (.iload_n 1, 1) := by decide +kernel
theorem dX4_bestRule_25 : decode cX4_bestRule 25 = .ok (.invokevirtual 325, 3) := by decide +kernel
theorem dX4_bestRule_28 : decode cX4_bestRule 28 = .ok (.aload_n 0, 1) := by decide +kernel
theorem dX4_bestRule_29 : decode cX4_bestRule 29 = .ok (.iload_n 2, 1) := by decide +kernel
theorem dX4_bestRule_30 : decode cX4_bestRule 30 = .ok (.iload_n 1, 1) := by decide +kernel
theorem dX4_bestRule_31 : decode cX4_bestRule 31 = .ok (.invokevirtual 325, 3) := by decide +kernel
theorem dX4_bestRule_34 : decode cX4_bestRule 34 = .ok (.if_icmp .le 7, 3) := by decide +kernel
theorem dX4_bestRule_37 : decode cX4_bestRule 37 = .ok (.iload_n 3, 1) := by decide +kernel
theorem dX4_bestRule_38 : decode cX4_bestRule 38 = .ok (.goto 4, 3) := by decide +kernel
theorem dX4_bestRule_41 : decode cX4_bestRule 41 = .ok (.iload_n 2, 1) := by decide +kernel
theorem dX4_bestRule_42 : decode cX4_bestRule 42 = .ok (.istore_n 2, 1) := by decide +kernel
theorem dX4_bestRule_43 : decode cX4_bestRule 43 = .ok (.iinc 3 1, 3) := by decide +kernel
theorem dX4_bestRule_46 : decode cX4_bestRule 46 = .ok (.goto (-29), 3) := by decide +kernel
theorem dX4_bestRule_49 : decode cX4_bestRule 49 = .ok (.iload_n 2, 1) := by decide +kernel
theorem dX4_bestRule_50 : decode cX4_bestRule 50 = .ok (.ireturn, 1) := by decide +kernel
theorem dX4_arePairs_0 : decode cX4_arePairs 0 = .ok (.iconst 1, 1) := by decide +kernel
theorem dX4_arePairs_1 : decode cX4_arePairs 1 = .ok (.istore_n 1, 1) := by decide +kernel
theorem dX4_arePairs_2 : decode cX4_arePairs 2 = .ok (.iload_n 1, 1) := by decide +kernel
theorem dX4_arePairs_3 : decode cX4_arePairs 3 = .ok (.aload_n 0, 1) := by decide +kernel
theorem dX4_arePairs_4 : decode cX4_arePairs 4 = .ok (.getfield 309, 3) := by decide +kernel
theorem dX4_arePairs_7 : decode cX4_arePairs 7 = .ok (.if_icmp .ge 21, 3) := by decide +kernel
theorem dX4_arePairs_10 : decode cX4_arePairs 10 = .ok (.aload_n 0, 1) := by decide +kernel
theorem dX4_arePairs_11 : decode cX4_arePairs 11 = .ok (.getfield 62, 3) := by decide +kernel
theorem dX4_arePairs_14 : decode cX4_arePairs 14 = .ok (.iload_n 1, 1) := by decide +kernel
theorem dX4_arePairs_15 : decode cX4_arePairs 15 = .ok (.iaload, 1) := by decide +kernel
theorem dX4_arePairs_16 : decode cX4_arePairs 16 = .ok (.iconst 1, 1) := by decide +kernel
theorem dX4_arePairs_17 : decode cX4_arePairs 17 = .ok (.if_icmp .le 5, 3) := by decide +kernel
theorem dX4_arePairs_20 : decode cX4_arePairs 20 = .ok (.iconst 0, 1) := by decide +kernel
theorem dX4_arePairs_21 : decode cX4_arePairs 21 = .ok (.ireturn, 1) := by decide +kernel
theorem dX4_arePairs_22 : decode cX4_arePairs 22 = .ok (.iinc 1 2, 3) := by decide +kernel
theorem dX4_arePairs_25 : decode cX4_arePairs 25 = .ok (.goto (-23), 3) := by decide +kernel
theorem dX4_arePairs_28 : decode cX4_arePairs 28 = .ok (.aload_n 0, 1) := by decide +kernel
theorem dX4_arePairs_29 : decode cX4_arePairs 29 = .ok (.getfield 309, 3) := by decide +kernel
theorem dX4_arePairs_32 : decode cX4_arePairs 32 = .ok (.iconst 2, 1) := by decide +kernel
theorem dX4_arePairs_33 : decode cX4_arePairs 33 = .ok (.irem, 1) := by decide +kernel
theorem dX4_arePairs_34 : decode cX4_arePairs 34 = .ok (.ifCond .ne 7, 3) := by decide +kernel
theorem dX4_arePairs_37 : decode cX4_arePairs 37 = .ok (.iconst 1, 1) := by decide +kernel
theorem dX4_arePairs_38 : decode cX4_arePairs 38 = .ok (.goto 4, 3) := by decide +kernel
theorem dX4_arePairs_41 : decode cX4_arePairs 41 = .ok (.iconst 0, 1) := by decide +kernel
theorem dX4_arePairs_42 : decode cX4_arePairs 42 = .ok (.ireturn, 1) := by decide +kernel
theorem dX4_isIllBy_0 : decode cX4_isIllBy 0 = .ok (.iload_n 1, 1) := by decide +kernel
theorem dX4_isIllBy_1 : decode cX4_isIllBy 1 = .ok (.invokestatic 180, 3) := by decide +kernel
theorem dX4_isIllBy_4 : decode cX4_isIllBy 4 = .ok (.aload_n 0, 1) := by decide +kernel
theorem dX4_isIllBy_5 : decode cX4_isIllBy 5 = .ok (.getfield 62, 3) := by decide +kernel
theorem dX4_isIllBy_8 : decode cX4_isIllBy 8 = .ok (.iconst 2, 1) := by decide +kernel
theorem dX4_isIllBy_9 : decode cX4_isIllBy 9 = .ok (.iload_n 2, 1) := by decide +kernel
theorem dX4_isIllBy_10 : decode cX4_isIllBy 10 = .ok (.imul, 1) := by decide +kernel
theorem dX4_isIllBy_11 : decode cX4_isIllBy 11 = .ok (.iaload, 1) := by decide +kernel
theorem dX4_isIllBy_12 : decode cX4_isIllBy 12 = .ok (.imul, 1) := by decide +kernel
theorem dX4_isIllBy_13 : decode cX4_isIllBy 13 = .ok (.invokestatic 177, 3) := by decide +kernel
theorem dX4_isIllBy_16 : decode cX4_isIllBy 16 = .ok (.invokestatic 183, 3) := by decide +kernel
theorem dX4_isIllBy_19 : decode cX4_isIllBy 19 = .ok (.iconst 2, 1) := by decide +kernel
theorem dX4_isIllBy_20 : decode cX4_isIllBy 20 = .ok (.if_icmp .le 7, 3) := by decide +kernel
theorem dX4_isIllBy_23 : decode cX4_isIllBy 23 = .ok (.iconst 1, 1) := by decide +kernel
theorem dX4_isIllBy_24 : decode cX4_isIllBy 24 = .ok (.goto 4, 3) := by decide +kernel
theorem dX4_isIllBy_27 : decode cX4_isIllBy 27 = .ok (.iconst 0, 1) := by decide +kernel
theorem dX4_isIllBy_28 : decode cX4_isIllBy 28 = .ok (.istore_n 3, 1) := by decide +kernel
theorem dX4_isIllBy_29 : decode cX4_isIllBy 29 = .ok (.iload_n 3, 1) := by decide +kernel
theorem dX4_isIllBy_30 : decode cX4_isIllBy 30 = .ok (.aload_n 0, 1) := by decide +kernel
theorem dX4_isIllBy_31 : decode cX4_isIllBy 31 = .ok (.getfield 62, 3) := by decide +kernel
theorem dX4_isIllBy_34 : decode cX4_isIllBy 34 = .ok (.iconst 2, 1) := by decide +kernel
theorem dX4_isIllBy_35 : decode cX4_isIllBy 35 = .ok (.iload_n 2, 1) := by decide +kernel
theorem dX4_isIllBy_36 : decode cX4_isIllBy 36 = .ok (.imul, 1) := by decide +kernel
theorem dX4_isIllBy_37 : decode cX4_isIllBy 37 = .ok (.iconst 1, 1) := by decide +kernel
theorem dX4_isIllBy_38 : decode cX4_isIllBy 38 = .ok (.iadd, 1) := by decide +kernel
theorem dX4_isIllBy_39 : decode cX4_isIllBy 39 = .ok (.iaload, 1) := by decide +kernel
theorem dX4_isIllBy_40 : decode cX4_isIllBy 40 = .ok (.iconst 1, 1) := by decide +kernel
theorem dX4_isIllBy_41 : decode cX4_isIllBy 41 = .ok (.if_icmp .ne 7, 3) := by decide +kernel
theorem dX4_isIllBy_44 : decode cX4_isIllBy 44 = .ok (.iconst 1, 1) := by decide +kernel
theorem dX4_isIllBy_45 : decode cX4_isIllBy 45 = .ok (.goto 4, 3) := by decide +kernel
theorem dX4_isIllBy_48 : decode cX4_isIllBy 48 = .ok (.iconst 0, 1) := by decide +kernel
theorem dX4_isIllBy_49 : decode cX4_isIllBy 49 = .ok (.if_icmp .ne 7, 3) := by decide +kernel
theorem dX4_isIllBy_52 : decode cX4_isIllBy 52 = .ok (.iconst 1, 1) := by decide +kernel
theorem dX4_isIllBy_53 : decode cX4_isIllBy 53 = .ok (.goto 4, 3) := by decide +kernel
theorem dX4_isIllBy_56 : decode cX4_isIllBy 56 = .ok (.iconst 0, 1) := by decide +kernel
theorem dX4_isIllBy_57 : decode cX4_isIllBy 57 = .ok (.ireturn, 1) := by decide +kernel
theorem dX4_ill_0 : decode cX4_ill 0 = .ok (.iload_n 1, 1) := by decide +kernel
theorem dX4_ill_1 : decode cX4_ill 1 = .ok (.iconst 0, 1) := by decide +kernel
theorem dX4_ill_2 : decode cX4_ill 2 = .ok (.iconst 1, 1) := by decide +kernel
theorem dX4_ill_3 : decode cX4_ill 3 = .ok (.invokestatic 96, 3) := by decide +kernel
theorem dX4_ill_6 : decode cX4_ill 6 = .ok (.ifCond .ne 8, 3) := by decide +kernel
theorem dX4_ill_9 : decode cX4_ill 9 = .ok (.bipush (-2), 2) := by decide +kernel
theorem dX4_ill_11 : decode cX4_ill 11 = .ok (.goto 23, 3) := by decide +kernel
theorem dX4_ill_14 : decode cX4_ill 14 = .ok (.aload_n 0, 1) := by decide +kernel
theorem dX4_ill_15 : decode cX4_ill 15 = .ok (.getfield 75, 3) := by decide +kernel
theorem dX4_ill_18 : decode cX4_ill 18 = .ok (.ifCond .eq 10, 3) := by decide +kernel
theorem dX4_ill_21 : decode cX4_ill 21 = .ok (.aload_n 0, 1) := by decide +kernel
theorem dX4_ill_22 : decode cX4_ill 22 = .ok (.invokevirtual 328, 3) := by decide +kernel
theorem dX4_ill_25 : decode cX4_ill 25 = .ok (.ifCond .ne 8, 3) := by decide +kernel
theorem dX4_ill_28 : decode cX4_ill 28 = .ok (.bipush (-3), 2) := by decide +kernel
theorem dX4_ill_30 : decode cX4_ill 30 = .ok (.goto 4, 3) := by decide +kernel
theorem dX4_ill_33 : decode cX4_ill 33 = .ok (.iconst 0, 1) := by decide +kernel
theorem dX4_ill_34 : decode cX4_ill 34 = .ok (.istore_n 2, 1) := by decide +kernel
theorem dX4_ill_35 : decode cX4_ill 35 = .ok (.iload_n 2, 1) := by decide +kernel
theorem dX4_ill_36 : decode cX4_ill 36 = .ok (.ifCond .eq 9, 3) := by decide +kernel
theorem dX4_ill_39 : decode cX4_ill 39 = .ok (.aload_n 0, 1) := by decide +kernel
theorem dX4_ill_40 : decode cX4_ill 40 = .ok (.iload_n 2, 1) := by decide +kernel
theorem dX4_ill_41 : decode cX4_ill 41 = .ok (.invokevirtual 85, 3) := by decide +kernel
theorem dX4_ill_44 : decode cX4_ill 44 = .ok (.ireturn, 1) := by decide +kernel
theorem dX4_ill_45 : decode cX4_ill 45 = .ok (.bipush 63, 2) := by decide +kernel
theorem dX4_ill_47 : decode cX4_ill 47 = .ok (.istore_n 3, 1) := by decide +kernel
theorem dX4_ill_48 : decode cX4_ill 48 = .ok (.bipush (-9), 2) := by decide +kernel
theorem dX4_ill_50 : decode cX4_ill 50 = .ok (.istore 4, 2) := by decide +kernel
theorem dX4_ill_52 : decode cX4_ill 52 = .ok (.iconst 0, 1) := by decide +kernel
theorem dX4_ill_53 : decode cX4_ill 53 = .ok (.istore 5, 2) := by decide +kernel
theorem dX4_ill_55 : decode cX4_ill 55 = .ok (.iconst 2, 1) := by decide +kernel
theorem dX4_ill_56 : decode cX4_ill 56 = .ok (.iload 5, 2) := by decide +kernel
theorem dX4_ill_58 : decode cX4_ill 58 = .ok (.imul, 1) := by decide +kernel
theorem dX4_ill_59 : decode cX4_ill 59 = .ok (.aload_n 0, 1) := by decide +kernel
theorem dX4_ill_60 : decode cX4_ill 60 = .ok (.getfield 309, 3) := by decide +kernel
theorem dX4_ill_63 : decode cX4_ill 63 = .ok (.if_icmp .ge 68, 3) := by decide +kernel
theorem dX4_ill_66 : decode cX4_ill 66 = .ok (.iconst 0, 1) := by decide +kernel
theorem dX4_ill_67 : decode cX4_ill 67 = .ok (.istore 6, 2) := by decide +kernel
theorem dX4_ill_69 : decode cX4_ill 69 = .ok (.iload 6, 2) := by decide +kernel
theorem dX4_ill_71 : decode cX4_ill 71 = .ok (.bipush 6, 2) := by decide +kernel
theorem dX4_ill_73 : decode cX4_ill 73 = .ok (.if_icmp .ge 34, 3) := by decide +kernel
theorem dX4_ill_76 : decode cX4_ill 76 = .ok (.iload_n 3, 1) := by decide +kernel
theorem dX4_ill_77 : decode cX4_ill 77 = .ok (.aload_n 0, 1) := by decide +kernel
theorem dX4_ill_78 : decode cX4_ill 78 = .ok (.iload 6, 2) := by decide +kernel
theorem dX4_ill_80 : decode cX4_ill 80 = .ok (.iload 5, 2) := by decide +kernel
theorem dX4_ill_82 : decode cX4_ill 82 = .ok (.invokevirtual 331, 3) := by decide +kernel
theorem dX4_ill_85 : decode cX4_ill 85 = .ok (.ifCond .eq 8, 3) := by decide +kernel
theorem dX4_ill_88 : decode cX4_ill 88 = .ok (.bipush 63, 2) := by decide +kernel
theorem dX4_ill_90 : decode cX4_ill 90 = .ok (.goto 9, 3) := by decide +kernel
theorem dX4_ill_93 : decode cX4_ill 93 = .ok (.iconst 1, 1) := by decide +kernel
theorem dX4_ill_94 : decode cX4_ill 94 = .ok (.iload 6, 2) := by decide +kernel
theorem dX4_ill_96 : decode cX4_ill 96 = .ok (.ishl, 1) := by decide +kernel
theorem dX4_ill_97 : decode cX4_ill 97 = .ok (.iconst (-1), 1) := by decide +kernel
theorem dX4_ill_98 : decode cX4_ill 98 = .ok (.ixor, 1) := by decide +kernel
theorem dX4_ill_99 : decode cX4_ill 99 = .ok (.iand, 1) := by decide +kernel
theorem dX4_ill_100 : decode cX4_ill 100 = .ok (.istore_n 3, 1) := by decide +kernel
theorem dX4_ill_101 : decode cX4_ill 101 = .ok (.iinc 6 1, 3) := by decide +kernel
theorem dX4_ill_104 : decode cX4_ill 104 = .ok (.goto (-35), 3) := by decide +kernel
theorem dX4_ill_107 : decode cX4_ill 107 = .ok (.iload_n 3, 1) := by decide +kernel
theorem dX4_ill_108 : decode cX4_ill 108 = .ok (.ifCond .ne 13, 3) := by decide +kernel
theorem dX4_ill_111 : decode cX4_ill 111 = .ok (.iload 4, 2) := by decide +kernel
theorem dX4_ill_113 : decode cX4_ill 113 = .ok (.ifCond .ge 8, 3) := by decide +kernel
theorem dX4_ill_116 : decode cX4_ill 116 = .ok (.iload 5, 2) := by decide +kernel
theorem dX4_ill_118 : decode cX4_ill 118 = .ok (.goto 5, 3) := by decide +kernel
theorem dX4_ill_121 : decode cX4_ill 121 = .ok (.iload 4, 2) := by decide +kernel
theorem dX4_ill_123 : decode cX4_ill 123 = .ok (.istore 4, 2) := by decide +kernel
theorem dX4_ill_125 : decode cX4_ill 125 = .ok (.iinc 5 1, 3) := by decide +kernel
theorem dX4_ill_128 : decode cX4_ill 128 = .ok (.goto (-73), 3) := by decide +kernel
theorem dX4_ill_131 : decode cX4_ill 131 = .ok (.iload_n 1, 1) := by decide +kernel
theorem dX4_ill_132 : decode cX4_ill 132 = .ok (.ifCond .ne 7, 3) := by decide +kernel
theorem dX4_ill_135 : decode cX4_ill 135 = .ok (.iload_n 3, 1) := by decide +kernel
theorem dX4_ill_136 : decode cX4_ill 136 = .ok (.goto 5, 3) := by decide +kernel
theorem dX4_ill_139 : decode cX4_ill 139 = .ok (.iload 4, 2) := by decide +kernel
theorem dX4_ill_141 : decode cX4_ill 141 = .ok (.ireturn, 1) := by decide +kernel
theorem dX4_row_0 : decode cX4_row 0 = .ok (.iload_n 1, 1) := by decide +kernel
theorem dX4_row_1 : decode cX4_row 1 = .ok (.iconst 0, 1) := by decide +kernel
theorem dX4_row_2 : decode cX4_row 2 = .ok (.bipush 99, 2) := by decide +kernel
theorem dX4_row_4 : decode cX4_row 4 = .ok (.invokestatic 78, 3) := by decide +kernel
theorem dX4_row_7 : decode cX4_row 7 = .ok (.istore_n 2, 1) := by decide +kernel
theorem dX4_row_8 : decode cX4_row 8 = .ok (.iload_n 2, 1) := by decide +kernel
theorem dX4_row_9 : decode cX4_row 9 = .ok (.ifCond .ne 15, 3) := by decide +kernel
theorem dX4_row_12 : decode cX4_row 12 = .ok (.aload_n 0, 1) := by decide +kernel
theorem dX4_row_13 : decode cX4_row 13 = .ok (.getfield 309, 3) := by decide +kernel
theorem dX4_row_16 : decode cX4_row 16 = .ok (.bipush 12, 2) := by decide +kernel
theorem dX4_row_18 : decode cX4_row 18 = .ok (.if_icmp .ne 6, 3) := by decide +kernel
theorem dX4_row_21 : decode cX4_row 21 = .ok (.bipush (-6), 2) := by decide +kernel
theorem dX4_row_23 : decode cX4_row 23 = .ok (.istore_n 2, 1) := by decide +kernel
theorem dX4_row_24 : decode cX4_row 24 = .ok (.iload_n 2, 1) := by decide +kernel
theorem dX4_row_25 : decode cX4_row 25 = .ok (.ifCond .eq 9, 3) := by decide +kernel
theorem dX4_row_28 : decode cX4_row 28 = .ok (.aload_n 0, 1) := by decide +kernel
theorem dX4_row_29 : decode cX4_row 29 = .ok (.iload_n 2, 1) := by decide +kernel
theorem dX4_row_30 : decode cX4_row 30 = .ok (.invokevirtual 85, 3) := by decide +kernel
theorem dX4_row_33 : decode cX4_row 33 = .ok (.ireturn, 1) := by decide +kernel
theorem dX4_row_34 : decode cX4_row 34 = .ok (.aload_n 0, 1) := by decide +kernel
theorem dX4_row_35 : decode cX4_row 35 = .ok (.getfield 62, 3) := by decide +kernel
theorem dX4_row_38 : decode cX4_row 38 = .ok (.aload_n 0, 1) := by decide +kernel
theorem dX4_row_39 : decode cX4_row 39 = .ok (.getfield 309, 3) := by decide +kernel
theorem dX4_row_42 : decode cX4_row 42 = .ok (.iload_n 1, 1) := by decide +kernel
theorem dX4_row_43 : decode cX4_row 43 = .ok (.iastore, 1) := by decide +kernel
theorem dX4_row_44 : decode cX4_row 44 = .ok (.aload_n 0, 1) := by decide +kernel
theorem dX4_row_45 : decode cX4_row 45 = .ok (.dup, 1) := by decide +kernel
theorem dX4_row_46 : decode cX4_row 46 = .ok (.getfield 309, 3) := by decide +kernel
theorem dX4_row_49 : decode cX4_row 49 = .ok (.iconst 1, 1) := by decide +kernel
theorem dX4_row_50 : decode cX4_row 50 = .ok (.iadd, 1) := by decide +kernel
theorem dX4_row_51 : decode cX4_row 51 = .ok (.putfield 309, 3) := by decide +kernel
theorem dX4_row_54 : decode cX4_row 54 = .ok (.aload_n 0, 1) := by decide +kernel
theorem dX4_row_55 : decode cX4_row 55 = .ok (.getfield 309, 3) := by decide +kernel
theorem dX4_row_58 : decode cX4_row 58 = .ok (.ireturn, 1) := by decide +kernel
theorem dX4_judge_0 : decode cX4_judge 0 = .ok (.aload_n 0, 1) := by decide +kernel
theorem dX4_judge_1 : decode cX4_judge 1 = .ok (.getfield 75, 3) := by decide +kernel
theorem dX4_judge_4 : decode cX4_judge 4 = .ok (.ifCond .ne 10, 3) := by decide +kernel
theorem dX4_judge_7 : decode cX4_judge 7 = .ok (.aload_n 0, 1) := by decide +kernel
theorem dX4_judge_8 : decode cX4_judge 8 = .ok (.bipush (-3), 2) := by decide +kernel
theorem dX4_judge_10 : decode cX4_judge 10 = .ok (.invokevirtual 85, 3) := by decide +kernel
theorem dX4_judge_13 : decode cX4_judge 13 = .ok (.ireturn, 1) := by decide +kernel
theorem dX4_judge_14 : decode cX4_judge 14 = .ok (.aload_n 0, 1) := by decide +kernel
theorem dX4_judge_15 : decode cX4_judge 15 = .ok (.getfield 309, 3) := by decide +kernel
theorem dX4_judge_18 : decode cX4_judge 18 = .ok (.istore_n 1, 1) := by decide +kernel
theorem dX4_judge_19 : decode cX4_judge 19 = .ok (.aload_n 0, 1) := by decide +kernel
theorem dX4_judge_20 : decode cX4_judge 20 = .ok (.iconst 0, 1) := by decide +kernel
theorem dX4_judge_21 : decode cX4_judge 21 = .ok (.putfield 309, 3) := by decide +kernel
theorem dX4_judge_24 : decode cX4_judge 24 = .ok (.iconst 0, 1) := by decide +kernel
theorem dX4_judge_25 : decode cX4_judge 25 = .ok (.istore_n 2, 1) := by decide +kernel
theorem dX4_judge_26 : decode cX4_judge 26 = .ok (.iload_n 2, 1) := by decide +kernel
theorem dX4_judge_27 : decode cX4_judge 27 = .ok (.iload_n 1, 1) := by decide +kernel
theorem dX4_judge_28 : decode cX4_judge 28 = .ok (.if_icmp .ge 53, 3) := by decide +kernel
theorem dX4_judge_31 : decode cX4_judge 31 = .ok (.aload_n 0, 1) := by decide +kernel
theorem dX4_judge_32 : decode cX4_judge 32 = .ok (.getfield 22, 3) := by decide +kernel
theorem dX4_judge_35 : decode cX4_judge 35 = .ok (.aload_n 0, 1) := by decide +kernel
theorem dX4_judge_36 : decode cX4_judge 36 = .ok (.getfield 117, 3) := by decide +kernel
theorem dX4_judge_39 : decode cX4_judge 39 = .ok (.iaload, 1) := by decide +kernel
theorem dX4_judge_40 : decode cX4_judge 40 = .ok (.bipush 24, 2) := by decide +kernel
theorem dX4_judge_42 : decode cX4_judge 42 = .ok (.iload_n 2, 1) := by decide +kernel
theorem dX4_judge_43 : decode cX4_judge 43 = .ok (.imul, 1) := by decide +kernel
theorem dX4_judge_44 : decode cX4_judge 44 = .ok (.aload_n 0, 1) := by decide +kernel
theorem dX4_judge_45 : decode cX4_judge 45 = .ok (.getfield 13, 3) := by decide +kernel
theorem dX4_judge_48 : decode cX4_judge 48 = .ok (.aload_n 0, 1) := by decide +kernel
theorem dX4_judge_49 : decode cX4_judge 49 = .ok (.getfield 117, 3) := by decide +kernel
theorem dX4_judge_52 : decode cX4_judge 52 = .ok (.iaload, 1) := by decide +kernel
theorem dX4_judge_53 : decode cX4_judge 53 = .ok (.invokestatic 180, 3) := by decide +kernel
theorem dX4_judge_56 : decode cX4_judge 56 = .ok (.imul, 1) := by decide +kernel
theorem dX4_judge_57 : decode cX4_judge 57 = .ok (.iadd, 1) := by decide +kernel
theorem dX4_judge_58 : decode cX4_judge 58 = .ok (.invokestatic 177, 3) := by decide +kernel
theorem dX4_judge_61 : decode cX4_judge 61 = .ok (.invokestatic 183, 3) := by decide +kernel
theorem dX4_judge_64 : decode cX4_judge 64 = .ok (.aload_n 0, 1) := by decide +kernel
theorem dX4_judge_65 : decode cX4_judge 65 = .ok (.getfield 62, 3) := by decide +kernel
theorem dX4_judge_68 : decode cX4_judge 68 = .ok (.iload_n 2, 1) := by decide +kernel
theorem dX4_judge_69 : decode cX4_judge 69 = .ok (.iaload, 1) := by decide +kernel
theorem dX4_judge_70 : decode cX4_judge 70 = .ok (.if_icmp .eq 5, 3) := by decide +kernel
theorem dX4_judge_73 : decode cX4_judge 73 = .ok (.iload_n 2, 1) := by decide +kernel
theorem dX4_judge_74 : decode cX4_judge 74 = .ok (.ireturn, 1) := by decide +kernel
theorem dX4_judge_75 : decode cX4_judge 75 = .ok (.iinc 2 1, 3) := by decide +kernel
theorem dX4_judge_78 : decode cX4_judge 78 = .ok (.goto (-52), 3) := by decide +kernel
theorem dX4_judge_81 : decode cX4_judge 81 = .ok (.bipush (-9), 2) := by decide +kernel
theorem dX4_judge_83 : decode cX4_judge 83 = .ok (.ireturn, 1) := by decide +kernel
theorem dX4_clear_0 : decode cX4_clear 0 = .ok (.aload_n 0, 1) := by decide +kernel
theorem dX4_clear_1 : decode cX4_clear 1 = .ok (.getfield 309, 3) := by decide +kernel
theorem dX4_clear_4 : decode cX4_clear 4 = .ok (.istore_n 1, 1) := by decide +kernel
theorem dX4_clear_5 : decode cX4_clear 5 = .ok (.aload_n 0, 1) := by decide +kernel
theorem dX4_clear_6 : decode cX4_clear 6 = .ok (.iconst 0, 1) := by decide +kernel
theorem dX4_clear_7 : decode cX4_clear 7 = .ok (.putfield 309, 3) := by decide +kernel
theorem dX4_clear_10 : decode cX4_clear 10 = .ok (.iload_n 1, 1) := by decide +kernel
theorem dX4_clear_11 : decode cX4_clear 11 = .ok (.ireturn, 1) := by decide +kernel
theorem dX4_goesWeek_0 : decode cX4_goesWeek 0 = .ok (.aload_n 0, 1) := by decide +kernel
theorem dX4_goesWeek_1 : decode cX4_goesWeek 1 = .ok (.getfield 117, 3) := by decide +kernel
theorem dX4_goesWeek_4 : decode cX4_goesWeek 4 = .ok (.istore_n 2, 1) := by decide +kernel
theorem dX4_goesWeek_5 : decode cX4_goesWeek 5 = .ok (.iconst 0, 1) := by decide +kernel
theorem dX4_goesWeek_6 : decode cX4_goesWeek 6 = .ok (.istore_n 3, 1) := by decide +kernel
theorem dX4_goesWeek_7 : decode cX4_goesWeek 7 = .ok (.iload_n 3, 1) := by decide +kernel
theorem dX4_goesWeek_8 : decode cX4_goesWeek 8 = .ok (.bipush 7, 2) := by decide +kernel
theorem dX4_goesWeek_10 : decode cX4_goesWeek 10 = .ok (.if_icmp .ge 96, 3) := by decide +kernel
theorem dX4_goesWeek_13 : decode cX4_goesWeek 13 = .ok (.aload_n 0, 1) := by decide +kernel
theorem dX4_goesWeek_14 : decode cX4_goesWeek 14 = .ok (.aload_n 0, 1) := by decide +kernel
theorem dX4_goesWeek_15 : decode cX4_goesWeek 15 = .ok (.getfield 334, 3) := by decide +kernel
theorem dX4_goesWeek_18 : decode cX4_goesWeek 18 = .ok (.ldc_w 337, 3) := by decide +kernel
theorem dX4_goesWeek_21 : decode cX4_goesWeek 21 = .ok (.imul, 1) := by decide +kernel
theorem dX4_goesWeek_22 : decode cX4_goesWeek 22 = .ok (.sipush 12345, 3) := by decide +kernel
theorem dX4_goesWeek_25 : decode cX4_goesWeek 25 = .ok (.iadd, 1) := by decide +kernel
theorem dX4_goesWeek_26 : decode cX4_goesWeek 26 = .ok (.putfield 334, 3) := by decide +kernel
theorem dX4_goesWeek_29 : decode cX4_goesWeek 29 = .ok (.aload_n 0, 1) := by decide +kernel
theorem dX4_goesWeek_30 : decode cX4_goesWeek 30 = .ok (.getfield 334, 3) := by decide +kernel
theorem dX4_goesWeek_33 : decode cX4_goesWeek 33 = .ok (.ldc_w 338, 3) := by decide +kernel
theorem dX4_goesWeek_36 : decode cX4_goesWeek 36 = .ok (.iand, 1) := by decide +kernel
theorem dX4_goesWeek_37 : decode cX4_goesWeek 37 = .ok (.ldc_w 339, 3) := by decide +kernel
theorem dX4_goesWeek_40 : decode cX4_goesWeek 40 = .ok (.idiv, 1) := by decide +kernel
theorem dX4_goesWeek_41 : decode cX4_goesWeek 41 = .ok (.bipush 7, 2) := by decide +kernel
theorem dX4_goesWeek_43 : decode cX4_goesWeek 43 = .ok (.irem, 1) := by decide +kernel
theorem dX4_goesWeek_44 : decode cX4_goesWeek 44 = .ok (.istore 4, 2) := by decide +kernel
theorem dX4_goesWeek_46 : decode cX4_goesWeek 46 = .ok (.aload_n 0, 1) := by decide +kernel
theorem dX4_goesWeek_47 : decode cX4_goesWeek 47 = .ok (.iload_n 2, 1) := by decide +kernel
theorem dX4_goesWeek_48 : decode cX4_goesWeek 48 = .ok (.aload_n 0, 1) := by decide +kernel
theorem dX4_goesWeek_49 : decode cX4_goesWeek 49 = .ok (.iload_n 2, 1) := by decide +kernel
theorem dX4_goesWeek_50 : decode cX4_goesWeek 50 = .ok (.invokevirtual 134, 3) := by decide +kernel
theorem dX4_goesWeek_53 : decode cX4_goesWeek 53 = .ok (.iload 4, 2) := by decide +kernel
theorem dX4_goesWeek_55 : decode cX4_goesWeek 55 = .ok (.imul, 1) := by decide +kernel
theorem dX4_goesWeek_56 : decode cX4_goesWeek 56 = .ok (.invokevirtual 137, 3) := by decide +kernel
theorem dX4_goesWeek_59 : decode cX4_goesWeek 59 = .ok (.aload_n 0, 1) := by decide +kernel
theorem dX4_goesWeek_60 : decode cX4_goesWeek 60 = .ok (.iload_n 2, 1) := by decide +kernel
theorem dX4_goesWeek_61 : decode cX4_goesWeek 61 = .ok (.aload_n 0, 1) := by decide +kernel
theorem dX4_goesWeek_62 : decode cX4_goesWeek 62 = .ok (.getfield 13, 3) := by decide +kernel
theorem dX4_goesWeek_65 : decode cX4_goesWeek 65 = .ok (.iload_n 2, 1) := by decide +kernel
theorem dX4_goesWeek_66 : decode cX4_goesWeek 66 = .ok (.iaload, 1) := by decide +kernel
theorem dX4_goesWeek_67 : decode cX4_goesWeek 67 = .ok (.invokestatic 180, 3) := by decide +kernel
theorem dX4_goesWeek_70 : decode cX4_goesWeek 70 = .ok (.bipush 24, 2) := by decide +kernel
theorem dX4_goesWeek_72 : decode cX4_goesWeek 72 = .ok (.iload 4, 2) := by decide +kernel
theorem dX4_goesWeek_74 : decode cX4_goesWeek 74 = .ok (.isub, 1) := by decide +kernel
theorem dX4_goesWeek_75 : decode cX4_goesWeek 75 = .ok (.imul, 1) := by decide +kernel
theorem dX4_goesWeek_76 : decode cX4_goesWeek 76 = .ok (.invokevirtual 137, 3) := by decide +kernel
theorem dX4_goesWeek_79 : decode cX4_goesWeek 79 = .ok (.aload_n 0, 1) := by decide +kernel
theorem dX4_goesWeek_80 : decode cX4_goesWeek 80 = .ok (.aload_n 0, 1) := by decide +kernel
theorem dX4_goesWeek_81 : decode cX4_goesWeek 81 = .ok (.iload_n 2, 1) := by decide +kernel
theorem dX4_goesWeek_82 : decode cX4_goesWeek 82 = .ok (.iconst 4, 1) := by decide +kernel
theorem dX4_goesWeek_83 : decode cX4_goesWeek 83 = .ok (.iload_n 1, 1) := by decide +kernel
theorem dX4_goesWeek_84 : decode cX4_goesWeek 84 = .ok (.invokevirtual 316, 3) := by decide +kernel
theorem dX4_goesWeek_87 : decode cX4_goesWeek 87 = .ok (.putfield 340, 3) := by decide +kernel
theorem dX4_goesWeek_90 : decode cX4_goesWeek 90 = .ok (.aload_n 0, 1) := by decide +kernel
theorem dX4_goesWeek_91 : decode cX4_goesWeek 91 = .ok (.getfield 340, 3) := by decide +kernel
theorem dX4_goesWeek_94 : decode cX4_goesWeek 94 = .ok (.ifCond .eq 6, 3) := by decide +kernel
theorem dX4_goesWeek_97 : decode cX4_goesWeek 97 = .ok (.goto 9, 3) := by decide +kernel
theorem dX4_goesWeek_100 : decode cX4_goesWeek 100 = .ok (.iinc 3 1, 3) := by decide +kernel
theorem dX4_goesWeek_103 : decode cX4_goesWeek 103 = .ok (.goto (-96), 3) := by decide +kernel
theorem dX4_goesWeek_106 : decode cX4_goesWeek 106 = .ok (.aload_n 0, 1) := by decide +kernel
theorem dX4_goesWeek_107 : decode cX4_goesWeek 107 = .ok (.aload_n 0, 1) := by decide +kernel
theorem dX4_goesWeek_108 : decode cX4_goesWeek 108 = .ok (.aload_n 0, 1) := by decide +kernel
theorem dX4_goesWeek_109 : decode cX4_goesWeek 109 = .ok (.getfield 340, 3) := by decide +kernel
theorem dX4_goesWeek_112 : decode cX4_goesWeek 112 = .ok (.iload_n 1, 1) := by decide +kernel
theorem dX4_goesWeek_113 : decode cX4_goesWeek 113 = .ok (.aload_n 0, 1) := by decide +kernel
theorem dX4_goesWeek_114 : decode cX4_goesWeek 114 = .ok (.iload_n 2, 1) := by decide +kernel
theorem dX4_goesWeek_115 : decode cX4_goesWeek 115 = .ok (.invokevirtual 186, 3) := by decide +kernel
theorem dX4_goesWeek_118 : decode cX4_goesWeek 118 = .ok (.invokevirtual 217, 3) := by decide +kernel
theorem dX4_goesWeek_121 : decode cX4_goesWeek 121 = .ok (.aload_n 0, 1) := by decide +kernel
theorem dX4_goesWeek_122 : decode cX4_goesWeek 122 = .ok (.getfield 19, 3) := by decide +kernel
theorem dX4_goesWeek_125 : decode cX4_goesWeek 125 = .ok (.iload_n 2, 1) := by decide +kernel
theorem dX4_goesWeek_126 : decode cX4_goesWeek 126 = .ok (.iaload, 1) := by decide +kernel
theorem dX4_goesWeek_127 : decode cX4_goesWeek 127 = .ok (.imul, 1) := by decide +kernel
theorem dX4_goesWeek_128 : decode cX4_goesWeek 128 = .ok (.putfield 343, 3) := by decide +kernel
theorem dX4_goesWeek_131 : decode cX4_goesWeek 131 = .ok (.return_, 1) := by decide +kernel
theorem dX4_seeds_0 : decode cX4_seeds 0 = .ok (.aload_n 0, 1) := by decide +kernel
theorem dX4_seeds_1 : decode cX4_seeds 1 = .ok (.iload_n 1, 1) := by decide +kernel
theorem dX4_seeds_2 : decode cX4_seeds 2 = .ok (.invokevirtual 253, 3) := by decide +kernel
theorem dX4_seeds_5 : decode cX4_seeds 5 = .ok (.istore 5, 2) := by decide +kernel
theorem dX4_seeds_7 : decode cX4_seeds 7 = .ok (.iload 5, 2) := by decide +kernel
theorem dX4_seeds_9 : decode cX4_seeds 9 = .ok (.ifCond .ne 12, 3) := by decide +kernel
theorem dX4_seeds_12 : decode cX4_seeds 12 = .ok (.iload_n 2, 1) := by decide +kernel
theorem dX4_seeds_13 : decode cX4_seeds 13 = .ok (.iconst 1, 1) := by decide +kernel
theorem dX4_seeds_14 : decode cX4_seeds 14 = .ok (.bipush 20, 2) := by decide +kernel
theorem dX4_seeds_16 : decode cX4_seeds 16 = .ok (.invokestatic 78, 3) := by decide +kernel
theorem dX4_seeds_19 : decode cX4_seeds 19 = .ok (.istore 5, 2) := by decide +kernel
theorem dX4_seeds_21 : decode cX4_seeds 21 = .ok (.iload 5, 2) := by decide +kernel
theorem dX4_seeds_23 : decode cX4_seeds 23 = .ok (.ifCond .ne 17, 3) := by decide +kernel
theorem dX4_seeds_26 : decode cX4_seeds 26 = .ok (.iload 4, 2) := by decide +kernel
theorem dX4_seeds_28 : decode cX4_seeds 28 = .ok (.iconst 0, 1) := by decide +kernel
theorem dX4_seeds_29 : decode cX4_seeds 29 = .ok (.iconst 1, 1) := by decide +kernel
theorem dX4_seeds_30 : decode cX4_seeds 30 = .ok (.invokestatic 96, 3) := by decide +kernel
theorem dX4_seeds_33 : decode cX4_seeds 33 = .ok (.ifCond .ne 7, 3) := by decide +kernel
theorem dX4_seeds_36 : decode cX4_seeds 36 = .ok (.bipush (-2), 2) := by decide +kernel
theorem dX4_seeds_38 : decode cX4_seeds 38 = .ok (.istore 5, 2) := by decide +kernel
theorem dX4_seeds_40 : decode cX4_seeds 40 = .ok (.iload 5, 2) := by decide +kernel
theorem dX4_seeds_42 : decode cX4_seeds 42 = .ok (.ifCond .eq 10, 3) := by decide +kernel
theorem dX4_seeds_45 : decode cX4_seeds 45 = .ok (.aload_n 0, 1) := by decide +kernel
theorem dX4_seeds_46 : decode cX4_seeds 46 = .ok (.iload 5, 2) := by decide +kernel
theorem dX4_seeds_48 : decode cX4_seeds 48 = .ok (.invokevirtual 319, 3) := by decide +kernel
theorem dX4_seeds_51 : decode cX4_seeds 51 = .ok (.ireturn, 1) := by decide +kernel
theorem dX4_seeds_52 : decode cX4_seeds 52 = .ok (.aload_n 0, 1) := by decide +kernel
theorem dX4_seeds_53 : decode cX4_seeds 53 = .ok (.getfield 22, 3) := by decide +kernel
theorem dX4_seeds_56 : decode cX4_seeds 56 = .ok (.aload_n 0, 1) := by decide +kernel
theorem dX4_seeds_57 : decode cX4_seeds 57 = .ok (.getfield 117, 3) := by decide +kernel
theorem dX4_seeds_60 : decode cX4_seeds 60 = .ok (.iaload, 1) := by decide +kernel
theorem dX4_seeds_61 : decode cX4_seeds 61 = .ok (.istore 6, 2) := by decide +kernel
theorem dX4_seeds_63 : decode cX4_seeds 63 = .ok (.iconst 0, 1) := by decide +kernel
theorem dX4_seeds_64 : decode cX4_seeds 64 = .ok (.istore 7, 2) := by decide +kernel
theorem dX4_seeds_66 : decode cX4_seeds 66 = .ok (.iconst 0, 1) := by decide +kernel
theorem dX4_seeds_67 : decode cX4_seeds 67 = .ok (.istore 8, 2) := by decide +kernel
theorem dX4_seeds_69 : decode cX4_seeds 69 = .ok (.aload_n 0, 1) := by decide +kernel
theorem dX4_seeds_70 : decode cX4_seeds 70 = .ok (.iload_n 3, 1) := by decide +kernel
theorem dX4_seeds_71 : decode cX4_seeds 71 = .ok (.putfield 334, 3) := by decide +kernel
theorem dX4_seeds_74 : decode cX4_seeds 74 = .ok (.iconst 0, 1) := by decide +kernel
theorem dX4_seeds_75 : decode cX4_seeds 75 = .ok (.istore 9, 2) := by decide +kernel
theorem dX4_seeds_77 : decode cX4_seeds 77 = .ok (.iload 9, 2) := by decide +kernel
theorem dX4_seeds_79 : decode cX4_seeds 79 = .ok (.iload_n 2, 1) := by decide +kernel
theorem dX4_seeds_80 : decode cX4_seeds 80 = .ok (.if_icmp .ge 52, 3) := by decide +kernel
theorem dX4_seeds_83 : decode cX4_seeds 83 = .ok (.aload_n 0, 1) := by decide +kernel
theorem dX4_seeds_84 : decode cX4_seeds 84 = .ok (.getfield 22, 3) := by decide +kernel
theorem dX4_seeds_87 : decode cX4_seeds 87 = .ok (.aload_n 0, 1) := by decide +kernel
theorem dX4_seeds_88 : decode cX4_seeds 88 = .ok (.getfield 117, 3) := by decide +kernel
theorem dX4_seeds_91 : decode cX4_seeds 91 = .ok (.iload 6, 2) := by decide +kernel
theorem dX4_seeds_93 : decode cX4_seeds 93 = .ok (.iastore, 1) := by decide +kernel
theorem dX4_seeds_94 : decode cX4_seeds 94 = .ok (.aload_n 0, 1) := by decide +kernel
theorem dX4_seeds_95 : decode cX4_seeds 95 = .ok (.iload_n 1, 1) := by decide +kernel
theorem dX4_seeds_96 : decode cX4_seeds 96 = .ok (.invokevirtual 346, 3) := by decide +kernel
theorem dX4_seeds_99 : decode cX4_seeds 99 = .ok (.iload 7, 2) := by decide +kernel
theorem dX4_seeds_101 : decode cX4_seeds 101 = .ok (.aload_n 0, 1) := by decide +kernel
theorem dX4_seeds_102 : decode cX4_seeds 102 = .ok (.getfield 343, 3) := by decide +kernel
theorem dX4_seeds_105 : decode cX4_seeds 105 = .ok (.iadd, 1) := by decide +kernel
theorem dX4_seeds_106 : decode cX4_seeds 106 = .ok (.istore 7, 2) := by decide +kernel
theorem dX4_seeds_108 : decode cX4_seeds 108 = .ok (.iload 8, 2) := by decide +kernel
theorem dX4_seeds_110 : decode cX4_seeds 110 = .ok (.aload_n 0, 1) := by decide +kernel
theorem dX4_seeds_111 : decode cX4_seeds 111 = .ok (.getfield 340, 3) := by decide +kernel
theorem dX4_seeds_114 : decode cX4_seeds 114 = .ok (.iconst 4, 1) := by decide +kernel
theorem dX4_seeds_115 : decode cX4_seeds 115 = .ok (.if_icmp .ne 7, 3) := by decide +kernel
theorem dX4_seeds_118 : decode cX4_seeds 118 = .ok (.iconst 1, 1) := by decide +kernel
theorem dX4_seeds_119 : decode cX4_seeds 119 = .ok (.goto 4, 3) := by decide +kernel
theorem dX4_seeds_122 : decode cX4_seeds 122 = .ok (.iconst 0, 1) := by decide +kernel
theorem dX4_seeds_123 : decode cX4_seeds 123 = .ok (.iadd, 1) := by decide +kernel
theorem dX4_seeds_124 : decode cX4_seeds 124 = .ok (.istore 8, 2) := by decide +kernel
theorem dX4_seeds_126 : decode cX4_seeds 126 = .ok (.iinc 9 1, 3) := by decide +kernel
theorem dX4_seeds_129 : decode cX4_seeds 129 = .ok (.goto (-52), 3) := by decide +kernel
theorem dX4_seeds_132 : decode cX4_seeds 132 = .ok (.aload_n 0, 1) := by decide +kernel
theorem dX4_seeds_133 : decode cX4_seeds 133 = .ok (.getfield 22, 3) := by decide +kernel
theorem dX4_seeds_136 : decode cX4_seeds 136 = .ok (.aload_n 0, 1) := by decide +kernel
theorem dX4_seeds_137 : decode cX4_seeds 137 = .ok (.getfield 117, 3) := by decide +kernel
theorem dX4_seeds_140 : decode cX4_seeds 140 = .ok (.iload 6, 2) := by decide +kernel
theorem dX4_seeds_142 : decode cX4_seeds 142 = .ok (.iastore, 1) := by decide +kernel
theorem dX4_seeds_143 : decode cX4_seeds 143 = .ok (.iload 4, 2) := by decide +kernel
theorem dX4_seeds_145 : decode cX4_seeds 145 = .ok (.ifCond .ne 8, 3) := by decide +kernel
theorem dX4_seeds_148 : decode cX4_seeds 148 = .ok (.iload 7, 2) := by decide +kernel
theorem dX4_seeds_150 : decode cX4_seeds 150 = .ok (.goto 5, 3) := by decide +kernel
theorem dX4_seeds_153 : decode cX4_seeds 153 = .ok (.iload 8, 2) := by decide +kernel
theorem dX4_seeds_155 : decode cX4_seeds 155 = .ok (.ireturn, 1) := by decide +kernel
theorem dX4_allCups_0 : decode cX4_allCups 0 = .ok (.iconst 0, 1) := by decide +kernel
theorem dX4_allCups_1 : decode cX4_allCups 1 = .ok (.istore_n 1, 1) := by decide +kernel
theorem dX4_allCups_2 : decode cX4_allCups 2 = .ok (.iconst 0, 1) := by decide +kernel
theorem dX4_allCups_3 : decode cX4_allCups 3 = .ok (.istore_n 2, 1) := by decide +kernel
theorem dX4_allCups_4 : decode cX4_allCups 4 = .ok (.iload_n 2, 1) := by decide +kernel
theorem dX4_allCups_5 : decode cX4_allCups 5 = .ok (.aload_n 0, 1) := by decide +kernel
theorem dX4_allCups_6 : decode cX4_allCups 6 = .ok (.getfield 75, 3) := by decide +kernel
theorem dX4_allCups_9 : decode cX4_allCups 9 = .ok (.if_icmp .ge 18, 3) := by decide +kernel
theorem dX4_allCups_12 : decode cX4_allCups 12 = .ok (.iload_n 1, 1) := by decide +kernel
theorem dX4_allCups_13 : decode cX4_allCups 13 = .ok (.aload_n 0, 1) := by decide +kernel
theorem dX4_allCups_14 : decode cX4_allCups 14 = .ok (.getfield 19, 3) := by decide +kernel
theorem dX4_allCups_17 : decode cX4_allCups 17 = .ok (.iload_n 2, 1) := by decide +kernel
theorem dX4_allCups_18 : decode cX4_allCups 18 = .ok (.iaload, 1) := by decide +kernel
theorem dX4_allCups_19 : decode cX4_allCups 19 = .ok (.iadd, 1) := by decide +kernel
theorem dX4_allCups_20 : decode cX4_allCups 20 = .ok (.istore_n 1, 1) := by decide +kernel
theorem dX4_allCups_21 : decode cX4_allCups 21 = .ok (.iinc 2 1, 3) := by decide +kernel
theorem dX4_allCups_24 : decode cX4_allCups 24 = .ok (.goto (-20), 3) := by decide +kernel
theorem dX4_allCups_27 : decode cX4_allCups 27 = .ok (.iload_n 1, 1) := by decide +kernel
theorem dX4_allCups_28 : decode cX4_allCups 28 = .ok (.ireturn, 1) := by decide +kernel
theorem dX4_count_0 : decode cX4_count 0 = .ok (.iload_n 1, 1) := by decide +kernel
theorem dX4_count_1 : decode cX4_count 1 = .ok (.bipush 11, 2) := by decide +kernel
theorem dX4_count_3 : decode cX4_count 3 = .ok (.bipush 16, 2) := by decide +kernel
theorem dX4_count_5 : decode cX4_count 5 = .ok (.invokestatic 96, 3) := by decide +kernel
theorem dX4_count_8 : decode cX4_count 8 = .ok (.ifCond .eq 13, 3) := by decide +kernel
theorem dX4_count_11 : decode cX4_count 11 = .ok (.aload_n 0, 1) := by decide +kernel
theorem dX4_count_12 : decode cX4_count 12 = .ok (.getfield 7, 3) := by decide +kernel
theorem dX4_count_15 : decode cX4_count 15 = .ok (.iload_n 1, 1) := by decide +kernel
theorem dX4_count_16 : decode cX4_count 16 = .ok (.bipush 10, 2) := by decide +kernel
theorem dX4_count_18 : decode cX4_count 18 = .ok (.isub, 1) := by decide +kernel
theorem dX4_count_19 : decode cX4_count 19 = .ok (.iaload, 1) := by decide +kernel
theorem dX4_count_20 : decode cX4_count 20 = .ok (.ireturn, 1) := by decide +kernel
theorem dX4_count_21 : decode cX4_count 21 = .ok (.iload_n 1, 1) := by decide +kernel
theorem dX4_count_22 : decode cX4_count 22 = .ok (.bipush 20, 2) := by decide +kernel
theorem dX4_count_24 : decode cX4_count 24 = .ok (.bipush 23, 2) := by decide +kernel
theorem dX4_count_26 : decode cX4_count 26 = .ok (.invokestatic 96, 3) := by decide +kernel
theorem dX4_count_29 : decode cX4_count 29 = .ok (.ifCond .eq 13, 3) := by decide +kernel
theorem dX4_count_32 : decode cX4_count 32 = .ok (.aload_n 0, 1) := by decide +kernel
theorem dX4_count_33 : decode cX4_count 33 = .ok (.getfield 25, 3) := by decide +kernel
theorem dX4_count_36 : decode cX4_count 36 = .ok (.iload_n 1, 1) := by decide +kernel
theorem dX4_count_37 : decode cX4_count 37 = .ok (.bipush 20, 2) := by decide +kernel
theorem dX4_count_39 : decode cX4_count 39 = .ok (.isub, 1) := by decide +kernel
theorem dX4_count_40 : decode cX4_count 40 = .ok (.iaload, 1) := by decide +kernel
theorem dX4_count_41 : decode cX4_count 41 = .ok (.ireturn, 1) := by decide +kernel
theorem dX4_count_42 : decode cX4_count 42 = .ok (.iload_n 1, 1) := by decide +kernel
theorem dX4_count_43 : decode cX4_count 43 = .ok (.tableswitch 94 0 8 #[49, 54, 59, 64, 69, 74, 79, 84, 89], 49) := by decide +kernel
theorem dX4_count_92 : decode cX4_count 92 = .ok (.aload_n 0, 1) := by decide +kernel
theorem dX4_count_93 : decode cX4_count 93 = .ok (.getfield 75, 3) := by decide +kernel
theorem dX4_count_96 : decode cX4_count 96 = .ok (.ireturn, 1) := by decide +kernel
theorem dX4_count_97 : decode cX4_count 97 = .ok (.aload_n 0, 1) := by decide +kernel
theorem dX4_count_98 : decode cX4_count 98 = .ok (.getfield 117, 3) := by decide +kernel
theorem dX4_count_101 : decode cX4_count 101 = .ok (.ireturn, 1) := by decide +kernel
theorem dX4_count_102 : decode cX4_count 102 = .ok (.aload_n 0, 1) := by decide +kernel
theorem dX4_count_103 : decode cX4_count 103 = .ok (.getfield 110, 3) := by decide +kernel
theorem dX4_count_106 : decode cX4_count 106 = .ok (.ireturn, 1) := by decide +kernel
theorem dX4_count_107 : decode cX4_count 107 = .ok (.aload_n 0, 1) := by decide +kernel
theorem dX4_count_108 : decode cX4_count 108 = .ok (.getfield 171, 3) := by decide +kernel
theorem dX4_count_111 : decode cX4_count 111 = .ok (.ireturn, 1) := by decide +kernel
theorem dX4_count_112 : decode cX4_count 112 = .ok (.aload_n 0, 1) := by decide +kernel
theorem dX4_count_113 : decode cX4_count 113 = .ok (.getfield 68, 3) := by decide +kernel
theorem dX4_count_116 : decode cX4_count 116 = .ok (.ireturn, 1) := by decide +kernel
theorem dX4_count_117 : decode cX4_count 117 = .ok (.aload_n 0, 1) := by decide +kernel
theorem dX4_count_118 : decode cX4_count 118 = .ok (.invokevirtual 349, 3) := by decide +kernel
theorem dX4_count_121 : decode cX4_count 121 = .ok (.ireturn, 1) := by decide +kernel
theorem dX4_count_122 : decode cX4_count 122 = .ok (.aload_n 0, 1) := by decide +kernel
theorem dX4_count_123 : decode cX4_count 123 = .ok (.invokevirtual 189, 3) := by decide +kernel
theorem dX4_count_126 : decode cX4_count 126 = .ok (.ireturn, 1) := by decide +kernel
theorem dX4_count_127 : decode cX4_count 127 = .ok (.aload_n 0, 1) := by decide +kernel
theorem dX4_count_128 : decode cX4_count 128 = .ok (.getfield 82, 3) := by decide +kernel
theorem dX4_count_131 : decode cX4_count 131 = .ok (.ireturn, 1) := by decide +kernel
theorem dX4_count_132 : decode cX4_count 132 = .ok (.aload_n 0, 1) := by decide +kernel
theorem dX4_count_133 : decode cX4_count 133 = .ok (.getfield 309, 3) := by decide +kernel
theorem dX4_count_136 : decode cX4_count 136 = .ok (.ireturn, 1) := by decide +kernel
theorem dX4_count_137 : decode cX4_count 137 = .ok (.bipush (-9), 2) := by decide +kernel
theorem dX4_count_139 : decode cX4_count 139 = .ok (.ireturn, 1) := by decide +kernel
theorem dJ9_abs_0f7a4_0 : decode cJ9_abs_0f7a4 0 = .ok (.iload_n 0, 1) := by decide +kernel
theorem dJ9_abs_0f7a4_1 : decode cJ9_abs_0f7a4 1 = .ok (.ifCond .ge 8, 3) := by decide +kernel
theorem dJ9_abs_0f7a4_4 : decode cJ9_abs_0f7a4 4 = .ok (.iload_n 0, 1) := by decide +kernel
theorem dJ9_abs_0f7a4_5 : decode cJ9_abs_0f7a4 5 = .ok (.ineg, 1) := by decide +kernel
theorem dJ9_abs_0f7a4_6 : decode cJ9_abs_0f7a4 6 = .ok (.goto 4, 3) := by decide +kernel
theorem dJ9_abs_0f7a4_9 : decode cJ9_abs_0f7a4 9 = .ok (.iload_n 0, 1) := by decide +kernel
theorem dJ9_abs_0f7a4_10 : decode cJ9_abs_0f7a4 10 = .ok (.ireturn, 1) := by decide +kernel
theorem dJ9_abs_067f4_0 : decode cJ9_abs_067f4 0 = .ok (.lload_n 0, 1) := by decide +kernel
theorem dJ9_abs_067f4_1 : decode cJ9_abs_067f4 1 = .ok (.lconst 0, 1) := by decide +kernel
theorem dJ9_abs_067f4_2 : decode cJ9_abs_067f4 2 = .ok (.lcmp, 1) := by decide +kernel
theorem dJ9_abs_067f4_3 : decode cJ9_abs_067f4 3 = .ok (.ifCond .ge 8, 3) := by decide +kernel
theorem dJ9_abs_067f4_6 : decode cJ9_abs_067f4 6 = .ok (.lload_n 0, 1) := by decide +kernel
theorem dJ9_abs_067f4_7 : decode cJ9_abs_067f4 7 = .ok (.lneg, 1) := by decide +kernel
theorem dJ9_abs_067f4_8 : decode cJ9_abs_067f4 8 = .ok (.goto 4, 3) := by decide +kernel
theorem dJ9_abs_067f4_11 : decode cJ9_abs_067f4 11 = .ok (.lload_n 0, 1) := by decide +kernel
theorem dJ9_abs_067f4_12 : decode cJ9_abs_067f4 12 = .ok (.lreturn, 1) := by decide +kernel
theorem dJ9_max_7cf53_0 : decode cJ9_max_7cf53 0 = .ok (.iload_n 0, 1) := by decide +kernel
theorem dJ9_max_7cf53_1 : decode cJ9_max_7cf53 1 = .ok (.iload_n 1, 1) := by decide +kernel
theorem dJ9_max_7cf53_2 : decode cJ9_max_7cf53 2 = .ok (.if_icmp .lt 7, 3) := by decide +kernel
theorem dJ9_max_7cf53_5 : decode cJ9_max_7cf53 5 = .ok (.iload_n 0, 1) := by decide +kernel
theorem dJ9_max_7cf53_6 : decode cJ9_max_7cf53 6 = .ok (.goto 4, 3) := by decide +kernel
theorem dJ9_max_7cf53_9 : decode cJ9_max_7cf53 9 = .ok (.iload_n 1, 1) := by decide +kernel
theorem dJ9_max_7cf53_10 : decode cJ9_max_7cf53 10 = .ok (.ireturn, 1) := by decide +kernel
theorem dJ9_max_f86c9_0 : decode cJ9_max_f86c9 0 = .ok (.lload_n 0, 1) := by decide +kernel
theorem dJ9_max_f86c9_1 : decode cJ9_max_f86c9 1 = .ok (.lload_n 2, 1) := by decide +kernel
theorem dJ9_max_f86c9_2 : decode cJ9_max_f86c9 2 = .ok (.lcmp, 1) := by decide +kernel
theorem dJ9_max_f86c9_3 : decode cJ9_max_f86c9 3 = .ok (.ifCond .lt 7, 3) := by decide +kernel
theorem dJ9_max_f86c9_6 : decode cJ9_max_f86c9 6 = .ok (.lload_n 0, 1) := by decide +kernel
theorem dJ9_max_f86c9_7 : decode cJ9_max_f86c9 7 = .ok (.goto 4, 3) := by decide +kernel
theorem dJ9_max_f86c9_10 : decode cJ9_max_f86c9 10 = .ok (.lload_n 2, 1) := by decide +kernel
theorem dJ9_max_f86c9_11 : decode cJ9_max_f86c9 11 = .ok (.lreturn, 1) := by decide +kernel
theorem dJ9_min_7cf53_0 : decode cJ9_min_7cf53 0 = .ok (.iload_n 0, 1) := by decide +kernel
theorem dJ9_min_7cf53_1 : decode cJ9_min_7cf53 1 = .ok (.iload_n 1, 1) := by decide +kernel
theorem dJ9_min_7cf53_2 : decode cJ9_min_7cf53 2 = .ok (.if_icmp .gt 7, 3) := by decide +kernel
theorem dJ9_min_7cf53_5 : decode cJ9_min_7cf53 5 = .ok (.iload_n 0, 1) := by decide +kernel
theorem dJ9_min_7cf53_6 : decode cJ9_min_7cf53 6 = .ok (.goto 4, 3) := by decide +kernel
theorem dJ9_min_7cf53_9 : decode cJ9_min_7cf53 9 = .ok (.iload_n 1, 1) := by decide +kernel
theorem dJ9_min_7cf53_10 : decode cJ9_min_7cf53 10 = .ok (.ireturn, 1) := by decide +kernel
