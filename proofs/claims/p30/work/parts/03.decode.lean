theorem dX0_init_0 : decode cX0_init 0 = .ok (.aload_n 0, 1) := by decide +kernel
theorem dX0_init_1 : decode cX0_init 1 = .ok (.invokespecial 1, 3) := by decide +kernel
theorem dX0_init_4 : decode cX0_init 4 = .ok (.aload_n 0, 1) := by decide +kernel
theorem dX0_init_5 : decode cX0_init 5 = .ok (.iconst 0, 1) := by decide +kernel
theorem dX0_init_6 : decode cX0_init 6 = .ok (.putfield 7, 3) := by decide +kernel
theorem dX0_init_9 : decode cX0_init 9 = .ok (.aload_n 0, 1) := by decide +kernel
theorem dX0_init_10 : decode cX0_init 10 = .ok (.iconst 0, 1) := by decide +kernel
theorem dX0_init_11 : decode cX0_init 11 = .ok (.putfield 13, 3) := by decide +kernel
theorem dX0_init_14 : decode cX0_init 14 = .ok (.aload_n 0, 1) := by decide +kernel
theorem dX0_init_15 : decode cX0_init 15 = .ok (.iconst 0, 1) := by decide +kernel
theorem dX0_init_16 : decode cX0_init 16 = .ok (.putfield 16, 3) := by decide +kernel
theorem dX0_init_19 : decode cX0_init 19 = .ok (.aload_n 0, 1) := by decide +kernel
theorem dX0_init_20 : decode cX0_init 20 = .ok (.iconst 0, 1) := by decide +kernel
theorem dX0_init_21 : decode cX0_init 21 = .ok (.putfield 19, 3) := by decide +kernel
theorem dX0_init_24 : decode cX0_init 24 = .ok (.aload_n 0, 1) := by decide +kernel
theorem dX0_init_25 : decode cX0_init 25 = .ok (.iconst 0, 1) := by decide +kernel
theorem dX0_init_26 : decode cX0_init 26 = .ok (.putfield 22, 3) := by decide +kernel
theorem dX0_init_29 : decode cX0_init 29 = .ok (.aload_n 0, 1) := by decide +kernel
theorem dX0_init_30 : decode cX0_init 30 = .ok (.iconst 0, 1) := by decide +kernel
theorem dX0_init_31 : decode cX0_init 31 = .ok (.putfield 25, 3) := by decide +kernel
theorem dX0_init_34 : decode cX0_init 34 = .ok (.aload_n 0, 1) := by decide +kernel
theorem dX0_init_35 : decode cX0_init 35 = .ok (.iconst 0, 1) := by decide +kernel
theorem dX0_init_36 : decode cX0_init 36 = .ok (.putfield 28, 3) := by decide +kernel
theorem dX0_init_39 : decode cX0_init 39 = .ok (.aload_n 0, 1) := by decide +kernel
theorem dX0_init_40 : decode cX0_init 40 = .ok (.iconst 0, 1) := by decide +kernel
theorem dX0_init_41 : decode cX0_init 41 = .ok (.putfield 31, 3) := by decide +kernel
theorem dX0_init_44 : decode cX0_init 44 = .ok (.aload_n 0, 1) := by decide +kernel
theorem dX0_init_45 : decode cX0_init 45 = .ok (.iconst 0, 1) := by decide +kernel
theorem dX0_init_46 : decode cX0_init 46 = .ok (.putfield 34, 3) := by decide +kernel
theorem dX0_init_49 : decode cX0_init 49 = .ok (.return_, 1) := by decide +kernel
theorem dX1_init_0 : decode cX1_init 0 = .ok (.aload_n 0, 1) := by decide +kernel
theorem dX1_init_1 : decode cX1_init 1 = .ok (.invokespecial 3, 3) := by decide +kernel
theorem dX1_init_4 : decode cX1_init 4 = .ok (.aload_n 0, 1) := by decide +kernel
theorem dX1_init_5 : decode cX1_init 5 = .ok (.iconst 4, 1) := by decide +kernel
theorem dX1_init_6 : decode cX1_init 6 = .ok (.newarray .int, 2) := by decide +kernel
theorem dX1_init_8 : decode cX1_init 8 = .ok (.putfield 9, 3) := by decide +kernel
theorem dX1_init_11 : decode cX1_init 11 = .ok (.aload_n 0, 1) := by decide +kernel
theorem dX1_init_12 : decode cX1_init 12 = .ok (.iconst 0, 1) := by decide +kernel
theorem dX1_init_13 : decode cX1_init 13 = .ok (.putfield 15, 3) := by decide +kernel
theorem dX1_init_16 : decode cX1_init 16 = .ok (.aload_n 0, 1) := by decide +kernel
theorem dX1_init_17 : decode cX1_init 17 = .ok (.iconst 0, 1) := by decide +kernel
theorem dX1_init_18 : decode cX1_init 18 = .ok (.putfield 19, 3) := by decide +kernel
theorem dX1_init_21 : decode cX1_init 21 = .ok (.aload_n 0, 1) := by decide +kernel
theorem dX1_init_22 : decode cX1_init 22 = .ok (.iconst 0, 1) := by decide +kernel
theorem dX1_init_23 : decode cX1_init 23 = .ok (.putfield 22, 3) := by decide +kernel
theorem dX1_init_26 : decode cX1_init 26 = .ok (.aload_n 0, 1) := by decide +kernel
theorem dX1_init_27 : decode cX1_init 27 = .ok (.iconst (-1), 1) := by decide +kernel
theorem dX1_init_28 : decode cX1_init 28 = .ok (.putfield 25, 3) := by decide +kernel
theorem dX1_init_31 : decode cX1_init 31 = .ok (.aload_n 0, 1) := by decide +kernel
theorem dX1_init_32 : decode cX1_init 32 = .ok (.iconst 0, 1) := by decide +kernel
theorem dX1_init_33 : decode cX1_init 33 = .ok (.putfield 29, 3) := by decide +kernel
theorem dX1_init_36 : decode cX1_init 36 = .ok (.aload_n 0, 1) := by decide +kernel
theorem dX1_init_37 : decode cX1_init 37 = .ok (.iconst 0, 1) := by decide +kernel
theorem dX1_init_38 : decode cX1_init 38 = .ok (.putfield 32, 3) := by decide +kernel
theorem dX1_init_41 : decode cX1_init 41 = .ok (.aload_n 0, 1) := by decide +kernel
theorem dX1_init_42 : decode cX1_init 42 = .ok (.iconst 0, 1) := by decide +kernel
theorem dX1_init_43 : decode cX1_init 43 = .ok (.putfield 35, 3) := by decide +kernel
theorem dX1_init_46 : decode cX1_init 46 = .ok (.aload_n 0, 1) := by decide +kernel
theorem dX1_init_47 : decode cX1_init 47 = .ok (.iconst 0, 1) := by decide +kernel
theorem dX1_init_48 : decode cX1_init 48 = .ok (.putfield 38, 3) := by decide +kernel
theorem dX1_init_51 : decode cX1_init 51 = .ok (.return_, 1) := by decide +kernel
theorem dX2_init_0 : decode cX2_init 0 = .ok (.aload_n 0, 1) := by decide +kernel
theorem dX2_init_1 : decode cX2_init 1 = .ok (.invokespecial 3, 3) := by decide +kernel
theorem dX2_init_4 : decode cX2_init 4 = .ok (.aload_n 0, 1) := by decide +kernel
theorem dX2_init_5 : decode cX2_init 5 = .ok (.iconst 0, 1) := by decide +kernel
theorem dX2_init_6 : decode cX2_init 6 = .ok (.putfield 9, 3) := by decide +kernel
theorem dX2_init_9 : decode cX2_init 9 = .ok (.aload_n 0, 1) := by decide +kernel
theorem dX2_init_10 : decode cX2_init 10 = .ok (.iconst 0, 1) := by decide +kernel
theorem dX2_init_11 : decode cX2_init 11 = .ok (.putfield 15, 3) := by decide +kernel
theorem dX2_init_14 : decode cX2_init 14 = .ok (.aload_n 0, 1) := by decide +kernel
theorem dX2_init_15 : decode cX2_init 15 = .ok (.iconst 0, 1) := by decide +kernel
theorem dX2_init_16 : decode cX2_init 16 = .ok (.putfield 18, 3) := by decide +kernel
theorem dX2_init_19 : decode cX2_init 19 = .ok (.aload_n 0, 1) := by decide +kernel
theorem dX2_init_20 : decode cX2_init 20 = .ok (.iconst (-1), 1) := by decide +kernel
theorem dX2_init_21 : decode cX2_init 21 = .ok (.putfield 21, 3) := by decide +kernel
theorem dX2_init_24 : decode cX2_init 24 = .ok (.aload_n 0, 1) := by decide +kernel
theorem dX2_init_25 : decode cX2_init 25 = .ok (.iconst (-1), 1) := by decide +kernel
theorem dX2_init_26 : decode cX2_init 26 = .ok (.putfield 24, 3) := by decide +kernel
theorem dX2_init_29 : decode cX2_init 29 = .ok (.return_, 1) := by decide +kernel
theorem dX3_init_0 : decode cX3_init 0 = .ok (.aload_n 0, 1) := by decide +kernel
theorem dX3_init_1 : decode cX3_init 1 = .ok (.invokespecial 1, 3) := by decide +kernel
theorem dX3_init_4 : decode cX3_init 4 = .ok (.aload_n 0, 1) := by decide +kernel
theorem dX3_init_5 : decode cX3_init 5 = .ok (.bipush 8, 2) := by decide +kernel
theorem dX3_init_7 : decode cX3_init 7 = .ok (.anewarray 9, 3) := by decide +kernel
theorem dX3_init_10 : decode cX3_init 10 = .ok (.putfield 11, 3) := by decide +kernel
theorem dX3_init_13 : decode cX3_init 13 = .ok (.aload_n 0, 1) := by decide +kernel
theorem dX3_init_14 : decode cX3_init 14 = .ok (.bipush 12, 2) := by decide +kernel
theorem dX3_init_16 : decode cX3_init 16 = .ok (.anewarray 15, 3) := by decide +kernel
theorem dX3_init_19 : decode cX3_init 19 = .ok (.putfield 17, 3) := by decide +kernel
theorem dX3_init_22 : decode cX3_init 22 = .ok (.aload_n 0, 1) := by decide +kernel
theorem dX3_init_23 : decode cX3_init 23 = .ok (.bipush 6, 2) := by decide +kernel
theorem dX3_init_25 : decode cX3_init 25 = .ok (.anewarray 21, 3) := by decide +kernel
theorem dX3_init_28 : decode cX3_init 28 = .ok (.putfield 23, 3) := by decide +kernel
theorem dX3_init_31 : decode cX3_init 31 = .ok (.aload_n 0, 1) := by decide +kernel
theorem dX3_init_32 : decode cX3_init 32 = .ok (.iconst 0, 1) := by decide +kernel
theorem dX3_init_33 : decode cX3_init 33 = .ok (.putfield 27, 3) := by decide +kernel
theorem dX3_init_36 : decode cX3_init 36 = .ok (.aload_n 0, 1) := by decide +kernel
theorem dX3_init_37 : decode cX3_init 37 = .ok (.iconst 0, 1) := by decide +kernel
theorem dX3_init_38 : decode cX3_init 38 = .ok (.putfield 31, 3) := by decide +kernel
theorem dX3_init_41 : decode cX3_init 41 = .ok (.aload_n 0, 1) := by decide +kernel
theorem dX3_init_42 : decode cX3_init 42 = .ok (.iconst 0, 1) := by decide +kernel
theorem dX3_init_43 : decode cX3_init 43 = .ok (.putfield 34, 3) := by decide +kernel
theorem dX3_init_46 : decode cX3_init 46 = .ok (.aload_n 0, 1) := by decide +kernel
theorem dX3_init_47 : decode cX3_init 47 = .ok (.iconst 4, 1) := by decide +kernel
theorem dX3_init_48 : decode cX3_init 48 = .ok (.newarray .int, 2) := by decide +kernel
theorem dX3_init_50 : decode cX3_init 50 = .ok (.putfield 37, 3) := by decide +kernel
theorem dX3_init_53 : decode cX3_init 53 = .ok (.aload_n 0, 1) := by decide +kernel
theorem dX3_init_54 : decode cX3_init 54 = .ok (.iconst 4, 1) := by decide +kernel
theorem dX3_init_55 : decode cX3_init 55 = .ok (.newarray .int, 2) := by decide +kernel
theorem dX3_init_57 : decode cX3_init 57 = .ok (.putfield 41, 3) := by decide +kernel
theorem dX3_init_60 : decode cX3_init 60 = .ok (.aload_n 0, 1) := by decide +kernel
theorem dX3_init_61 : decode cX3_init 61 = .ok (.iconst 0, 1) := by decide +kernel
theorem dX3_init_62 : decode cX3_init 62 = .ok (.putfield 44, 3) := by decide +kernel
theorem dX3_init_65 : decode cX3_init 65 = .ok (.aload_n 0, 1) := by decide +kernel
theorem dX3_init_66 : decode cX3_init 66 = .ok (.iconst 0, 1) := by decide +kernel
theorem dX3_init_67 : decode cX3_init 67 = .ok (.putfield 47, 3) := by decide +kernel
theorem dX3_init_70 : decode cX3_init 70 = .ok (.aload_n 0, 1) := by decide +kernel
theorem dX3_init_71 : decode cX3_init 71 = .ok (.iconst 1, 1) := by decide +kernel
theorem dX3_init_72 : decode cX3_init 72 = .ok (.putfield 50, 3) := by decide +kernel
theorem dX3_init_75 : decode cX3_init 75 = .ok (.aload_n 0, 1) := by decide +kernel
theorem dX3_init_76 : decode cX3_init 76 = .ok (.iconst 0, 1) := by decide +kernel
theorem dX3_init_77 : decode cX3_init 77 = .ok (.putfield 54, 3) := by decide +kernel
theorem dX3_init_80 : decode cX3_init 80 = .ok (.aload_n 0, 1) := by decide +kernel
theorem dX3_init_81 : decode cX3_init 81 = .ok (.iconst 0, 1) := by decide +kernel
theorem dX3_init_82 : decode cX3_init 82 = .ok (.putfield 57, 3) := by decide +kernel
theorem dX3_init_85 : decode cX3_init 85 = .ok (.aload_n 0, 1) := by decide +kernel
theorem dX3_init_86 : decode cX3_init 86 = .ok (.iconst 0, 1) := by decide +kernel
theorem dX3_init_87 : decode cX3_init 87 = .ok (.putfield 60, 3) := by decide +kernel
theorem dX3_init_90 : decode cX3_init 90 = .ok (.aload_n 0, 1) := by decide +kernel
theorem dX3_init_91 : decode cX3_init 91 = .ok (.lconst 0, 1) := by decide +kernel
theorem dX3_init_92 : decode cX3_init 92 = .ok (.putfield 63, 3) := by decide +kernel
theorem dX3_init_95 : decode cX3_init 95 = .ok (.iconst 0, 1) := by decide +kernel
theorem dX3_init_96 : decode cX3_init 96 = .ok (.istore_n 1, 1) := by decide +kernel
theorem dX3_init_97 : decode cX3_init 97 = .ok (.iload_n 1, 1) := by decide +kernel
theorem dX3_init_98 : decode cX3_init 98 = .ok (.bipush 8, 2) := by decide +kernel
theorem dX3_init_100 : decode cX3_init 100 = .ok (.if_icmp .ge 22, 3) := by decide +kernel
theorem dX3_init_103 : decode cX3_init 103 = .ok (.aload_n 0, 1) := by decide +kernel
theorem dX3_init_104 : decode cX3_init 104 = .ok (.getfield 11, 3) := by decide +kernel
theorem dX3_init_107 : decode cX3_init 107 = .ok (.iload_n 1, 1) := by decide +kernel
theorem dX3_init_108 : decode cX3_init 108 = .ok (.new 9, 3) := by decide +kernel
theorem dX3_init_111 : decode cX3_init 111 = .ok (.dup, 1) := by decide +kernel
theorem dX3_init_112 : decode cX3_init 112 = .ok (.invokespecial 67, 3) := by decide +kernel
theorem dX3_init_115 : decode cX3_init 115 = .ok (.aastore, 1) := by decide +kernel
theorem dX3_init_116 : decode cX3_init 116 = .ok (.iinc 1 1, 3) := by decide +kernel
theorem dX3_init_119 : decode cX3_init 119 = .ok (.goto (-22), 3) := by decide +kernel
theorem dX3_init_122 : decode cX3_init 122 = .ok (.iconst 0, 1) := by decide +kernel
theorem dX3_init_123 : decode cX3_init 123 = .ok (.istore_n 1, 1) := by decide +kernel
theorem dX3_init_124 : decode cX3_init 124 = .ok (.iload_n 1, 1) := by decide +kernel
theorem dX3_init_125 : decode cX3_init 125 = .ok (.bipush 12, 2) := by decide +kernel
theorem dX3_init_127 : decode cX3_init 127 = .ok (.if_icmp .ge 22, 3) := by decide +kernel
theorem dX3_init_130 : decode cX3_init 130 = .ok (.aload_n 0, 1) := by decide +kernel
theorem dX3_init_131 : decode cX3_init 131 = .ok (.getfield 17, 3) := by decide +kernel
theorem dX3_init_134 : decode cX3_init 134 = .ok (.iload_n 1, 1) := by decide +kernel
theorem dX3_init_135 : decode cX3_init 135 = .ok (.new 15, 3) := by decide +kernel
theorem dX3_init_138 : decode cX3_init 138 = .ok (.dup, 1) := by decide +kernel
theorem dX3_init_139 : decode cX3_init 139 = .ok (.invokespecial 68, 3) := by decide +kernel
theorem dX3_init_142 : decode cX3_init 142 = .ok (.aastore, 1) := by decide +kernel
theorem dX3_init_143 : decode cX3_init 143 = .ok (.iinc 1 1, 3) := by decide +kernel
theorem dX3_init_146 : decode cX3_init 146 = .ok (.goto (-22), 3) := by decide +kernel
theorem dX3_init_149 : decode cX3_init 149 = .ok (.iconst 0, 1) := by decide +kernel
theorem dX3_init_150 : decode cX3_init 150 = .ok (.istore_n 1, 1) := by decide +kernel
theorem dX3_init_151 : decode cX3_init 151 = .ok (.iload_n 1, 1) := by decide +kernel
theorem dX3_init_152 : decode cX3_init 152 = .ok (.bipush 6, 2) := by decide +kernel
theorem dX3_init_154 : decode cX3_init 154 = .ok (.if_icmp .ge 22, 3) := by decide +kernel
theorem dX3_init_157 : decode cX3_init 157 = .ok (.aload_n 0, 1) := by decide +kernel
theorem dX3_init_158 : decode cX3_init 158 = .ok (.getfield 23, 3) := by decide +kernel
theorem dX3_init_161 : decode cX3_init 161 = .ok (.iload_n 1, 1) := by decide +kernel
theorem dX3_init_162 : decode cX3_init 162 = .ok (.new 21, 3) := by decide +kernel
theorem dX3_init_165 : decode cX3_init 165 = .ok (.dup, 1) := by decide +kernel
theorem dX3_init_166 : decode cX3_init 166 = .ok (.invokespecial 69, 3) := by decide +kernel
theorem dX3_init_169 : decode cX3_init 169 = .ok (.aastore, 1) := by decide +kernel
theorem dX3_init_170 : decode cX3_init 170 = .ok (.iinc 1 1, 3) := by decide +kernel
theorem dX3_init_173 : decode cX3_init 173 = .ok (.goto (-22), 3) := by decide +kernel
theorem dX3_init_176 : decode cX3_init 176 = .ok (.return_, 1) := by decide +kernel
theorem dX3_person_0 : decode cX3_person 0 = .ok (.aload_n 0, 1) := by decide +kernel
theorem dX3_person_1 : decode cX3_person 1 = .ok (.getfield 27, 3) := by decide +kernel
theorem dX3_person_4 : decode cX3_person 4 = .ok (.bipush 8, 2) := by decide +kernel
theorem dX3_person_6 : decode cX3_person 6 = .ok (.if_icmp .lt 13, 3) := by decide +kernel
theorem dX3_person_9 : decode cX3_person 9 = .ok (.new 70, 3) := by decide +kernel
theorem dX3_person_12 : decode cX3_person 12 = .ok (.dup, 1) := by decide +kernel
theorem dX3_person_13 : decode cX3_person 13 = .ok (.ldc 72, 2) := by decide +kernel
theorem dX3_person_15 : decode cX3_person 15 = .ok (.invokespecial 74, 3) := by decide +kernel
theorem dX3_person_18 : decode cX3_person 18 = .ok (.athrow, 1) := by decide +kernel
theorem dX3_person_19 : decode cX3_person 19 = .ok (.aload_n 0, 1) := by decide +kernel
theorem dX3_person_20 : decode cX3_person 20 = .ok (.getfield 27, 3) := by decide +kernel
theorem dX3_person_23 : decode cX3_person 23 = .ok (.istore_n 3, 1) := by decide +kernel
theorem dX3_person_24 : decode cX3_person 24 = .ok (.aload_n 0, 1) := by decide +kernel
theorem dX3_person_25 : decode cX3_person 25 = .ok (.getfield 11, 3) := by decide +kernel
theorem dX3_person_28 : decode cX3_person 28 = .ok (.iload_n 3, 1) := by decide +kernel
theorem dX3_person_29 : decode cX3_person 29 = .ok (.aaload, 1) := by decide +kernel
theorem dX3_person_30 : decode cX3_person 30 = .ok (.iload_n 1, 1) := by decide +kernel
theorem dX3_person_31 : decode cX3_person 31 = .ok (.putfield 77, 3) := by decide +kernel
theorem dX3_person_34 : decode cX3_person 34 = .ok (.aload_n 0, 1) := by decide +kernel
theorem dX3_person_35 : decode cX3_person 35 = .ok (.getfield 11, 3) := by decide +kernel
theorem dX3_person_38 : decode cX3_person 38 = .ok (.iload_n 3, 1) := by decide +kernel
theorem dX3_person_39 : decode cX3_person 39 = .ok (.aaload, 1) := by decide +kernel
theorem dX3_person_40 : decode cX3_person 40 = .ok (.iload_n 2, 1) := by decide +kernel
theorem dX3_person_41 : decode cX3_person 41 = .ok (.putfield 80, 3) := by decide +kernel
theorem dX3_person_44 : decode cX3_person 44 = .ok (.aload_n 0, 1) := by decide +kernel
theorem dX3_person_45 : decode cX3_person 45 = .ok (.dup, 1) := by decide +kernel
theorem dX3_person_46 : decode cX3_person 46 = .ok (.getfield 27, 3) := by decide +kernel
theorem dX3_person_49 : decode cX3_person 49 = .ok (.iconst 1, 1) := by decide +kernel
theorem dX3_person_50 : decode cX3_person 50 = .ok (.iadd, 1) := by decide +kernel
theorem dX3_person_51 : decode cX3_person 51 = .ok (.putfield 27, 3) := by decide +kernel
theorem dX3_person_54 : decode cX3_person 54 = .ok (.aload_n 0, 1) := by decide +kernel
theorem dX3_person_55 : decode cX3_person 55 = .ok (.invokevirtual 83, 3) := by decide +kernel
theorem dX3_person_58 : decode cX3_person 58 = .ok (.iload_n 3, 1) := by decide +kernel
theorem dX3_person_59 : decode cX3_person 59 = .ok (.ireturn, 1) := by decide +kernel
theorem dX3_skill_0 : decode cX3_skill 0 = .ok (.aload_n 0, 1) := by decide +kernel
theorem dX3_skill_1 : decode cX3_skill 1 = .ok (.iload_n 1, 1) := by decide +kernel
theorem dX3_skill_2 : decode cX3_skill 2 = .ok (.invokevirtual 86, 3) := by decide +kernel
theorem dX3_skill_5 : decode cX3_skill 5 = .ok (.iload_n 2, 1) := by decide +kernel
theorem dX3_skill_6 : decode cX3_skill 6 = .ok (.invokestatic 90, 3) := by decide +kernel
theorem dX3_skill_9 : decode cX3_skill 9 = .ok (.iload_n 3, 1) := by decide +kernel
theorem dX3_skill_10 : decode cX3_skill 10 = .ok (.iconst 0, 1) := by decide +kernel
theorem dX3_skill_11 : decode cX3_skill 11 = .ok (.bipush 9, 2) := by decide +kernel
theorem dX3_skill_13 : decode cX3_skill 13 = .ok (.invokestatic 93, 3) := by decide +kernel
theorem dX3_skill_16 : decode cX3_skill 16 = .ok (.aload_n 0, 1) := by decide +kernel
theorem dX3_skill_17 : decode cX3_skill 17 = .ok (.getfield 11, 3) := by decide +kernel
theorem dX3_skill_20 : decode cX3_skill 20 = .ok (.iload_n 1, 1) := by decide +kernel
theorem dX3_skill_21 : decode cX3_skill 21 = .ok (.aaload, 1) := by decide +kernel
theorem dX3_skill_22 : decode cX3_skill 22 = .ok (.getfield 97, 3) := by decide +kernel
theorem dX3_skill_25 : decode cX3_skill 25 = .ok (.iload_n 2, 1) := by decide +kernel
theorem dX3_skill_26 : decode cX3_skill 26 = .ok (.iaload, 1) := by decide +kernel
theorem dX3_skill_27 : decode cX3_skill 27 = .ok (.istore 4, 2) := by decide +kernel
theorem dX3_skill_29 : decode cX3_skill 29 = .ok (.aload_n 0, 1) := by decide +kernel
theorem dX3_skill_30 : decode cX3_skill 30 = .ok (.getfield 11, 3) := by decide +kernel
theorem dX3_skill_33 : decode cX3_skill 33 = .ok (.iload_n 1, 1) := by decide +kernel
theorem dX3_skill_34 : decode cX3_skill 34 = .ok (.aaload, 1) := by decide +kernel
theorem dX3_skill_35 : decode cX3_skill 35 = .ok (.getfield 97, 3) := by decide +kernel
theorem dX3_skill_38 : decode cX3_skill 38 = .ok (.iload_n 2, 1) := by decide +kernel
theorem dX3_skill_39 : decode cX3_skill 39 = .ok (.iload_n 3, 1) := by decide +kernel
theorem dX3_skill_40 : decode cX3_skill 40 = .ok (.iastore, 1) := by decide +kernel
theorem dX3_skill_41 : decode cX3_skill 41 = .ok (.iload 4, 2) := by decide +kernel
theorem dX3_skill_43 : decode cX3_skill 43 = .ok (.ireturn, 1) := by decide +kernel
theorem dX3_walk_0 : decode cX3_walk 0 = .ok (.aload_n 0, 1) := by decide +kernel
theorem dX3_walk_1 : decode cX3_walk 1 = .ok (.iload_n 1, 1) := by decide +kernel
theorem dX3_walk_2 : decode cX3_walk 2 = .ok (.invokevirtual 86, 3) := by decide +kernel
theorem dX3_walk_5 : decode cX3_walk 5 = .ok (.iload_n 2, 1) := by decide +kernel
theorem dX3_walk_6 : decode cX3_walk 6 = .ok (.iconst 0, 1) := by decide +kernel
theorem dX3_walk_7 : decode cX3_walk 7 = .ok (.bipush 99, 2) := by decide +kernel
theorem dX3_walk_9 : decode cX3_walk 9 = .ok (.invokestatic 93, 3) := by decide +kernel
theorem dX3_walk_12 : decode cX3_walk 12 = .ok (.aload_n 0, 1) := by decide +kernel
theorem dX3_walk_13 : decode cX3_walk 13 = .ok (.invokevirtual 100, 3) := by decide +kernel
theorem dX3_walk_16 : decode cX3_walk 16 = .ok (.istore_n 3, 1) := by decide +kernel
theorem dX3_walk_17 : decode cX3_walk 17 = .ok (.aload_n 0, 1) := by decide +kernel
theorem dX3_walk_18 : decode cX3_walk 18 = .ok (.getfield 11, 3) := by decide +kernel
theorem dX3_walk_21 : decode cX3_walk 21 = .ok (.iload_n 1, 1) := by decide +kernel
theorem dX3_walk_22 : decode cX3_walk 22 = .ok (.aaload, 1) := by decide +kernel
theorem dX3_walk_23 : decode cX3_walk 23 = .ok (.iload_n 2, 1) := by decide +kernel
theorem dX3_walk_24 : decode cX3_walk 24 = .ok (.putfield 104, 3) := by decide +kernel
theorem dX3_walk_27 : decode cX3_walk 27 = .ok (.iconst 0, 1) := by decide +kernel
theorem dX3_walk_28 : decode cX3_walk 28 = .ok (.istore 4, 2) := by decide +kernel
theorem dX3_walk_30 : decode cX3_walk 30 = .ok (.iload 4, 2) := by decide +kernel
theorem dX3_walk_32 : decode cX3_walk 32 = .ok (.aload_n 0, 1) := by decide +kernel
theorem dX3_walk_33 : decode cX3_walk 33 = .ok (.getfield 34, 3) := by decide +kernel
theorem dX3_walk_36 : decode cX3_walk 36 = .ok (.if_icmp .ge 52, 3) := by decide +kernel
theorem dX3_walk_39 : decode cX3_walk 39 = .ok (.aload_n 0, 1) := by decide +kernel
theorem dX3_walk_40 : decode cX3_walk 40 = .ok (.getfield 23, 3) := by decide +kernel
theorem dX3_walk_43 : decode cX3_walk 43 = .ok (.iload 4, 2) := by decide +kernel
theorem dX3_walk_45 : decode cX3_walk 45 = .ok (.aaload, 1) := by decide +kernel
theorem dX3_walk_46 : decode cX3_walk 46 = .ok (.getfield 107, 3) := by decide +kernel
theorem dX3_walk_49 : decode cX3_walk 49 = .ok (.ifCond .eq 33, 3) := by decide +kernel
theorem dX3_walk_52 : decode cX3_walk 52 = .ok (.aload_n 0, 1) := by decide +kernel
theorem dX3_walk_53 : decode cX3_walk 53 = .ok (.iload_n 1, 1) := by decide +kernel
theorem dX3_walk_54 : decode cX3_walk 54 = .ok (.iload 4, 2) := by decide +kernel
theorem dX3_walk_56 : decode cX3_walk 56 = .ok (.invokevirtual 110, 3) := by decide +kernel
theorem dX3_walk_59 : decode cX3_walk 59 = .ok (.ifCond .eq 23, 3) := by decide +kernel
theorem dX3_walk_62 : decode cX3_walk 62 = .ok (.aload_n 0, 1) := by decide +kernel
theorem dX3_walk_63 : decode cX3_walk 63 = .ok (.iload 4, 2) := by decide +kernel
theorem dX3_walk_65 : decode cX3_walk 65 = .ok (.invokevirtual 114, 3) := by decide +kernel
theorem dX3_walk_68 : decode cX3_walk 68 = .ok (.aload_n 0, 1) := by decide +kernel
theorem dX3_walk_69 : decode cX3_walk 69 = .ok (.aload_n 0, 1) := by decide +kernel
theorem dX3_walk_70 : decode cX3_walk 70 = .ok (.getfield 23, 3) := by decide +kernel
theorem dX3_walk_73 : decode cX3_walk 73 = .ok (.iload 4, 2) := by decide +kernel
theorem dX3_walk_75 : decode cX3_walk 75 = .ok (.aaload, 1) := by decide +kernel
theorem dX3_walk_76 : decode cX3_walk 76 = .ok (.getfield 117, 3) := by decide +kernel
theorem dX3_walk_79 : decode cX3_walk 79 = .ok (.invokevirtual 120, 3) := by decide +kernel
theorem dX3_walk_82 : decode cX3_walk 82 = .ok (.iinc 4 1, 3) := by decide +kernel
theorem dX3_walk_85 : decode cX3_walk 85 = .ok (.goto (-55), 3) := by decide +kernel
theorem dX3_walk_88 : decode cX3_walk 88 = .ok (.iload_n 3, 1) := by decide +kernel
theorem dX3_walk_89 : decode cX3_walk 89 = .ok (.aload_n 0, 1) := by decide +kernel
theorem dX3_walk_90 : decode cX3_walk 90 = .ok (.invokevirtual 100, 3) := by decide +kernel
theorem dX3_walk_93 : decode cX3_walk 93 = .ok (.iconst (-1), 1) := by decide +kernel
theorem dX3_walk_94 : decode cX3_walk 94 = .ok (.ixor, 1) := by decide +kernel
theorem dX3_walk_95 : decode cX3_walk 95 = .ok (.iand, 1) := by decide +kernel
theorem dX3_walk_96 : decode cX3_walk 96 = .ok (.ireturn, 1) := by decide +kernel
theorem dX3_kit_0 : decode cX3_kit 0 = .ok (.iload_n 1, 1) := by decide +kernel
theorem dX3_kit_1 : decode cX3_kit 1 = .ok (.invokestatic 90, 3) := by decide +kernel
theorem dX3_kit_4 : decode cX3_kit 4 = .ok (.iload_n 2, 1) := by decide +kernel
theorem dX3_kit_5 : decode cX3_kit 5 = .ok (.iconst 1, 1) := by decide +kernel
theorem dX3_kit_6 : decode cX3_kit 6 = .ok (.bipush 90, 2) := by decide +kernel
theorem dX3_kit_8 : decode cX3_kit 8 = .ok (.invokestatic 93, 3) := by decide +kernel
theorem dX3_kit_11 : decode cX3_kit 11 = .ok (.iload_n 3, 1) := by decide +kernel
theorem dX3_kit_12 : decode cX3_kit 12 = .ok (.iconst 1, 1) := by decide +kernel
theorem dX3_kit_13 : decode cX3_kit 13 = .ok (.iconst 5, 1) := by decide +kernel
theorem dX3_kit_14 : decode cX3_kit 14 = .ok (.invokestatic 93, 3) := by decide +kernel
theorem dX3_kit_17 : decode cX3_kit 17 = .ok (.aload_n 0, 1) := by decide +kernel
theorem dX3_kit_18 : decode cX3_kit 18 = .ok (.getfield 31, 3) := by decide +kernel
theorem dX3_kit_21 : decode cX3_kit 21 = .ok (.bipush 12, 2) := by decide +kernel
theorem dX3_kit_23 : decode cX3_kit 23 = .ok (.if_icmp .lt 13, 3) := by decide +kernel
theorem dX3_kit_26 : decode cX3_kit 26 = .ok (.new 70, 3) := by decide +kernel
theorem dX3_kit_29 : decode cX3_kit 29 = .ok (.dup, 1) := by decide +kernel
theorem dX3_kit_30 : decode cX3_kit 30 = .ok (.ldc 123, 2) := by decide +kernel
theorem dX3_kit_32 : decode cX3_kit 32 = .ok (.invokespecial 74, 3) := by decide +kernel
theorem dX3_kit_35 : decode cX3_kit 35 = .ok (.athrow, 1) := by decide +kernel
theorem dX3_kit_36 : decode cX3_kit 36 = .ok (.aload_n 0, 1) := by decide +kernel
theorem dX3_kit_37 : decode cX3_kit 37 = .ok (.getfield 31, 3) := by decide +kernel
theorem dX3_kit_40 : decode cX3_kit 40 = .ok (.istore 4, 2) := by decide +kernel
theorem dX3_kit_42 : decode cX3_kit 42 = .ok (.aload_n 0, 1) := by decide +kernel
theorem dX3_kit_43 : decode cX3_kit 43 = .ok (.getfield 17, 3) := by decide +kernel
theorem dX3_kit_46 : decode cX3_kit 46 = .ok (.iload 4, 2) := by decide +kernel
theorem dX3_kit_48 : decode cX3_kit 48 = .ok (.aaload, 1) := by decide +kernel
theorem dX3_kit_49 : decode cX3_kit 49 = .ok (.iload_n 1, 1) := by decide +kernel
theorem dX3_kit_50 : decode cX3_kit 50 = .ok (.putfield 125, 3) := by decide +kernel
theorem dX3_kit_53 : decode cX3_kit 53 = .ok (.aload_n 0, 1) := by decide +kernel
theorem dX3_kit_54 : decode cX3_kit 54 = .ok (.getfield 17, 3) := by decide +kernel
theorem dX3_kit_57 : decode cX3_kit 57 = .ok (.iload 4, 2) := by decide +kernel
theorem dX3_kit_59 : decode cX3_kit 59 = .ok (.aaload, 1) := by decide +kernel
theorem dX3_kit_60 : decode cX3_kit 60 = .ok (.iload_n 2, 1) := by decide +kernel
theorem dX3_kit_61 : decode cX3_kit 61 = .ok (.putfield 126, 3) := by decide +kernel
theorem dX3_kit_64 : decode cX3_kit 64 = .ok (.aload_n 0, 1) := by decide +kernel
theorem dX3_kit_65 : decode cX3_kit 65 = .ok (.getfield 17, 3) := by decide +kernel
theorem dX3_kit_68 : decode cX3_kit 68 = .ok (.iload 4, 2) := by decide +kernel
theorem dX3_kit_70 : decode cX3_kit 70 = .ok (.aaload, 1) := by decide +kernel
theorem dX3_kit_71 : decode cX3_kit 71 = .ok (.iload_n 3, 1) := by decide +kernel
theorem dX3_kit_72 : decode cX3_kit 72 = .ok (.putfield 129, 3) := by decide +kernel
theorem dX3_kit_75 : decode cX3_kit 75 = .ok (.aload_n 0, 1) := by decide +kernel
theorem dX3_kit_76 : decode cX3_kit 76 = .ok (.dup, 1) := by decide +kernel
theorem dX3_kit_77 : decode cX3_kit 77 = .ok (.getfield 31, 3) := by decide +kernel
theorem dX3_kit_80 : decode cX3_kit 80 = .ok (.iconst 1, 1) := by decide +kernel
theorem dX3_kit_81 : decode cX3_kit 81 = .ok (.iadd, 1) := by decide +kernel
theorem dX3_kit_82 : decode cX3_kit 82 = .ok (.putfield 31, 3) := by decide +kernel
theorem dX3_kit_85 : decode cX3_kit 85 = .ok (.iload 4, 2) := by decide +kernel
theorem dX3_kit_87 : decode cX3_kit 87 = .ok (.ireturn, 1) := by decide +kernel
theorem dX3_inspect_0 : decode cX3_inspect 0 = .ok (.aload_n 0, 1) := by decide +kernel
theorem dX3_inspect_1 : decode cX3_inspect 1 = .ok (.iload_n 1, 1) := by decide +kernel
theorem dX3_inspect_2 : decode cX3_inspect 2 = .ok (.invokevirtual 132, 3) := by decide +kernel
theorem dX3_inspect_5 : decode cX3_inspect 5 = .ok (.aload_n 0, 1) := by decide +kernel
theorem dX3_inspect_6 : decode cX3_inspect 6 = .ok (.getfield 17, 3) := by decide +kernel
theorem dX3_inspect_9 : decode cX3_inspect 9 = .ok (.iload_n 1, 1) := by decide +kernel
theorem dX3_inspect_10 : decode cX3_inspect 10 = .ok (.aaload, 1) := by decide +kernel
theorem dX3_inspect_11 : decode cX3_inspect 11 = .ok (.getfield 135, 3) := by decide +kernel
theorem dX3_inspect_14 : decode cX3_inspect 14 = .ok (.istore_n 2, 1) := by decide +kernel
theorem dX3_inspect_15 : decode cX3_inspect 15 = .ok (.aload_n 0, 1) := by decide +kernel
theorem dX3_inspect_16 : decode cX3_inspect 16 = .ok (.getfield 17, 3) := by decide +kernel
theorem dX3_inspect_19 : decode cX3_inspect 19 = .ok (.iload_n 1, 1) := by decide +kernel
theorem dX3_inspect_20 : decode cX3_inspect 20 = .ok (.aaload, 1) := by decide +kernel
theorem dX3_inspect_21 : decode cX3_inspect 21 = .ok (.aload_n 0, 1) := by decide +kernel
theorem dX3_inspect_22 : decode cX3_inspect 22 = .ok (.getfield 44, 3) := by decide +kernel
theorem dX3_inspect_25 : decode cX3_inspect 25 = .ok (.putfield 135, 3) := by decide +kernel
theorem dX3_inspect_28 : decode cX3_inspect 28 = .ok (.iload_n 2, 1) := by decide +kernel
theorem dX3_inspect_29 : decode cX3_inspect 29 = .ok (.ireturn, 1) := by decide +kernel
theorem dX3_put_0 : decode cX3_put 0 = .ok (.aload_n 0, 1) := by decide +kernel
theorem dX3_put_1 : decode cX3_put 1 = .ok (.iload_n 1, 1) := by decide +kernel
theorem dX3_put_2 : decode cX3_put 2 = .ok (.invokevirtual 132, 3) := by decide +kernel
theorem dX3_put_5 : decode cX3_put 5 = .ok (.iload_n 2, 1) := by decide +kernel
theorem dX3_put_6 : decode cX3_put 6 = .ok (.iconst (-1), 1) := by decide +kernel
theorem dX3_put_7 : decode cX3_put 7 = .ok (.if_icmp .eq 8, 3) := by decide +kernel
theorem dX3_put_10 : decode cX3_put 10 = .ok (.aload_n 0, 1) := by decide +kernel
theorem dX3_put_11 : decode cX3_put 11 = .ok (.iload_n 2, 1) := by decide +kernel
theorem dX3_put_12 : decode cX3_put 12 = .ok (.invokevirtual 138, 3) := by decide +kernel
theorem dX3_put_15 : decode cX3_put 15 = .ok (.aload_n 0, 1) := by decide +kernel
theorem dX3_put_16 : decode cX3_put 16 = .ok (.getfield 17, 3) := by decide +kernel
theorem dX3_put_19 : decode cX3_put 19 = .ok (.iload_n 1, 1) := by decide +kernel
theorem dX3_put_20 : decode cX3_put 20 = .ok (.aaload, 1) := by decide +kernel
theorem dX3_put_21 : decode cX3_put 21 = .ok (.getfield 141, 3) := by decide +kernel
theorem dX3_put_24 : decode cX3_put 24 = .ok (.istore_n 3, 1) := by decide +kernel
theorem dX3_put_25 : decode cX3_put 25 = .ok (.iload_n 3, 1) := by decide +kernel
theorem dX3_put_26 : decode cX3_put 26 = .ok (.iload_n 2, 1) := by decide +kernel
theorem dX3_put_27 : decode cX3_put 27 = .ok (.if_icmp .ne 13, 3) := by decide +kernel
theorem dX3_put_30 : decode cX3_put 30 = .ok (.new 70, 3) := by decide +kernel
theorem dX3_put_33 : decode cX3_put 33 = .ok (.dup, 1) := by decide +kernel
theorem dX3_put_34 : decode cX3_put 34 = .ok (.ldc 144, 2) := by decide +kernel
theorem dX3_put_36 : decode cX3_put 36 = .ok (.invokespecial 74, 3) := by decide +kernel
theorem dX3_put_39 : decode cX3_put 39 = .ok (.athrow, 1) := by decide +kernel
theorem dX3_put_40 : decode cX3_put 40 = .ok (.aload_n 0, 1) := by decide +kernel
theorem dX3_put_41 : decode cX3_put 41 = .ok (.getfield 17, 3) := by decide +kernel
theorem dX3_put_44 : decode cX3_put 44 = .ok (.iload_n 1, 1) := by decide +kernel
theorem dX3_put_45 : decode cX3_put 45 = .ok (.aaload, 1) := by decide +kernel
theorem dX3_put_46 : decode cX3_put 46 = .ok (.iload_n 2, 1) := by decide +kernel
theorem dX3_put_47 : decode cX3_put 47 = .ok (.putfield 141, 3) := by decide +kernel
theorem dX3_put_50 : decode cX3_put 50 = .ok (.iload_n 3, 1) := by decide +kernel
theorem dX3_put_51 : decode cX3_put 51 = .ok (.iconst (-1), 1) := by decide +kernel
theorem dX3_put_52 : decode cX3_put 52 = .ok (.if_icmp .eq 8, 3) := by decide +kernel
theorem dX3_put_55 : decode cX3_put 55 = .ok (.aload_n 0, 1) := by decide +kernel
theorem dX3_put_56 : decode cX3_put 56 = .ok (.iload_n 3, 1) := by decide +kernel
theorem dX3_put_57 : decode cX3_put 57 = .ok (.invokevirtual 146, 3) := by decide +kernel
theorem dX3_put_60 : decode cX3_put 60 = .ok (.iload_n 2, 1) := by decide +kernel
theorem dX3_put_61 : decode cX3_put 61 = .ok (.iconst (-1), 1) := by decide +kernel
theorem dX3_put_62 : decode cX3_put 62 = .ok (.if_icmp .eq 8, 3) := by decide +kernel
theorem dX3_put_65 : decode cX3_put 65 = .ok (.aload_n 0, 1) := by decide +kernel
theorem dX3_put_66 : decode cX3_put 66 = .ok (.iload_n 2, 1) := by decide +kernel
theorem dX3_put_67 : decode cX3_put 67 = .ok (.invokevirtual 146, 3) := by decide +kernel
theorem dX3_put_70 : decode cX3_put 70 = .ok (.iload_n 3, 1) := by decide +kernel
theorem dX3_put_71 : decode cX3_put 71 = .ok (.ireturn, 1) := by decide +kernel
theorem dX3_gag_0 : decode cX3_gag 0 = .ok (.iload_n 1, 1) := by decide +kernel
theorem dX3_gag_1 : decode cX3_gag 1 = .ok (.invokestatic 90, 3) := by decide +kernel
theorem dX3_gag_4 : decode cX3_gag 4 = .ok (.aload_n 0, 1) := by decide +kernel
theorem dX3_gag_5 : decode cX3_gag 5 = .ok (.iload_n 2, 1) := by decide +kernel
theorem dX3_gag_6 : decode cX3_gag 6 = .ok (.invokevirtual 86, 3) := by decide +kernel
theorem dX3_gag_9 : decode cX3_gag 9 = .ok (.iload_n 3, 1) := by decide +kernel
theorem dX3_gag_10 : decode cX3_gag 10 = .ok (.iconst 0, 1) := by decide +kernel
theorem dX3_gag_11 : decode cX3_gag 11 = .ok (.bipush 99, 2) := by decide +kernel
theorem dX3_gag_13 : decode cX3_gag 13 = .ok (.invokestatic 93, 3) := by decide +kernel
theorem dX3_gag_16 : decode cX3_gag 16 = .ok (.iload 4, 2) := by decide +kernel
theorem dX3_gag_18 : decode cX3_gag 18 = .ok (.iconst 1, 1) := by decide +kernel
theorem dX3_gag_19 : decode cX3_gag 19 = .ok (.bipush 30, 2) := by decide +kernel
theorem dX3_gag_21 : decode cX3_gag 21 = .ok (.invokestatic 93, 3) := by decide +kernel
theorem dX3_gag_24 : decode cX3_gag 24 = .ok (.aload_n 0, 1) := by decide +kernel
theorem dX3_gag_25 : decode cX3_gag 25 = .ok (.getfield 34, 3) := by decide +kernel
theorem dX3_gag_28 : decode cX3_gag 28 = .ok (.bipush 6, 2) := by decide +kernel
theorem dX3_gag_30 : decode cX3_gag 30 = .ok (.if_icmp .lt 13, 3) := by decide +kernel
theorem dX3_gag_33 : decode cX3_gag 33 = .ok (.new 70, 3) := by decide +kernel
theorem dX3_gag_36 : decode cX3_gag 36 = .ok (.dup, 1) := by decide +kernel
theorem dX3_gag_37 : decode cX3_gag 37 = .ok (.ldc 149, 2) := by decide +kernel
theorem dX3_gag_39 : decode cX3_gag 39 = .ok (.invokespecial 74, 3) := by decide +kernel
theorem dX3_gag_42 : decode cX3_gag 42 = .ok (.athrow, 1) := by decide +kernel
theorem dX3_gag_43 : decode cX3_gag 43 = .ok (.aload_n 0, 1) := by decide +kernel
theorem dX3_gag_44 : decode cX3_gag 44 = .ok (.getfield 34, 3) := by decide +kernel
theorem dX3_gag_47 : decode cX3_gag 47 = .ok (.istore 5, 2) := by decide +kernel
theorem dX3_gag_49 : decode cX3_gag 49 = .ok (.aload_n 0, 1) := by decide +kernel
theorem dX3_gag_50 : decode cX3_gag 50 = .ok (.getfield 23, 3) := by decide +kernel
theorem dX3_gag_53 : decode cX3_gag 53 = .ok (.iload 5, 2) := by decide +kernel
theorem dX3_gag_55 : decode cX3_gag 55 = .ok (.aaload, 1) := by decide +kernel
theorem dX3_gag_56 : decode cX3_gag 56 = .ok (.iload_n 1, 1) := by decide +kernel
theorem dX3_gag_57 : decode cX3_gag 57 = .ok (.putfield 117, 3) := by decide +kernel
theorem dX3_gag_60 : decode cX3_gag 60 = .ok (.aload_n 0, 1) := by decide +kernel
theorem dX3_gag_61 : decode cX3_gag 61 = .ok (.getfield 23, 3) := by decide +kernel
theorem dX3_gag_64 : decode cX3_gag 64 = .ok (.iload 5, 2) := by decide +kernel
theorem dX3_gag_66 : decode cX3_gag 66 = .ok (.aaload, 1) := by decide +kernel
theorem dX3_gag_67 : decode cX3_gag 67 = .ok (.iload_n 2, 1) := by decide +kernel
theorem dX3_gag_68 : decode cX3_gag 68 = .ok (.putfield 151, 3) := by decide +kernel
theorem dX3_gag_71 : decode cX3_gag 71 = .ok (.aload_n 0, 1) := by decide +kernel
theorem dX3_gag_72 : decode cX3_gag 72 = .ok (.getfield 23, 3) := by decide +kernel
theorem dX3_gag_75 : decode cX3_gag 75 = .ok (.iload 5, 2) := by decide +kernel
theorem dX3_gag_77 : decode cX3_gag 77 = .ok (.aaload, 1) := by decide +kernel
theorem dX3_gag_78 : decode cX3_gag 78 = .ok (.iload_n 3, 1) := by decide +kernel
theorem dX3_gag_79 : decode cX3_gag 79 = .ok (.putfield 154, 3) := by decide +kernel
theorem dX3_gag_82 : decode cX3_gag 82 = .ok (.aload_n 0, 1) := by decide +kernel
theorem dX3_gag_83 : decode cX3_gag 83 = .ok (.getfield 23, 3) := by decide +kernel
theorem dX3_gag_86 : decode cX3_gag 86 = .ok (.iload 5, 2) := by decide +kernel
theorem dX3_gag_88 : decode cX3_gag 88 = .ok (.aaload, 1) := by decide +kernel
theorem dX3_gag_89 : decode cX3_gag 89 = .ok (.iload 4, 2) := by decide +kernel
theorem dX3_gag_91 : decode cX3_gag 91 = .ok (.putfield 155, 3) := by decide +kernel
theorem dX3_gag_94 : decode cX3_gag 94 = .ok (.aload_n 0, 1) := by decide +kernel
theorem dX3_gag_95 : decode cX3_gag 95 = .ok (.dup, 1) := by decide +kernel
theorem dX3_gag_96 : decode cX3_gag 96 = .ok (.getfield 34, 3) := by decide +kernel
theorem dX3_gag_99 : decode cX3_gag 99 = .ok (.iconst 1, 1) := by decide +kernel
theorem dX3_gag_100 : decode cX3_gag 100 = .ok (.iadd, 1) := by decide +kernel
theorem dX3_gag_101 : decode cX3_gag 101 = .ok (.putfield 34, 3) := by decide +kernel
theorem dX3_gag_104 : decode cX3_gag 104 = .ok (.iload 5, 2) := by decide +kernel
theorem dX3_gag_106 : decode cX3_gag 106 = .ok (.ireturn, 1) := by decide +kernel
theorem dX3_change_0 : decode cX3_change 0 = .ok (.aload_n 0, 1) := by decide +kernel
theorem dX3_change_1 : decode cX3_change 1 = .ok (.iload_n 1, 1) := by decide +kernel
theorem dX3_change_2 : decode cX3_change 2 = .ok (.invokevirtual 138, 3) := by decide +kernel
theorem dX3_change_5 : decode cX3_change 5 = .ok (.aload_n 0, 1) := by decide +kernel
theorem dX3_change_6 : decode cX3_change 6 = .ok (.iload_n 2, 1) := by decide +kernel
theorem dX3_change_7 : decode cX3_change 7 = .ok (.invokevirtual 86, 3) := by decide +kernel
theorem dX3_change_10 : decode cX3_change 10 = .ok (.iload_n 3, 1) := by decide +kernel
theorem dX3_change_11 : decode cX3_change 11 = .ok (.iconst 0, 1) := by decide +kernel
theorem dX3_change_12 : decode cX3_change 12 = .ok (.bipush 99, 2) := by decide +kernel
theorem dX3_change_14 : decode cX3_change 14 = .ok (.invokestatic 93, 3) := by decide +kernel
theorem dX3_change_17 : decode cX3_change 17 = .ok (.iload 4, 2) := by decide +kernel
theorem dX3_change_19 : decode cX3_change 19 = .ok (.iconst 1, 1) := by decide +kernel
theorem dX3_change_20 : decode cX3_change 20 = .ok (.bipush 30, 2) := by decide +kernel
theorem dX3_change_22 : decode cX3_change 22 = .ok (.invokestatic 93, 3) := by decide +kernel
theorem dX3_change_25 : decode cX3_change 25 = .ok (.aload_n 0, 1) := by decide +kernel
theorem dX3_change_26 : decode cX3_change 26 = .ok (.getfield 23, 3) := by decide +kernel
theorem dX3_change_29 : decode cX3_change 29 = .ok (.iload_n 1, 1) := by decide +kernel
theorem dX3_change_30 : decode cX3_change 30 = .ok (.aaload, 1) := by decide +kernel
theorem dX3_change_31 : decode cX3_change 31 = .ok (.getfield 158, 3) := by decide +kernel
theorem dX3_change_34 : decode cX3_change 34 = .ok (.invokestatic 161, 3) := by decide +kernel
theorem dX3_change_37 : decode cX3_change 37 = .ok (.istore 5, 2) := by decide +kernel
theorem dX3_change_39 : decode cX3_change 39 = .ok (.aload_n 0, 1) := by decide +kernel
theorem dX3_change_40 : decode cX3_change 40 = .ok (.getfield 23, 3) := by decide +kernel
theorem dX3_change_43 : decode cX3_change 43 = .ok (.iload_n 1, 1) := by decide +kernel
theorem dX3_change_44 : decode cX3_change 44 = .ok (.aaload, 1) := by decide +kernel
theorem dX3_change_45 : decode cX3_change 45 = .ok (.iload_n 2, 1) := by decide +kernel
theorem dX3_change_46 : decode cX3_change 46 = .ok (.putfield 151, 3) := by decide +kernel
theorem dX3_change_49 : decode cX3_change 49 = .ok (.aload_n 0, 1) := by decide +kernel
theorem dX3_change_50 : decode cX3_change 50 = .ok (.getfield 23, 3) := by decide +kernel
theorem dX3_change_53 : decode cX3_change 53 = .ok (.iload_n 1, 1) := by decide +kernel
theorem dX3_change_54 : decode cX3_change 54 = .ok (.aaload, 1) := by decide +kernel
theorem dX3_change_55 : decode cX3_change 55 = .ok (.iload_n 3, 1) := by decide +kernel
theorem dX3_change_56 : decode cX3_change 56 = .ok (.putfield 154, 3) := by decide +kernel
theorem dX3_change_59 : decode cX3_change 59 = .ok (.aload_n 0, 1) := by decide +kernel
theorem dX3_change_60 : decode cX3_change 60 = .ok (.getfield 23, 3) := by decide +kernel
theorem dX3_change_63 : decode cX3_change 63 = .ok (.iload_n 1, 1) := by decide +kernel
theorem dX3_change_64 : decode cX3_change 64 = .ok (.aaload, 1) := by decide +kernel
theorem dX3_change_65 : decode cX3_change 65 = .ok (.iload 4, 2) := by decide +kernel
theorem dX3_change_67 : decode cX3_change 67 = .ok (.putfield 155, 3) := by decide +kernel
theorem dX3_change_70 : decode cX3_change 70 = .ok (.aload_n 0, 1) := by decide +kernel
theorem dX3_change_71 : decode cX3_change 71 = .ok (.iload_n 1, 1) := by decide +kernel
theorem dX3_change_72 : decode cX3_change 72 = .ok (.invokevirtual 146, 3) := by decide +kernel
theorem dX3_change_75 : decode cX3_change 75 = .ok (.iload 5, 2) := by decide +kernel
theorem dX3_change_77 : decode cX3_change 77 = .ok (.ireturn, 1) := by decide +kernel
theorem dX3_rehearse_0 : decode cX3_rehearse 0 = .ok (.aload_n 0, 1) := by decide +kernel
theorem dX3_rehearse_1 : decode cX3_rehearse 1 = .ok (.iload_n 1, 1) := by decide +kernel
theorem dX3_rehearse_2 : decode cX3_rehearse 2 = .ok (.invokevirtual 138, 3) := by decide +kernel
theorem dX3_rehearse_5 : decode cX3_rehearse 5 = .ok (.aload_n 0, 1) := by decide +kernel
theorem dX3_rehearse_6 : decode cX3_rehearse 6 = .ok (.getfield 23, 3) := by decide +kernel
theorem dX3_rehearse_9 : decode cX3_rehearse 9 = .ok (.iload_n 1, 1) := by decide +kernel
theorem dX3_rehearse_10 : decode cX3_rehearse 10 = .ok (.aaload, 1) := by decide +kernel
theorem dX3_rehearse_11 : decode cX3_rehearse 11 = .ok (.astore_n 2, 1) := by decide +kernel
theorem dX3_rehearse_12 : decode cX3_rehearse 12 = .ok (.aload_n 0, 1) := by decide +kernel
theorem dX3_rehearse_13 : decode cX3_rehearse 13 = .ok (.getfield 11, 3) := by decide +kernel
theorem dX3_rehearse_16 : decode cX3_rehearse 16 = .ok (.aload_n 2, 1) := by decide +kernel
theorem dX3_rehearse_17 : decode cX3_rehearse 17 = .ok (.getfield 151, 3) := by decide +kernel
theorem dX3_rehearse_20 : decode cX3_rehearse 20 = .ok (.aaload, 1) := by decide +kernel
theorem dX3_rehearse_21 : decode cX3_rehearse 21 = .ok (.astore_n 3, 1) := by decide +kernel
theorem dX3_rehearse_22 : decode cX3_rehearse 22 = .ok (.aload_n 2, 1) := by decide +kernel
theorem dX3_rehearse_23 : decode cX3_rehearse 23 = .ok (.getfield 107, 3) := by decide +kernel
theorem dX3_rehearse_26 : decode cX3_rehearse 26 = .ok (.ifCond .ne 10, 3) := by decide +kernel
theorem dX3_rehearse_29 : decode cX3_rehearse 29 = .ok (.aload_n 3, 1) := by decide +kernel
theorem dX3_rehearse_30 : decode cX3_rehearse 30 = .ok (.getfield 167, 3) := by decide +kernel
theorem dX3_rehearse_33 : decode cX3_rehearse 33 = .ok (.ifCond .eq 13, 3) := by decide +kernel
theorem dX3_rehearse_36 : decode cX3_rehearse 36 = .ok (.new 70, 3) := by decide +kernel
theorem dX3_rehearse_39 : decode cX3_rehearse 39 = .ok (.dup, 1) := by decide +kernel
theorem dX3_rehearse_40 : decode cX3_rehearse 40 = .ok (.ldc 170, 2) := by decide +kernel
theorem dX3_rehearse_42 : decode cX3_rehearse 42 = .ok (.invokespecial 74, 3) := by decide +kernel
theorem dX3_rehearse_45 : decode cX3_rehearse 45 = .ok (.athrow, 1) := by decide +kernel
theorem dX3_rehearse_46 : decode cX3_rehearse 46 = .ok (.iconst 4, 1) := by decide +kernel
theorem dX3_rehearse_47 : decode cX3_rehearse 47 = .ok (.aload_n 2, 1) := by decide +kernel
theorem dX3_rehearse_48 : decode cX3_rehearse 48 = .ok (.getfield 172, 3) := by decide +kernel
theorem dX3_rehearse_51 : decode cX3_rehearse 51 = .ok (.iconst 1, 1) := by decide +kernel
theorem dX3_rehearse_52 : decode cX3_rehearse 52 = .ok (.iadd, 1) := by decide +kernel
theorem dX3_rehearse_53 : decode cX3_rehearse 53 = .ok (.invokestatic 175, 3) := by decide +kernel
theorem dX3_rehearse_56 : decode cX3_rehearse 56 = .ok (.istore 4, 2) := by decide +kernel
theorem dX3_rehearse_58 : decode cX3_rehearse 58 = .ok (.iload 4, 2) := by decide +kernel
theorem dX3_rehearse_60 : decode cX3_rehearse 60 = .ok (.aload_n 0, 1) := by decide +kernel
theorem dX3_rehearse_61 : decode cX3_rehearse 61 = .ok (.iload_n 1, 1) := by decide +kernel
theorem dX3_rehearse_62 : decode cX3_rehearse 62 = .ok (.invokevirtual 181, 3) := by decide +kernel
theorem dX3_rehearse_65 : decode cX3_rehearse 65 = .ok (.imul, 1) := by decide +kernel
theorem dX3_rehearse_66 : decode cX3_rehearse 66 = .ok (.iconst 4, 1) := by decide +kernel
theorem dX3_rehearse_67 : decode cX3_rehearse 67 = .ok (.idiv, 1) := by decide +kernel
theorem dX3_rehearse_68 : decode cX3_rehearse 68 = .ok (.istore 5, 2) := by decide +kernel
theorem dX3_rehearse_70 : decode cX3_rehearse 70 = .ok (.aload_n 0, 1) := by decide +kernel
theorem dX3_rehearse_71 : decode cX3_rehearse 71 = .ok (.iload_n 1, 1) := by decide +kernel
theorem dX3_rehearse_72 : decode cX3_rehearse 72 = .ok (.invokevirtual 184, 3) := by decide +kernel
theorem dX3_rehearse_75 : decode cX3_rehearse 75 = .ok (.iload 5, 2) := by decide +kernel
theorem dX3_rehearse_77 : decode cX3_rehearse 77 = .ok (.if_icmp .lt 12, 3) := by decide +kernel
theorem dX3_rehearse_80 : decode cX3_rehearse 80 = .ok (.aload_n 2, 1) := by decide +kernel
theorem dX3_rehearse_81 : decode cX3_rehearse 81 = .ok (.iload 4, 2) := by decide +kernel
theorem dX3_rehearse_83 : decode cX3_rehearse 83 = .ok (.putfield 172, 3) := by decide +kernel
theorem dX3_rehearse_86 : decode cX3_rehearse 86 = .ok (.goto 21, 3) := by decide +kernel
theorem dX3_rehearse_89 : decode cX3_rehearse 89 = .ok (.aload_n 2, 1) := by decide +kernel
theorem dX3_rehearse_90 : decode cX3_rehearse 90 = .ok (.iconst 0, 1) := by decide +kernel
theorem dX3_rehearse_91 : decode cX3_rehearse 91 = .ok (.putfield 172, 3) := by decide +kernel
theorem dX3_rehearse_94 : decode cX3_rehearse 94 = .ok (.aload_n 0, 1) := by decide +kernel
theorem dX3_rehearse_95 : decode cX3_rehearse 95 = .ok (.iload_n 1, 1) := by decide +kernel
theorem dX3_rehearse_96 : decode cX3_rehearse 96 = .ok (.invokevirtual 187, 3) := by decide +kernel
theorem dX3_rehearse_99 : decode cX3_rehearse 99 = .ok (.aload_n 0, 1) := by decide +kernel
theorem dX3_rehearse_100 : decode cX3_rehearse 100 = .ok (.aload_n 2, 1) := by decide +kernel
theorem dX3_rehearse_101 : decode cX3_rehearse 101 = .ok (.getfield 117, 3) := by decide +kernel
theorem dX3_rehearse_104 : decode cX3_rehearse 104 = .ok (.invokevirtual 120, 3) := by decide +kernel
theorem dX3_rehearse_107 : decode cX3_rehearse 107 = .ok (.aload_n 3, 1) := by decide +kernel
theorem dX3_rehearse_108 : decode cX3_rehearse 108 = .ok (.iconst 3, 1) := by decide +kernel
theorem dX3_rehearse_109 : decode cX3_rehearse 109 = .ok (.invokestatic 190, 3) := by decide +kernel
theorem dX3_rehearse_112 : decode cX3_rehearse 112 = .ok (.aload_n 2, 1) := by decide +kernel
theorem dX3_rehearse_113 : decode cX3_rehearse 113 = .ok (.getfield 172, 3) := by decide +kernel
theorem dX3_rehearse_116 : decode cX3_rehearse 116 = .ok (.ireturn, 1) := by decide +kernel
theorem dX3_sign_0 : decode cX3_sign 0 = .ok (.aload_n 0, 1) := by decide +kernel
theorem dX3_sign_1 : decode cX3_sign 1 = .ok (.iload_n 1, 1) := by decide +kernel
theorem dX3_sign_2 : decode cX3_sign 2 = .ok (.invokevirtual 138, 3) := by decide +kernel
theorem dX3_sign_5 : decode cX3_sign 5 = .ok (.iload_n 2, 1) := by decide +kernel
theorem dX3_sign_6 : decode cX3_sign 6 = .ok (.ifCond .lt 8, 3) := by decide +kernel
theorem dX3_sign_9 : decode cX3_sign 9 = .ok (.iload_n 2, 1) := by decide +kernel
theorem dX3_sign_10 : decode cX3_sign 10 = .ok (.iconst 3, 1) := by decide +kernel
theorem dX3_sign_11 : decode cX3_sign 11 = .ok (.if_icmp .lt 13, 3) := by decide +kernel
theorem dX3_sign_14 : decode cX3_sign 14 = .ok (.new 194, 3) := by decide +kernel
theorem dX3_sign_17 : decode cX3_sign 17 = .ok (.dup, 1) := by decide +kernel
theorem dX3_sign_18 : decode cX3_sign 18 = .ok (.ldc 196, 2) := by decide +kernel
theorem dX3_sign_20 : decode cX3_sign 20 = .ok (.invokespecial 198, 3) := by decide +kernel
theorem dX3_sign_23 : decode cX3_sign 23 = .ok (.athrow, 1) := by decide +kernel
theorem dX3_sign_24 : decode cX3_sign 24 = .ok (.aload_n 0, 1) := by decide +kernel
theorem dX3_sign_25 : decode cX3_sign 25 = .ok (.getfield 23, 3) := by decide +kernel
theorem dX3_sign_28 : decode cX3_sign 28 = .ok (.iload_n 1, 1) := by decide +kernel
theorem dX3_sign_29 : decode cX3_sign 29 = .ok (.aaload, 1) := by decide +kernel
theorem dX3_sign_30 : decode cX3_sign 30 = .ok (.astore_n 3, 1) := by decide +kernel
theorem dX3_sign_31 : decode cX3_sign 31 = .ok (.aload_n 3, 1) := by decide +kernel
theorem dX3_sign_32 : decode cX3_sign 32 = .ok (.getfield 172, 3) := by decide +kernel
theorem dX3_sign_35 : decode cX3_sign 35 = .ok (.iconst 4, 1) := by decide +kernel
theorem dX3_sign_36 : decode cX3_sign 36 = .ok (.if_icmp .lt 14, 3) := by decide +kernel
theorem dX3_sign_39 : decode cX3_sign 39 = .ok (.aload_n 3, 1) := by decide +kernel
theorem dX3_sign_40 : decode cX3_sign 40 = .ok (.getfield 158, 3) := by decide +kernel
theorem dX3_sign_43 : decode cX3_sign 43 = .ok (.iload_n 2, 1) := by decide +kernel
theorem dX3_sign_44 : decode cX3_sign 44 = .ok (.invokestatic 199, 3) := by decide +kernel
theorem dX3_sign_47 : decode cX3_sign 47 = .ok (.ifCond .eq 13, 3) := by decide +kernel
theorem dX3_sign_50 : decode cX3_sign 50 = .ok (.new 70, 3) := by decide +kernel
theorem dX3_sign_53 : decode cX3_sign 53 = .ok (.dup, 1) := by decide +kernel
theorem dX3_sign_54 : decode cX3_sign 54 = .ok (.ldc 202, 2) := by decide +kernel
theorem dX3_sign_56 : decode cX3_sign 56 = .ok (.invokespecial 74, 3) := by decide +kernel
theorem dX3_sign_59 : decode cX3_sign 59 = .ok (.athrow, 1) := by decide +kernel
theorem dX3_sign_60 : decode cX3_sign 60 = .ok (.aload_n 3, 1) := by decide +kernel
theorem dX3_sign_61 : decode cX3_sign 61 = .ok (.dup, 1) := by decide +kernel
theorem dX3_sign_62 : decode cX3_sign 62 = .ok (.getfield 158, 3) := by decide +kernel
theorem dX3_sign_65 : decode cX3_sign 65 = .ok (.iconst 1, 1) := by decide +kernel
theorem dX3_sign_66 : decode cX3_sign 66 = .ok (.iload_n 2, 1) := by decide +kernel
theorem dX3_sign_67 : decode cX3_sign 67 = .ok (.ishl, 1) := by decide +kernel
theorem dX3_sign_68 : decode cX3_sign 68 = .ok (.ior, 1) := by decide +kernel
theorem dX3_sign_69 : decode cX3_sign 69 = .ok (.putfield 158, 3) := by decide +kernel
theorem dX3_sign_72 : decode cX3_sign 72 = .ok (.aload_n 3, 1) := by decide +kernel
theorem dX3_sign_73 : decode cX3_sign 73 = .ok (.getfield 158, 3) := by decide +kernel
theorem dX3_sign_76 : decode cX3_sign 76 = .ok (.invokestatic 161, 3) := by decide +kernel
theorem dX3_sign_79 : decode cX3_sign 79 = .ok (.ireturn, 1) := by decide +kernel
theorem dX3_no_0 : decode cX3_no 0 = .ok (.aload_n 0, 1) := by decide +kernel
theorem dX3_no_1 : decode cX3_no 1 = .ok (.iload_n 1, 1) := by decide +kernel
theorem dX3_no_2 : decode cX3_no 2 = .ok (.invokevirtual 86, 3) := by decide +kernel
theorem dX3_no_5 : decode cX3_no 5 = .ok (.aload_n 0, 1) := by decide +kernel
theorem dX3_no_6 : decode cX3_no 6 = .ok (.iload_n 2, 1) := by decide +kernel
theorem dX3_no_7 : decode cX3_no 7 = .ok (.invokevirtual 138, 3) := by decide +kernel
theorem dX3_no_10 : decode cX3_no 10 = .ok (.iload_n 3, 1) := by decide +kernel
theorem dX3_no_11 : decode cX3_no 11 = .ok (.ifCond .ne 24, 3) := by decide +kernel
theorem dX3_no_14 : decode cX3_no 14 = .ok (.aload_n 0, 1) := by decide +kernel
theorem dX3_no_15 : decode cX3_no 15 = .ok (.getfield 23, 3) := by decide +kernel
theorem dX3_no_18 : decode cX3_no 18 = .ok (.iload_n 2, 1) := by decide +kernel
theorem dX3_no_19 : decode cX3_no 19 = .ok (.aaload, 1) := by decide +kernel
theorem dX3_no_20 : decode cX3_no 20 = .ok (.dup, 1) := by decide +kernel
theorem dX3_no_21 : decode cX3_no 21 = .ok (.getfield 204, 3) := by decide +kernel
theorem dX3_no_24 : decode cX3_no 24 = .ok (.iconst 1, 1) := by decide +kernel
theorem dX3_no_25 : decode cX3_no 25 = .ok (.iload_n 1, 1) := by decide +kernel
theorem dX3_no_26 : decode cX3_no 26 = .ok (.ishl, 1) := by decide +kernel
theorem dX3_no_27 : decode cX3_no 27 = .ok (.iconst (-1), 1) := by decide +kernel
theorem dX3_no_28 : decode cX3_no 28 = .ok (.ixor, 1) := by decide +kernel
theorem dX3_no_29 : decode cX3_no 29 = .ok (.iand, 1) := by decide +kernel
theorem dX3_no_30 : decode cX3_no 30 = .ok (.putfield 204, 3) := by decide +kernel
theorem dX3_no_33 : decode cX3_no 33 = .ok (.iconst 0, 1) := by decide +kernel
theorem dX3_no_34 : decode cX3_no 34 = .ok (.ireturn, 1) := by decide +kernel
theorem dX3_no_35 : decode cX3_no 35 = .ok (.aload_n 0, 1) := by decide +kernel
theorem dX3_no_36 : decode cX3_no 36 = .ok (.getfield 23, 3) := by decide +kernel
theorem dX3_no_39 : decode cX3_no 39 = .ok (.iload_n 2, 1) := by decide +kernel
theorem dX3_no_40 : decode cX3_no 40 = .ok (.aaload, 1) := by decide +kernel
theorem dX3_no_41 : decode cX3_no 41 = .ok (.dup, 1) := by decide +kernel
theorem dX3_no_42 : decode cX3_no 42 = .ok (.getfield 204, 3) := by decide +kernel
theorem dX3_no_45 : decode cX3_no 45 = .ok (.iconst 1, 1) := by decide +kernel
theorem dX3_no_46 : decode cX3_no 46 = .ok (.iload_n 1, 1) := by decide +kernel
theorem dX3_no_47 : decode cX3_no 47 = .ok (.ishl, 1) := by decide +kernel
theorem dX3_no_48 : decode cX3_no 48 = .ok (.ior, 1) := by decide +kernel
theorem dX3_no_49 : decode cX3_no 49 = .ok (.putfield 204, 3) := by decide +kernel
theorem dX3_no_52 : decode cX3_no 52 = .ok (.aload_n 0, 1) := by decide +kernel
theorem dX3_no_53 : decode cX3_no 53 = .ok (.getfield 23, 3) := by decide +kernel
theorem dX3_no_56 : decode cX3_no 56 = .ok (.iload_n 2, 1) := by decide +kernel
theorem dX3_no_57 : decode cX3_no 57 = .ok (.aaload, 1) := by decide +kernel
theorem dX3_no_58 : decode cX3_no 58 = .ok (.getfield 107, 3) := by decide +kernel
theorem dX3_no_61 : decode cX3_no 61 = .ok (.istore 4, 2) := by decide +kernel
theorem dX3_no_63 : decode cX3_no 63 = .ok (.aload_n 0, 1) := by decide +kernel
theorem dX3_no_64 : decode cX3_no 64 = .ok (.iload_n 2, 1) := by decide +kernel
theorem dX3_no_65 : decode cX3_no 65 = .ok (.invokevirtual 114, 3) := by decide +kernel
theorem dX3_no_68 : decode cX3_no 68 = .ok (.iload 4, 2) := by decide +kernel
theorem dX3_no_70 : decode cX3_no 70 = .ok (.ireturn, 1) := by decide +kernel
theorem dX3_arm_0 : decode cX3_arm 0 = .ok (.aload_n 0, 1) := by decide +kernel
theorem dX3_arm_1 : decode cX3_arm 1 = .ok (.iload_n 1, 1) := by decide +kernel
theorem dX3_arm_2 : decode cX3_arm 2 = .ok (.invokevirtual 138, 3) := by decide +kernel
theorem dX3_arm_5 : decode cX3_arm 5 = .ok (.aload_n 0, 1) := by decide +kernel
theorem dX3_arm_6 : decode cX3_arm 6 = .ok (.getfield 23, 3) := by decide +kernel
theorem dX3_arm_9 : decode cX3_arm 9 = .ok (.iload_n 1, 1) := by decide +kernel
theorem dX3_arm_10 : decode cX3_arm 10 = .ok (.aaload, 1) := by decide +kernel
theorem dX3_arm_11 : decode cX3_arm 11 = .ok (.getfield 107, 3) := by decide +kernel
theorem dX3_arm_14 : decode cX3_arm 14 = .ok (.ifCond .eq 13, 3) := by decide +kernel
theorem dX3_arm_17 : decode cX3_arm 17 = .ok (.new 70, 3) := by decide +kernel
theorem dX3_arm_20 : decode cX3_arm 20 = .ok (.dup, 1) := by decide +kernel
theorem dX3_arm_21 : decode cX3_arm 21 = .ok (.ldc 207, 2) := by decide +kernel
theorem dX3_arm_23 : decode cX3_arm 23 = .ok (.invokespecial 74, 3) := by decide +kernel
theorem dX3_arm_26 : decode cX3_arm 26 = .ok (.athrow, 1) := by decide +kernel
theorem dX3_arm_27 : decode cX3_arm 27 = .ok (.aload_n 0, 1) := by decide +kernel
theorem dX3_arm_28 : decode cX3_arm 28 = .ok (.iload_n 1, 1) := by decide +kernel
theorem dX3_arm_29 : decode cX3_arm 29 = .ok (.invokevirtual 209, 3) := by decide +kernel
theorem dX3_arm_32 : decode cX3_arm 32 = .ok (.istore_n 2, 1) := by decide +kernel
theorem dX3_arm_33 : decode cX3_arm 33 = .ok (.aload_n 0, 1) := by decide +kernel
theorem dX3_arm_34 : decode cX3_arm 34 = .ok (.getfield 23, 3) := by decide +kernel
theorem dX3_arm_37 : decode cX3_arm 37 = .ok (.iload_n 1, 1) := by decide +kernel
theorem dX3_arm_38 : decode cX3_arm 38 = .ok (.aaload, 1) := by decide +kernel
theorem dX3_arm_39 : decode cX3_arm 39 = .ok (.iload_n 2, 1) := by decide +kernel
theorem dX3_arm_40 : decode cX3_arm 40 = .ok (.ifCond .ne 7, 3) := by decide +kernel
theorem dX3_arm_43 : decode cX3_arm 43 = .ok (.iconst 1, 1) := by decide +kernel
theorem dX3_arm_44 : decode cX3_arm 44 = .ok (.goto 4, 3) := by decide +kernel
theorem dX3_arm_47 : decode cX3_arm 47 = .ok (.iconst 0, 1) := by decide +kernel
theorem dX3_arm_48 : decode cX3_arm 48 = .ok (.putfield 107, 3) := by decide +kernel
theorem dX3_arm_51 : decode cX3_arm 51 = .ok (.iload_n 2, 1) := by decide +kernel
theorem dX3_arm_52 : decode cX3_arm 52 = .ok (.ireturn, 1) := by decide +kernel
theorem dX3_take_0 : decode cX3_take 0 = .ok (.aload_n 0, 1) := by decide +kernel
theorem dX3_take_1 : decode cX3_take 1 = .ok (.iload_n 1, 1) := by decide +kernel
theorem dX3_take_2 : decode cX3_take 2 = .ok (.invokevirtual 138, 3) := by decide +kernel
theorem dX3_take_5 : decode cX3_take 5 = .ok (.aload_n 0, 1) := by decide +kernel
theorem dX3_take_6 : decode cX3_take 6 = .ok (.iload_n 1, 1) := by decide +kernel
theorem dX3_take_7 : decode cX3_take 7 = .ok (.invokevirtual 212, 3) := by decide +kernel
theorem dX3_take_10 : decode cX3_take 10 = .ok (.aload_n 0, 1) := by decide +kernel
theorem dX3_take_11 : decode cX3_take 11 = .ok (.getfield 23, 3) := by decide +kernel
theorem dX3_take_14 : decode cX3_take 14 = .ok (.iload_n 1, 1) := by decide +kernel
theorem dX3_take_15 : decode cX3_take 15 = .ok (.aaload, 1) := by decide +kernel
theorem dX3_take_16 : decode cX3_take 16 = .ok (.astore_n 2, 1) := by decide +kernel
theorem dX3_take_17 : decode cX3_take 17 = .ok (.aload_n 0, 1) := by decide +kernel
theorem dX3_take_18 : decode cX3_take 18 = .ok (.iload_n 1, 1) := by decide +kernel
theorem dX3_take_19 : decode cX3_take 19 = .ok (.invokevirtual 215, 3) := by decide +kernel
theorem dX3_take_22 : decode cX3_take 22 = .ok (.istore_n 3, 1) := by decide +kernel
theorem dX3_take_23 : decode cX3_take 23 = .ok (.aload_n 2, 1) := by decide +kernel
theorem dX3_take_24 : decode cX3_take 24 = .ok (.iconst 0, 1) := by decide +kernel
theorem dX3_take_25 : decode cX3_take 25 = .ok (.putfield 107, 3) := by decide +kernel
theorem dX3_take_28 : decode cX3_take 28 = .ok (.aload_n 2, 1) := by decide +kernel
theorem dX3_take_29 : decode cX3_take 29 = .ok (.iconst 0, 1) := by decide +kernel
theorem dX3_take_30 : decode cX3_take 30 = .ok (.putfield 158, 3) := by decide +kernel
theorem dX3_take_33 : decode cX3_take 33 = .ok (.aload_n 2, 1) := by decide +kernel
theorem dX3_take_34 : decode cX3_take 34 = .ok (.iconst 3, 1) := by decide +kernel
theorem dX3_take_35 : decode cX3_take 35 = .ok (.putfield 172, 3) := by decide +kernel
theorem dX3_take_38 : decode cX3_take 38 = .ok (.aload_n 2, 1) := by decide +kernel
theorem dX3_take_39 : decode cX3_take 39 = .ok (.dup, 1) := by decide +kernel
theorem dX3_take_40 : decode cX3_take 40 = .ok (.getfield 218, 3) := by decide +kernel
theorem dX3_take_43 : decode cX3_take 43 = .ok (.iconst 1, 1) := by decide +kernel
theorem dX3_take_44 : decode cX3_take 44 = .ok (.iadd, 1) := by decide +kernel
theorem dX3_take_45 : decode cX3_take 45 = .ok (.putfield 218, 3) := by decide +kernel
theorem dX3_take_48 : decode cX3_take 48 = .ok (.aload_n 0, 1) := by decide +kernel
theorem dX3_take_49 : decode cX3_take 49 = .ok (.dup, 1) := by decide +kernel
theorem dX3_take_50 : decode cX3_take 50 = .ok (.getfield 57, 3) := by decide +kernel
theorem dX3_take_53 : decode cX3_take 53 = .ok (.iconst 1, 1) := by decide +kernel
theorem dX3_take_54 : decode cX3_take 54 = .ok (.iadd, 1) := by decide +kernel
theorem dX3_take_55 : decode cX3_take 55 = .ok (.putfield 57, 3) := by decide +kernel
theorem dX3_take_58 : decode cX3_take 58 = .ok (.aload_n 0, 1) := by decide +kernel
theorem dX3_take_59 : decode cX3_take 59 = .ok (.dup, 1) := by decide +kernel
theorem dX3_take_60 : decode cX3_take 60 = .ok (.getfield 63, 3) := by decide +kernel
theorem dX3_take_63 : decode cX3_take 63 = .ok (.iload_n 3, 1) := by decide +kernel
theorem dX3_take_64 : decode cX3_take 64 = .ok (.i2l, 1) := by decide +kernel
theorem dX3_take_65 : decode cX3_take 65 = .ok (.ladd, 1) := by decide +kernel
theorem dX3_take_66 : decode cX3_take 66 = .ok (.putfield 63, 3) := by decide +kernel
theorem dX3_take_69 : decode cX3_take 69 = .ok (.iload_n 3, 1) := by decide +kernel
theorem dX3_take_70 : decode cX3_take 70 = .ok (.ifCond .ge 11, 3) := by decide +kernel
theorem dX3_take_73 : decode cX3_take 73 = .ok (.aload_n 0, 1) := by decide +kernel
theorem dX3_take_74 : decode cX3_take 74 = .ok (.aload_n 2, 1) := by decide +kernel
theorem dX3_take_75 : decode cX3_take 75 = .ok (.getfield 151, 3) := by decide +kernel
theorem dX3_take_78 : decode cX3_take 78 = .ok (.invokevirtual 221, 3) := by decide +kernel
theorem dX3_take_81 : decode cX3_take 81 = .ok (.aload_n 0, 1) := by decide +kernel
theorem dX3_take_82 : decode cX3_take 82 = .ok (.iload_n 1, 1) := by decide +kernel
theorem dX3_take_83 : decode cX3_take 83 = .ok (.invokevirtual 224, 3) := by decide +kernel
theorem dX3_take_86 : decode cX3_take 86 = .ok (.aload_n 0, 1) := by decide +kernel
theorem dX3_take_87 : decode cX3_take 87 = .ok (.iload_n 1, 1) := by decide +kernel
theorem dX3_take_88 : decode cX3_take 88 = .ok (.invokevirtual 227, 3) := by decide +kernel
theorem dX3_take_91 : decode cX3_take 91 = .ok (.iload_n 3, 1) := by decide +kernel
theorem dX3_take_92 : decode cX3_take 92 = .ok (.ireturn, 1) := by decide +kernel
theorem dX3_weather_0 : decode cX3_weather 0 = .ok (.iload_n 1, 1) := by decide +kernel
theorem dX3_weather_1 : decode cX3_weather 1 = .ok (.iconst 0, 1) := by decide +kernel
theorem dX3_weather_2 : decode cX3_weather 2 = .ok (.bipush 9, 2) := by decide +kernel
theorem dX3_weather_4 : decode cX3_weather 4 = .ok (.invokestatic 93, 3) := by decide +kernel
theorem dX3_weather_7 : decode cX3_weather 7 = .ok (.aload_n 0, 1) := by decide +kernel
theorem dX3_weather_8 : decode cX3_weather 8 = .ok (.invokevirtual 100, 3) := by decide +kernel
theorem dX3_weather_11 : decode cX3_weather 11 = .ok (.istore_n 3, 1) := by decide +kernel
theorem dX3_weather_12 : decode cX3_weather 12 = .ok (.aload_n 0, 1) := by decide +kernel
theorem dX3_weather_13 : decode cX3_weather 13 = .ok (.iload_n 1, 1) := by decide +kernel
theorem dX3_weather_14 : decode cX3_weather 14 = .ok (.putfield 47, 3) := by decide +kernel
theorem dX3_weather_17 : decode cX3_weather 17 = .ok (.aload_n 0, 1) := by decide +kernel
theorem dX3_weather_18 : decode cX3_weather 18 = .ok (.iload_n 2, 1) := by decide +kernel
theorem dX3_weather_19 : decode cX3_weather 19 = .ok (.putfield 50, 3) := by decide +kernel
theorem dX3_weather_22 : decode cX3_weather 22 = .ok (.iconst 0, 1) := by decide +kernel
theorem dX3_weather_23 : decode cX3_weather 23 = .ok (.istore 4, 2) := by decide +kernel
theorem dX3_weather_25 : decode cX3_weather 25 = .ok (.iload 4, 2) := by decide +kernel
theorem dX3_weather_27 : decode cX3_weather 27 = .ok (.aload_n 0, 1) := by decide +kernel
theorem dX3_weather_28 : decode cX3_weather 28 = .ok (.getfield 34, 3) := by decide +kernel
theorem dX3_weather_31 : decode cX3_weather 31 = .ok (.if_icmp .ge 33, 3) := by decide +kernel
theorem dX3_weather_34 : decode cX3_weather 34 = .ok (.aload_n 0, 1) := by decide +kernel
theorem dX3_weather_35 : decode cX3_weather 35 = .ok (.iload 4, 2) := by decide +kernel
theorem dX3_weather_37 : decode cX3_weather 37 = .ok (.invokevirtual 230, 3) := by decide +kernel
theorem dX3_weather_40 : decode cX3_weather 40 = .ok (.ifCond .ne 12, 3) := by decide +kernel
theorem dX3_weather_43 : decode cX3_weather 43 = .ok (.aload_n 0, 1) := by decide +kernel
theorem dX3_weather_44 : decode cX3_weather 44 = .ok (.iload 4, 2) := by decide +kernel
theorem dX3_weather_46 : decode cX3_weather 46 = .ok (.invokevirtual 234, 3) := by decide +kernel
theorem dX3_weather_49 : decode cX3_weather 49 = .ok (.ifCond .eq 9, 3) := by decide +kernel
theorem dX3_weather_52 : decode cX3_weather 52 = .ok (.aload_n 0, 1) := by decide +kernel
theorem dX3_weather_53 : decode cX3_weather 53 = .ok (.iload 4, 2) := by decide +kernel
theorem dX3_weather_55 : decode cX3_weather 55 = .ok (.invokevirtual 114, 3) := by decide +kernel
theorem dX3_weather_58 : decode cX3_weather 58 = .ok (.iinc 4 1, 3) := by decide +kernel
theorem dX3_weather_61 : decode cX3_weather 61 = .ok (.goto (-36), 3) := by decide +kernel
theorem dX3_weather_64 : decode cX3_weather 64 = .ok (.aload_n 0, 1) := by decide +kernel
theorem dX3_weather_65 : decode cX3_weather 65 = .ok (.invokevirtual 83, 3) := by decide +kernel
theorem dX3_weather_68 : decode cX3_weather 68 = .ok (.iload_n 3, 1) := by decide +kernel
theorem dX3_weather_69 : decode cX3_weather 69 = .ok (.aload_n 0, 1) := by decide +kernel
theorem dX3_weather_70 : decode cX3_weather 70 = .ok (.invokevirtual 100, 3) := by decide +kernel
theorem dX3_weather_73 : decode cX3_weather 73 = .ok (.iconst (-1), 1) := by decide +kernel
theorem dX3_weather_74 : decode cX3_weather 74 = .ok (.ixor, 1) := by decide +kernel
theorem dX3_weather_75 : decode cX3_weather 75 = .ok (.iand, 1) := by decide +kernel
theorem dX3_weather_76 : decode cX3_weather 76 = .ok (.ireturn, 1) := by decide +kernel
theorem dX3_pass_0 : decode cX3_pass 0 = .ok (.iload_n 1, 1) := by decide +kernel
theorem dX3_pass_1 : decode cX3_pass 1 = .ok (.iconst 1, 1) := by decide +kernel
theorem dX3_pass_2 : decode cX3_pass 2 = .ok (.bipush 30, 2) := by decide +kernel
theorem dX3_pass_4 : decode cX3_pass 4 = .ok (.invokestatic 93, 3) := by decide +kernel
theorem dX3_pass_7 : decode cX3_pass 7 = .ok (.aload_n 0, 1) := by decide +kernel
theorem dX3_pass_8 : decode cX3_pass 8 = .ok (.invokevirtual 100, 3) := by decide +kernel
theorem dX3_pass_11 : decode cX3_pass 11 = .ok (.ifCond .eq 13, 3) := by decide +kernel
theorem dX3_pass_14 : decode cX3_pass 14 = .ok (.new 70, 3) := by decide +kernel
theorem dX3_pass_17 : decode cX3_pass 17 = .ok (.dup, 1) := by decide +kernel
theorem dX3_pass_18 : decode cX3_pass 18 = .ok (.ldc 237, 2) := by decide +kernel
theorem dX3_pass_20 : decode cX3_pass 20 = .ok (.invokespecial 74, 3) := by decide +kernel
theorem dX3_pass_23 : decode cX3_pass 23 = .ok (.athrow, 1) := by decide +kernel
theorem dX3_pass_24 : decode cX3_pass 24 = .ok (.iconst 0, 1) := by decide +kernel
theorem dX3_pass_25 : decode cX3_pass 25 = .ok (.istore_n 2, 1) := by decide +kernel
theorem dX3_pass_26 : decode cX3_pass 26 = .ok (.iload_n 2, 1) := by decide +kernel
theorem dX3_pass_27 : decode cX3_pass 27 = .ok (.iload_n 1, 1) := by decide +kernel
theorem dX3_pass_28 : decode cX3_pass 28 = .ok (.if_icmp .ge 13, 3) := by decide +kernel
theorem dX3_pass_31 : decode cX3_pass 31 = .ok (.aload_n 0, 1) := by decide +kernel
theorem dX3_pass_32 : decode cX3_pass 32 = .ok (.invokevirtual 239, 3) := by decide +kernel
theorem dX3_pass_35 : decode cX3_pass 35 = .ok (.iinc 2 1, 3) := by decide +kernel
theorem dX3_pass_38 : decode cX3_pass 38 = .ok (.goto (-12), 3) := by decide +kernel
theorem dX3_pass_41 : decode cX3_pass 41 = .ok (.aload_n 0, 1) := by decide +kernel
theorem dX3_pass_42 : decode cX3_pass 42 = .ok (.getfield 44, 3) := by decide +kernel
theorem dX3_pass_45 : decode cX3_pass 45 = .ok (.ireturn, 1) := by decide +kernel
theorem dX3_ofPerson_0 : decode cX3_ofPerson 0 = .ok (.aload_n 0, 1) := by decide +kernel
theorem dX3_ofPerson_1 : decode cX3_ofPerson 1 = .ok (.iload_n 1, 1) := by decide +kernel
theorem dX3_ofPerson_2 : decode cX3_ofPerson 2 = .ok (.invokevirtual 86, 3) := by decide +kernel
theorem dX3_ofPerson_5 : decode cX3_ofPerson 5 = .ok (.iload_n 2, 1) := by decide +kernel
theorem dX3_ofPerson_6 : decode cX3_ofPerson 6 = .ok (.iconst 0, 1) := by decide +kernel
theorem dX3_ofPerson_7 : decode cX3_ofPerson 7 = .ok (.bipush 11, 2) := by decide +kernel
theorem dX3_ofPerson_9 : decode cX3_ofPerson 9 = .ok (.invokestatic 93, 3) := by decide +kernel
theorem dX3_ofPerson_12 : decode cX3_ofPerson 12 = .ok (.aload_n 0, 1) := by decide +kernel
theorem dX3_ofPerson_13 : decode cX3_ofPerson 13 = .ok (.getfield 11, 3) := by decide +kernel
theorem dX3_ofPerson_16 : decode cX3_ofPerson 16 = .ok (.iload_n 1, 1) := by decide +kernel
theorem dX3_ofPerson_17 : decode cX3_ofPerson 17 = .ok (.aaload, 1) := by decide +kernel
theorem dX3_ofPerson_18 : decode cX3_ofPerson 18 = .ok (.astore_n 3, 1) := by decide +kernel
theorem dX3_ofPerson_19 : decode cX3_ofPerson 19 = .ok (.iload_n 2, 1) := by decide +kernel
theorem dX3_ofPerson_20 : decode cX3_ofPerson 20 = .ok (.tableswitch 98 4 11 #[48, 56, 64, 69, 74, 82, 87, 92], 48) := by decide +kernel
theorem dX3_ofPerson_68 : decode cX3_ofPerson 68 = .ok (.aload_n 3, 1) := by decide +kernel
theorem dX3_ofPerson_69 : decode cX3_ofPerson 69 = .ok (.getfield 77, 3) := by decide +kernel
theorem dX3_ofPerson_72 : decode cX3_ofPerson 72 = .ok (.invokestatic 242, 3) := by decide +kernel
theorem dX3_ofPerson_75 : decode cX3_ofPerson 75 = .ok (.ireturn, 1) := by decide +kernel
theorem dX3_ofPerson_76 : decode cX3_ofPerson 76 = .ok (.aload_n 3, 1) := by decide +kernel
theorem dX3_ofPerson_77 : decode cX3_ofPerson 77 = .ok (.getfield 80, 3) := by decide +kernel
theorem dX3_ofPerson_80 : decode cX3_ofPerson 80 = .ok (.invokestatic 242, 3) := by decide +kernel
theorem dX3_ofPerson_83 : decode cX3_ofPerson 83 = .ok (.ireturn, 1) := by decide +kernel
theorem dX3_ofPerson_84 : decode cX3_ofPerson 84 = .ok (.aload_n 3, 1) := by decide +kernel
theorem dX3_ofPerson_85 : decode cX3_ofPerson 85 = .ok (.getfield 104, 3) := by decide +kernel
theorem dX3_ofPerson_88 : decode cX3_ofPerson 88 = .ok (.ireturn, 1) := by decide +kernel
theorem dX3_ofPerson_89 : decode cX3_ofPerson 89 = .ok (.aload_n 3, 1) := by decide +kernel
theorem dX3_ofPerson_90 : decode cX3_ofPerson 90 = .ok (.getfield 246, 3) := by decide +kernel
theorem dX3_ofPerson_93 : decode cX3_ofPerson 93 = .ok (.ireturn, 1) := by decide +kernel
theorem dX3_ofPerson_94 : decode cX3_ofPerson 94 = .ok (.aload_n 3, 1) := by decide +kernel
theorem dX3_ofPerson_95 : decode cX3_ofPerson 95 = .ok (.getfield 167, 3) := by decide +kernel
theorem dX3_ofPerson_98 : decode cX3_ofPerson 98 = .ok (.invokestatic 242, 3) := by decide +kernel
theorem dX3_ofPerson_101 : decode cX3_ofPerson 101 = .ok (.ireturn, 1) := by decide +kernel
theorem dX3_ofPerson_102 : decode cX3_ofPerson 102 = .ok (.aload_n 3, 1) := by decide +kernel
theorem dX3_ofPerson_103 : decode cX3_ofPerson 103 = .ok (.getfield 249, 3) := by decide +kernel
theorem dX3_ofPerson_106 : decode cX3_ofPerson 106 = .ok (.ireturn, 1) := by decide +kernel
theorem dX3_ofPerson_107 : decode cX3_ofPerson 107 = .ok (.aload_n 3, 1) := by decide +kernel
theorem dX3_ofPerson_108 : decode cX3_ofPerson 108 = .ok (.getfield 252, 3) := by decide +kernel
theorem dX3_ofPerson_111 : decode cX3_ofPerson 111 = .ok (.ireturn, 1) := by decide +kernel
theorem dX3_ofPerson_112 : decode cX3_ofPerson 112 = .ok (.aload_n 0, 1) := by decide +kernel
theorem dX3_ofPerson_113 : decode cX3_ofPerson 113 = .ok (.iload_n 1, 1) := by decide +kernel
theorem dX3_ofPerson_114 : decode cX3_ofPerson 114 = .ok (.invokevirtual 255, 3) := by decide +kernel
theorem dX3_ofPerson_117 : decode cX3_ofPerson 117 = .ok (.ireturn, 1) := by decide +kernel
theorem dX3_ofPerson_118 : decode cX3_ofPerson 118 = .ok (.aload_n 3, 1) := by decide +kernel
theorem dX3_ofPerson_119 : decode cX3_ofPerson 119 = .ok (.getfield 97, 3) := by decide +kernel
theorem dX3_ofPerson_122 : decode cX3_ofPerson 122 = .ok (.iload_n 2, 1) := by decide +kernel
theorem dX3_ofPerson_123 : decode cX3_ofPerson 123 = .ok (.iaload, 1) := by decide +kernel
theorem dX3_ofPerson_124 : decode cX3_ofPerson 124 = .ok (.ireturn, 1) := by decide +kernel
theorem dX3_ofKit_0 : decode cX3_ofKit 0 = .ok (.aload_n 0, 1) := by decide +kernel
theorem dX3_ofKit_1 : decode cX3_ofKit 1 = .ok (.iload_n 1, 1) := by decide +kernel
theorem dX3_ofKit_2 : decode cX3_ofKit 2 = .ok (.invokevirtual 132, 3) := by decide +kernel
theorem dX3_ofKit_5 : decode cX3_ofKit 5 = .ok (.iload_n 2, 1) := by decide +kernel
theorem dX3_ofKit_6 : decode cX3_ofKit 6 = .ok (.iconst 0, 1) := by decide +kernel
theorem dX3_ofKit_7 : decode cX3_ofKit 7 = .ok (.iconst 5, 1) := by decide +kernel
theorem dX3_ofKit_8 : decode cX3_ofKit 8 = .ok (.invokestatic 93, 3) := by decide +kernel
theorem dX3_ofKit_11 : decode cX3_ofKit 11 = .ok (.aload_n 0, 1) := by decide +kernel
theorem dX3_ofKit_12 : decode cX3_ofKit 12 = .ok (.getfield 17, 3) := by decide +kernel
theorem dX3_ofKit_15 : decode cX3_ofKit 15 = .ok (.iload_n 1, 1) := by decide +kernel
theorem dX3_ofKit_16 : decode cX3_ofKit 16 = .ok (.aaload, 1) := by decide +kernel
theorem dX3_ofKit_17 : decode cX3_ofKit 17 = .ok (.astore_n 3, 1) := by decide +kernel
theorem dX3_ofKit_18 : decode cX3_ofKit 18 = .ok (.iload_n 2, 1) := by decide +kernel
theorem dX3_ofKit_19 : decode cX3_ofKit 19 = .ok (.tableswitch 58 0 4 #[33, 38, 43, 48, 53], 33) := by decide +kernel
theorem dX3_ofKit_52 : decode cX3_ofKit 52 = .ok (.aload_n 3, 1) := by decide +kernel
theorem dX3_ofKit_53 : decode cX3_ofKit 53 = .ok (.getfield 125, 3) := by decide +kernel
theorem dX3_ofKit_56 : decode cX3_ofKit 56 = .ok (.ireturn, 1) := by decide +kernel
theorem dX3_ofKit_57 : decode cX3_ofKit 57 = .ok (.aload_n 3, 1) := by decide +kernel
theorem dX3_ofKit_58 : decode cX3_ofKit 58 = .ok (.getfield 126, 3) := by decide +kernel
theorem dX3_ofKit_61 : decode cX3_ofKit 61 = .ok (.ireturn, 1) := by decide +kernel
theorem dX3_ofKit_62 : decode cX3_ofKit 62 = .ok (.aload_n 3, 1) := by decide +kernel
theorem dX3_ofKit_63 : decode cX3_ofKit 63 = .ok (.getfield 129, 3) := by decide +kernel
theorem dX3_ofKit_66 : decode cX3_ofKit 66 = .ok (.ireturn, 1) := by decide +kernel
theorem dX3_ofKit_67 : decode cX3_ofKit 67 = .ok (.aload_n 3, 1) := by decide +kernel
theorem dX3_ofKit_68 : decode cX3_ofKit 68 = .ok (.getfield 135, 3) := by decide +kernel
theorem dX3_ofKit_71 : decode cX3_ofKit 71 = .ok (.ireturn, 1) := by decide +kernel
theorem dX3_ofKit_72 : decode cX3_ofKit 72 = .ok (.aload_n 3, 1) := by decide +kernel
theorem dX3_ofKit_73 : decode cX3_ofKit 73 = .ok (.getfield 141, 3) := by decide +kernel
theorem dX3_ofKit_76 : decode cX3_ofKit 76 = .ok (.ireturn, 1) := by decide +kernel
theorem dX3_ofKit_77 : decode cX3_ofKit 77 = .ok (.aload_n 0, 1) := by decide +kernel
theorem dX3_ofKit_78 : decode cX3_ofKit 78 = .ok (.iload_n 1, 1) := by decide +kernel
theorem dX3_ofKit_79 : decode cX3_ofKit 79 = .ok (.invokevirtual 258, 3) := by decide +kernel
theorem dX3_ofKit_82 : decode cX3_ofKit 82 = .ok (.invokestatic 242, 3) := by decide +kernel
theorem dX3_ofKit_85 : decode cX3_ofKit 85 = .ok (.ireturn, 1) := by decide +kernel
theorem dX3_ofGag_0 : decode cX3_ofGag 0 = .ok (.aload_n 0, 1) := by decide +kernel
theorem dX3_ofGag_1 : decode cX3_ofGag 1 = .ok (.iload_n 1, 1) := by decide +kernel
theorem dX3_ofGag_2 : decode cX3_ofGag 2 = .ok (.invokevirtual 138, 3) := by decide +kernel
theorem dX3_ofGag_5 : decode cX3_ofGag 5 = .ok (.iload_n 2, 1) := by decide +kernel
theorem dX3_ofGag_6 : decode cX3_ofGag 6 = .ok (.iconst 0, 1) := by decide +kernel
theorem dX3_ofGag_7 : decode cX3_ofGag 7 = .ok (.bipush 13, 2) := by decide +kernel
theorem dX3_ofGag_9 : decode cX3_ofGag 9 = .ok (.invokestatic 93, 3) := by decide +kernel
theorem dX3_ofGag_12 : decode cX3_ofGag 12 = .ok (.aload_n 0, 1) := by decide +kernel
theorem dX3_ofGag_13 : decode cX3_ofGag 13 = .ok (.getfield 23, 3) := by decide +kernel
theorem dX3_ofGag_16 : decode cX3_ofGag 16 = .ok (.iload_n 1, 1) := by decide +kernel
theorem dX3_ofGag_17 : decode cX3_ofGag 17 = .ok (.aaload, 1) := by decide +kernel
theorem dX3_ofGag_18 : decode cX3_ofGag 18 = .ok (.astore_n 3, 1) := by decide +kernel
theorem dX3_ofGag_19 : decode cX3_ofGag 19 = .ok (.iload_n 2, 1) := by decide +kernel
theorem dX3_ofGag_20 : decode cX3_ofGag 20 = .ok (.tableswitch 141 0 12 #[68, 73, 78, 83, 88, 94, 100, 106, 112, 117, 122, 127, 135], 68) := by decide +kernel
theorem dX3_ofGag_88 : decode cX3_ofGag 88 = .ok (.aload_n 3, 1) := by decide +kernel
theorem dX3_ofGag_89 : decode cX3_ofGag 89 = .ok (.getfield 117, 3) := by decide +kernel
theorem dX3_ofGag_92 : decode cX3_ofGag 92 = .ok (.ireturn, 1) := by decide +kernel
theorem dX3_ofGag_93 : decode cX3_ofGag 93 = .ok (.aload_n 3, 1) := by decide +kernel
theorem dX3_ofGag_94 : decode cX3_ofGag 94 = .ok (.getfield 151, 3) := by decide +kernel
theorem dX3_ofGag_97 : decode cX3_ofGag 97 = .ok (.ireturn, 1) := by decide +kernel
theorem dX3_ofGag_98 : decode cX3_ofGag 98 = .ok (.aload_n 3, 1) := by decide +kernel
theorem dX3_ofGag_99 : decode cX3_ofGag 99 = .ok (.getfield 154, 3) := by decide +kernel
theorem dX3_ofGag_102 : decode cX3_ofGag 102 = .ok (.ireturn, 1) := by decide +kernel
theorem dX3_ofGag_103 : decode cX3_ofGag 103 = .ok (.aload_n 3, 1) := by decide +kernel
theorem dX3_ofGag_104 : decode cX3_ofGag 104 = .ok (.getfield 155, 3) := by decide +kernel
theorem dX3_ofGag_107 : decode cX3_ofGag 107 = .ok (.ireturn, 1) := by decide +kernel
theorem dX3_ofGag_108 : decode cX3_ofGag 108 = .ok (.aload_n 0, 1) := by decide +kernel
theorem dX3_ofGag_109 : decode cX3_ofGag 109 = .ok (.iload_n 1, 1) := by decide +kernel
theorem dX3_ofGag_110 : decode cX3_ofGag 110 = .ok (.invokevirtual 181, 3) := by decide +kernel
theorem dX3_ofGag_113 : decode cX3_ofGag 113 = .ok (.ireturn, 1) := by decide +kernel
theorem dX3_ofGag_114 : decode cX3_ofGag 114 = .ok (.aload_n 0, 1) := by decide +kernel
theorem dX3_ofGag_115 : decode cX3_ofGag 115 = .ok (.iload_n 1, 1) := by decide +kernel
theorem dX3_ofGag_116 : decode cX3_ofGag 116 = .ok (.invokevirtual 261, 3) := by decide +kernel
theorem dX3_ofGag_119 : decode cX3_ofGag 119 = .ok (.ireturn, 1) := by decide +kernel
theorem dX3_ofGag_120 : decode cX3_ofGag 120 = .ok (.aload_n 0, 1) := by decide +kernel
theorem dX3_ofGag_121 : decode cX3_ofGag 121 = .ok (.iload_n 1, 1) := by decide +kernel
theorem dX3_ofGag_122 : decode cX3_ofGag 122 = .ok (.invokevirtual 264, 3) := by decide +kernel
theorem dX3_ofGag_125 : decode cX3_ofGag 125 = .ok (.ireturn, 1) := by decide +kernel
theorem dX3_ofGag_126 : decode cX3_ofGag 126 = .ok (.aload_n 0, 1) := by decide +kernel
theorem dX3_ofGag_127 : decode cX3_ofGag 127 = .ok (.iload_n 1, 1) := by decide +kernel
theorem dX3_ofGag_128 : decode cX3_ofGag 128 = .ok (.invokevirtual 215, 3) := by decide +kernel
theorem dX3_ofGag_131 : decode cX3_ofGag 131 = .ok (.ireturn, 1) := by decide +kernel
theorem dX3_ofGag_132 : decode cX3_ofGag 132 = .ok (.aload_n 3, 1) := by decide +kernel
theorem dX3_ofGag_133 : decode cX3_ofGag 133 = .ok (.getfield 172, 3) := by decide +kernel
theorem dX3_ofGag_136 : decode cX3_ofGag 136 = .ok (.ireturn, 1) := by decide +kernel
theorem dX3_ofGag_137 : decode cX3_ofGag 137 = .ok (.aload_n 3, 1) := by decide +kernel
theorem dX3_ofGag_138 : decode cX3_ofGag 138 = .ok (.getfield 158, 3) := by decide +kernel
theorem dX3_ofGag_141 : decode cX3_ofGag 141 = .ok (.ireturn, 1) := by decide +kernel
theorem dX3_ofGag_142 : decode cX3_ofGag 142 = .ok (.aload_n 3, 1) := by decide +kernel
theorem dX3_ofGag_143 : decode cX3_ofGag 143 = .ok (.getfield 204, 3) := by decide +kernel
theorem dX3_ofGag_146 : decode cX3_ofGag 146 = .ok (.ireturn, 1) := by decide +kernel
theorem dX3_ofGag_147 : decode cX3_ofGag 147 = .ok (.aload_n 3, 1) := by decide +kernel
theorem dX3_ofGag_148 : decode cX3_ofGag 148 = .ok (.getfield 107, 3) := by decide +kernel
theorem dX3_ofGag_151 : decode cX3_ofGag 151 = .ok (.invokestatic 242, 3) := by decide +kernel
theorem dX3_ofGag_154 : decode cX3_ofGag 154 = .ok (.ireturn, 1) := by decide +kernel
theorem dX3_ofGag_155 : decode cX3_ofGag 155 = .ok (.aload_n 0, 1) := by decide +kernel
theorem dX3_ofGag_156 : decode cX3_ofGag 156 = .ok (.iload_n 1, 1) := by decide +kernel
theorem dX3_ofGag_157 : decode cX3_ofGag 157 = .ok (.invokevirtual 209, 3) := by decide +kernel
theorem dX3_ofGag_160 : decode cX3_ofGag 160 = .ok (.ireturn, 1) := by decide +kernel
theorem dX3_ofGag_161 : decode cX3_ofGag 161 = .ok (.aload_n 3, 1) := by decide +kernel
theorem dX3_ofGag_162 : decode cX3_ofGag 162 = .ok (.getfield 218, 3) := by decide +kernel
theorem dX3_ofGag_165 : decode cX3_ofGag 165 = .ok (.ireturn, 1) := by decide +kernel
theorem dX3_ofKind_0 : decode cX3_ofKind 0 = .ok (.iload_n 1, 1) := by decide +kernel
theorem dX3_ofKind_1 : decode cX3_ofKind 1 = .ok (.invokestatic 90, 3) := by decide +kernel
theorem dX3_ofKind_4 : decode cX3_ofKind 4 = .ok (.iload_n 2, 1) := by decide +kernel
theorem dX3_ofKind_5 : decode cX3_ofKind 5 = .ok (.ifCond .eq 12, 3) := by decide +kernel
theorem dX3_ofKind_8 : decode cX3_ofKind 8 = .ok (.aload_n 0, 1) := by decide +kernel
theorem dX3_ofKind_9 : decode cX3_ofKind 9 = .ok (.getfield 37, 3) := by decide +kernel
theorem dX3_ofKind_12 : decode cX3_ofKind 12 = .ok (.iload_n 1, 1) := by decide +kernel
theorem dX3_ofKind_13 : decode cX3_ofKind 13 = .ok (.iaload, 1) := by decide +kernel
theorem dX3_ofKind_14 : decode cX3_ofKind 14 = .ok (.goto 9, 3) := by decide +kernel
theorem dX3_ofKind_17 : decode cX3_ofKind 17 = .ok (.aload_n 0, 1) := by decide +kernel
theorem dX3_ofKind_18 : decode cX3_ofKind 18 = .ok (.getfield 41, 3) := by decide +kernel
theorem dX3_ofKind_21 : decode cX3_ofKind 21 = .ok (.iload_n 1, 1) := by decide +kernel
theorem dX3_ofKind_22 : decode cX3_ofKind 22 = .ok (.iaload, 1) := by decide +kernel
theorem dX3_ofKind_23 : decode cX3_ofKind 23 = .ok (.ireturn, 1) := by decide +kernel
theorem dX3_many_0 : decode cX3_many 0 = .ok (.iload_n 1, 1) := by decide +kernel
theorem dX3_many_1 : decode cX3_many 1 = .ok (.iconst 0, 1) := by decide +kernel
theorem dX3_many_2 : decode cX3_many 2 = .ok (.bipush 13, 2) := by decide +kernel
theorem dX3_many_4 : decode cX3_many 4 = .ok (.invokestatic 93, 3) := by decide +kernel
theorem dX3_many_7 : decode cX3_many 7 = .ok (.iload_n 1, 1) := by decide +kernel
theorem dX3_many_8 : decode cX3_many 8 = .ok (.tableswitch 136 0 12 #[68, 73, 78, 86, 91, 96, 101, 106, 111, 116, 121, 126, 131], 68) := by decide +kernel
theorem dX3_many_76 : decode cX3_many 76 = .ok (.aload_n 0, 1) := by decide +kernel
theorem dX3_many_77 : decode cX3_many 77 = .ok (.getfield 44, 3) := by decide +kernel
theorem dX3_many_80 : decode cX3_many 80 = .ok (.ireturn, 1) := by decide +kernel
theorem dX3_many_81 : decode cX3_many 81 = .ok (.aload_n 0, 1) := by decide +kernel
theorem dX3_many_82 : decode cX3_many 82 = .ok (.getfield 47, 3) := by decide +kernel
theorem dX3_many_85 : decode cX3_many 85 = .ok (.ireturn, 1) := by decide +kernel
theorem dX3_many_86 : decode cX3_many 86 = .ok (.aload_n 0, 1) := by decide +kernel
theorem dX3_many_87 : decode cX3_many 87 = .ok (.getfield 50, 3) := by decide +kernel
theorem dX3_many_90 : decode cX3_many 90 = .ok (.invokestatic 242, 3) := by decide +kernel
theorem dX3_many_93 : decode cX3_many 93 = .ok (.ireturn, 1) := by decide +kernel
theorem dX3_many_94 : decode cX3_many 94 = .ok (.aload_n 0, 1) := by decide +kernel
theorem dX3_many_95 : decode cX3_many 95 = .ok (.getfield 27, 3) := by decide +kernel
theorem dX3_many_98 : decode cX3_many 98 = .ok (.ireturn, 1) := by decide +kernel
theorem dX3_many_99 : decode cX3_many 99 = .ok (.aload_n 0, 1) := by decide +kernel
theorem dX3_many_100 : decode cX3_many 100 = .ok (.getfield 31, 3) := by decide +kernel
theorem dX3_many_103 : decode cX3_many 103 = .ok (.ireturn, 1) := by decide +kernel
theorem dX3_many_104 : decode cX3_many 104 = .ok (.aload_n 0, 1) := by decide +kernel
theorem dX3_many_105 : decode cX3_many 105 = .ok (.invokevirtual 267, 3) := by decide +kernel
theorem dX3_many_108 : decode cX3_many 108 = .ok (.ireturn, 1) := by decide +kernel
theorem dX3_many_109 : decode cX3_many 109 = .ok (.aload_n 0, 1) := by decide +kernel
theorem dX3_many_110 : decode cX3_many 110 = .ok (.getfield 34, 3) := by decide +kernel
theorem dX3_many_113 : decode cX3_many 113 = .ok (.ireturn, 1) := by decide +kernel
theorem dX3_many_114 : decode cX3_many 114 = .ok (.aload_n 0, 1) := by decide +kernel
theorem dX3_many_115 : decode cX3_many 115 = .ok (.invokevirtual 100, 3) := by decide +kernel
theorem dX3_many_118 : decode cX3_many 118 = .ok (.ireturn, 1) := by decide +kernel
theorem dX3_many_119 : decode cX3_many 119 = .ok (.aload_n 0, 1) := by decide +kernel
theorem dX3_many_120 : decode cX3_many 120 = .ok (.invokevirtual 270, 3) := by decide +kernel
theorem dX3_many_123 : decode cX3_many 123 = .ok (.ireturn, 1) := by decide +kernel
theorem dX3_many_124 : decode cX3_many 124 = .ok (.aload_n 0, 1) := by decide +kernel
theorem dX3_many_125 : decode cX3_many 125 = .ok (.invokevirtual 273, 3) := by decide +kernel
theorem dX3_many_128 : decode cX3_many 128 = .ok (.ireturn, 1) := by decide +kernel
theorem dX3_many_129 : decode cX3_many 129 = .ok (.aload_n 0, 1) := by decide +kernel
theorem dX3_many_130 : decode cX3_many 130 = .ok (.getfield 54, 3) := by decide +kernel
theorem dX3_many_133 : decode cX3_many 133 = .ok (.ireturn, 1) := by decide +kernel
theorem dX3_many_134 : decode cX3_many 134 = .ok (.aload_n 0, 1) := by decide +kernel
theorem dX3_many_135 : decode cX3_many 135 = .ok (.getfield 57, 3) := by decide +kernel
theorem dX3_many_138 : decode cX3_many 138 = .ok (.ireturn, 1) := by decide +kernel
theorem dX3_many_139 : decode cX3_many 139 = .ok (.aload_n 0, 1) := by decide +kernel
theorem dX3_many_140 : decode cX3_many 140 = .ok (.invokevirtual 276, 3) := by decide +kernel
theorem dX3_many_143 : decode cX3_many 143 = .ok (.ireturn, 1) := by decide +kernel
theorem dX3_many_144 : decode cX3_many 144 = .ok (.aload_n 0, 1) := by decide +kernel
theorem dX3_many_145 : decode cX3_many 145 = .ok (.getfield 60, 3) := by decide +kernel
theorem dX3_many_148 : decode cX3_many 148 = .ok (.ireturn, 1) := by decide +kernel
theorem dX3_mostLevel_0 : decode cX3_mostLevel 0 = .ok (.aload_n 0, 1) := by decide +kernel
theorem dX3_mostLevel_1 : decode cX3_mostLevel 1 = .ok (.iload_n 1, 1) := by decide +kernel
theorem dX3_mostLevel_2 : decode cX3_mostLevel 2 = .ok (.invokevirtual 138, 3) := by decide +kernel
theorem dX3_mostLevel_5 : decode cX3_mostLevel 5 = .ok (.aload_n 0, 1) := by decide +kernel
theorem dX3_mostLevel_6 : decode cX3_mostLevel 6 = .ok (.iload_n 1, 1) := by decide +kernel
theorem dX3_mostLevel_7 : decode cX3_mostLevel 7 = .ok (.invokevirtual 184, 3) := by decide +kernel
theorem dX3_mostLevel_10 : decode cX3_mostLevel 10 = .ok (.istore_n 2, 1) := by decide +kernel
theorem dX3_mostLevel_11 : decode cX3_mostLevel 11 = .ok (.bipush 30, 2) := by decide +kernel
theorem dX3_mostLevel_13 : decode cX3_mostLevel 13 = .ok (.istore_n 3, 1) := by decide +kernel
theorem dX3_mostLevel_14 : decode cX3_mostLevel 14 = .ok (.iload_n 3, 1) := by decide +kernel
theorem dX3_mostLevel_15 : decode cX3_mostLevel 15 = .ok (.iconst 1, 1) := by decide +kernel
theorem dX3_mostLevel_16 : decode cX3_mostLevel 16 = .ok (.if_icmp .lt 29, 3) := by decide +kernel
theorem dX3_mostLevel_19 : decode cX3_mostLevel 19 = .ok (.aload_n 0, 1) := by decide +kernel
theorem dX3_mostLevel_20 : decode cX3_mostLevel 20 = .ok (.aload_n 0, 1) := by decide +kernel
theorem dX3_mostLevel_21 : decode cX3_mostLevel 21 = .ok (.getfield 23, 3) := by decide +kernel
theorem dX3_mostLevel_24 : decode cX3_mostLevel 24 = .ok (.iload_n 1, 1) := by decide +kernel
theorem dX3_mostLevel_25 : decode cX3_mostLevel 25 = .ok (.aaload, 1) := by decide +kernel
theorem dX3_mostLevel_26 : decode cX3_mostLevel 26 = .ok (.getfield 117, 3) := by decide +kernel
theorem dX3_mostLevel_29 : decode cX3_mostLevel 29 = .ok (.iload_n 3, 1) := by decide +kernel
theorem dX3_mostLevel_30 : decode cX3_mostLevel 30 = .ok (.invokevirtual 279, 3) := by decide +kernel
theorem dX3_mostLevel_33 : decode cX3_mostLevel 33 = .ok (.iload_n 2, 1) := by decide +kernel
theorem dX3_mostLevel_34 : decode cX3_mostLevel 34 = .ok (.if_icmp .gt 5, 3) := by decide +kernel
theorem dX3_mostLevel_37 : decode cX3_mostLevel 37 = .ok (.iload_n 3, 1) := by decide +kernel
theorem dX3_mostLevel_38 : decode cX3_mostLevel 38 = .ok (.ireturn, 1) := by decide +kernel
theorem dX3_mostLevel_39 : decode cX3_mostLevel 39 = .ok (.iinc 3 (-1), 3) := by decide +kernel
theorem dX3_mostLevel_42 : decode cX3_mostLevel 42 = .ok (.goto (-28), 3) := by decide +kernel
theorem dX3_mostLevel_45 : decode cX3_mostLevel 45 = .ok (.iconst (-1), 1) := by decide +kernel
theorem dX3_mostLevel_46 : decode cX3_mostLevel 46 = .ok (.ireturn, 1) := by decide +kernel
theorem dX3_bestPerformer_0 : decode cX3_bestPerformer 0 = .ok (.aload_n 0, 1) := by decide +kernel
theorem dX3_bestPerformer_1 : decode cX3_bestPerformer 1 = .ok (.iload_n 1, 1) := by decide +kernel
theorem dX3_bestPerformer_2 : decode cX3_bestPerformer 2 = .ok (.invokevirtual 138, 3) := by decide +kernel
theorem dX3_bestPerformer_5 : decode cX3_bestPerformer 5 = .ok (.iconst (-1), 1) := by decide +kernel
theorem dX3_bestPerformer_6 : decode cX3_bestPerformer 6 = .ok (.istore_n 2, 1) := by decide +kernel
theorem dX3_bestPerformer_7 : decode cX3_bestPerformer 7 = .ok (.iconst 0, 1) := by decide +kernel
theorem dX3_bestPerformer_8 : decode cX3_bestPerformer 8 = .ok (.istore_n 3, 1) := by decide +kernel
theorem dX3_bestPerformer_9 : decode cX3_bestPerformer 9 = .ok (.iconst 0, 1) := by decide +kernel
theorem dX3_bestPerformer_10 : decode cX3_bestPerformer 10 = .ok (.istore 4, 2) := by decide +kernel
theorem dX3_bestPerformer_12 : decode cX3_bestPerformer 12 = .ok (.iload 4, 2) := by decide +kernel
theorem dX3_bestPerformer_14 : decode cX3_bestPerformer 14 = .ok (.aload_n 0, 1) := by decide +kernel
theorem dX3_bestPerformer_15 : decode cX3_bestPerformer 15 = .ok (.getfield 27, 3) := by decide +kernel
theorem dX3_bestPerformer_18 : decode cX3_bestPerformer 18 = .ok (.if_icmp .ge 69, 3) := by decide +kernel
theorem dX3_bestPerformer_21 : decode cX3_bestPerformer 21 = .ok (.aload_n 0, 1) := by decide +kernel
theorem dX3_bestPerformer_22 : decode cX3_bestPerformer 22 = .ok (.getfield 11, 3) := by decide +kernel
theorem dX3_bestPerformer_25 : decode cX3_bestPerformer 25 = .ok (.iload 4, 2) := by decide +kernel
theorem dX3_bestPerformer_27 : decode cX3_bestPerformer 27 = .ok (.aaload, 1) := by decide +kernel
theorem dX3_bestPerformer_28 : decode cX3_bestPerformer 28 = .ok (.getfield 167, 3) := by decide +kernel
theorem dX3_bestPerformer_31 : decode cX3_bestPerformer 31 = .ok (.ifCond .ne 50, 3) := by decide +kernel
theorem dX3_bestPerformer_34 : decode cX3_bestPerformer 34 = .ok (.aload_n 0, 1) := by decide +kernel
theorem dX3_bestPerformer_35 : decode cX3_bestPerformer 35 = .ok (.iload 4, 2) := by decide +kernel
theorem dX3_bestPerformer_37 : decode cX3_bestPerformer 37 = .ok (.iload_n 1, 1) := by decide +kernel
theorem dX3_bestPerformer_38 : decode cX3_bestPerformer 38 = .ok (.invokevirtual 282, 3) := by decide +kernel
theorem dX3_bestPerformer_41 : decode cX3_bestPerformer 41 = .ok (.ifCond .eq 6, 3) := by decide +kernel
theorem dX3_bestPerformer_44 : decode cX3_bestPerformer 44 = .ok (.goto 37, 3) := by decide +kernel
theorem dX3_bestPerformer_47 : decode cX3_bestPerformer 47 = .ok (.aload_n 0, 1) := by decide +kernel
theorem dX3_bestPerformer_48 : decode cX3_bestPerformer 48 = .ok (.iload 4, 2) := by decide +kernel
theorem dX3_bestPerformer_50 : decode cX3_bestPerformer 50 = .ok (.aload_n 0, 1) := by decide +kernel
theorem dX3_bestPerformer_51 : decode cX3_bestPerformer 51 = .ok (.getfield 23, 3) := by decide +kernel
theorem dX3_bestPerformer_54 : decode cX3_bestPerformer 54 = .ok (.iload_n 1, 1) := by decide +kernel
theorem dX3_bestPerformer_55 : decode cX3_bestPerformer 55 = .ok (.aaload, 1) := by decide +kernel
theorem dX3_bestPerformer_56 : decode cX3_bestPerformer 56 = .ok (.getfield 117, 3) := by decide +kernel
theorem dX3_bestPerformer_59 : decode cX3_bestPerformer 59 = .ok (.invokevirtual 285, 3) := by decide +kernel
theorem dX3_bestPerformer_62 : decode cX3_bestPerformer 62 = .ok (.istore 5, 2) := by decide +kernel
theorem dX3_bestPerformer_64 : decode cX3_bestPerformer 64 = .ok (.iload_n 2, 1) := by decide +kernel
theorem dX3_bestPerformer_65 : decode cX3_bestPerformer 65 = .ok (.iconst (-1), 1) := by decide +kernel
theorem dX3_bestPerformer_66 : decode cX3_bestPerformer 66 = .ok (.if_icmp .eq 9, 3) := by decide +kernel
theorem dX3_bestPerformer_69 : decode cX3_bestPerformer 69 = .ok (.iload 5, 2) := by decide +kernel
theorem dX3_bestPerformer_71 : decode cX3_bestPerformer 71 = .ok (.iload_n 3, 1) := by decide +kernel
theorem dX3_bestPerformer_72 : decode cX3_bestPerformer 72 = .ok (.if_icmp .le 9, 3) := by decide +kernel
theorem dX3_bestPerformer_75 : decode cX3_bestPerformer 75 = .ok (.iload 4, 2) := by decide +kernel
theorem dX3_bestPerformer_77 : decode cX3_bestPerformer 77 = .ok (.istore_n 2, 1) := by decide +kernel
theorem dX3_bestPerformer_78 : decode cX3_bestPerformer 78 = .ok (.iload 5, 2) := by decide +kernel
theorem dX3_bestPerformer_80 : decode cX3_bestPerformer 80 = .ok (.istore_n 3, 1) := by decide +kernel
theorem dX3_bestPerformer_81 : decode cX3_bestPerformer 81 = .ok (.iinc 4 1, 3) := by decide +kernel
theorem dX3_bestPerformer_84 : decode cX3_bestPerformer 84 = .ok (.goto (-72), 3) := by decide +kernel
theorem dX3_bestPerformer_87 : decode cX3_bestPerformer 87 = .ok (.iload_n 2, 1) := by decide +kernel
theorem dX3_bestPerformer_88 : decode cX3_bestPerformer 88 = .ok (.ireturn, 1) := by decide +kernel
theorem dX3_needs_0 : decode cX3_needs 0 = .ok (.aload_n 0, 1) := by decide +kernel
theorem dX3_needs_1 : decode cX3_needs 1 = .ok (.iload_n 1, 1) := by decide +kernel
theorem dX3_needs_2 : decode cX3_needs 2 = .ok (.invokevirtual 138, 3) := by decide +kernel
theorem dX3_needs_5 : decode cX3_needs 5 = .ok (.aload_n 0, 1) := by decide +kernel
theorem dX3_needs_6 : decode cX3_needs 6 = .ok (.iload_n 1, 1) := by decide +kernel
theorem dX3_needs_7 : decode cX3_needs 7 = .ok (.invokevirtual 215, 3) := by decide +kernel
theorem dX3_needs_10 : decode cX3_needs 10 = .ok (.istore_n 2, 1) := by decide +kernel
theorem dX3_needs_11 : decode cX3_needs 11 = .ok (.iconst 0, 1) := by decide +kernel
theorem dX3_needs_12 : decode cX3_needs 12 = .ok (.istore_n 3, 1) := by decide +kernel
theorem dX3_needs_13 : decode cX3_needs 13 = .ok (.iconst 0, 1) := by decide +kernel
theorem dX3_needs_14 : decode cX3_needs 14 = .ok (.istore 4, 2) := by decide +kernel
theorem dX3_needs_16 : decode cX3_needs 16 = .ok (.iload 4, 2) := by decide +kernel
theorem dX3_needs_18 : decode cX3_needs 18 = .ok (.aload_n 0, 1) := by decide +kernel
theorem dX3_needs_19 : decode cX3_needs 19 = .ok (.getfield 31, 3) := by decide +kernel
theorem dX3_needs_22 : decode cX3_needs 22 = .ok (.if_icmp .ge 57, 3) := by decide +kernel
theorem dX3_needs_25 : decode cX3_needs 25 = .ok (.iload_n 2, 1) := by decide +kernel
theorem dX3_needs_26 : decode cX3_needs 26 = .ok (.ifCond .ge 53, 3) := by decide +kernel
theorem dX3_needs_29 : decode cX3_needs 29 = .ok (.aload_n 0, 1) := by decide +kernel
theorem dX3_needs_30 : decode cX3_needs 30 = .ok (.aload_n 0, 1) := by decide +kernel
theorem dX3_needs_31 : decode cX3_needs 31 = .ok (.getfield 23, 3) := by decide +kernel
theorem dX3_needs_34 : decode cX3_needs 34 = .ok (.iload_n 1, 1) := by decide +kernel
theorem dX3_needs_35 : decode cX3_needs 35 = .ok (.aaload, 1) := by decide +kernel
theorem dX3_needs_36 : decode cX3_needs 36 = .ok (.getfield 117, 3) := by decide +kernel
theorem dX3_needs_39 : decode cX3_needs 39 = .ok (.iload_n 3, 1) := by decide +kernel
theorem dX3_needs_40 : decode cX3_needs 40 = .ok (.invokevirtual 288, 3) := by decide +kernel
theorem dX3_needs_43 : decode cX3_needs 43 = .ok (.istore 5, 2) := by decide +kernel
theorem dX3_needs_45 : decode cX3_needs 45 = .ok (.iload 5, 2) := by decide +kernel
theorem dX3_needs_47 : decode cX3_needs 47 = .ok (.iconst (-1), 1) := by decide +kernel
theorem dX3_needs_48 : decode cX3_needs 48 = .ok (.if_icmp .ne 5, 3) := by decide +kernel
theorem dX3_needs_51 : decode cX3_needs 51 = .ok (.iconst 0, 1) := by decide +kernel
theorem dX3_needs_52 : decode cX3_needs 52 = .ok (.ireturn, 1) := by decide +kernel
theorem dX3_needs_53 : decode cX3_needs 53 = .ok (.iload_n 3, 1) := by decide +kernel
theorem dX3_needs_54 : decode cX3_needs 54 = .ok (.iconst 1, 1) := by decide +kernel
theorem dX3_needs_55 : decode cX3_needs 55 = .ok (.iload 5, 2) := by decide +kernel
theorem dX3_needs_57 : decode cX3_needs 57 = .ok (.ishl, 1) := by decide +kernel
theorem dX3_needs_58 : decode cX3_needs 58 = .ok (.ior, 1) := by decide +kernel
theorem dX3_needs_59 : decode cX3_needs 59 = .ok (.istore_n 3, 1) := by decide +kernel
theorem dX3_needs_60 : decode cX3_needs 60 = .ok (.iload_n 2, 1) := by decide +kernel
theorem dX3_needs_61 : decode cX3_needs 61 = .ok (.aload_n 0, 1) := by decide +kernel
theorem dX3_needs_62 : decode cX3_needs 62 = .ok (.getfield 17, 3) := by decide +kernel
theorem dX3_needs_65 : decode cX3_needs 65 = .ok (.iload 5, 2) := by decide +kernel
theorem dX3_needs_67 : decode cX3_needs 67 = .ok (.aaload, 1) := by decide +kernel
theorem dX3_needs_68 : decode cX3_needs 68 = .ok (.getfield 126, 3) := by decide +kernel
theorem dX3_needs_71 : decode cX3_needs 71 = .ok (.iadd, 1) := by decide +kernel
theorem dX3_needs_72 : decode cX3_needs 72 = .ok (.istore_n 2, 1) := by decide +kernel
theorem dX3_needs_73 : decode cX3_needs 73 = .ok (.iinc 4 1, 3) := by decide +kernel
theorem dX3_needs_76 : decode cX3_needs 76 = .ok (.goto (-60), 3) := by decide +kernel
theorem dX3_needs_79 : decode cX3_needs 79 = .ok (.iload_n 2, 1) := by decide +kernel
theorem dX3_needs_80 : decode cX3_needs 80 = .ok (.ifCond .ge 7, 3) := by decide +kernel
theorem dX3_needs_83 : decode cX3_needs 83 = .ok (.iconst 0, 1) := by decide +kernel
theorem dX3_needs_84 : decode cX3_needs 84 = .ok (.goto 4, 3) := by decide +kernel
theorem dX3_needs_87 : decode cX3_needs 87 = .ok (.iload_n 3, 1) := by decide +kernel
theorem dX3_needs_88 : decode cX3_needs 88 = .ok (.ireturn, 1) := by decide +kernel
theorem dX3_safeFrom_0 : decode cX3_safeFrom 0 = .ok (.aload_n 0, 1) := by decide +kernel
theorem dX3_safeFrom_1 : decode cX3_safeFrom 1 = .ok (.iload_n 1, 1) := by decide +kernel
theorem dX3_safeFrom_2 : decode cX3_safeFrom 2 = .ok (.invokevirtual 138, 3) := by decide +kernel
theorem dX3_safeFrom_5 : decode cX3_safeFrom 5 = .ok (.aload_n 0, 1) := by decide +kernel
theorem dX3_safeFrom_6 : decode cX3_safeFrom 6 = .ok (.getfield 23, 3) := by decide +kernel
theorem dX3_safeFrom_9 : decode cX3_safeFrom 9 = .ok (.iload_n 1, 1) := by decide +kernel
theorem dX3_safeFrom_10 : decode cX3_safeFrom 10 = .ok (.aaload, 1) := by decide +kernel
theorem dX3_safeFrom_11 : decode cX3_safeFrom 11 = .ok (.getfield 154, 3) := by decide +kernel
theorem dX3_safeFrom_14 : decode cX3_safeFrom 14 = .ok (.istore_n 2, 1) := by decide +kernel
theorem dX3_safeFrom_15 : decode cX3_safeFrom 15 = .ok (.aload_n 0, 1) := by decide +kernel
theorem dX3_safeFrom_16 : decode cX3_safeFrom 16 = .ok (.iload_n 1, 1) := by decide +kernel
theorem dX3_safeFrom_17 : decode cX3_safeFrom 17 = .ok (.invokevirtual 261, 3) := by decide +kernel
theorem dX3_safeFrom_20 : decode cX3_safeFrom 20 = .ok (.iconst 1, 1) := by decide +kernel
theorem dX3_safeFrom_21 : decode cX3_safeFrom 21 = .ok (.iadd, 1) := by decide +kernel
theorem dX3_safeFrom_22 : decode cX3_safeFrom 22 = .ok (.istore_n 3, 1) := by decide +kernel
theorem dX3_safeFrom_23 : decode cX3_safeFrom 23 = .ok (.iload_n 3, 1) := by decide +kernel
theorem dX3_safeFrom_24 : decode cX3_safeFrom 24 = .ok (.bipush 99, 2) := by decide +kernel
theorem dX3_safeFrom_26 : decode cX3_safeFrom 26 = .ok (.if_icmp .gt 31, 3) := by decide +kernel
theorem dX3_safeFrom_29 : decode cX3_safeFrom 29 = .ok (.aload_n 0, 1) := by decide +kernel
theorem dX3_safeFrom_30 : decode cX3_safeFrom 30 = .ok (.iload_n 2, 1) := by decide +kernel
theorem dX3_safeFrom_31 : decode cX3_safeFrom 31 = .ok (.iload_n 3, 1) := by decide +kernel
theorem dX3_safeFrom_32 : decode cX3_safeFrom 32 = .ok (.isub, 1) := by decide +kernel
theorem dX3_safeFrom_33 : decode cX3_safeFrom 33 = .ok (.invokevirtual 291, 3) := by decide +kernel
theorem dX3_safeFrom_36 : decode cX3_safeFrom 36 = .ok (.ifCond .ne 13, 3) := by decide +kernel
theorem dX3_safeFrom_39 : decode cX3_safeFrom 39 = .ok (.aload_n 0, 1) := by decide +kernel
theorem dX3_safeFrom_40 : decode cX3_safeFrom 40 = .ok (.iload_n 2, 1) := by decide +kernel
theorem dX3_safeFrom_41 : decode cX3_safeFrom 41 = .ok (.iload_n 3, 1) := by decide +kernel
theorem dX3_safeFrom_42 : decode cX3_safeFrom 42 = .ok (.iadd, 1) := by decide +kernel
theorem dX3_safeFrom_43 : decode cX3_safeFrom 43 = .ok (.invokevirtual 291, 3) := by decide +kernel
theorem dX3_safeFrom_46 : decode cX3_safeFrom 46 = .ok (.ifCond .eq 5, 3) := by decide +kernel
theorem dX3_safeFrom_49 : decode cX3_safeFrom 49 = .ok (.iload_n 3, 1) := by decide +kernel
theorem dX3_safeFrom_50 : decode cX3_safeFrom 50 = .ok (.ireturn, 1) := by decide +kernel
theorem dX3_safeFrom_51 : decode cX3_safeFrom 51 = .ok (.iinc 3 1, 3) := by decide +kernel
theorem dX3_safeFrom_54 : decode cX3_safeFrom 54 = .ok (.goto (-31), 3) := by decide +kernel
theorem dX3_safeFrom_57 : decode cX3_safeFrom 57 = .ok (.iconst (-1), 1) := by decide +kernel
theorem dX3_safeFrom_58 : decode cX3_safeFrom 58 = .ok (.ireturn, 1) := by decide +kernel
theorem dX3_digest_0 : decode cX3_digest 0 = .ok (.ldc2_w 294, 3) := by decide +kernel
theorem dX3_digest_3 : decode cX3_digest 3 = .ok (.lstore_n 1, 1) := by decide +kernel
theorem dX3_digest_4 : decode cX3_digest 4 = .ok (.iconst 0, 1) := by decide +kernel
theorem dX3_digest_5 : decode cX3_digest 5 = .ok (.istore_n 3, 1) := by decide +kernel
theorem dX3_digest_6 : decode cX3_digest 6 = .ok (.iload_n 3, 1) := by decide +kernel
theorem dX3_digest_7 : decode cX3_digest 7 = .ok (.bipush 13, 2) := by decide +kernel
theorem dX3_digest_9 : decode cX3_digest 9 = .ok (.if_icmp .gt 19, 3) := by decide +kernel
theorem dX3_digest_12 : decode cX3_digest 12 = .ok (.lload_n 1, 1) := by decide +kernel
theorem dX3_digest_13 : decode cX3_digest 13 = .ok (.aload_n 0, 1) := by decide +kernel
theorem dX3_digest_14 : decode cX3_digest 14 = .ok (.iload_n 3, 1) := by decide +kernel
theorem dX3_digest_15 : decode cX3_digest 15 = .ok (.invokevirtual 296, 3) := by decide +kernel
theorem dX3_digest_18 : decode cX3_digest 18 = .ok (.invokestatic 299, 3) := by decide +kernel
theorem dX3_digest_21 : decode cX3_digest 21 = .ok (.lstore_n 1, 1) := by decide +kernel
theorem dX3_digest_22 : decode cX3_digest 22 = .ok (.iinc 3 1, 3) := by decide +kernel
theorem dX3_digest_25 : decode cX3_digest 25 = .ok (.goto (-19), 3) := by decide +kernel
theorem dX3_digest_28 : decode cX3_digest 28 = .ok (.iconst 0, 1) := by decide +kernel
theorem dX3_digest_29 : decode cX3_digest 29 = .ok (.istore_n 3, 1) := by decide +kernel
theorem dX3_digest_30 : decode cX3_digest 30 = .ok (.iload_n 3, 1) := by decide +kernel
theorem dX3_digest_31 : decode cX3_digest 31 = .ok (.aload_n 0, 1) := by decide +kernel
theorem dX3_digest_32 : decode cX3_digest 32 = .ok (.getfield 27, 3) := by decide +kernel
theorem dX3_digest_35 : decode cX3_digest 35 = .ok (.if_icmp .ge 37, 3) := by decide +kernel
theorem dX3_digest_38 : decode cX3_digest 38 = .ok (.iconst 0, 1) := by decide +kernel
theorem dX3_digest_39 : decode cX3_digest 39 = .ok (.istore 4, 2) := by decide +kernel
theorem dX3_digest_41 : decode cX3_digest 41 = .ok (.iload 4, 2) := by decide +kernel
theorem dX3_digest_43 : decode cX3_digest 43 = .ok (.bipush 11, 2) := by decide +kernel
theorem dX3_digest_45 : decode cX3_digest 45 = .ok (.if_icmp .gt 21, 3) := by decide +kernel
theorem dX3_digest_48 : decode cX3_digest 48 = .ok (.lload_n 1, 1) := by decide +kernel
theorem dX3_digest_49 : decode cX3_digest 49 = .ok (.aload_n 0, 1) := by decide +kernel
theorem dX3_digest_50 : decode cX3_digest 50 = .ok (.iload_n 3, 1) := by decide +kernel
theorem dX3_digest_51 : decode cX3_digest 51 = .ok (.iload 4, 2) := by decide +kernel
theorem dX3_digest_53 : decode cX3_digest 53 = .ok (.invokevirtual 303, 3) := by decide +kernel
theorem dX3_digest_56 : decode cX3_digest 56 = .ok (.invokestatic 299, 3) := by decide +kernel
theorem dX3_digest_59 : decode cX3_digest 59 = .ok (.lstore_n 1, 1) := by decide +kernel
theorem dX3_digest_60 : decode cX3_digest 60 = .ok (.iinc 4 1, 3) := by decide +kernel
theorem dX3_digest_63 : decode cX3_digest 63 = .ok (.goto (-22), 3) := by decide +kernel
theorem dX3_digest_66 : decode cX3_digest 66 = .ok (.iinc 3 1, 3) := by decide +kernel
theorem dX3_digest_69 : decode cX3_digest 69 = .ok (.goto (-39), 3) := by decide +kernel
theorem dX3_digest_72 : decode cX3_digest 72 = .ok (.iconst 0, 1) := by decide +kernel
theorem dX3_digest_73 : decode cX3_digest 73 = .ok (.istore_n 3, 1) := by decide +kernel
theorem dX3_digest_74 : decode cX3_digest 74 = .ok (.iload_n 3, 1) := by decide +kernel
theorem dX3_digest_75 : decode cX3_digest 75 = .ok (.aload_n 0, 1) := by decide +kernel
theorem dX3_digest_76 : decode cX3_digest 76 = .ok (.getfield 31, 3) := by decide +kernel
theorem dX3_digest_79 : decode cX3_digest 79 = .ok (.if_icmp .ge 36, 3) := by decide +kernel
theorem dX3_digest_82 : decode cX3_digest 82 = .ok (.iconst 0, 1) := by decide +kernel
theorem dX3_digest_83 : decode cX3_digest 83 = .ok (.istore 4, 2) := by decide +kernel
theorem dX3_digest_85 : decode cX3_digest 85 = .ok (.iload 4, 2) := by decide +kernel
theorem dX3_digest_87 : decode cX3_digest 87 = .ok (.iconst 5, 1) := by decide +kernel
theorem dX3_digest_88 : decode cX3_digest 88 = .ok (.if_icmp .gt 21, 3) := by decide +kernel
theorem dX3_digest_91 : decode cX3_digest 91 = .ok (.lload_n 1, 1) := by decide +kernel
theorem dX3_digest_92 : decode cX3_digest 92 = .ok (.aload_n 0, 1) := by decide +kernel
theorem dX3_digest_93 : decode cX3_digest 93 = .ok (.iload_n 3, 1) := by decide +kernel
theorem dX3_digest_94 : decode cX3_digest 94 = .ok (.iload 4, 2) := by decide +kernel
theorem dX3_digest_96 : decode cX3_digest 96 = .ok (.invokevirtual 306, 3) := by decide +kernel
theorem dX3_digest_99 : decode cX3_digest 99 = .ok (.invokestatic 299, 3) := by decide +kernel
theorem dX3_digest_102 : decode cX3_digest 102 = .ok (.lstore_n 1, 1) := by decide +kernel
theorem dX3_digest_103 : decode cX3_digest 103 = .ok (.iinc 4 1, 3) := by decide +kernel
theorem dX3_digest_106 : decode cX3_digest 106 = .ok (.goto (-21), 3) := by decide +kernel
theorem dX3_digest_109 : decode cX3_digest 109 = .ok (.iinc 3 1, 3) := by decide +kernel
theorem dX3_digest_112 : decode cX3_digest 112 = .ok (.goto (-38), 3) := by decide +kernel
theorem dX3_digest_115 : decode cX3_digest 115 = .ok (.iconst 0, 1) := by decide +kernel
theorem dX3_digest_116 : decode cX3_digest 116 = .ok (.istore_n 3, 1) := by decide +kernel
theorem dX3_digest_117 : decode cX3_digest 117 = .ok (.iload_n 3, 1) := by decide +kernel
theorem dX3_digest_118 : decode cX3_digest 118 = .ok (.aload_n 0, 1) := by decide +kernel
theorem dX3_digest_119 : decode cX3_digest 119 = .ok (.getfield 34, 3) := by decide +kernel
theorem dX3_digest_122 : decode cX3_digest 122 = .ok (.if_icmp .ge 73, 3) := by decide +kernel
theorem dX3_digest_125 : decode cX3_digest 125 = .ok (.iconst 0, 1) := by decide +kernel
theorem dX3_digest_126 : decode cX3_digest 126 = .ok (.istore 4, 2) := by decide +kernel
theorem dX3_digest_128 : decode cX3_digest 128 = .ok (.iload 4, 2) := by decide +kernel
theorem dX3_digest_130 : decode cX3_digest 130 = .ok (.bipush 13, 2) := by decide +kernel
theorem dX3_digest_132 : decode cX3_digest 132 = .ok (.if_icmp .gt 21, 3) := by decide +kernel
theorem dX3_digest_135 : decode cX3_digest 135 = .ok (.lload_n 1, 1) := by decide +kernel
theorem dX3_digest_136 : decode cX3_digest 136 = .ok (.aload_n 0, 1) := by decide +kernel
theorem dX3_digest_137 : decode cX3_digest 137 = .ok (.iload_n 3, 1) := by decide +kernel
theorem dX3_digest_138 : decode cX3_digest 138 = .ok (.iload 4, 2) := by decide +kernel
theorem dX3_digest_140 : decode cX3_digest 140 = .ok (.invokevirtual 309, 3) := by decide +kernel
theorem dX3_digest_143 : decode cX3_digest 143 = .ok (.invokestatic 299, 3) := by decide +kernel
theorem dX3_digest_146 : decode cX3_digest 146 = .ok (.lstore_n 1, 1) := by decide +kernel
theorem dX3_digest_147 : decode cX3_digest 147 = .ok (.iinc 4 1, 3) := by decide +kernel
theorem dX3_digest_150 : decode cX3_digest 150 = .ok (.goto (-22), 3) := by decide +kernel
theorem dX3_digest_153 : decode cX3_digest 153 = .ok (.lload_n 1, 1) := by decide +kernel
theorem dX3_digest_154 : decode cX3_digest 154 = .ok (.aload_n 0, 1) := by decide +kernel
theorem dX3_digest_155 : decode cX3_digest 155 = .ok (.iload_n 3, 1) := by decide +kernel
theorem dX3_digest_156 : decode cX3_digest 156 = .ok (.invokevirtual 312, 3) := by decide +kernel
theorem dX3_digest_159 : decode cX3_digest 159 = .ok (.invokestatic 299, 3) := by decide +kernel
theorem dX3_digest_162 : decode cX3_digest 162 = .ok (.aload_n 0, 1) := by decide +kernel
theorem dX3_digest_163 : decode cX3_digest 163 = .ok (.iload_n 3, 1) := by decide +kernel
theorem dX3_digest_164 : decode cX3_digest 164 = .ok (.invokevirtual 315, 3) := by decide +kernel
theorem dX3_digest_167 : decode cX3_digest 167 = .ok (.invokestatic 299, 3) := by decide +kernel
theorem dX3_digest_170 : decode cX3_digest 170 = .ok (.lstore_n 1, 1) := by decide +kernel
theorem dX3_digest_171 : decode cX3_digest 171 = .ok (.lload_n 1, 1) := by decide +kernel
theorem dX3_digest_172 : decode cX3_digest 172 = .ok (.aload_n 0, 1) := by decide +kernel
theorem dX3_digest_173 : decode cX3_digest 173 = .ok (.iload_n 3, 1) := by decide +kernel
theorem dX3_digest_174 : decode cX3_digest 174 = .ok (.invokevirtual 318, 3) := by decide +kernel
theorem dX3_digest_177 : decode cX3_digest 177 = .ok (.invokestatic 299, 3) := by decide +kernel
theorem dX3_digest_180 : decode cX3_digest 180 = .ok (.aload_n 0, 1) := by decide +kernel
theorem dX3_digest_181 : decode cX3_digest 181 = .ok (.iload_n 3, 1) := by decide +kernel
theorem dX3_digest_182 : decode cX3_digest 182 = .ok (.invokevirtual 321, 3) := by decide +kernel
theorem dX3_digest_185 : decode cX3_digest 185 = .ok (.invokestatic 299, 3) := by decide +kernel
theorem dX3_digest_188 : decode cX3_digest 188 = .ok (.lstore_n 1, 1) := by decide +kernel
theorem dX3_digest_189 : decode cX3_digest 189 = .ok (.iinc 3 1, 3) := by decide +kernel
theorem dX3_digest_192 : decode cX3_digest 192 = .ok (.goto (-75), 3) := by decide +kernel
theorem dX3_digest_195 : decode cX3_digest 195 = .ok (.iconst 0, 1) := by decide +kernel
theorem dX3_digest_196 : decode cX3_digest 196 = .ok (.istore_n 3, 1) := by decide +kernel
theorem dX3_digest_197 : decode cX3_digest 197 = .ok (.iload_n 3, 1) := by decide +kernel
theorem dX3_digest_198 : decode cX3_digest 198 = .ok (.iconst 4, 1) := by decide +kernel
theorem dX3_digest_199 : decode cX3_digest 199 = .ok (.if_icmp .ge 29, 3) := by decide +kernel
theorem dX3_digest_202 : decode cX3_digest 202 = .ok (.lload_n 1, 1) := by decide +kernel
theorem dX3_digest_203 : decode cX3_digest 203 = .ok (.aload_n 0, 1) := by decide +kernel
theorem dX3_digest_204 : decode cX3_digest 204 = .ok (.iload_n 3, 1) := by decide +kernel
theorem dX3_digest_205 : decode cX3_digest 205 = .ok (.iconst 1, 1) := by decide +kernel
theorem dX3_digest_206 : decode cX3_digest 206 = .ok (.invokevirtual 324, 3) := by decide +kernel
theorem dX3_digest_209 : decode cX3_digest 209 = .ok (.invokestatic 299, 3) := by decide +kernel
theorem dX3_digest_212 : decode cX3_digest 212 = .ok (.aload_n 0, 1) := by decide +kernel
theorem dX3_digest_213 : decode cX3_digest 213 = .ok (.iload_n 3, 1) := by decide +kernel
theorem dX3_digest_214 : decode cX3_digest 214 = .ok (.iconst 0, 1) := by decide +kernel
theorem dX3_digest_215 : decode cX3_digest 215 = .ok (.invokevirtual 324, 3) := by decide +kernel
theorem dX3_digest_218 : decode cX3_digest 218 = .ok (.invokestatic 299, 3) := by decide +kernel
theorem dX3_digest_221 : decode cX3_digest 221 = .ok (.lstore_n 1, 1) := by decide +kernel
theorem dX3_digest_222 : decode cX3_digest 222 = .ok (.iinc 3 1, 3) := by decide +kernel
theorem dX3_digest_225 : decode cX3_digest 225 = .ok (.goto (-28), 3) := by decide +kernel
theorem dX3_digest_228 : decode cX3_digest 228 = .ok (.lload_n 1, 1) := by decide +kernel
theorem dX3_digest_229 : decode cX3_digest 229 = .ok (.lreturn, 1) := by decide +kernel
theorem dX3_mixed_0 : decode cX3_mixed 0 = .ok (.lload_n 0, 1) := by decide +kernel
theorem dX3_mixed_1 : decode cX3_mixed 1 = .ok (.ldc2_w 328, 3) := by decide +kernel
theorem dX3_mixed_4 : decode cX3_mixed 4 = .ok (.lmul, 1) := by decide +kernel
theorem dX3_mixed_5 : decode cX3_mixed 5 = .ok (.iload_n 2, 1) := by decide +kernel
theorem dX3_mixed_6 : decode cX3_mixed 6 = .ok (.i2l, 1) := by decide +kernel
theorem dX3_mixed_7 : decode cX3_mixed 7 = .ok (.ladd, 1) := by decide +kernel
theorem dX3_mixed_8 : decode cX3_mixed 8 = .ok (.lreturn, 1) := by decide +kernel
theorem dX3_requirePerson_0 : decode cX3_requirePerson 0 = .ok (.iload_n 1, 1) := by decide +kernel
theorem dX3_requirePerson_1 : decode cX3_requirePerson 1 = .ok (.ifCond .lt 11, 3) := by decide +kernel
theorem dX3_requirePerson_4 : decode cX3_requirePerson 4 = .ok (.iload_n 1, 1) := by decide +kernel
theorem dX3_requirePerson_5 : decode cX3_requirePerson 5 = .ok (.aload_n 0, 1) := by decide +kernel
theorem dX3_requirePerson_6 : decode cX3_requirePerson 6 = .ok (.getfield 27, 3) := by decide +kernel
theorem dX3_requirePerson_9 : decode cX3_requirePerson 9 = .ok (.if_icmp .lt 14, 3) := by decide +kernel
theorem dX3_requirePerson_12 : decode cX3_requirePerson 12 = .ok (.new 194, 3) := by decide +kernel
theorem dX3_requirePerson_15 : decode cX3_requirePerson 15 = .ok (.dup, 1) := by decide +kernel
theorem dX3_requirePerson_16 : decode cX3_requirePerson 16 = .ok (.ldc_w 330, 3) := by decide +kernel
theorem dX3_requirePerson_19 : decode cX3_requirePerson 19 = .ok (.invokespecial 198, 3) := by decide +kernel
theorem dX3_requirePerson_22 : decode cX3_requirePerson 22 = .ok (.athrow, 1) := by decide +kernel
theorem dX3_requirePerson_23 : decode cX3_requirePerson 23 = .ok (.return_, 1) := by decide +kernel
theorem dX3_requirePiece_0 : decode cX3_requirePiece 0 = .ok (.iload_n 1, 1) := by decide +kernel
theorem dX3_requirePiece_1 : decode cX3_requirePiece 1 = .ok (.ifCond .lt 11, 3) := by decide +kernel
theorem dX3_requirePiece_4 : decode cX3_requirePiece 4 = .ok (.iload_n 1, 1) := by decide +kernel
theorem dX3_requirePiece_5 : decode cX3_requirePiece 5 = .ok (.aload_n 0, 1) := by decide +kernel
theorem dX3_requirePiece_6 : decode cX3_requirePiece 6 = .ok (.getfield 31, 3) := by decide +kernel
theorem dX3_requirePiece_9 : decode cX3_requirePiece 9 = .ok (.if_icmp .lt 14, 3) := by decide +kernel
theorem dX3_requirePiece_12 : decode cX3_requirePiece 12 = .ok (.new 194, 3) := by decide +kernel
theorem dX3_requirePiece_15 : decode cX3_requirePiece 15 = .ok (.dup, 1) := by decide +kernel
theorem dX3_requirePiece_16 : decode cX3_requirePiece 16 = .ok (.ldc_w 332, 3) := by decide +kernel
theorem dX3_requirePiece_19 : decode cX3_requirePiece 19 = .ok (.invokespecial 198, 3) := by decide +kernel
theorem dX3_requirePiece_22 : decode cX3_requirePiece 22 = .ok (.athrow, 1) := by decide +kernel
theorem dX3_requirePiece_23 : decode cX3_requirePiece 23 = .ok (.return_, 1) := by decide +kernel
theorem dX3_requireGag_0 : decode cX3_requireGag 0 = .ok (.iload_n 1, 1) := by decide +kernel
theorem dX3_requireGag_1 : decode cX3_requireGag 1 = .ok (.ifCond .lt 11, 3) := by decide +kernel
theorem dX3_requireGag_4 : decode cX3_requireGag 4 = .ok (.iload_n 1, 1) := by decide +kernel
theorem dX3_requireGag_5 : decode cX3_requireGag 5 = .ok (.aload_n 0, 1) := by decide +kernel
theorem dX3_requireGag_6 : decode cX3_requireGag 6 = .ok (.getfield 34, 3) := by decide +kernel
theorem dX3_requireGag_9 : decode cX3_requireGag 9 = .ok (.if_icmp .lt 14, 3) := by decide +kernel
theorem dX3_requireGag_12 : decode cX3_requireGag 12 = .ok (.new 194, 3) := by decide +kernel
theorem dX3_requireGag_15 : decode cX3_requireGag 15 = .ok (.dup, 1) := by decide +kernel
theorem dX3_requireGag_16 : decode cX3_requireGag 16 = .ok (.ldc_w 334, 3) := by decide +kernel
theorem dX3_requireGag_19 : decode cX3_requireGag 19 = .ok (.invokespecial 198, 3) := by decide +kernel
theorem dX3_requireGag_22 : decode cX3_requireGag 22 = .ok (.athrow, 1) := by decide +kernel
theorem dX3_requireGag_23 : decode cX3_requireGag 23 = .ok (.return_, 1) := by decide +kernel
theorem dX3_requireKind_0 : decode cX3_requireKind 0 = .ok (.iload_n 0, 1) := by decide +kernel
theorem dX3_requireKind_1 : decode cX3_requireKind 1 = .ok (.ifCond .lt 8, 3) := by decide +kernel
theorem dX3_requireKind_4 : decode cX3_requireKind 4 = .ok (.iload_n 0, 1) := by decide +kernel
theorem dX3_requireKind_5 : decode cX3_requireKind 5 = .ok (.iconst 4, 1) := by decide +kernel
theorem dX3_requireKind_6 : decode cX3_requireKind 6 = .ok (.if_icmp .lt 14, 3) := by decide +kernel
theorem dX3_requireKind_9 : decode cX3_requireKind 9 = .ok (.new 194, 3) := by decide +kernel
theorem dX3_requireKind_12 : decode cX3_requireKind 12 = .ok (.dup, 1) := by decide +kernel
theorem dX3_requireKind_13 : decode cX3_requireKind 13 = .ok (.ldc_w 336, 3) := by decide +kernel
theorem dX3_requireKind_16 : decode cX3_requireKind 16 = .ok (.invokespecial 198, 3) := by decide +kernel
theorem dX3_requireKind_19 : decode cX3_requireKind 19 = .ok (.athrow, 1) := by decide +kernel
theorem dX3_requireKind_20 : decode cX3_requireKind 20 = .ok (.return_, 1) := by decide +kernel
theorem dX3_requireRange_0 : decode cX3_requireRange 0 = .ok (.iload_n 0, 1) := by decide +kernel
theorem dX3_requireRange_1 : decode cX3_requireRange 1 = .ok (.iload_n 1, 1) := by decide +kernel
theorem dX3_requireRange_2 : decode cX3_requireRange 2 = .ok (.if_icmp .lt 8, 3) := by decide +kernel
theorem dX3_requireRange_5 : decode cX3_requireRange 5 = .ok (.iload_n 0, 1) := by decide +kernel
theorem dX3_requireRange_6 : decode cX3_requireRange 6 = .ok (.iload_n 2, 1) := by decide +kernel
theorem dX3_requireRange_7 : decode cX3_requireRange 7 = .ok (.if_icmp .le 14, 3) := by decide +kernel
theorem dX3_requireRange_10 : decode cX3_requireRange 10 = .ok (.new 338, 3) := by decide +kernel
theorem dX3_requireRange_13 : decode cX3_requireRange 13 = .ok (.dup, 1) := by decide +kernel
theorem dX3_requireRange_14 : decode cX3_requireRange 14 = .ok (.ldc_w 340, 3) := by decide +kernel
theorem dX3_requireRange_17 : decode cX3_requireRange 17 = .ok (.invokespecial 342, 3) := by decide +kernel
theorem dX3_requireRange_20 : decode cX3_requireRange 20 = .ok (.athrow, 1) := by decide +kernel
theorem dX3_requireRange_21 : decode cX3_requireRange 21 = .ok (.return_, 1) := by decide +kernel
theorem dX3_requireArmed_0 : decode cX3_requireArmed 0 = .ok (.aload_n 0, 1) := by decide +kernel
theorem dX3_requireArmed_1 : decode cX3_requireArmed 1 = .ok (.getfield 23, 3) := by decide +kernel
theorem dX3_requireArmed_4 : decode cX3_requireArmed 4 = .ok (.iload_n 1, 1) := by decide +kernel
theorem dX3_requireArmed_5 : decode cX3_requireArmed 5 = .ok (.aaload, 1) := by decide +kernel
theorem dX3_requireArmed_6 : decode cX3_requireArmed 6 = .ok (.getfield 107, 3) := by decide +kernel
theorem dX3_requireArmed_9 : decode cX3_requireArmed 9 = .ok (.ifCond .ne 14, 3) := by decide +kernel
theorem dX3_requireArmed_12 : decode cX3_requireArmed 12 = .ok (.new 70, 3) := by decide +kernel
theorem dX3_requireArmed_15 : decode cX3_requireArmed 15 = .ok (.dup, 1) := by decide +kernel
theorem dX3_requireArmed_16 : decode cX3_requireArmed 16 = .ok (.ldc_w 343, 3) := by decide +kernel
theorem dX3_requireArmed_19 : decode cX3_requireArmed 19 = .ok (.invokespecial 74, 3) := by decide +kernel
theorem dX3_requireArmed_22 : decode cX3_requireArmed 22 = .ok (.athrow, 1) := by decide +kernel
theorem dX3_requireArmed_23 : decode cX3_requireArmed 23 = .ok (.return_, 1) := by decide +kernel
theorem dX3_energyAt_0 : decode cX3_energyAt 0 = .ok (.iload_n 1, 1) := by decide +kernel
theorem dX3_energyAt_1 : decode cX3_energyAt 1 = .ok (.tableswitch 50 0 2 #[27, 32, 38], 27) := by decide +kernel
theorem dX3_energyAt_28 : decode cX3_energyAt 28 = .ok (.bipush 10, 2) := by decide +kernel
theorem dX3_energyAt_30 : decode cX3_energyAt 30 = .ok (.iload_n 2, 1) := by decide +kernel
theorem dX3_energyAt_31 : decode cX3_energyAt 31 = .ok (.imul, 1) := by decide +kernel
theorem dX3_energyAt_32 : decode cX3_energyAt 32 = .ok (.ireturn, 1) := by decide +kernel
theorem dX3_energyAt_33 : decode cX3_energyAt 33 = .ok (.iload_n 2, 1) := by decide +kernel
theorem dX3_energyAt_34 : decode cX3_energyAt 34 = .ok (.iload_n 2, 1) := by decide +kernel
theorem dX3_energyAt_35 : decode cX3_energyAt 35 = .ok (.imul, 1) := by decide +kernel
theorem dX3_energyAt_36 : decode cX3_energyAt 36 = .ok (.iconst 2, 1) := by decide +kernel
theorem dX3_energyAt_37 : decode cX3_energyAt 37 = .ok (.idiv, 1) := by decide +kernel
theorem dX3_energyAt_38 : decode cX3_energyAt 38 = .ok (.ireturn, 1) := by decide +kernel
theorem dX3_energyAt_39 : decode cX3_energyAt 39 = .ok (.bipush 6, 2) := by decide +kernel
theorem dX3_energyAt_41 : decode cX3_energyAt 41 = .ok (.iload_n 2, 1) := by decide +kernel
theorem dX3_energyAt_42 : decode cX3_energyAt 42 = .ok (.imul, 1) := by decide +kernel
theorem dX3_energyAt_43 : decode cX3_energyAt 43 = .ok (.aload_n 0, 1) := by decide +kernel
theorem dX3_energyAt_44 : decode cX3_energyAt 44 = .ok (.getfield 47, 3) := by decide +kernel
theorem dX3_energyAt_47 : decode cX3_energyAt 47 = .ok (.iload_n 2, 1) := by decide +kernel
theorem dX3_energyAt_48 : decode cX3_energyAt 48 = .ok (.imul, 1) := by decide +kernel
theorem dX3_energyAt_49 : decode cX3_energyAt 49 = .ok (.iadd, 1) := by decide +kernel
theorem dX3_energyAt_50 : decode cX3_energyAt 50 = .ok (.ireturn, 1) := by decide +kernel
theorem dX3_energyAt_51 : decode cX3_energyAt 51 = .ok (.iconst 5, 1) := by decide +kernel
theorem dX3_energyAt_52 : decode cX3_energyAt 52 = .ok (.iload_n 2, 1) := by decide +kernel
theorem dX3_energyAt_53 : decode cX3_energyAt 53 = .ok (.imul, 1) := by decide +kernel
theorem dX3_energyAt_54 : decode cX3_energyAt 54 = .ok (.ireturn, 1) := by decide +kernel
theorem dX3_energyOf_0 : decode cX3_energyOf 0 = .ok (.aload_n 0, 1) := by decide +kernel
theorem dX3_energyOf_1 : decode cX3_energyOf 1 = .ok (.aload_n 0, 1) := by decide +kernel
theorem dX3_energyOf_2 : decode cX3_energyOf 2 = .ok (.getfield 23, 3) := by decide +kernel
theorem dX3_energyOf_5 : decode cX3_energyOf 5 = .ok (.iload_n 1, 1) := by decide +kernel
theorem dX3_energyOf_6 : decode cX3_energyOf 6 = .ok (.aaload, 1) := by decide +kernel
theorem dX3_energyOf_7 : decode cX3_energyOf 7 = .ok (.getfield 117, 3) := by decide +kernel
theorem dX3_energyOf_10 : decode cX3_energyOf 10 = .ok (.aload_n 0, 1) := by decide +kernel
theorem dX3_energyOf_11 : decode cX3_energyOf 11 = .ok (.getfield 23, 3) := by decide +kernel
theorem dX3_energyOf_14 : decode cX3_energyOf 14 = .ok (.iload_n 1, 1) := by decide +kernel
theorem dX3_energyOf_15 : decode cX3_energyOf 15 = .ok (.aaload, 1) := by decide +kernel
theorem dX3_energyOf_16 : decode cX3_energyOf 16 = .ok (.getfield 155, 3) := by decide +kernel
theorem dX3_energyOf_19 : decode cX3_energyOf 19 = .ok (.invokevirtual 279, 3) := by decide +kernel
theorem dX3_energyOf_22 : decode cX3_energyOf 22 = .ok (.ireturn, 1) := by decide +kernel
theorem dX3_ringOf_0 : decode cX3_ringOf 0 = .ok (.aload_n 0, 1) := by decide +kernel
theorem dX3_ringOf_1 : decode cX3_ringOf 1 = .ok (.aload_n 0, 1) := by decide +kernel
theorem dX3_ringOf_2 : decode cX3_ringOf 2 = .ok (.getfield 23, 3) := by decide +kernel
theorem dX3_ringOf_5 : decode cX3_ringOf 5 = .ok (.iload_n 1, 1) := by decide +kernel
theorem dX3_ringOf_6 : decode cX3_ringOf 6 = .ok (.aaload, 1) := by decide +kernel
theorem dX3_ringOf_7 : decode cX3_ringOf 7 = .ok (.getfield 117, 3) := by decide +kernel
theorem dX3_ringOf_10 : decode cX3_ringOf 10 = .ok (.aload_n 0, 1) := by decide +kernel
theorem dX3_ringOf_11 : decode cX3_ringOf 11 = .ok (.getfield 23, 3) := by decide +kernel
theorem dX3_ringOf_14 : decode cX3_ringOf 14 = .ok (.iload_n 1, 1) := by decide +kernel
theorem dX3_ringOf_15 : decode cX3_ringOf 15 = .ok (.aaload, 1) := by decide +kernel
theorem dX3_ringOf_16 : decode cX3_ringOf 16 = .ok (.getfield 155, 3) := by decide +kernel
theorem dX3_ringOf_19 : decode cX3_ringOf 19 = .ok (.invokevirtual 279, 3) := by decide +kernel
theorem dX3_ringOf_22 : decode cX3_ringOf 22 = .ok (.bipush 15, 2) := by decide +kernel
theorem dX3_ringOf_24 : decode cX3_ringOf 24 = .ok (.idiv, 1) := by decide +kernel
theorem dX3_ringOf_25 : decode cX3_ringOf 25 = .ok (.ireturn, 1) := by decide +kernel
theorem dX3_guardOf_0 : decode cX3_guardOf 0 = .ok (.iconst 0, 1) := by decide +kernel
theorem dX3_guardOf_1 : decode cX3_guardOf 1 = .ok (.istore_n 2, 1) := by decide +kernel
theorem dX3_guardOf_2 : decode cX3_guardOf 2 = .ok (.iconst 0, 1) := by decide +kernel
theorem dX3_guardOf_3 : decode cX3_guardOf 3 = .ok (.istore_n 3, 1) := by decide +kernel
theorem dX3_guardOf_4 : decode cX3_guardOf 4 = .ok (.iload_n 3, 1) := by decide +kernel
theorem dX3_guardOf_5 : decode cX3_guardOf 5 = .ok (.aload_n 0, 1) := by decide +kernel
theorem dX3_guardOf_6 : decode cX3_guardOf 6 = .ok (.getfield 31, 3) := by decide +kernel
theorem dX3_guardOf_9 : decode cX3_guardOf 9 = .ok (.if_icmp .ge 30, 3) := by decide +kernel
theorem dX3_guardOf_12 : decode cX3_guardOf 12 = .ok (.aload_n 0, 1) := by decide +kernel
theorem dX3_guardOf_13 : decode cX3_guardOf 13 = .ok (.iload_n 3, 1) := by decide +kernel
theorem dX3_guardOf_14 : decode cX3_guardOf 14 = .ok (.iload_n 1, 1) := by decide +kernel
theorem dX3_guardOf_15 : decode cX3_guardOf 15 = .ok (.invokevirtual 345, 3) := by decide +kernel
theorem dX3_guardOf_18 : decode cX3_guardOf 18 = .ok (.ifCond .eq 15, 3) := by decide +kernel
theorem dX3_guardOf_21 : decode cX3_guardOf 21 = .ok (.iload_n 2, 1) := by decide +kernel
theorem dX3_guardOf_22 : decode cX3_guardOf 22 = .ok (.aload_n 0, 1) := by decide +kernel
theorem dX3_guardOf_23 : decode cX3_guardOf 23 = .ok (.getfield 17, 3) := by decide +kernel
theorem dX3_guardOf_26 : decode cX3_guardOf 26 = .ok (.iload_n 3, 1) := by decide +kernel
theorem dX3_guardOf_27 : decode cX3_guardOf 27 = .ok (.aaload, 1) := by decide +kernel
theorem dX3_guardOf_28 : decode cX3_guardOf 28 = .ok (.getfield 126, 3) := by decide +kernel
theorem dX3_guardOf_31 : decode cX3_guardOf 31 = .ok (.iadd, 1) := by decide +kernel
theorem dX3_guardOf_32 : decode cX3_guardOf 32 = .ok (.istore_n 2, 1) := by decide +kernel
theorem dX3_guardOf_33 : decode cX3_guardOf 33 = .ok (.iinc 3 1, 3) := by decide +kernel
theorem dX3_guardOf_36 : decode cX3_guardOf 36 = .ok (.goto (-32), 3) := by decide +kernel
theorem dX3_guardOf_39 : decode cX3_guardOf 39 = .ok (.iload_n 2, 1) := by decide +kernel
theorem dX3_guardOf_40 : decode cX3_guardOf 40 = .ok (.ireturn, 1) := by decide +kernel
theorem dX3_guards_0 : decode cX3_guards 0 = .ok (.aload_n 0, 1) := by decide +kernel
theorem dX3_guards_1 : decode cX3_guards 1 = .ok (.getfield 17, 3) := by decide +kernel
theorem dX3_guards_4 : decode cX3_guards 4 = .ok (.iload_n 1, 1) := by decide +kernel
theorem dX3_guards_5 : decode cX3_guards 5 = .ok (.aaload, 1) := by decide +kernel
theorem dX3_guards_6 : decode cX3_guards 6 = .ok (.getfield 141, 3) := by decide +kernel
theorem dX3_guards_9 : decode cX3_guards 9 = .ok (.iload_n 2, 1) := by decide +kernel
theorem dX3_guards_10 : decode cX3_guards 10 = .ok (.if_icmp .ne 36, 3) := by decide +kernel
theorem dX3_guards_13 : decode cX3_guards 13 = .ok (.aload_n 0, 1) := by decide +kernel
theorem dX3_guards_14 : decode cX3_guards 14 = .ok (.getfield 17, 3) := by decide +kernel
theorem dX3_guards_17 : decode cX3_guards 17 = .ok (.iload_n 1, 1) := by decide +kernel
theorem dX3_guards_18 : decode cX3_guards 18 = .ok (.aaload, 1) := by decide +kernel
theorem dX3_guards_19 : decode cX3_guards 19 = .ok (.getfield 125, 3) := by decide +kernel
theorem dX3_guards_22 : decode cX3_guards 22 = .ok (.aload_n 0, 1) := by decide +kernel
theorem dX3_guards_23 : decode cX3_guards 23 = .ok (.getfield 23, 3) := by decide +kernel
theorem dX3_guards_26 : decode cX3_guards 26 = .ok (.iload_n 2, 1) := by decide +kernel
theorem dX3_guards_27 : decode cX3_guards 27 = .ok (.aaload, 1) := by decide +kernel
theorem dX3_guards_28 : decode cX3_guards 28 = .ok (.getfield 117, 3) := by decide +kernel
theorem dX3_guards_31 : decode cX3_guards 31 = .ok (.if_icmp .ne 15, 3) := by decide +kernel
theorem dX3_guards_34 : decode cX3_guards 34 = .ok (.aload_n 0, 1) := by decide +kernel
theorem dX3_guards_35 : decode cX3_guards 35 = .ok (.iload_n 1, 1) := by decide +kernel
theorem dX3_guards_36 : decode cX3_guards 36 = .ok (.invokevirtual 258, 3) := by decide +kernel
theorem dX3_guards_39 : decode cX3_guards 39 = .ok (.ifCond .eq 7, 3) := by decide +kernel
theorem dX3_guards_42 : decode cX3_guards 42 = .ok (.iconst 1, 1) := by decide +kernel
theorem dX3_guards_43 : decode cX3_guards 43 = .ok (.goto 4, 3) := by decide +kernel
theorem dX3_guards_46 : decode cX3_guards 46 = .ok (.iconst 0, 1) := by decide +kernel
theorem dX3_guards_47 : decode cX3_guards 47 = .ok (.ireturn, 1) := by decide +kernel
theorem dX3_isFit_0 : decode cX3_isFit 0 = .ok (.aload_n 0, 1) := by decide +kernel
theorem dX3_isFit_1 : decode cX3_isFit 1 = .ok (.getfield 17, 3) := by decide +kernel
theorem dX3_isFit_4 : decode cX3_isFit 4 = .ok (.iload_n 1, 1) := by decide +kernel
theorem dX3_isFit_5 : decode cX3_isFit 5 = .ok (.aaload, 1) := by decide +kernel
theorem dX3_isFit_6 : decode cX3_isFit 6 = .ok (.astore_n 2, 1) := by decide +kernel
theorem dX3_isFit_7 : decode cX3_isFit 7 = .ok (.aload_n 2, 1) := by decide +kernel
theorem dX3_isFit_8 : decode cX3_isFit 8 = .ok (.getfield 129, 3) := by decide +kernel
theorem dX3_isFit_11 : decode cX3_isFit 11 = .ok (.ifCond .le 28, 3) := by decide +kernel
theorem dX3_isFit_14 : decode cX3_isFit 14 = .ok (.aload_n 2, 1) := by decide +kernel
theorem dX3_isFit_15 : decode cX3_isFit 15 = .ok (.getfield 135, 3) := by decide +kernel
theorem dX3_isFit_18 : decode cX3_isFit 18 = .ok (.iconst (-1), 1) := by decide +kernel
theorem dX3_isFit_19 : decode cX3_isFit 19 = .ok (.if_icmp .eq 20, 3) := by decide +kernel
theorem dX3_isFit_22 : decode cX3_isFit 22 = .ok (.aload_n 0, 1) := by decide +kernel
theorem dX3_isFit_23 : decode cX3_isFit 23 = .ok (.getfield 44, 3) := by decide +kernel
theorem dX3_isFit_26 : decode cX3_isFit 26 = .ok (.aload_n 2, 1) := by decide +kernel
theorem dX3_isFit_27 : decode cX3_isFit 27 = .ok (.getfield 135, 3) := by decide +kernel
theorem dX3_isFit_30 : decode cX3_isFit 30 = .ok (.isub, 1) := by decide +kernel
theorem dX3_isFit_31 : decode cX3_isFit 31 = .ok (.iconst 2, 1) := by decide +kernel
theorem dX3_isFit_32 : decode cX3_isFit 32 = .ok (.if_icmp .gt 7, 3) := by decide +kernel
theorem dX3_isFit_35 : decode cX3_isFit 35 = .ok (.iconst 1, 1) := by decide +kernel
theorem dX3_isFit_36 : decode cX3_isFit 36 = .ok (.goto 4, 3) := by decide +kernel
theorem dX3_isFit_39 : decode cX3_isFit 39 = .ok (.iconst 0, 1) := by decide +kernel
theorem dX3_isFit_40 : decode cX3_isFit 40 = .ok (.ireturn, 1) := by decide +kernel
theorem dX3_marginOf_0 : decode cX3_marginOf 0 = .ok (.aload_n 0, 1) := by decide +kernel
theorem dX3_marginOf_1 : decode cX3_marginOf 1 = .ok (.iload_n 1, 1) := by decide +kernel
theorem dX3_marginOf_2 : decode cX3_marginOf 2 = .ok (.invokevirtual 264, 3) := by decide +kernel
theorem dX3_marginOf_5 : decode cX3_marginOf 5 = .ok (.aload_n 0, 1) := by decide +kernel
theorem dX3_marginOf_6 : decode cX3_marginOf 6 = .ok (.aload_n 0, 1) := by decide +kernel
theorem dX3_marginOf_7 : decode cX3_marginOf 7 = .ok (.getfield 23, 3) := by decide +kernel
theorem dX3_marginOf_10 : decode cX3_marginOf 10 = .ok (.iload_n 1, 1) := by decide +kernel
theorem dX3_marginOf_11 : decode cX3_marginOf 11 = .ok (.aaload, 1) := by decide +kernel
theorem dX3_marginOf_12 : decode cX3_marginOf 12 = .ok (.getfield 151, 3) := by decide +kernel
theorem dX3_marginOf_15 : decode cX3_marginOf 15 = .ok (.aload_n 0, 1) := by decide +kernel
theorem dX3_marginOf_16 : decode cX3_marginOf 16 = .ok (.getfield 23, 3) := by decide +kernel
theorem dX3_marginOf_19 : decode cX3_marginOf 19 = .ok (.iload_n 1, 1) := by decide +kernel
theorem dX3_marginOf_20 : decode cX3_marginOf 20 = .ok (.aaload, 1) := by decide +kernel
theorem dX3_marginOf_21 : decode cX3_marginOf 21 = .ok (.getfield 117, 3) := by decide +kernel
theorem dX3_marginOf_24 : decode cX3_marginOf 24 = .ok (.invokevirtual 285, 3) := by decide +kernel
theorem dX3_marginOf_27 : decode cX3_marginOf 27 = .ok (.iadd, 1) := by decide +kernel
theorem dX3_marginOf_28 : decode cX3_marginOf 28 = .ok (.aload_n 0, 1) := by decide +kernel
theorem dX3_marginOf_29 : decode cX3_marginOf 29 = .ok (.iload_n 1, 1) := by decide +kernel
theorem dX3_marginOf_30 : decode cX3_marginOf 30 = .ok (.invokevirtual 181, 3) := by decide +kernel
theorem dX3_marginOf_33 : decode cX3_marginOf 33 = .ok (.isub, 1) := by decide +kernel
theorem dX3_marginOf_34 : decode cX3_marginOf 34 = .ok (.ireturn, 1) := by decide +kernel
theorem dX3_marginWithoutEnergy_0 : decode cX3_marginWithoutEnergy 0 = .ok (.aload_n 0, 1) := by decide +kernel
theorem dX3_marginWithoutEnergy_1 : decode cX3_marginWithoutEnergy 1 = .ok (.iload_n 1, 1) := by decide +kernel
theorem dX3_marginWithoutEnergy_2 : decode cX3_marginWithoutEnergy 2 = .ok (.invokevirtual 215, 3) := by decide +kernel
theorem dX3_marginWithoutEnergy_5 : decode cX3_marginWithoutEnergy 5 = .ok (.aload_n 0, 1) := by decide +kernel
theorem dX3_marginWithoutEnergy_6 : decode cX3_marginWithoutEnergy 6 = .ok (.iload_n 1, 1) := by decide +kernel
theorem dX3_marginWithoutEnergy_7 : decode cX3_marginWithoutEnergy 7 = .ok (.invokevirtual 181, 3) := by decide +kernel
theorem dX3_marginWithoutEnergy_10 : decode cX3_marginWithoutEnergy 10 = .ok (.iadd, 1) := by decide +kernel
theorem dX3_marginWithoutEnergy_11 : decode cX3_marginWithoutEnergy 11 = .ok (.ireturn, 1) := by decide +kernel
theorem dX3_performersShare_0 : decode cX3_performersShare 0 = .ok (.aload_n 0, 1) := by decide +kernel
theorem dX3_performersShare_1 : decode cX3_performersShare 1 = .ok (.getfield 11, 3) := by decide +kernel
theorem dX3_performersShare_4 : decode cX3_performersShare 4 = .ok (.iload_n 1, 1) := by decide +kernel
theorem dX3_performersShare_5 : decode cX3_performersShare 5 = .ok (.aaload, 1) := by decide +kernel
theorem dX3_performersShare_6 : decode cX3_performersShare 6 = .ok (.astore_n 3, 1) := by decide +kernel
theorem dX3_performersShare_7 : decode cX3_performersShare 7 = .ok (.iconst 5, 1) := by decide +kernel
theorem dX3_performersShare_8 : decode cX3_performersShare 8 = .ok (.aload_n 3, 1) := by decide +kernel
theorem dX3_performersShare_9 : decode cX3_performersShare 9 = .ok (.getfield 97, 3) := by decide +kernel
theorem dX3_performersShare_12 : decode cX3_performersShare 12 = .ok (.iload_n 2, 1) := by decide +kernel
theorem dX3_performersShare_13 : decode cX3_performersShare 13 = .ok (.iaload, 1) := by decide +kernel
theorem dX3_performersShare_14 : decode cX3_performersShare 14 = .ok (.imul, 1) := by decide +kernel
theorem dX3_performersShare_15 : decode cX3_performersShare 15 = .ok (.bipush 20, 2) := by decide +kernel
theorem dX3_performersShare_17 : decode cX3_performersShare 17 = .ok (.iadd, 1) := by decide +kernel
theorem dX3_performersShare_18 : decode cX3_performersShare 18 = .ok (.aload_n 3, 1) := by decide +kernel
theorem dX3_performersShare_19 : decode cX3_performersShare 19 = .ok (.getfield 246, 3) := by decide +kernel
theorem dX3_performersShare_22 : decode cX3_performersShare 22 = .ok (.iconst 2, 1) := by decide +kernel
theorem dX3_performersShare_23 : decode cX3_performersShare 23 = .ok (.idiv, 1) := by decide +kernel
theorem dX3_performersShare_24 : decode cX3_performersShare 24 = .ok (.isub, 1) := by decide +kernel
theorem dX3_performersShare_25 : decode cX3_performersShare 25 = .ok (.iconst 5, 1) := by decide +kernel
theorem dX3_performersShare_26 : decode cX3_performersShare 26 = .ok (.aload_n 0, 1) := by decide +kernel
theorem dX3_performersShare_27 : decode cX3_performersShare 27 = .ok (.getfield 37, 3) := by decide +kernel
theorem dX3_performersShare_30 : decode cX3_performersShare 30 = .ok (.iload_n 2, 1) := by decide +kernel
theorem dX3_performersShare_31 : decode cX3_performersShare 31 = .ok (.iaload, 1) := by decide +kernel
theorem dX3_performersShare_32 : decode cX3_performersShare 32 = .ok (.imul, 1) := by decide +kernel
theorem dX3_performersShare_33 : decode cX3_performersShare 33 = .ok (.isub, 1) := by decide +kernel
theorem dX3_performersShare_34 : decode cX3_performersShare 34 = .ok (.ireturn, 1) := by decide +kernel
theorem dX3_distance_0 : decode cX3_distance 0 = .ok (.iload_n 0, 1) := by decide +kernel
theorem dX3_distance_1 : decode cX3_distance 1 = .ok (.iload_n 1, 1) := by decide +kernel
theorem dX3_distance_2 : decode cX3_distance 2 = .ok (.isub, 1) := by decide +kernel
theorem dX3_distance_3 : decode cX3_distance 3 = .ok (.invokestatic 348, 3) := by decide +kernel
theorem dX3_distance_6 : decode cX3_distance 6 = .ok (.ireturn, 1) := by decide +kernel
theorem dX3_standsInRing_0 : decode cX3_standsInRing 0 = .ok (.iload_n 1, 1) := by decide +kernel
theorem dX3_standsInRing_1 : decode cX3_standsInRing 1 = .ok (.aload_n 0, 1) := by decide +kernel
theorem dX3_standsInRing_2 : decode cX3_standsInRing 2 = .ok (.getfield 23, 3) := by decide +kernel
theorem dX3_standsInRing_5 : decode cX3_standsInRing 5 = .ok (.iload_n 2, 1) := by decide +kernel
theorem dX3_standsInRing_6 : decode cX3_standsInRing 6 = .ok (.aaload, 1) := by decide +kernel
theorem dX3_standsInRing_7 : decode cX3_standsInRing 7 = .ok (.getfield 151, 3) := by decide +kernel
theorem dX3_standsInRing_10 : decode cX3_standsInRing 10 = .ok (.if_icmp .eq 36, 3) := by decide +kernel
theorem dX3_standsInRing_13 : decode cX3_standsInRing 13 = .ok (.aload_n 0, 1) := by decide +kernel
theorem dX3_standsInRing_14 : decode cX3_standsInRing 14 = .ok (.getfield 11, 3) := by decide +kernel
theorem dX3_standsInRing_17 : decode cX3_standsInRing 17 = .ok (.iload_n 1, 1) := by decide +kernel
theorem dX3_standsInRing_18 : decode cX3_standsInRing 18 = .ok (.aaload, 1) := by decide +kernel
theorem dX3_standsInRing_19 : decode cX3_standsInRing 19 = .ok (.getfield 104, 3) := by decide +kernel
theorem dX3_standsInRing_22 : decode cX3_standsInRing 22 = .ok (.aload_n 0, 1) := by decide +kernel
theorem dX3_standsInRing_23 : decode cX3_standsInRing 23 = .ok (.getfield 23, 3) := by decide +kernel
theorem dX3_standsInRing_26 : decode cX3_standsInRing 26 = .ok (.iload_n 2, 1) := by decide +kernel
theorem dX3_standsInRing_27 : decode cX3_standsInRing 27 = .ok (.aaload, 1) := by decide +kernel
theorem dX3_standsInRing_28 : decode cX3_standsInRing 28 = .ok (.getfield 154, 3) := by decide +kernel
theorem dX3_standsInRing_31 : decode cX3_standsInRing 31 = .ok (.invokestatic 351, 3) := by decide +kernel
theorem dX3_standsInRing_34 : decode cX3_standsInRing 34 = .ok (.aload_n 0, 1) := by decide +kernel
theorem dX3_standsInRing_35 : decode cX3_standsInRing 35 = .ok (.iload_n 2, 1) := by decide +kernel
theorem dX3_standsInRing_36 : decode cX3_standsInRing 36 = .ok (.invokevirtual 261, 3) := by decide +kernel
theorem dX3_standsInRing_39 : decode cX3_standsInRing 39 = .ok (.if_icmp .gt 7, 3) := by decide +kernel
theorem dX3_standsInRing_42 : decode cX3_standsInRing 42 = .ok (.iconst 1, 1) := by decide +kernel
theorem dX3_standsInRing_43 : decode cX3_standsInRing 43 = .ok (.goto 4, 3) := by decide +kernel
theorem dX3_standsInRing_46 : decode cX3_standsInRing 46 = .ok (.iconst 0, 1) := by decide +kernel
theorem dX3_standsInRing_47 : decode cX3_standsInRing 47 = .ok (.ireturn, 1) := by decide +kernel
theorem dX3_isOccupied_0 : decode cX3_isOccupied 0 = .ok (.iconst 0, 1) := by decide +kernel
theorem dX3_isOccupied_1 : decode cX3_isOccupied 1 = .ok (.istore_n 2, 1) := by decide +kernel
theorem dX3_isOccupied_2 : decode cX3_isOccupied 2 = .ok (.iload_n 2, 1) := by decide +kernel
theorem dX3_isOccupied_3 : decode cX3_isOccupied 3 = .ok (.aload_n 0, 1) := by decide +kernel
theorem dX3_isOccupied_4 : decode cX3_isOccupied 4 = .ok (.getfield 27, 3) := by decide +kernel
theorem dX3_isOccupied_7 : decode cX3_isOccupied 7 = .ok (.if_icmp .ge 20, 3) := by decide +kernel
theorem dX3_isOccupied_10 : decode cX3_isOccupied 10 = .ok (.aload_n 0, 1) := by decide +kernel
theorem dX3_isOccupied_11 : decode cX3_isOccupied 11 = .ok (.iload_n 2, 1) := by decide +kernel
theorem dX3_isOccupied_12 : decode cX3_isOccupied 12 = .ok (.iload_n 1, 1) := by decide +kernel
theorem dX3_isOccupied_13 : decode cX3_isOccupied 13 = .ok (.invokevirtual 110, 3) := by decide +kernel
theorem dX3_isOccupied_16 : decode cX3_isOccupied 16 = .ok (.ifCond .eq 5, 3) := by decide +kernel
theorem dX3_isOccupied_19 : decode cX3_isOccupied 19 = .ok (.iconst 1, 1) := by decide +kernel
theorem dX3_isOccupied_20 : decode cX3_isOccupied 20 = .ok (.ireturn, 1) := by decide +kernel
theorem dX3_isOccupied_21 : decode cX3_isOccupied 21 = .ok (.iinc 2 1, 3) := by decide +kernel
theorem dX3_isOccupied_24 : decode cX3_isOccupied 24 = .ok (.goto (-22), 3) := by decide +kernel
theorem dX3_isOccupied_27 : decode cX3_isOccupied 27 = .ok (.iconst 0, 1) := by decide +kernel
theorem dX3_isOccupied_28 : decode cX3_isOccupied 28 = .ok (.ireturn, 1) := by decide +kernel
theorem dX3_ringsAround_0 : decode cX3_ringsAround 0 = .ok (.iconst 0, 1) := by decide +kernel
theorem dX3_ringsAround_1 : decode cX3_ringsAround 1 = .ok (.istore_n 2, 1) := by decide +kernel
theorem dX3_ringsAround_2 : decode cX3_ringsAround 2 = .ok (.iconst 0, 1) := by decide +kernel
theorem dX3_ringsAround_3 : decode cX3_ringsAround 3 = .ok (.istore_n 3, 1) := by decide +kernel
theorem dX3_ringsAround_4 : decode cX3_ringsAround 4 = .ok (.iload_n 3, 1) := by decide +kernel
theorem dX3_ringsAround_5 : decode cX3_ringsAround 5 = .ok (.aload_n 0, 1) := by decide +kernel
theorem dX3_ringsAround_6 : decode cX3_ringsAround 6 = .ok (.getfield 34, 3) := by decide +kernel
theorem dX3_ringsAround_9 : decode cX3_ringsAround 9 = .ok (.if_icmp .ge 24, 3) := by decide +kernel
theorem dX3_ringsAround_12 : decode cX3_ringsAround 12 = .ok (.aload_n 0, 1) := by decide +kernel
theorem dX3_ringsAround_13 : decode cX3_ringsAround 13 = .ok (.iload_n 1, 1) := by decide +kernel
theorem dX3_ringsAround_14 : decode cX3_ringsAround 14 = .ok (.iload_n 3, 1) := by decide +kernel
theorem dX3_ringsAround_15 : decode cX3_ringsAround 15 = .ok (.invokevirtual 110, 3) := by decide +kernel
theorem dX3_ringsAround_18 : decode cX3_ringsAround 18 = .ok (.ifCond .eq 9, 3) := by decide +kernel
theorem dX3_ringsAround_21 : decode cX3_ringsAround 21 = .ok (.iload_n 2, 1) := by decide +kernel
theorem dX3_ringsAround_22 : decode cX3_ringsAround 22 = .ok (.iconst 1, 1) := by decide +kernel
theorem dX3_ringsAround_23 : decode cX3_ringsAround 23 = .ok (.iload_n 3, 1) := by decide +kernel
theorem dX3_ringsAround_24 : decode cX3_ringsAround 24 = .ok (.ishl, 1) := by decide +kernel
theorem dX3_ringsAround_25 : decode cX3_ringsAround 25 = .ok (.ior, 1) := by decide +kernel
theorem dX3_ringsAround_26 : decode cX3_ringsAround 26 = .ok (.istore_n 2, 1) := by decide +kernel
theorem dX3_ringsAround_27 : decode cX3_ringsAround 27 = .ok (.iinc 3 1, 3) := by decide +kernel
theorem dX3_ringsAround_30 : decode cX3_ringsAround 30 = .ok (.goto (-26), 3) := by decide +kernel
theorem dX3_ringsAround_33 : decode cX3_ringsAround 33 = .ok (.iload_n 2, 1) := by decide +kernel
theorem dX3_ringsAround_34 : decode cX3_ringsAround 34 = .ok (.ireturn, 1) := by decide +kernel
theorem dX3_isClearPlace_0 : decode cX3_isClearPlace 0 = .ok (.iload_n 1, 1) := by decide +kernel
theorem dX3_isClearPlace_1 : decode cX3_isClearPlace 1 = .ok (.ifCond .lt 9, 3) := by decide +kernel
theorem dX3_isClearPlace_4 : decode cX3_isClearPlace 4 = .ok (.iload_n 1, 1) := by decide +kernel
theorem dX3_isClearPlace_5 : decode cX3_isClearPlace 5 = .ok (.bipush 99, 2) := by decide +kernel
theorem dX3_isClearPlace_7 : decode cX3_isClearPlace 7 = .ok (.if_icmp .le 5, 3) := by decide +kernel
theorem dX3_isClearPlace_10 : decode cX3_isClearPlace 10 = .ok (.iconst 0, 1) := by decide +kernel
theorem dX3_isClearPlace_11 : decode cX3_isClearPlace 11 = .ok (.ireturn, 1) := by decide +kernel
theorem dX3_isClearPlace_12 : decode cX3_isClearPlace 12 = .ok (.iconst 0, 1) := by decide +kernel
theorem dX3_isClearPlace_13 : decode cX3_isClearPlace 13 = .ok (.istore_n 2, 1) := by decide +kernel
theorem dX3_isClearPlace_14 : decode cX3_isClearPlace 14 = .ok (.iload_n 2, 1) := by decide +kernel
theorem dX3_isClearPlace_15 : decode cX3_isClearPlace 15 = .ok (.aload_n 0, 1) := by decide +kernel
theorem dX3_isClearPlace_16 : decode cX3_isClearPlace 16 = .ok (.getfield 34, 3) := by decide +kernel
theorem dX3_isClearPlace_19 : decode cX3_isClearPlace 19 = .ok (.if_icmp .ge 44, 3) := by decide +kernel
theorem dX3_isClearPlace_22 : decode cX3_isClearPlace 22 = .ok (.aload_n 0, 1) := by decide +kernel
theorem dX3_isClearPlace_23 : decode cX3_isClearPlace 23 = .ok (.getfield 23, 3) := by decide +kernel
theorem dX3_isClearPlace_26 : decode cX3_isClearPlace 26 = .ok (.iload_n 2, 1) := by decide +kernel
theorem dX3_isClearPlace_27 : decode cX3_isClearPlace 27 = .ok (.aaload, 1) := by decide +kernel
theorem dX3_isClearPlace_28 : decode cX3_isClearPlace 28 = .ok (.getfield 107, 3) := by decide +kernel
theorem dX3_isClearPlace_31 : decode cX3_isClearPlace 31 = .ok (.ifCond .eq 26, 3) := by decide +kernel
theorem dX3_isClearPlace_34 : decode cX3_isClearPlace 34 = .ok (.iload_n 1, 1) := by decide +kernel
theorem dX3_isClearPlace_35 : decode cX3_isClearPlace 35 = .ok (.aload_n 0, 1) := by decide +kernel
theorem dX3_isClearPlace_36 : decode cX3_isClearPlace 36 = .ok (.getfield 23, 3) := by decide +kernel
theorem dX3_isClearPlace_39 : decode cX3_isClearPlace 39 = .ok (.iload_n 2, 1) := by decide +kernel
theorem dX3_isClearPlace_40 : decode cX3_isClearPlace 40 = .ok (.aaload, 1) := by decide +kernel
theorem dX3_isClearPlace_41 : decode cX3_isClearPlace 41 = .ok (.getfield 154, 3) := by decide +kernel
theorem dX3_isClearPlace_44 : decode cX3_isClearPlace 44 = .ok (.invokestatic 351, 3) := by decide +kernel
theorem dX3_isClearPlace_47 : decode cX3_isClearPlace 47 = .ok (.aload_n 0, 1) := by decide +kernel
theorem dX3_isClearPlace_48 : decode cX3_isClearPlace 48 = .ok (.iload_n 2, 1) := by decide +kernel
theorem dX3_isClearPlace_49 : decode cX3_isClearPlace 49 = .ok (.invokevirtual 261, 3) := by decide +kernel
theorem dX3_isClearPlace_52 : decode cX3_isClearPlace 52 = .ok (.if_icmp .gt 5, 3) := by decide +kernel
theorem dX3_isClearPlace_55 : decode cX3_isClearPlace 55 = .ok (.iconst 0, 1) := by decide +kernel
theorem dX3_isClearPlace_56 : decode cX3_isClearPlace 56 = .ok (.ireturn, 1) := by decide +kernel
theorem dX3_isClearPlace_57 : decode cX3_isClearPlace 57 = .ok (.iinc 2 1, 3) := by decide +kernel
theorem dX3_isClearPlace_60 : decode cX3_isClearPlace 60 = .ok (.goto (-46), 3) := by decide +kernel
theorem dX3_isClearPlace_63 : decode cX3_isClearPlace 63 = .ok (.iconst 1, 1) := by decide +kernel
theorem dX3_isClearPlace_64 : decode cX3_isClearPlace 64 = .ok (.ireturn, 1) := by decide +kernel
theorem dX3_isReadyMedic_0 : decode cX3_isReadyMedic 0 = .ok (.aload_n 0, 1) := by decide +kernel
theorem dX3_isReadyMedic_1 : decode cX3_isReadyMedic 1 = .ok (.getfield 11, 3) := by decide +kernel
theorem dX3_isReadyMedic_4 : decode cX3_isReadyMedic 4 = .ok (.iload_n 1, 1) := by decide +kernel
theorem dX3_isReadyMedic_5 : decode cX3_isReadyMedic 5 = .ok (.aaload, 1) := by decide +kernel
theorem dX3_isReadyMedic_6 : decode cX3_isReadyMedic 6 = .ok (.getfield 80, 3) := by decide +kernel
theorem dX3_isReadyMedic_9 : decode cX3_isReadyMedic 9 = .ok (.ifCond .eq 45, 3) := by decide +kernel
theorem dX3_isReadyMedic_12 : decode cX3_isReadyMedic 12 = .ok (.aload_n 0, 1) := by decide +kernel
theorem dX3_isReadyMedic_13 : decode cX3_isReadyMedic 13 = .ok (.getfield 11, 3) := by decide +kernel
theorem dX3_isReadyMedic_16 : decode cX3_isReadyMedic 16 = .ok (.iload_n 1, 1) := by decide +kernel
theorem dX3_isReadyMedic_17 : decode cX3_isReadyMedic 17 = .ok (.aaload, 1) := by decide +kernel
theorem dX3_isReadyMedic_18 : decode cX3_isReadyMedic 18 = .ok (.getfield 167, 3) := by decide +kernel
theorem dX3_isReadyMedic_21 : decode cX3_isReadyMedic 21 = .ok (.ifCond .ne 33, 3) := by decide +kernel
theorem dX3_isReadyMedic_24 : decode cX3_isReadyMedic 24 = .ok (.aload_n 0, 1) := by decide +kernel
theorem dX3_isReadyMedic_25 : decode cX3_isReadyMedic 25 = .ok (.getfield 11, 3) := by decide +kernel
theorem dX3_isReadyMedic_28 : decode cX3_isReadyMedic 28 = .ok (.iload_n 1, 1) := by decide +kernel
theorem dX3_isReadyMedic_29 : decode cX3_isReadyMedic 29 = .ok (.aaload, 1) := by decide +kernel
theorem dX3_isReadyMedic_30 : decode cX3_isReadyMedic 30 = .ok (.getfield 104, 3) := by decide +kernel
theorem dX3_isReadyMedic_33 : decode cX3_isReadyMedic 33 = .ok (.aload_n 0, 1) := by decide +kernel
theorem dX3_isReadyMedic_34 : decode cX3_isReadyMedic 34 = .ok (.getfield 23, 3) := by decide +kernel
theorem dX3_isReadyMedic_37 : decode cX3_isReadyMedic 37 = .ok (.iload_n 2, 1) := by decide +kernel
theorem dX3_isReadyMedic_38 : decode cX3_isReadyMedic 38 = .ok (.aaload, 1) := by decide +kernel
theorem dX3_isReadyMedic_39 : decode cX3_isReadyMedic 39 = .ok (.getfield 154, 3) := by decide +kernel
theorem dX3_isReadyMedic_42 : decode cX3_isReadyMedic 42 = .ok (.invokestatic 351, 3) := by decide +kernel
theorem dX3_isReadyMedic_45 : decode cX3_isReadyMedic 45 = .ok (.bipush 25, 2) := by decide +kernel
theorem dX3_isReadyMedic_47 : decode cX3_isReadyMedic 47 = .ok (.if_icmp .gt 7, 3) := by decide +kernel
theorem dX3_isReadyMedic_50 : decode cX3_isReadyMedic 50 = .ok (.iconst 1, 1) := by decide +kernel
theorem dX3_isReadyMedic_51 : decode cX3_isReadyMedic 51 = .ok (.goto 4, 3) := by decide +kernel
theorem dX3_isReadyMedic_54 : decode cX3_isReadyMedic 54 = .ok (.iconst 0, 1) := by decide +kernel
theorem dX3_isReadyMedic_55 : decode cX3_isReadyMedic 55 = .ok (.ireturn, 1) := by decide +kernel
theorem dX3_whatBars_0 : decode cX3_whatBars 0 = .ok (.aload_n 0, 1) := by decide +kernel
theorem dX3_whatBars_1 : decode cX3_whatBars 1 = .ok (.getfield 11, 3) := by decide +kernel
theorem dX3_whatBars_4 : decode cX3_whatBars 4 = .ok (.aload_n 0, 1) := by decide +kernel
theorem dX3_whatBars_5 : decode cX3_whatBars 5 = .ok (.getfield 23, 3) := by decide +kernel
theorem dX3_whatBars_8 : decode cX3_whatBars 8 = .ok (.iload_n 1, 1) := by decide +kernel
theorem dX3_whatBars_9 : decode cX3_whatBars 9 = .ok (.aaload, 1) := by decide +kernel
theorem dX3_whatBars_10 : decode cX3_whatBars 10 = .ok (.getfield 151, 3) := by decide +kernel
theorem dX3_whatBars_13 : decode cX3_whatBars 13 = .ok (.aaload, 1) := by decide +kernel
theorem dX3_whatBars_14 : decode cX3_whatBars 14 = .ok (.getfield 167, 3) := by decide +kernel
theorem dX3_whatBars_17 : decode cX3_whatBars 17 = .ok (.ifCond .eq 5, 3) := by decide +kernel
theorem dX3_whatBars_20 : decode cX3_whatBars 20 = .ok (.iconst 1, 1) := by decide +kernel
theorem dX3_whatBars_21 : decode cX3_whatBars 21 = .ok (.ireturn, 1) := by decide +kernel
theorem dX3_whatBars_22 : decode cX3_whatBars 22 = .ok (.aload_n 0, 1) := by decide +kernel
theorem dX3_whatBars_23 : decode cX3_whatBars 23 = .ok (.getfield 23, 3) := by decide +kernel
theorem dX3_whatBars_26 : decode cX3_whatBars 26 = .ok (.iload_n 1, 1) := by decide +kernel
theorem dX3_whatBars_27 : decode cX3_whatBars 27 = .ok (.aaload, 1) := by decide +kernel
theorem dX3_whatBars_28 : decode cX3_whatBars 28 = .ok (.getfield 204, 3) := by decide +kernel
theorem dX3_whatBars_31 : decode cX3_whatBars 31 = .ok (.ifCond .eq 5, 3) := by decide +kernel
theorem dX3_whatBars_34 : decode cX3_whatBars 34 = .ok (.iconst 2, 1) := by decide +kernel
theorem dX3_whatBars_35 : decode cX3_whatBars 35 = .ok (.ireturn, 1) := by decide +kernel
theorem dX3_whatBars_36 : decode cX3_whatBars 36 = .ok (.aload_n 0, 1) := by decide +kernel
theorem dX3_whatBars_37 : decode cX3_whatBars 37 = .ok (.getfield 23, 3) := by decide +kernel
theorem dX3_whatBars_40 : decode cX3_whatBars 40 = .ok (.iload_n 1, 1) := by decide +kernel
theorem dX3_whatBars_41 : decode cX3_whatBars 41 = .ok (.aaload, 1) := by decide +kernel
theorem dX3_whatBars_42 : decode cX3_whatBars 42 = .ok (.getfield 172, 3) := by decide +kernel
theorem dX3_whatBars_45 : decode cX3_whatBars 45 = .ok (.iconst 4, 1) := by decide +kernel
theorem dX3_whatBars_46 : decode cX3_whatBars 46 = .ok (.if_icmp .ge 5, 3) := by decide +kernel
theorem dX3_whatBars_49 : decode cX3_whatBars 49 = .ok (.iconst 3, 1) := by decide +kernel
theorem dX3_whatBars_50 : decode cX3_whatBars 50 = .ok (.ireturn, 1) := by decide +kernel
theorem dX3_whatBars_51 : decode cX3_whatBars 51 = .ok (.aload_n 0, 1) := by decide +kernel
theorem dX3_whatBars_52 : decode cX3_whatBars 52 = .ok (.getfield 23, 3) := by decide +kernel
theorem dX3_whatBars_55 : decode cX3_whatBars 55 = .ok (.iload_n 1, 1) := by decide +kernel
theorem dX3_whatBars_56 : decode cX3_whatBars 56 = .ok (.aaload, 1) := by decide +kernel
theorem dX3_whatBars_57 : decode cX3_whatBars 57 = .ok (.getfield 158, 3) := by decide +kernel
theorem dX3_whatBars_60 : decode cX3_whatBars 60 = .ok (.invokestatic 161, 3) := by decide +kernel
theorem dX3_whatBars_63 : decode cX3_whatBars 63 = .ok (.iconst 3, 1) := by decide +kernel
theorem dX3_whatBars_64 : decode cX3_whatBars 64 = .ok (.if_icmp .ge 5, 3) := by decide +kernel
theorem dX3_whatBars_67 : decode cX3_whatBars 67 = .ok (.iconst 4, 1) := by decide +kernel
theorem dX3_whatBars_68 : decode cX3_whatBars 68 = .ok (.ireturn, 1) := by decide +kernel
theorem dX3_whatBars_69 : decode cX3_whatBars 69 = .ok (.aload_n 0, 1) := by decide +kernel
theorem dX3_whatBars_70 : decode cX3_whatBars 70 = .ok (.iload_n 1, 1) := by decide +kernel
theorem dX3_whatBars_71 : decode cX3_whatBars 71 = .ok (.invokevirtual 215, 3) := by decide +kernel
theorem dX3_whatBars_74 : decode cX3_whatBars 74 = .ok (.ifCond .ge 5, 3) := by decide +kernel
theorem dX3_whatBars_77 : decode cX3_whatBars 77 = .ok (.iconst 5, 1) := by decide +kernel
theorem dX3_whatBars_78 : decode cX3_whatBars 78 = .ok (.ireturn, 1) := by decide +kernel
theorem dX3_whatBars_79 : decode cX3_whatBars 79 = .ok (.aload_n 0, 1) := by decide +kernel
theorem dX3_whatBars_80 : decode cX3_whatBars 80 = .ok (.aload_n 0, 1) := by decide +kernel
theorem dX3_whatBars_81 : decode cX3_whatBars 81 = .ok (.getfield 23, 3) := by decide +kernel
theorem dX3_whatBars_84 : decode cX3_whatBars 84 = .ok (.iload_n 1, 1) := by decide +kernel
theorem dX3_whatBars_85 : decode cX3_whatBars 85 = .ok (.aaload, 1) := by decide +kernel
theorem dX3_whatBars_86 : decode cX3_whatBars 86 = .ok (.getfield 151, 3) := by decide +kernel
theorem dX3_whatBars_89 : decode cX3_whatBars 89 = .ok (.iload_n 1, 1) := by decide +kernel
theorem dX3_whatBars_90 : decode cX3_whatBars 90 = .ok (.invokevirtual 282, 3) := by decide +kernel
theorem dX3_whatBars_93 : decode cX3_whatBars 93 = .ok (.ifCond .eq 6, 3) := by decide +kernel
theorem dX3_whatBars_96 : decode cX3_whatBars 96 = .ok (.bipush 6, 2) := by decide +kernel
theorem dX3_whatBars_98 : decode cX3_whatBars 98 = .ok (.ireturn, 1) := by decide +kernel
theorem dX3_whatBars_99 : decode cX3_whatBars 99 = .ok (.aload_n 0, 1) := by decide +kernel
theorem dX3_whatBars_100 : decode cX3_whatBars 100 = .ok (.iload_n 1, 1) := by decide +kernel
theorem dX3_whatBars_101 : decode cX3_whatBars 101 = .ok (.invokevirtual 230, 3) := by decide +kernel
theorem dX3_whatBars_104 : decode cX3_whatBars 104 = .ok (.ifCond .eq 6, 3) := by decide +kernel
theorem dX3_whatBars_107 : decode cX3_whatBars 107 = .ok (.bipush 7, 2) := by decide +kernel
theorem dX3_whatBars_109 : decode cX3_whatBars 109 = .ok (.ireturn, 1) := by decide +kernel
theorem dX3_whatBars_110 : decode cX3_whatBars 110 = .ok (.aload_n 0, 1) := by decide +kernel
theorem dX3_whatBars_111 : decode cX3_whatBars 111 = .ok (.iload_n 1, 1) := by decide +kernel
theorem dX3_whatBars_112 : decode cX3_whatBars 112 = .ok (.invokevirtual 234, 3) := by decide +kernel
theorem dX3_whatBars_115 : decode cX3_whatBars 115 = .ok (.ifCond .eq 6, 3) := by decide +kernel
theorem dX3_whatBars_118 : decode cX3_whatBars 118 = .ok (.bipush 8, 2) := by decide +kernel
theorem dX3_whatBars_120 : decode cX3_whatBars 120 = .ok (.ireturn, 1) := by decide +kernel
theorem dX3_whatBars_121 : decode cX3_whatBars 121 = .ok (.aload_n 0, 1) := by decide +kernel
theorem dX3_whatBars_122 : decode cX3_whatBars 122 = .ok (.iload_n 1, 1) := by decide +kernel
theorem dX3_whatBars_123 : decode cX3_whatBars 123 = .ok (.invokevirtual 354, 3) := by decide +kernel
theorem dX3_whatBars_126 : decode cX3_whatBars 126 = .ok (.ifCond .ne 6, 3) := by decide +kernel
theorem dX3_whatBars_129 : decode cX3_whatBars 129 = .ok (.bipush 9, 2) := by decide +kernel
theorem dX3_whatBars_131 : decode cX3_whatBars 131 = .ok (.ireturn, 1) := by decide +kernel
theorem dX3_whatBars_132 : decode cX3_whatBars 132 = .ok (.aload_n 0, 1) := by decide +kernel
theorem dX3_whatBars_133 : decode cX3_whatBars 133 = .ok (.iload_n 1, 1) := by decide +kernel
theorem dX3_whatBars_134 : decode cX3_whatBars 134 = .ok (.invokevirtual 357, 3) := by decide +kernel
theorem dX3_whatBars_137 : decode cX3_whatBars 137 = .ok (.ifCond .eq 6, 3) := by decide +kernel
theorem dX3_whatBars_140 : decode cX3_whatBars 140 = .ok (.bipush 10, 2) := by decide +kernel
theorem dX3_whatBars_142 : decode cX3_whatBars 142 = .ok (.ireturn, 1) := by decide +kernel
theorem dX3_whatBars_143 : decode cX3_whatBars 143 = .ok (.aload_n 0, 1) := by decide +kernel
theorem dX3_whatBars_144 : decode cX3_whatBars 144 = .ok (.iload_n 1, 1) := by decide +kernel
theorem dX3_whatBars_145 : decode cX3_whatBars 145 = .ok (.invokevirtual 360, 3) := by decide +kernel
theorem dX3_whatBars_148 : decode cX3_whatBars 148 = .ok (.ifCond .eq 8, 3) := by decide +kernel
theorem dX3_whatBars_151 : decode cX3_whatBars 151 = .ok (.bipush 11, 2) := by decide +kernel
theorem dX3_whatBars_153 : decode cX3_whatBars 153 = .ok (.goto 4, 3) := by decide +kernel
theorem dX3_whatBars_156 : decode cX3_whatBars 156 = .ok (.iconst 0, 1) := by decide +kernel
theorem dX3_whatBars_157 : decode cX3_whatBars 157 = .ok (.ireturn, 1) := by decide +kernel
theorem dX3_isTooYoung_0 : decode cX3_isTooYoung 0 = .ok (.aload_n 0, 1) := by decide +kernel
theorem dX3_isTooYoung_1 : decode cX3_isTooYoung 1 = .ok (.getfield 11, 3) := by decide +kernel
theorem dX3_isTooYoung_4 : decode cX3_isTooYoung 4 = .ok (.iload_n 1, 1) := by decide +kernel
theorem dX3_isTooYoung_5 : decode cX3_isTooYoung 5 = .ok (.aaload, 1) := by decide +kernel
theorem dX3_isTooYoung_6 : decode cX3_isTooYoung 6 = .ok (.getfield 77, 3) := by decide +kernel
theorem dX3_isTooYoung_9 : decode cX3_isTooYoung 9 = .ok (.ifCond .eq 30, 3) := by decide +kernel
theorem dX3_isTooYoung_12 : decode cX3_isTooYoung 12 = .ok (.aload_n 0, 1) := by decide +kernel
theorem dX3_isTooYoung_13 : decode cX3_isTooYoung 13 = .ok (.getfield 23, 3) := by decide +kernel
theorem dX3_isTooYoung_16 : decode cX3_isTooYoung 16 = .ok (.iload_n 2, 1) := by decide +kernel
theorem dX3_isTooYoung_17 : decode cX3_isTooYoung 17 = .ok (.aaload, 1) := by decide +kernel
theorem dX3_isTooYoung_18 : decode cX3_isTooYoung 18 = .ok (.getfield 117, 3) := by decide +kernel
theorem dX3_isTooYoung_21 : decode cX3_isTooYoung 21 = .ok (.iconst 1, 1) := by decide +kernel
theorem dX3_isTooYoung_22 : decode cX3_isTooYoung 22 = .ok (.if_icmp .eq 13, 3) := by decide +kernel
theorem dX3_isTooYoung_25 : decode cX3_isTooYoung 25 = .ok (.aload_n 0, 1) := by decide +kernel
theorem dX3_isTooYoung_26 : decode cX3_isTooYoung 26 = .ok (.iload_n 2, 1) := by decide +kernel
theorem dX3_isTooYoung_27 : decode cX3_isTooYoung 27 = .ok (.invokevirtual 181, 3) := by decide +kernel
theorem dX3_isTooYoung_30 : decode cX3_isTooYoung 30 = .ok (.bipush 60, 2) := by decide +kernel
theorem dX3_isTooYoung_32 : decode cX3_isTooYoung 32 = .ok (.if_icmp .le 7, 3) := by decide +kernel
theorem dX3_isTooYoung_35 : decode cX3_isTooYoung 35 = .ok (.iconst 1, 1) := by decide +kernel
theorem dX3_isTooYoung_36 : decode cX3_isTooYoung 36 = .ok (.goto 4, 3) := by decide +kernel
theorem dX3_isTooYoung_39 : decode cX3_isTooYoung 39 = .ok (.iconst 0, 1) := by decide +kernel
theorem dX3_isTooYoung_40 : decode cX3_isTooYoung 40 = .ok (.ireturn, 1) := by decide +kernel
theorem dX3_windBars_0 : decode cX3_windBars 0 = .ok (.aload_n 0, 1) := by decide +kernel
theorem dX3_windBars_1 : decode cX3_windBars 1 = .ok (.getfield 47, 3) := by decide +kernel
theorem dX3_windBars_4 : decode cX3_windBars 4 = .ok (.getstatic 363, 3) := by decide +kernel
theorem dX3_windBars_7 : decode cX3_windBars 7 = .ok (.aload_n 0, 1) := by decide +kernel
theorem dX3_windBars_8 : decode cX3_windBars 8 = .ok (.getfield 23, 3) := by decide +kernel
theorem dX3_windBars_11 : decode cX3_windBars 11 = .ok (.iload_n 1, 1) := by decide +kernel
theorem dX3_windBars_12 : decode cX3_windBars 12 = .ok (.aaload, 1) := by decide +kernel
theorem dX3_windBars_13 : decode cX3_windBars 13 = .ok (.getfield 117, 3) := by decide +kernel
theorem dX3_windBars_16 : decode cX3_windBars 16 = .ok (.iaload, 1) := by decide +kernel
theorem dX3_windBars_17 : decode cX3_windBars 17 = .ok (.if_icmp .le 7, 3) := by decide +kernel
theorem dX3_windBars_20 : decode cX3_windBars 20 = .ok (.iconst 1, 1) := by decide +kernel
theorem dX3_windBars_21 : decode cX3_windBars 21 = .ok (.goto 4, 3) := by decide +kernel
theorem dX3_windBars_24 : decode cX3_windBars 24 = .ok (.iconst 0, 1) := by decide +kernel
theorem dX3_windBars_25 : decode cX3_windBars 25 = .ok (.ireturn, 1) := by decide +kernel
theorem dX3_darkBars_0 : decode cX3_darkBars 0 = .ok (.aload_n 0, 1) := by decide +kernel
theorem dX3_darkBars_1 : decode cX3_darkBars 1 = .ok (.getfield 50, 3) := by decide +kernel
theorem dX3_darkBars_4 : decode cX3_darkBars 4 = .ok (.ifCond .ne 20, 3) := by decide +kernel
theorem dX3_darkBars_7 : decode cX3_darkBars 7 = .ok (.aload_n 0, 1) := by decide +kernel
theorem dX3_darkBars_8 : decode cX3_darkBars 8 = .ok (.getfield 23, 3) := by decide +kernel
theorem dX3_darkBars_11 : decode cX3_darkBars 11 = .ok (.iload_n 1, 1) := by decide +kernel
theorem dX3_darkBars_12 : decode cX3_darkBars 12 = .ok (.aaload, 1) := by decide +kernel
theorem dX3_darkBars_13 : decode cX3_darkBars 13 = .ok (.getfield 117, 3) := by decide +kernel
theorem dX3_darkBars_16 : decode cX3_darkBars 16 = .ok (.iconst 1, 1) := by decide +kernel
theorem dX3_darkBars_17 : decode cX3_darkBars 17 = .ok (.if_icmp .eq 7, 3) := by decide +kernel
theorem dX3_darkBars_20 : decode cX3_darkBars 20 = .ok (.iconst 1, 1) := by decide +kernel
theorem dX3_darkBars_21 : decode cX3_darkBars 21 = .ok (.goto 4, 3) := by decide +kernel
theorem dX3_darkBars_24 : decode cX3_darkBars 24 = .ok (.iconst 0, 1) := by decide +kernel
theorem dX3_darkBars_25 : decode cX3_darkBars 25 = .ok (.ireturn, 1) := by decide +kernel
theorem dX3_hasMedicAtHand_0 : decode cX3_hasMedicAtHand 0 = .ok (.aload_n 0, 1) := by decide +kernel
theorem dX3_hasMedicAtHand_1 : decode cX3_hasMedicAtHand 1 = .ok (.iload_n 1, 1) := by decide +kernel
theorem dX3_hasMedicAtHand_2 : decode cX3_hasMedicAtHand 2 = .ok (.invokevirtual 261, 3) := by decide +kernel
theorem dX3_hasMedicAtHand_5 : decode cX3_hasMedicAtHand 5 = .ok (.istore_n 2, 1) := by decide +kernel
theorem dX3_hasMedicAtHand_6 : decode cX3_hasMedicAtHand 6 = .ok (.iconst 0, 1) := by decide +kernel
theorem dX3_hasMedicAtHand_7 : decode cX3_hasMedicAtHand 7 = .ok (.istore_n 3, 1) := by decide +kernel
theorem dX3_hasMedicAtHand_8 : decode cX3_hasMedicAtHand 8 = .ok (.iload_n 3, 1) := by decide +kernel
theorem dX3_hasMedicAtHand_9 : decode cX3_hasMedicAtHand 9 = .ok (.aload_n 0, 1) := by decide +kernel
theorem dX3_hasMedicAtHand_10 : decode cX3_hasMedicAtHand 10 = .ok (.getfield 27, 3) := by decide +kernel
theorem dX3_hasMedicAtHand_13 : decode cX3_hasMedicAtHand 13 = .ok (.if_icmp .ge 58, 3) := by decide +kernel
theorem dX3_hasMedicAtHand_16 : decode cX3_hasMedicAtHand 16 = .ok (.iload_n 3, 1) := by decide +kernel
theorem dX3_hasMedicAtHand_17 : decode cX3_hasMedicAtHand 17 = .ok (.aload_n 0, 1) := by decide +kernel
theorem dX3_hasMedicAtHand_18 : decode cX3_hasMedicAtHand 18 = .ok (.getfield 23, 3) := by decide +kernel
theorem dX3_hasMedicAtHand_21 : decode cX3_hasMedicAtHand 21 = .ok (.iload_n 1, 1) := by decide +kernel
theorem dX3_hasMedicAtHand_22 : decode cX3_hasMedicAtHand 22 = .ok (.aaload, 1) := by decide +kernel
theorem dX3_hasMedicAtHand_23 : decode cX3_hasMedicAtHand 23 = .ok (.getfield 151, 3) := by decide +kernel
theorem dX3_hasMedicAtHand_26 : decode cX3_hasMedicAtHand 26 = .ok (.if_icmp .eq 39, 3) := by decide +kernel
theorem dX3_hasMedicAtHand_29 : decode cX3_hasMedicAtHand 29 = .ok (.aload_n 0, 1) := by decide +kernel
theorem dX3_hasMedicAtHand_30 : decode cX3_hasMedicAtHand 30 = .ok (.iload_n 3, 1) := by decide +kernel
theorem dX3_hasMedicAtHand_31 : decode cX3_hasMedicAtHand 31 = .ok (.iload_n 1, 1) := by decide +kernel
theorem dX3_hasMedicAtHand_32 : decode cX3_hasMedicAtHand 32 = .ok (.invokevirtual 366, 3) := by decide +kernel
theorem dX3_hasMedicAtHand_35 : decode cX3_hasMedicAtHand 35 = .ok (.ifCond .eq 30, 3) := by decide +kernel
theorem dX3_hasMedicAtHand_38 : decode cX3_hasMedicAtHand 38 = .ok (.aload_n 0, 1) := by decide +kernel
theorem dX3_hasMedicAtHand_39 : decode cX3_hasMedicAtHand 39 = .ok (.getfield 11, 3) := by decide +kernel
theorem dX3_hasMedicAtHand_42 : decode cX3_hasMedicAtHand 42 = .ok (.iload_n 3, 1) := by decide +kernel
theorem dX3_hasMedicAtHand_43 : decode cX3_hasMedicAtHand 43 = .ok (.aaload, 1) := by decide +kernel
theorem dX3_hasMedicAtHand_44 : decode cX3_hasMedicAtHand 44 = .ok (.getfield 104, 3) := by decide +kernel
theorem dX3_hasMedicAtHand_47 : decode cX3_hasMedicAtHand 47 = .ok (.aload_n 0, 1) := by decide +kernel
theorem dX3_hasMedicAtHand_48 : decode cX3_hasMedicAtHand 48 = .ok (.getfield 23, 3) := by decide +kernel
theorem dX3_hasMedicAtHand_51 : decode cX3_hasMedicAtHand 51 = .ok (.iload_n 1, 1) := by decide +kernel
theorem dX3_hasMedicAtHand_52 : decode cX3_hasMedicAtHand 52 = .ok (.aaload, 1) := by decide +kernel
theorem dX3_hasMedicAtHand_53 : decode cX3_hasMedicAtHand 53 = .ok (.getfield 154, 3) := by decide +kernel
theorem dX3_hasMedicAtHand_56 : decode cX3_hasMedicAtHand 56 = .ok (.invokestatic 351, 3) := by decide +kernel
theorem dX3_hasMedicAtHand_59 : decode cX3_hasMedicAtHand 59 = .ok (.iload_n 2, 1) := by decide +kernel
theorem dX3_hasMedicAtHand_60 : decode cX3_hasMedicAtHand 60 = .ok (.if_icmp .le 5, 3) := by decide +kernel
theorem dX3_hasMedicAtHand_63 : decode cX3_hasMedicAtHand 63 = .ok (.iconst 1, 1) := by decide +kernel
theorem dX3_hasMedicAtHand_64 : decode cX3_hasMedicAtHand 64 = .ok (.ireturn, 1) := by decide +kernel
theorem dX3_hasMedicAtHand_65 : decode cX3_hasMedicAtHand 65 = .ok (.iinc 3 1, 3) := by decide +kernel
theorem dX3_hasMedicAtHand_68 : decode cX3_hasMedicAtHand 68 = .ok (.goto (-60), 3) := by decide +kernel
theorem dX3_hasMedicAtHand_71 : decode cX3_hasMedicAtHand 71 = .ok (.iconst 0, 1) := by decide +kernel
theorem dX3_hasMedicAtHand_72 : decode cX3_hasMedicAtHand 72 = .ok (.ireturn, 1) := by decide +kernel
theorem dX3_isNearArmed_0 : decode cX3_isNearArmed 0 = .ok (.iconst 0, 1) := by decide +kernel
theorem dX3_isNearArmed_1 : decode cX3_isNearArmed 1 = .ok (.istore_n 2, 1) := by decide +kernel
theorem dX3_isNearArmed_2 : decode cX3_isNearArmed 2 = .ok (.iload_n 2, 1) := by decide +kernel
theorem dX3_isNearArmed_3 : decode cX3_isNearArmed 3 = .ok (.aload_n 0, 1) := by decide +kernel
theorem dX3_isNearArmed_4 : decode cX3_isNearArmed 4 = .ok (.getfield 34, 3) := by decide +kernel
theorem dX3_isNearArmed_7 : decode cX3_isNearArmed 7 = .ok (.if_icmp .ge 63, 3) := by decide +kernel
theorem dX3_isNearArmed_10 : decode cX3_isNearArmed 10 = .ok (.iload_n 2, 1) := by decide +kernel
theorem dX3_isNearArmed_11 : decode cX3_isNearArmed 11 = .ok (.iload_n 1, 1) := by decide +kernel
theorem dX3_isNearArmed_12 : decode cX3_isNearArmed 12 = .ok (.if_icmp .eq 52, 3) := by decide +kernel
theorem dX3_isNearArmed_15 : decode cX3_isNearArmed 15 = .ok (.aload_n 0, 1) := by decide +kernel
theorem dX3_isNearArmed_16 : decode cX3_isNearArmed 16 = .ok (.getfield 23, 3) := by decide +kernel
theorem dX3_isNearArmed_19 : decode cX3_isNearArmed 19 = .ok (.iload_n 2, 1) := by decide +kernel
theorem dX3_isNearArmed_20 : decode cX3_isNearArmed 20 = .ok (.aaload, 1) := by decide +kernel
theorem dX3_isNearArmed_21 : decode cX3_isNearArmed 21 = .ok (.getfield 107, 3) := by decide +kernel
theorem dX3_isNearArmed_24 : decode cX3_isNearArmed 24 = .ok (.ifCond .eq 40, 3) := by decide +kernel
theorem dX3_isNearArmed_27 : decode cX3_isNearArmed 27 = .ok (.aload_n 0, 1) := by decide +kernel
theorem dX3_isNearArmed_28 : decode cX3_isNearArmed 28 = .ok (.getfield 23, 3) := by decide +kernel
theorem dX3_isNearArmed_31 : decode cX3_isNearArmed 31 = .ok (.iload_n 2, 1) := by decide +kernel
theorem dX3_isNearArmed_32 : decode cX3_isNearArmed 32 = .ok (.aaload, 1) := by decide +kernel
theorem dX3_isNearArmed_33 : decode cX3_isNearArmed 33 = .ok (.getfield 154, 3) := by decide +kernel
theorem dX3_isNearArmed_36 : decode cX3_isNearArmed 36 = .ok (.aload_n 0, 1) := by decide +kernel
theorem dX3_isNearArmed_37 : decode cX3_isNearArmed 37 = .ok (.getfield 23, 3) := by decide +kernel
theorem dX3_isNearArmed_40 : decode cX3_isNearArmed 40 = .ok (.iload_n 1, 1) := by decide +kernel
theorem dX3_isNearArmed_41 : decode cX3_isNearArmed 41 = .ok (.aaload, 1) := by decide +kernel
theorem dX3_isNearArmed_42 : decode cX3_isNearArmed 42 = .ok (.getfield 154, 3) := by decide +kernel
theorem dX3_isNearArmed_45 : decode cX3_isNearArmed 45 = .ok (.invokestatic 351, 3) := by decide +kernel
theorem dX3_isNearArmed_48 : decode cX3_isNearArmed 48 = .ok (.aload_n 0, 1) := by decide +kernel
theorem dX3_isNearArmed_49 : decode cX3_isNearArmed 49 = .ok (.iload_n 2, 1) := by decide +kernel
theorem dX3_isNearArmed_50 : decode cX3_isNearArmed 50 = .ok (.invokevirtual 261, 3) := by decide +kernel
theorem dX3_isNearArmed_53 : decode cX3_isNearArmed 53 = .ok (.aload_n 0, 1) := by decide +kernel
theorem dX3_isNearArmed_54 : decode cX3_isNearArmed 54 = .ok (.iload_n 1, 1) := by decide +kernel
theorem dX3_isNearArmed_55 : decode cX3_isNearArmed 55 = .ok (.invokevirtual 261, 3) := by decide +kernel
theorem dX3_isNearArmed_58 : decode cX3_isNearArmed 58 = .ok (.iadd, 1) := by decide +kernel
theorem dX3_isNearArmed_59 : decode cX3_isNearArmed 59 = .ok (.if_icmp .gt 5, 3) := by decide +kernel
theorem dX3_isNearArmed_62 : decode cX3_isNearArmed 62 = .ok (.iconst 1, 1) := by decide +kernel
theorem dX3_isNearArmed_63 : decode cX3_isNearArmed 63 = .ok (.ireturn, 1) := by decide +kernel
theorem dX3_isNearArmed_64 : decode cX3_isNearArmed 64 = .ok (.iinc 2 1, 3) := by decide +kernel
theorem dX3_isNearArmed_67 : decode cX3_isNearArmed 67 = .ok (.goto (-65), 3) := by decide +kernel
theorem dX3_isNearArmed_70 : decode cX3_isNearArmed 70 = .ok (.iconst 0, 1) := by decide +kernel
theorem dX3_isNearArmed_71 : decode cX3_isNearArmed 71 = .ok (.ireturn, 1) := by decide +kernel
theorem dX3_standDown_0 : decode cX3_standDown 0 = .ok (.aload_n 0, 1) := by decide +kernel
theorem dX3_standDown_1 : decode cX3_standDown 1 = .ok (.getfield 23, 3) := by decide +kernel
theorem dX3_standDown_4 : decode cX3_standDown 4 = .ok (.iload_n 1, 1) := by decide +kernel
theorem dX3_standDown_5 : decode cX3_standDown 5 = .ok (.aaload, 1) := by decide +kernel
theorem dX3_standDown_6 : decode cX3_standDown 6 = .ok (.getfield 107, 3) := by decide +kernel
theorem dX3_standDown_9 : decode cX3_standDown 9 = .ok (.ifCond .eq 23, 3) := by decide +kernel
theorem dX3_standDown_12 : decode cX3_standDown 12 = .ok (.aload_n 0, 1) := by decide +kernel
theorem dX3_standDown_13 : decode cX3_standDown 13 = .ok (.getfield 23, 3) := by decide +kernel
theorem dX3_standDown_16 : decode cX3_standDown 16 = .ok (.iload_n 1, 1) := by decide +kernel
theorem dX3_standDown_17 : decode cX3_standDown 17 = .ok (.aaload, 1) := by decide +kernel
theorem dX3_standDown_18 : decode cX3_standDown 18 = .ok (.iconst 0, 1) := by decide +kernel
theorem dX3_standDown_19 : decode cX3_standDown 19 = .ok (.putfield 107, 3) := by decide +kernel
theorem dX3_standDown_22 : decode cX3_standDown 22 = .ok (.aload_n 0, 1) := by decide +kernel
theorem dX3_standDown_23 : decode cX3_standDown 23 = .ok (.dup, 1) := by decide +kernel
theorem dX3_standDown_24 : decode cX3_standDown 24 = .ok (.getfield 60, 3) := by decide +kernel
theorem dX3_standDown_27 : decode cX3_standDown 27 = .ok (.iconst 1, 1) := by decide +kernel
theorem dX3_standDown_28 : decode cX3_standDown 28 = .ok (.iadd, 1) := by decide +kernel
theorem dX3_standDown_29 : decode cX3_standDown 29 = .ok (.putfield 60, 3) := by decide +kernel
theorem dX3_standDown_32 : decode cX3_standDown 32 = .ok (.return_, 1) := by decide +kernel
theorem dX3_standDownOccupied_0 : decode cX3_standDownOccupied 0 = .ok (.iconst 0, 1) := by decide +kernel
theorem dX3_standDownOccupied_1 : decode cX3_standDownOccupied 1 = .ok (.istore_n 1, 1) := by decide +kernel
theorem dX3_standDownOccupied_2 : decode cX3_standDownOccupied 2 = .ok (.iload_n 1, 1) := by decide +kernel
theorem dX3_standDownOccupied_3 : decode cX3_standDownOccupied 3 = .ok (.aload_n 0, 1) := by decide +kernel
theorem dX3_standDownOccupied_4 : decode cX3_standDownOccupied 4 = .ok (.getfield 34, 3) := by decide +kernel
theorem dX3_standDownOccupied_7 : decode cX3_standDownOccupied 7 = .ok (.if_icmp .ge 22, 3) := by decide +kernel
theorem dX3_standDownOccupied_10 : decode cX3_standDownOccupied 10 = .ok (.aload_n 0, 1) := by decide +kernel
theorem dX3_standDownOccupied_11 : decode cX3_standDownOccupied 11 = .ok (.iload_n 1, 1) := by decide +kernel
theorem dX3_standDownOccupied_12 : decode cX3_standDownOccupied 12 = .ok (.invokevirtual 357, 3) := by decide +kernel
theorem dX3_standDownOccupied_15 : decode cX3_standDownOccupied 15 = .ok (.ifCond .eq 8, 3) := by decide +kernel
theorem dX3_standDownOccupied_18 : decode cX3_standDownOccupied 18 = .ok (.aload_n 0, 1) := by decide +kernel
theorem dX3_standDownOccupied_19 : decode cX3_standDownOccupied 19 = .ok (.iload_n 1, 1) := by decide +kernel
theorem dX3_standDownOccupied_20 : decode cX3_standDownOccupied 20 = .ok (.invokevirtual 114, 3) := by decide +kernel
theorem dX3_standDownOccupied_23 : decode cX3_standDownOccupied 23 = .ok (.iinc 1 1, 3) := by decide +kernel
theorem dX3_standDownOccupied_26 : decode cX3_standDownOccupied 26 = .ok (.goto (-24), 3) := by decide +kernel
theorem dX3_standDownOccupied_29 : decode cX3_standDownOccupied 29 = .ok (.return_, 1) := by decide +kernel
theorem dX3_loseSignatures_0 : decode cX3_loseSignatures 0 = .ok (.aload_n 0, 1) := by decide +kernel
theorem dX3_loseSignatures_1 : decode cX3_loseSignatures 1 = .ok (.getfield 23, 3) := by decide +kernel
theorem dX3_loseSignatures_4 : decode cX3_loseSignatures 4 = .ok (.iload_n 1, 1) := by decide +kernel
theorem dX3_loseSignatures_5 : decode cX3_loseSignatures 5 = .ok (.aaload, 1) := by decide +kernel
theorem dX3_loseSignatures_6 : decode cX3_loseSignatures 6 = .ok (.iconst 0, 1) := by decide +kernel
theorem dX3_loseSignatures_7 : decode cX3_loseSignatures 7 = .ok (.putfield 158, 3) := by decide +kernel
theorem dX3_loseSignatures_10 : decode cX3_loseSignatures 10 = .ok (.aload_n 0, 1) := by decide +kernel
theorem dX3_loseSignatures_11 : decode cX3_loseSignatures 11 = .ok (.iload_n 1, 1) := by decide +kernel
theorem dX3_loseSignatures_12 : decode cX3_loseSignatures 12 = .ok (.invokevirtual 114, 3) := by decide +kernel
theorem dX3_loseSignatures_15 : decode cX3_loseSignatures 15 = .ok (.return_, 1) := by decide +kernel
theorem dX3_becomeChanged_0 : decode cX3_becomeChanged 0 = .ok (.aload_n 0, 1) := by decide +kernel
theorem dX3_becomeChanged_1 : decode cX3_becomeChanged 1 = .ok (.iload_n 1, 1) := by decide +kernel
theorem dX3_becomeChanged_2 : decode cX3_becomeChanged 2 = .ok (.invokevirtual 187, 3) := by decide +kernel
theorem dX3_becomeChanged_5 : decode cX3_becomeChanged 5 = .ok (.aload_n 0, 1) := by decide +kernel
theorem dX3_becomeChanged_6 : decode cX3_becomeChanged 6 = .ok (.getfield 23, 3) := by decide +kernel
theorem dX3_becomeChanged_9 : decode cX3_becomeChanged 9 = .ok (.iload_n 1, 1) := by decide +kernel
theorem dX3_becomeChanged_10 : decode cX3_becomeChanged 10 = .ok (.aaload, 1) := by decide +kernel
theorem dX3_becomeChanged_11 : decode cX3_becomeChanged 11 = .ok (.iconst 2, 1) := by decide +kernel
theorem dX3_becomeChanged_12 : decode cX3_becomeChanged 12 = .ok (.aload_n 0, 1) := by decide +kernel
theorem dX3_becomeChanged_13 : decode cX3_becomeChanged 13 = .ok (.getfield 23, 3) := by decide +kernel
theorem dX3_becomeChanged_16 : decode cX3_becomeChanged 16 = .ok (.iload_n 1, 1) := by decide +kernel
theorem dX3_becomeChanged_17 : decode cX3_becomeChanged 17 = .ok (.aaload, 1) := by decide +kernel
theorem dX3_becomeChanged_18 : decode cX3_becomeChanged 18 = .ok (.getfield 172, 3) := by decide +kernel
theorem dX3_becomeChanged_21 : decode cX3_becomeChanged 21 = .ok (.invokestatic 175, 3) := by decide +kernel
theorem dX3_becomeChanged_24 : decode cX3_becomeChanged 24 = .ok (.putfield 172, 3) := by decide +kernel
theorem dX3_becomeChanged_27 : decode cX3_becomeChanged 27 = .ok (.return_, 1) := by decide +kernel
theorem dX3_addMiss_0 : decode cX3_addMiss 0 = .ok (.aload_n 0, 1) := by decide +kernel
theorem dX3_addMiss_1 : decode cX3_addMiss 1 = .ok (.getfield 41, 3) := by decide +kernel
theorem dX3_addMiss_4 : decode cX3_addMiss 4 = .ok (.iload_n 1, 1) := by decide +kernel
theorem dX3_addMiss_5 : decode cX3_addMiss 5 = .ok (.dup2, 1) := by decide +kernel
theorem dX3_addMiss_6 : decode cX3_addMiss 6 = .ok (.iaload, 1) := by decide +kernel
theorem dX3_addMiss_7 : decode cX3_addMiss 7 = .ok (.iconst 1, 1) := by decide +kernel
theorem dX3_addMiss_8 : decode cX3_addMiss 8 = .ok (.iadd, 1) := by decide +kernel
theorem dX3_addMiss_9 : decode cX3_addMiss 9 = .ok (.iastore, 1) := by decide +kernel
theorem dX3_addMiss_10 : decode cX3_addMiss 10 = .ok (.aload_n 0, 1) := by decide +kernel
theorem dX3_addMiss_11 : decode cX3_addMiss 11 = .ok (.getfield 41, 3) := by decide +kernel
theorem dX3_addMiss_14 : decode cX3_addMiss 14 = .ok (.iload_n 1, 1) := by decide +kernel
theorem dX3_addMiss_15 : decode cX3_addMiss 15 = .ok (.iaload, 1) := by decide +kernel
theorem dX3_addMiss_16 : decode cX3_addMiss 16 = .ok (.iconst 3, 1) := by decide +kernel
theorem dX3_addMiss_17 : decode cX3_addMiss 17 = .ok (.irem, 1) := by decide +kernel
theorem dX3_addMiss_18 : decode cX3_addMiss 18 = .ok (.ifCond .eq 4, 3) := by decide +kernel
theorem dX3_addMiss_21 : decode cX3_addMiss 21 = .ok (.return_, 1) := by decide +kernel
theorem dX3_addMiss_22 : decode cX3_addMiss 22 = .ok (.aload_n 0, 1) := by decide +kernel
theorem dX3_addMiss_23 : decode cX3_addMiss 23 = .ok (.getfield 37, 3) := by decide +kernel
theorem dX3_addMiss_26 : decode cX3_addMiss 26 = .ok (.iload_n 1, 1) := by decide +kernel
theorem dX3_addMiss_27 : decode cX3_addMiss 27 = .ok (.dup2, 1) := by decide +kernel
theorem dX3_addMiss_28 : decode cX3_addMiss 28 = .ok (.iaload, 1) := by decide +kernel
theorem dX3_addMiss_29 : decode cX3_addMiss 29 = .ok (.iconst 1, 1) := by decide +kernel
theorem dX3_addMiss_30 : decode cX3_addMiss 30 = .ok (.iadd, 1) := by decide +kernel
theorem dX3_addMiss_31 : decode cX3_addMiss 31 = .ok (.iastore, 1) := by decide +kernel
theorem dX3_addMiss_32 : decode cX3_addMiss 32 = .ok (.iconst 0, 1) := by decide +kernel
theorem dX3_addMiss_33 : decode cX3_addMiss 33 = .ok (.istore_n 2, 1) := by decide +kernel
theorem dX3_addMiss_34 : decode cX3_addMiss 34 = .ok (.iload_n 2, 1) := by decide +kernel
theorem dX3_addMiss_35 : decode cX3_addMiss 35 = .ok (.aload_n 0, 1) := by decide +kernel
theorem dX3_addMiss_36 : decode cX3_addMiss 36 = .ok (.getfield 34, 3) := by decide +kernel
theorem dX3_addMiss_39 : decode cX3_addMiss 39 = .ok (.if_icmp .ge 27, 3) := by decide +kernel
theorem dX3_addMiss_42 : decode cX3_addMiss 42 = .ok (.aload_n 0, 1) := by decide +kernel
theorem dX3_addMiss_43 : decode cX3_addMiss 43 = .ok (.getfield 23, 3) := by decide +kernel
theorem dX3_addMiss_46 : decode cX3_addMiss 46 = .ok (.iload_n 2, 1) := by decide +kernel
theorem dX3_addMiss_47 : decode cX3_addMiss 47 = .ok (.aaload, 1) := by decide +kernel
theorem dX3_addMiss_48 : decode cX3_addMiss 48 = .ok (.getfield 117, 3) := by decide +kernel
theorem dX3_addMiss_51 : decode cX3_addMiss 51 = .ok (.iload_n 1, 1) := by decide +kernel
theorem dX3_addMiss_52 : decode cX3_addMiss 52 = .ok (.if_icmp .ne 8, 3) := by decide +kernel
theorem dX3_addMiss_55 : decode cX3_addMiss 55 = .ok (.aload_n 0, 1) := by decide +kernel
theorem dX3_addMiss_56 : decode cX3_addMiss 56 = .ok (.iload_n 2, 1) := by decide +kernel
theorem dX3_addMiss_57 : decode cX3_addMiss 57 = .ok (.invokevirtual 187, 3) := by decide +kernel
theorem dX3_addMiss_60 : decode cX3_addMiss 60 = .ok (.iinc 2 1, 3) := by decide +kernel
theorem dX3_addMiss_63 : decode cX3_addMiss 63 = .ok (.goto (-29), 3) := by decide +kernel
theorem dX3_addMiss_66 : decode cX3_addMiss 66 = .ok (.return_, 1) := by decide +kernel
theorem dX3_tire_0 : decode cX3_tire 0 = .ok (.aload_n 0, 1) := by decide +kernel
theorem dX3_tire_1 : decode cX3_tire 1 = .ok (.bipush 100, 2) := by decide +kernel
theorem dX3_tire_3 : decode cX3_tire 3 = .ok (.aload_n 0, 1) := by decide +kernel
theorem dX3_tire_4 : decode cX3_tire 4 = .ok (.getfield 246, 3) := by decide +kernel
theorem dX3_tire_7 : decode cX3_tire 7 = .ok (.iload_n 1, 1) := by decide +kernel
theorem dX3_tire_8 : decode cX3_tire 8 = .ok (.iadd, 1) := by decide +kernel
theorem dX3_tire_9 : decode cX3_tire 9 = .ok (.invokestatic 175, 3) := by decide +kernel
theorem dX3_tire_12 : decode cX3_tire 12 = .ok (.putfield 246, 3) := by decide +kernel
theorem dX3_tire_15 : decode cX3_tire 15 = .ok (.return_, 1) := by decide +kernel
theorem dX3_hurt_0 : decode cX3_hurt 0 = .ok (.aload_n 0, 1) := by decide +kernel
theorem dX3_hurt_1 : decode cX3_hurt 1 = .ok (.getfield 11, 3) := by decide +kernel
theorem dX3_hurt_4 : decode cX3_hurt 4 = .ok (.iload_n 1, 1) := by decide +kernel
theorem dX3_hurt_5 : decode cX3_hurt 5 = .ok (.aaload, 1) := by decide +kernel
theorem dX3_hurt_6 : decode cX3_hurt 6 = .ok (.iconst 1, 1) := by decide +kernel
theorem dX3_hurt_7 : decode cX3_hurt 7 = .ok (.putfield 167, 3) := by decide +kernel
theorem dX3_hurt_10 : decode cX3_hurt 10 = .ok (.aload_n 0, 1) := by decide +kernel
theorem dX3_hurt_11 : decode cX3_hurt 11 = .ok (.getfield 11, 3) := by decide +kernel
theorem dX3_hurt_14 : decode cX3_hurt 14 = .ok (.iload_n 1, 1) := by decide +kernel
theorem dX3_hurt_15 : decode cX3_hurt 15 = .ok (.aaload, 1) := by decide +kernel
theorem dX3_hurt_16 : decode cX3_hurt 16 = .ok (.aload_n 0, 1) := by decide +kernel
theorem dX3_hurt_17 : decode cX3_hurt 17 = .ok (.getfield 44, 3) := by decide +kernel
theorem dX3_hurt_20 : decode cX3_hurt 20 = .ok (.putfield 369, 3) := by decide +kernel
theorem dX3_hurt_23 : decode cX3_hurt 23 = .ok (.aload_n 0, 1) := by decide +kernel
theorem dX3_hurt_24 : decode cX3_hurt 24 = .ok (.dup, 1) := by decide +kernel
theorem dX3_hurt_25 : decode cX3_hurt 25 = .ok (.getfield 54, 3) := by decide +kernel
theorem dX3_hurt_28 : decode cX3_hurt 28 = .ok (.iconst 1, 1) := by decide +kernel
theorem dX3_hurt_29 : decode cX3_hurt 29 = .ok (.iadd, 1) := by decide +kernel
theorem dX3_hurt_30 : decode cX3_hurt 30 = .ok (.putfield 54, 3) := by decide +kernel
theorem dX3_hurt_33 : decode cX3_hurt 33 = .ok (.iconst 0, 1) := by decide +kernel
theorem dX3_hurt_34 : decode cX3_hurt 34 = .ok (.istore_n 2, 1) := by decide +kernel
theorem dX3_hurt_35 : decode cX3_hurt 35 = .ok (.iload_n 2, 1) := by decide +kernel
theorem dX3_hurt_36 : decode cX3_hurt 36 = .ok (.aload_n 0, 1) := by decide +kernel
theorem dX3_hurt_37 : decode cX3_hurt 37 = .ok (.getfield 34, 3) := by decide +kernel
theorem dX3_hurt_40 : decode cX3_hurt 40 = .ok (.if_icmp .ge 27, 3) := by decide +kernel
theorem dX3_hurt_43 : decode cX3_hurt 43 = .ok (.aload_n 0, 1) := by decide +kernel
theorem dX3_hurt_44 : decode cX3_hurt 44 = .ok (.getfield 23, 3) := by decide +kernel
theorem dX3_hurt_47 : decode cX3_hurt 47 = .ok (.iload_n 2, 1) := by decide +kernel
theorem dX3_hurt_48 : decode cX3_hurt 48 = .ok (.aaload, 1) := by decide +kernel
theorem dX3_hurt_49 : decode cX3_hurt 49 = .ok (.getfield 151, 3) := by decide +kernel
theorem dX3_hurt_52 : decode cX3_hurt 52 = .ok (.iload_n 1, 1) := by decide +kernel
theorem dX3_hurt_53 : decode cX3_hurt 53 = .ok (.if_icmp .ne 8, 3) := by decide +kernel
theorem dX3_hurt_56 : decode cX3_hurt 56 = .ok (.aload_n 0, 1) := by decide +kernel
theorem dX3_hurt_57 : decode cX3_hurt 57 = .ok (.iload_n 2, 1) := by decide +kernel
theorem dX3_hurt_58 : decode cX3_hurt 58 = .ok (.invokevirtual 114, 3) := by decide +kernel
theorem dX3_hurt_61 : decode cX3_hurt 61 = .ok (.iinc 2 1, 3) := by decide +kernel
theorem dX3_hurt_64 : decode cX3_hurt 64 = .ok (.goto (-29), 3) := by decide +kernel
theorem dX3_hurt_67 : decode cX3_hurt 67 = .ok (.return_, 1) := by decide +kernel
theorem dX3_useKitOf_0 : decode cX3_useKitOf 0 = .ok (.iconst 0, 1) := by decide +kernel
theorem dX3_useKitOf_1 : decode cX3_useKitOf 1 = .ok (.istore_n 2, 1) := by decide +kernel
theorem dX3_useKitOf_2 : decode cX3_useKitOf 2 = .ok (.iload_n 2, 1) := by decide +kernel
theorem dX3_useKitOf_3 : decode cX3_useKitOf 3 = .ok (.aload_n 0, 1) := by decide +kernel
theorem dX3_useKitOf_4 : decode cX3_useKitOf 4 = .ok (.getfield 31, 3) := by decide +kernel
theorem dX3_useKitOf_7 : decode cX3_useKitOf 7 = .ok (.if_icmp .ge 33, 3) := by decide +kernel
theorem dX3_useKitOf_10 : decode cX3_useKitOf 10 = .ok (.aload_n 0, 1) := by decide +kernel
theorem dX3_useKitOf_11 : decode cX3_useKitOf 11 = .ok (.iload_n 2, 1) := by decide +kernel
theorem dX3_useKitOf_12 : decode cX3_useKitOf 12 = .ok (.iload_n 1, 1) := by decide +kernel
theorem dX3_useKitOf_13 : decode cX3_useKitOf 13 = .ok (.invokevirtual 345, 3) := by decide +kernel
theorem dX3_useKitOf_16 : decode cX3_useKitOf 16 = .ok (.ifCond .eq 18, 3) := by decide +kernel
theorem dX3_useKitOf_19 : decode cX3_useKitOf 19 = .ok (.aload_n 0, 1) := by decide +kernel
theorem dX3_useKitOf_20 : decode cX3_useKitOf 20 = .ok (.getfield 17, 3) := by decide +kernel
theorem dX3_useKitOf_23 : decode cX3_useKitOf 23 = .ok (.iload_n 2, 1) := by decide +kernel
theorem dX3_useKitOf_24 : decode cX3_useKitOf 24 = .ok (.aaload, 1) := by decide +kernel
theorem dX3_useKitOf_25 : decode cX3_useKitOf 25 = .ok (.dup, 1) := by decide +kernel
theorem dX3_useKitOf_26 : decode cX3_useKitOf 26 = .ok (.getfield 129, 3) := by decide +kernel
theorem dX3_useKitOf_29 : decode cX3_useKitOf 29 = .ok (.iconst 1, 1) := by decide +kernel
theorem dX3_useKitOf_30 : decode cX3_useKitOf 30 = .ok (.isub, 1) := by decide +kernel
theorem dX3_useKitOf_31 : decode cX3_useKitOf 31 = .ok (.putfield 129, 3) := by decide +kernel
theorem dX3_useKitOf_34 : decode cX3_useKitOf 34 = .ok (.iinc 2 1, 3) := by decide +kernel
theorem dX3_useKitOf_37 : decode cX3_useKitOf 37 = .ok (.goto (-35), 3) := by decide +kernel
theorem dX3_useKitOf_40 : decode cX3_useKitOf 40 = .ok (.return_, 1) := by decide +kernel
theorem dX3_payFor_0 : decode cX3_payFor 0 = .ok (.aload_n 0, 1) := by decide +kernel
theorem dX3_payFor_1 : decode cX3_payFor 1 = .ok (.iload_n 1, 1) := by decide +kernel
theorem dX3_payFor_2 : decode cX3_payFor 2 = .ok (.invokevirtual 181, 3) := by decide +kernel
theorem dX3_payFor_5 : decode cX3_payFor 5 = .ok (.istore_n 2, 1) := by decide +kernel
theorem dX3_payFor_6 : decode cX3_payFor 6 = .ok (.aload_n 0, 1) := by decide +kernel
theorem dX3_payFor_7 : decode cX3_payFor 7 = .ok (.getfield 11, 3) := by decide +kernel
theorem dX3_payFor_10 : decode cX3_payFor 10 = .ok (.aload_n 0, 1) := by decide +kernel
theorem dX3_payFor_11 : decode cX3_payFor 11 = .ok (.getfield 23, 3) := by decide +kernel
theorem dX3_payFor_14 : decode cX3_payFor 14 = .ok (.iload_n 1, 1) := by decide +kernel
theorem dX3_payFor_15 : decode cX3_payFor 15 = .ok (.aaload, 1) := by decide +kernel
theorem dX3_payFor_16 : decode cX3_payFor 16 = .ok (.getfield 151, 3) := by decide +kernel
theorem dX3_payFor_19 : decode cX3_payFor 19 = .ok (.aaload, 1) := by decide +kernel
theorem dX3_payFor_20 : decode cX3_payFor 20 = .ok (.astore_n 3, 1) := by decide +kernel
theorem dX3_payFor_21 : decode cX3_payFor 21 = .ok (.aload_n 3, 1) := by decide +kernel
theorem dX3_payFor_22 : decode cX3_payFor 22 = .ok (.iload_n 2, 1) := by decide +kernel
theorem dX3_payFor_23 : decode cX3_payFor 23 = .ok (.bipush 10, 2) := by decide +kernel
theorem dX3_payFor_25 : decode cX3_payFor 25 = .ok (.idiv, 1) := by decide +kernel
theorem dX3_payFor_26 : decode cX3_payFor 26 = .ok (.invokestatic 190, 3) := by decide +kernel
theorem dX3_payFor_29 : decode cX3_payFor 29 = .ok (.aload_n 3, 1) := by decide +kernel
theorem dX3_payFor_30 : decode cX3_payFor 30 = .ok (.dup, 1) := by decide +kernel
theorem dX3_payFor_31 : decode cX3_payFor 31 = .ok (.getfield 249, 3) := by decide +kernel
theorem dX3_payFor_34 : decode cX3_payFor 34 = .ok (.bipush 50, 2) := by decide +kernel
theorem dX3_payFor_36 : decode cX3_payFor 36 = .ok (.iload_n 2, 1) := by decide +kernel
theorem dX3_payFor_37 : decode cX3_payFor 37 = .ok (.iadd, 1) := by decide +kernel
theorem dX3_payFor_38 : decode cX3_payFor 38 = .ok (.iadd, 1) := by decide +kernel
theorem dX3_payFor_39 : decode cX3_payFor 39 = .ok (.putfield 249, 3) := by decide +kernel
theorem dX3_payFor_42 : decode cX3_payFor 42 = .ok (.aload_n 3, 1) := by decide +kernel
theorem dX3_payFor_43 : decode cX3_payFor 43 = .ok (.dup, 1) := by decide +kernel
theorem dX3_payFor_44 : decode cX3_payFor 44 = .ok (.getfield 252, 3) := by decide +kernel
theorem dX3_payFor_47 : decode cX3_payFor 47 = .ok (.iconst 1, 1) := by decide +kernel
theorem dX3_payFor_48 : decode cX3_payFor 48 = .ok (.iadd, 1) := by decide +kernel
theorem dX3_payFor_49 : decode cX3_payFor 49 = .ok (.putfield 252, 3) := by decide +kernel
theorem dX3_payFor_52 : decode cX3_payFor 52 = .ok (.iconst 0, 1) := by decide +kernel
theorem dX3_payFor_53 : decode cX3_payFor 53 = .ok (.istore 4, 2) := by decide +kernel
theorem dX3_payFor_55 : decode cX3_payFor 55 = .ok (.iload 4, 2) := by decide +kernel
theorem dX3_payFor_57 : decode cX3_payFor 57 = .ok (.aload_n 0, 1) := by decide +kernel
theorem dX3_payFor_58 : decode cX3_payFor 58 = .ok (.getfield 27, 3) := by decide +kernel
theorem dX3_payFor_61 : decode cX3_payFor 61 = .ok (.if_icmp .ge 36, 3) := by decide +kernel
theorem dX3_payFor_64 : decode cX3_payFor 64 = .ok (.aload_n 0, 1) := by decide +kernel
theorem dX3_payFor_65 : decode cX3_payFor 65 = .ok (.iload 4, 2) := by decide +kernel
theorem dX3_payFor_67 : decode cX3_payFor 67 = .ok (.iload_n 1, 1) := by decide +kernel
theorem dX3_payFor_68 : decode cX3_payFor 68 = .ok (.invokevirtual 366, 3) := by decide +kernel
theorem dX3_payFor_71 : decode cX3_payFor 71 = .ok (.ifCond .eq 20, 3) := by decide +kernel
theorem dX3_payFor_74 : decode cX3_payFor 74 = .ok (.aload_n 0, 1) := by decide +kernel
theorem dX3_payFor_75 : decode cX3_payFor 75 = .ok (.getfield 11, 3) := by decide +kernel
theorem dX3_payFor_78 : decode cX3_payFor 78 = .ok (.iload 4, 2) := by decide +kernel
theorem dX3_payFor_80 : decode cX3_payFor 80 = .ok (.aaload, 1) := by decide +kernel
theorem dX3_payFor_81 : decode cX3_payFor 81 = .ok (.dup, 1) := by decide +kernel
theorem dX3_payFor_82 : decode cX3_payFor 82 = .ok (.getfield 249, 3) := by decide +kernel
theorem dX3_payFor_85 : decode cX3_payFor 85 = .ok (.bipush 20, 2) := by decide +kernel
theorem dX3_payFor_87 : decode cX3_payFor 87 = .ok (.iadd, 1) := by decide +kernel
theorem dX3_payFor_88 : decode cX3_payFor 88 = .ok (.putfield 249, 3) := by decide +kernel
theorem dX3_payFor_91 : decode cX3_payFor 91 = .ok (.iinc 4 1, 3) := by decide +kernel
theorem dX3_payFor_94 : decode cX3_payFor 94 = .ok (.goto (-39), 3) := by decide +kernel
theorem dX3_payFor_97 : decode cX3_payFor 97 = .ok (.return_, 1) := by decide +kernel
theorem dX3_passOneDay_0 : decode cX3_passOneDay 0 = .ok (.aload_n 0, 1) := by decide +kernel
theorem dX3_passOneDay_1 : decode cX3_passOneDay 1 = .ok (.dup, 1) := by decide +kernel
theorem dX3_passOneDay_2 : decode cX3_passOneDay 2 = .ok (.getfield 44, 3) := by decide +kernel
theorem dX3_passOneDay_5 : decode cX3_passOneDay 5 = .ok (.iconst 1, 1) := by decide +kernel
theorem dX3_passOneDay_6 : decode cX3_passOneDay 6 = .ok (.iadd, 1) := by decide +kernel
theorem dX3_passOneDay_7 : decode cX3_passOneDay 7 = .ok (.putfield 44, 3) := by decide +kernel
theorem dX3_passOneDay_10 : decode cX3_passOneDay 10 = .ok (.iconst 0, 1) := by decide +kernel
theorem dX3_passOneDay_11 : decode cX3_passOneDay 11 = .ok (.istore_n 1, 1) := by decide +kernel
theorem dX3_passOneDay_12 : decode cX3_passOneDay 12 = .ok (.iload_n 1, 1) := by decide +kernel
theorem dX3_passOneDay_13 : decode cX3_passOneDay 13 = .ok (.aload_n 0, 1) := by decide +kernel
theorem dX3_passOneDay_14 : decode cX3_passOneDay 14 = .ok (.getfield 27, 3) := by decide +kernel
theorem dX3_passOneDay_17 : decode cX3_passOneDay 17 = .ok (.if_icmp .ge 56, 3) := by decide +kernel
theorem dX3_passOneDay_20 : decode cX3_passOneDay 20 = .ok (.aload_n 0, 1) := by decide +kernel
theorem dX3_passOneDay_21 : decode cX3_passOneDay 21 = .ok (.getfield 11, 3) := by decide +kernel
theorem dX3_passOneDay_24 : decode cX3_passOneDay 24 = .ok (.iload_n 1, 1) := by decide +kernel
theorem dX3_passOneDay_25 : decode cX3_passOneDay 25 = .ok (.aaload, 1) := by decide +kernel
theorem dX3_passOneDay_26 : decode cX3_passOneDay 26 = .ok (.astore_n 2, 1) := by decide +kernel
theorem dX3_passOneDay_27 : decode cX3_passOneDay 27 = .ok (.aload_n 2, 1) := by decide +kernel
theorem dX3_passOneDay_28 : decode cX3_passOneDay 28 = .ok (.iconst 0, 1) := by decide +kernel
theorem dX3_passOneDay_29 : decode cX3_passOneDay 29 = .ok (.aload_n 2, 1) := by decide +kernel
theorem dX3_passOneDay_30 : decode cX3_passOneDay 30 = .ok (.getfield 246, 3) := by decide +kernel
theorem dX3_passOneDay_33 : decode cX3_passOneDay 33 = .ok (.bipush 30, 2) := by decide +kernel
theorem dX3_passOneDay_35 : decode cX3_passOneDay 35 = .ok (.isub, 1) := by decide +kernel
theorem dX3_passOneDay_36 : decode cX3_passOneDay 36 = .ok (.invokestatic 372, 3) := by decide +kernel
theorem dX3_passOneDay_39 : decode cX3_passOneDay 39 = .ok (.putfield 246, 3) := by decide +kernel
theorem dX3_passOneDay_42 : decode cX3_passOneDay 42 = .ok (.aload_n 2, 1) := by decide +kernel
theorem dX3_passOneDay_43 : decode cX3_passOneDay 43 = .ok (.getfield 167, 3) := by decide +kernel
theorem dX3_passOneDay_46 : decode cX3_passOneDay 46 = .ok (.ifCond .eq 21, 3) := by decide +kernel
theorem dX3_passOneDay_49 : decode cX3_passOneDay 49 = .ok (.aload_n 0, 1) := by decide +kernel
theorem dX3_passOneDay_50 : decode cX3_passOneDay 50 = .ok (.getfield 44, 3) := by decide +kernel
theorem dX3_passOneDay_53 : decode cX3_passOneDay 53 = .ok (.aload_n 2, 1) := by decide +kernel
theorem dX3_passOneDay_54 : decode cX3_passOneDay 54 = .ok (.getfield 369, 3) := by decide +kernel
theorem dX3_passOneDay_57 : decode cX3_passOneDay 57 = .ok (.isub, 1) := by decide +kernel
theorem dX3_passOneDay_58 : decode cX3_passOneDay 58 = .ok (.iconst 5, 1) := by decide +kernel
theorem dX3_passOneDay_59 : decode cX3_passOneDay 59 = .ok (.if_icmp .lt 8, 3) := by decide +kernel
theorem dX3_passOneDay_62 : decode cX3_passOneDay 62 = .ok (.aload_n 2, 1) := by decide +kernel
theorem dX3_passOneDay_63 : decode cX3_passOneDay 63 = .ok (.iconst 0, 1) := by decide +kernel
theorem dX3_passOneDay_64 : decode cX3_passOneDay 64 = .ok (.putfield 167, 3) := by decide +kernel
theorem dX3_passOneDay_67 : decode cX3_passOneDay 67 = .ok (.iinc 1 1, 3) := by decide +kernel
theorem dX3_passOneDay_70 : decode cX3_passOneDay 70 = .ok (.goto (-58), 3) := by decide +kernel
theorem dX3_passOneDay_73 : decode cX3_passOneDay 73 = .ok (.iconst 0, 1) := by decide +kernel
theorem dX3_passOneDay_74 : decode cX3_passOneDay 74 = .ok (.istore_n 1, 1) := by decide +kernel
theorem dX3_passOneDay_75 : decode cX3_passOneDay 75 = .ok (.iload_n 1, 1) := by decide +kernel
theorem dX3_passOneDay_76 : decode cX3_passOneDay 76 = .ok (.iconst 4, 1) := by decide +kernel
theorem dX3_passOneDay_77 : decode cX3_passOneDay 77 = .ok (.if_icmp .ge 27, 3) := by decide +kernel
theorem dX3_passOneDay_80 : decode cX3_passOneDay 80 = .ok (.aload_n 0, 1) := by decide +kernel
theorem dX3_passOneDay_81 : decode cX3_passOneDay 81 = .ok (.getfield 37, 3) := by decide +kernel
theorem dX3_passOneDay_84 : decode cX3_passOneDay 84 = .ok (.iload_n 1, 1) := by decide +kernel
theorem dX3_passOneDay_85 : decode cX3_passOneDay 85 = .ok (.iconst 0, 1) := by decide +kernel
theorem dX3_passOneDay_86 : decode cX3_passOneDay 86 = .ok (.aload_n 0, 1) := by decide +kernel
theorem dX3_passOneDay_87 : decode cX3_passOneDay 87 = .ok (.getfield 37, 3) := by decide +kernel
theorem dX3_passOneDay_90 : decode cX3_passOneDay 90 = .ok (.iload_n 1, 1) := by decide +kernel
theorem dX3_passOneDay_91 : decode cX3_passOneDay 91 = .ok (.iaload, 1) := by decide +kernel
theorem dX3_passOneDay_92 : decode cX3_passOneDay 92 = .ok (.iconst 1, 1) := by decide +kernel
theorem dX3_passOneDay_93 : decode cX3_passOneDay 93 = .ok (.isub, 1) := by decide +kernel
theorem dX3_passOneDay_94 : decode cX3_passOneDay 94 = .ok (.invokestatic 372, 3) := by decide +kernel
theorem dX3_passOneDay_97 : decode cX3_passOneDay 97 = .ok (.iastore, 1) := by decide +kernel
theorem dX3_passOneDay_98 : decode cX3_passOneDay 98 = .ok (.iinc 1 1, 3) := by decide +kernel
theorem dX3_passOneDay_101 : decode cX3_passOneDay 101 = .ok (.goto (-26), 3) := by decide +kernel
theorem dX3_passOneDay_104 : decode cX3_passOneDay 104 = .ok (.return_, 1) := by decide +kernel
theorem dX3_oneIf_0 : decode cX3_oneIf 0 = .ok (.iload_n 0, 1) := by decide +kernel
theorem dX3_oneIf_1 : decode cX3_oneIf 1 = .ok (.ifCond .eq 7, 3) := by decide +kernel
theorem dX3_oneIf_4 : decode cX3_oneIf 4 = .ok (.iconst 1, 1) := by decide +kernel
theorem dX3_oneIf_5 : decode cX3_oneIf 5 = .ok (.goto 4, 3) := by decide +kernel
theorem dX3_oneIf_8 : decode cX3_oneIf 8 = .ok (.iconst 0, 1) := by decide +kernel
theorem dX3_oneIf_9 : decode cX3_oneIf 9 = .ok (.ireturn, 1) := by decide +kernel
theorem dX3_isInSet_0 : decode cX3_isInSet 0 = .ok (.iload_n 0, 1) := by decide +kernel
theorem dX3_isInSet_1 : decode cX3_isInSet 1 = .ok (.iconst 1, 1) := by decide +kernel
theorem dX3_isInSet_2 : decode cX3_isInSet 2 = .ok (.iload_n 1, 1) := by decide +kernel
theorem dX3_isInSet_3 : decode cX3_isInSet 3 = .ok (.ishl, 1) := by decide +kernel
theorem dX3_isInSet_4 : decode cX3_isInSet 4 = .ok (.iand, 1) := by decide +kernel
theorem dX3_isInSet_5 : decode cX3_isInSet 5 = .ok (.ifCond .eq 7, 3) := by decide +kernel
theorem dX3_isInSet_8 : decode cX3_isInSet 8 = .ok (.iconst 1, 1) := by decide +kernel
theorem dX3_isInSet_9 : decode cX3_isInSet 9 = .ok (.goto 4, 3) := by decide +kernel
theorem dX3_isInSet_12 : decode cX3_isInSet 12 = .ok (.iconst 0, 1) := by decide +kernel
theorem dX3_isInSet_13 : decode cX3_isInSet 13 = .ok (.ireturn, 1) := by decide +kernel
theorem dX3_armedSet_0 : decode cX3_armedSet 0 = .ok (.iconst 0, 1) := by decide +kernel
theorem dX3_armedSet_1 : decode cX3_armedSet 1 = .ok (.istore_n 1, 1) := by decide +kernel
theorem dX3_armedSet_2 : decode cX3_armedSet 2 = .ok (.iconst 0, 1) := by decide +kernel
theorem dX3_armedSet_3 : decode cX3_armedSet 3 = .ok (.istore_n 2, 1) := by decide +kernel
theorem dX3_armedSet_4 : decode cX3_armedSet 4 = .ok (.iload_n 2, 1) := by decide +kernel
theorem dX3_armedSet_5 : decode cX3_armedSet 5 = .ok (.aload_n 0, 1) := by decide +kernel
theorem dX3_armedSet_6 : decode cX3_armedSet 6 = .ok (.getfield 34, 3) := by decide +kernel
theorem dX3_armedSet_9 : decode cX3_armedSet 9 = .ok (.if_icmp .ge 27, 3) := by decide +kernel
theorem dX3_armedSet_12 : decode cX3_armedSet 12 = .ok (.aload_n 0, 1) := by decide +kernel
theorem dX3_armedSet_13 : decode cX3_armedSet 13 = .ok (.getfield 23, 3) := by decide +kernel
theorem dX3_armedSet_16 : decode cX3_armedSet 16 = .ok (.iload_n 2, 1) := by decide +kernel
theorem dX3_armedSet_17 : decode cX3_armedSet 17 = .ok (.aaload, 1) := by decide +kernel
theorem dX3_armedSet_18 : decode cX3_armedSet 18 = .ok (.getfield 107, 3) := by decide +kernel
theorem dX3_armedSet_21 : decode cX3_armedSet 21 = .ok (.ifCond .eq 9, 3) := by decide +kernel
theorem dX3_armedSet_24 : decode cX3_armedSet 24 = .ok (.iload_n 1, 1) := by decide +kernel
theorem dX3_armedSet_25 : decode cX3_armedSet 25 = .ok (.iconst 1, 1) := by decide +kernel
theorem dX3_armedSet_26 : decode cX3_armedSet 26 = .ok (.iload_n 2, 1) := by decide +kernel
theorem dX3_armedSet_27 : decode cX3_armedSet 27 = .ok (.ishl, 1) := by decide +kernel
theorem dX3_armedSet_28 : decode cX3_armedSet 28 = .ok (.ior, 1) := by decide +kernel
theorem dX3_armedSet_29 : decode cX3_armedSet 29 = .ok (.istore_n 1, 1) := by decide +kernel
theorem dX3_armedSet_30 : decode cX3_armedSet 30 = .ok (.iinc 2 1, 3) := by decide +kernel
theorem dX3_armedSet_33 : decode cX3_armedSet 33 = .ok (.goto (-29), 3) := by decide +kernel
theorem dX3_armedSet_36 : decode cX3_armedSet 36 = .ok (.iload_n 1, 1) := by decide +kernel
theorem dX3_armedSet_37 : decode cX3_armedSet 37 = .ok (.ireturn, 1) := by decide +kernel
theorem dX3_fitCount_0 : decode cX3_fitCount 0 = .ok (.iconst 0, 1) := by decide +kernel
theorem dX3_fitCount_1 : decode cX3_fitCount 1 = .ok (.istore_n 1, 1) := by decide +kernel
theorem dX3_fitCount_2 : decode cX3_fitCount 2 = .ok (.iconst 0, 1) := by decide +kernel
theorem dX3_fitCount_3 : decode cX3_fitCount 3 = .ok (.istore_n 2, 1) := by decide +kernel
theorem dX3_fitCount_4 : decode cX3_fitCount 4 = .ok (.iload_n 2, 1) := by decide +kernel
theorem dX3_fitCount_5 : decode cX3_fitCount 5 = .ok (.aload_n 0, 1) := by decide +kernel
theorem dX3_fitCount_6 : decode cX3_fitCount 6 = .ok (.getfield 31, 3) := by decide +kernel
theorem dX3_fitCount_9 : decode cX3_fitCount 9 = .ok (.if_icmp .ge 20, 3) := by decide +kernel
theorem dX3_fitCount_12 : decode cX3_fitCount 12 = .ok (.iload_n 1, 1) := by decide +kernel
theorem dX3_fitCount_13 : decode cX3_fitCount 13 = .ok (.aload_n 0, 1) := by decide +kernel
theorem dX3_fitCount_14 : decode cX3_fitCount 14 = .ok (.iload_n 2, 1) := by decide +kernel
theorem dX3_fitCount_15 : decode cX3_fitCount 15 = .ok (.invokevirtual 258, 3) := by decide +kernel
theorem dX3_fitCount_18 : decode cX3_fitCount 18 = .ok (.invokestatic 242, 3) := by decide +kernel
theorem dX3_fitCount_21 : decode cX3_fitCount 21 = .ok (.iadd, 1) := by decide +kernel
theorem dX3_fitCount_22 : decode cX3_fitCount 22 = .ok (.istore_n 1, 1) := by decide +kernel
theorem dX3_fitCount_23 : decode cX3_fitCount 23 = .ok (.iinc 2 1, 3) := by decide +kernel
theorem dX3_fitCount_26 : decode cX3_fitCount 26 = .ok (.goto (-22), 3) := by decide +kernel
theorem dX3_fitCount_29 : decode cX3_fitCount 29 = .ok (.iload_n 1, 1) := by decide +kernel
theorem dX3_fitCount_30 : decode cX3_fitCount 30 = .ok (.ireturn, 1) := by decide +kernel
theorem dX3_hurtCount_0 : decode cX3_hurtCount 0 = .ok (.iconst 0, 1) := by decide +kernel
theorem dX3_hurtCount_1 : decode cX3_hurtCount 1 = .ok (.istore_n 1, 1) := by decide +kernel
theorem dX3_hurtCount_2 : decode cX3_hurtCount 2 = .ok (.iconst 0, 1) := by decide +kernel
theorem dX3_hurtCount_3 : decode cX3_hurtCount 3 = .ok (.istore_n 2, 1) := by decide +kernel
theorem dX3_hurtCount_4 : decode cX3_hurtCount 4 = .ok (.iload_n 2, 1) := by decide +kernel
theorem dX3_hurtCount_5 : decode cX3_hurtCount 5 = .ok (.aload_n 0, 1) := by decide +kernel
theorem dX3_hurtCount_6 : decode cX3_hurtCount 6 = .ok (.getfield 27, 3) := by decide +kernel
theorem dX3_hurtCount_9 : decode cX3_hurtCount 9 = .ok (.if_icmp .ge 24, 3) := by decide +kernel
theorem dX3_hurtCount_12 : decode cX3_hurtCount 12 = .ok (.iload_n 1, 1) := by decide +kernel
theorem dX3_hurtCount_13 : decode cX3_hurtCount 13 = .ok (.aload_n 0, 1) := by decide +kernel
theorem dX3_hurtCount_14 : decode cX3_hurtCount 14 = .ok (.getfield 11, 3) := by decide +kernel
theorem dX3_hurtCount_17 : decode cX3_hurtCount 17 = .ok (.iload_n 2, 1) := by decide +kernel
theorem dX3_hurtCount_18 : decode cX3_hurtCount 18 = .ok (.aaload, 1) := by decide +kernel
theorem dX3_hurtCount_19 : decode cX3_hurtCount 19 = .ok (.getfield 167, 3) := by decide +kernel
theorem dX3_hurtCount_22 : decode cX3_hurtCount 22 = .ok (.invokestatic 242, 3) := by decide +kernel
theorem dX3_hurtCount_25 : decode cX3_hurtCount 25 = .ok (.iadd, 1) := by decide +kernel
theorem dX3_hurtCount_26 : decode cX3_hurtCount 26 = .ok (.istore_n 1, 1) := by decide +kernel
theorem dX3_hurtCount_27 : decode cX3_hurtCount 27 = .ok (.iinc 2 1, 3) := by decide +kernel
theorem dX3_hurtCount_30 : decode cX3_hurtCount 30 = .ok (.goto (-26), 3) := by decide +kernel
theorem dX3_hurtCount_33 : decode cX3_hurtCount 33 = .ok (.iload_n 1, 1) := by decide +kernel
theorem dX3_hurtCount_34 : decode cX3_hurtCount 34 = .ok (.ireturn, 1) := by decide +kernel
theorem dX3_payOfAll_0 : decode cX3_payOfAll 0 = .ok (.iconst 0, 1) := by decide +kernel
theorem dX3_payOfAll_1 : decode cX3_payOfAll 1 = .ok (.istore_n 1, 1) := by decide +kernel
theorem dX3_payOfAll_2 : decode cX3_payOfAll 2 = .ok (.iconst 0, 1) := by decide +kernel
theorem dX3_payOfAll_3 : decode cX3_payOfAll 3 = .ok (.istore_n 2, 1) := by decide +kernel
theorem dX3_payOfAll_4 : decode cX3_payOfAll 4 = .ok (.iload_n 2, 1) := by decide +kernel
theorem dX3_payOfAll_5 : decode cX3_payOfAll 5 = .ok (.aload_n 0, 1) := by decide +kernel
theorem dX3_payOfAll_6 : decode cX3_payOfAll 6 = .ok (.getfield 27, 3) := by decide +kernel
theorem dX3_payOfAll_9 : decode cX3_payOfAll 9 = .ok (.if_icmp .ge 21, 3) := by decide +kernel
theorem dX3_payOfAll_12 : decode cX3_payOfAll 12 = .ok (.iload_n 1, 1) := by decide +kernel
theorem dX3_payOfAll_13 : decode cX3_payOfAll 13 = .ok (.aload_n 0, 1) := by decide +kernel
theorem dX3_payOfAll_14 : decode cX3_payOfAll 14 = .ok (.getfield 11, 3) := by decide +kernel
theorem dX3_payOfAll_17 : decode cX3_payOfAll 17 = .ok (.iload_n 2, 1) := by decide +kernel
theorem dX3_payOfAll_18 : decode cX3_payOfAll 18 = .ok (.aaload, 1) := by decide +kernel
theorem dX3_payOfAll_19 : decode cX3_payOfAll 19 = .ok (.getfield 249, 3) := by decide +kernel
theorem dX3_payOfAll_22 : decode cX3_payOfAll 22 = .ok (.iadd, 1) := by decide +kernel
theorem dX3_payOfAll_23 : decode cX3_payOfAll 23 = .ok (.istore_n 1, 1) := by decide +kernel
theorem dX3_payOfAll_24 : decode cX3_payOfAll 24 = .ok (.iinc 2 1, 3) := by decide +kernel
theorem dX3_payOfAll_27 : decode cX3_payOfAll 27 = .ok (.goto (-23), 3) := by decide +kernel
theorem dX3_payOfAll_30 : decode cX3_payOfAll 30 = .ok (.iload_n 1, 1) := by decide +kernel
theorem dX3_payOfAll_31 : decode cX3_payOfAll 31 = .ok (.ireturn, 1) := by decide +kernel
theorem dX3_missesOfAll_0 : decode cX3_missesOfAll 0 = .ok (.iconst 0, 1) := by decide +kernel
theorem dX3_missesOfAll_1 : decode cX3_missesOfAll 1 = .ok (.istore_n 1, 1) := by decide +kernel
theorem dX3_missesOfAll_2 : decode cX3_missesOfAll 2 = .ok (.iconst 0, 1) := by decide +kernel
theorem dX3_missesOfAll_3 : decode cX3_missesOfAll 3 = .ok (.istore_n 2, 1) := by decide +kernel
theorem dX3_missesOfAll_4 : decode cX3_missesOfAll 4 = .ok (.iload_n 2, 1) := by decide +kernel
theorem dX3_missesOfAll_5 : decode cX3_missesOfAll 5 = .ok (.iconst 4, 1) := by decide +kernel
theorem dX3_missesOfAll_6 : decode cX3_missesOfAll 6 = .ok (.if_icmp .ge 18, 3) := by decide +kernel
theorem dX3_missesOfAll_9 : decode cX3_missesOfAll 9 = .ok (.iload_n 1, 1) := by decide +kernel
theorem dX3_missesOfAll_10 : decode cX3_missesOfAll 10 = .ok (.aload_n 0, 1) := by decide +kernel
theorem dX3_missesOfAll_11 : decode cX3_missesOfAll 11 = .ok (.getfield 41, 3) := by decide +kernel
theorem dX3_missesOfAll_14 : decode cX3_missesOfAll 14 = .ok (.iload_n 2, 1) := by decide +kernel
theorem dX3_missesOfAll_15 : decode cX3_missesOfAll 15 = .ok (.iaload, 1) := by decide +kernel
theorem dX3_missesOfAll_16 : decode cX3_missesOfAll 16 = .ok (.iadd, 1) := by decide +kernel
theorem dX3_missesOfAll_17 : decode cX3_missesOfAll 17 = .ok (.istore_n 1, 1) := by decide +kernel
theorem dX3_missesOfAll_18 : decode cX3_missesOfAll 18 = .ok (.iinc 2 1, 3) := by decide +kernel
theorem dX3_missesOfAll_21 : decode cX3_missesOfAll 21 = .ok (.goto (-17), 3) := by decide +kernel
theorem dX3_missesOfAll_24 : decode cX3_missesOfAll 24 = .ok (.iload_n 1, 1) := by decide +kernel
theorem dX3_missesOfAll_25 : decode cX3_missesOfAll 25 = .ok (.ireturn, 1) := by decide +kernel
theorem dX3_bestFreePiece_0 : decode cX3_bestFreePiece 0 = .ok (.iconst (-1), 1) := by decide +kernel
theorem dX3_bestFreePiece_1 : decode cX3_bestFreePiece 1 = .ok (.istore_n 3, 1) := by decide +kernel
theorem dX3_bestFreePiece_2 : decode cX3_bestFreePiece 2 = .ok (.iconst 0, 1) := by decide +kernel
theorem dX3_bestFreePiece_3 : decode cX3_bestFreePiece 3 = .ok (.istore 4, 2) := by decide +kernel
theorem dX3_bestFreePiece_5 : decode cX3_bestFreePiece 5 = .ok (.iload 4, 2) := by decide +kernel
theorem dX3_bestFreePiece_7 : decode cX3_bestFreePiece 7 = .ok (.aload_n 0, 1) := by decide +kernel
theorem dX3_bestFreePiece_8 : decode cX3_bestFreePiece 8 = .ok (.getfield 31, 3) := by decide +kernel
theorem dX3_bestFreePiece_11 : decode cX3_bestFreePiece 11 = .ok (.if_icmp .ge 97, 3) := by decide +kernel
theorem dX3_bestFreePiece_14 : decode cX3_bestFreePiece 14 = .ok (.aload_n 0, 1) := by decide +kernel
theorem dX3_bestFreePiece_15 : decode cX3_bestFreePiece 15 = .ok (.getfield 17, 3) := by decide +kernel
theorem dX3_bestFreePiece_18 : decode cX3_bestFreePiece 18 = .ok (.iload 4, 2) := by decide +kernel
theorem dX3_bestFreePiece_20 : decode cX3_bestFreePiece 20 = .ok (.aaload, 1) := by decide +kernel
theorem dX3_bestFreePiece_21 : decode cX3_bestFreePiece 21 = .ok (.getfield 125, 3) := by decide +kernel
theorem dX3_bestFreePiece_24 : decode cX3_bestFreePiece 24 = .ok (.iload_n 1, 1) := by decide +kernel
theorem dX3_bestFreePiece_25 : decode cX3_bestFreePiece 25 = .ok (.if_icmp .ne 39, 3) := by decide +kernel
theorem dX3_bestFreePiece_28 : decode cX3_bestFreePiece 28 = .ok (.aload_n 0, 1) := by decide +kernel
theorem dX3_bestFreePiece_29 : decode cX3_bestFreePiece 29 = .ok (.getfield 17, 3) := by decide +kernel
theorem dX3_bestFreePiece_32 : decode cX3_bestFreePiece 32 = .ok (.iload 4, 2) := by decide +kernel
theorem dX3_bestFreePiece_34 : decode cX3_bestFreePiece 34 = .ok (.aaload, 1) := by decide +kernel
theorem dX3_bestFreePiece_35 : decode cX3_bestFreePiece 35 = .ok (.getfield 141, 3) := by decide +kernel
theorem dX3_bestFreePiece_38 : decode cX3_bestFreePiece 38 = .ok (.iconst (-1), 1) := by decide +kernel
theorem dX3_bestFreePiece_39 : decode cX3_bestFreePiece 39 = .ok (.if_icmp .ne 25, 3) := by decide +kernel
theorem dX3_bestFreePiece_42 : decode cX3_bestFreePiece 42 = .ok (.aload_n 0, 1) := by decide +kernel
theorem dX3_bestFreePiece_43 : decode cX3_bestFreePiece 43 = .ok (.iload 4, 2) := by decide +kernel
theorem dX3_bestFreePiece_45 : decode cX3_bestFreePiece 45 = .ok (.invokevirtual 258, 3) := by decide +kernel
theorem dX3_bestFreePiece_48 : decode cX3_bestFreePiece 48 = .ok (.ifCond .eq 16, 3) := by decide +kernel
theorem dX3_bestFreePiece_51 : decode cX3_bestFreePiece 51 = .ok (.iload_n 2, 1) := by decide +kernel
theorem dX3_bestFreePiece_52 : decode cX3_bestFreePiece 52 = .ok (.iload 4, 2) := by decide +kernel
theorem dX3_bestFreePiece_54 : decode cX3_bestFreePiece 54 = .ok (.invokestatic 199, 3) := by decide +kernel
theorem dX3_bestFreePiece_57 : decode cX3_bestFreePiece 57 = .ok (.ifCond .ne 7, 3) := by decide +kernel
theorem dX3_bestFreePiece_60 : decode cX3_bestFreePiece 60 = .ok (.iconst 1, 1) := by decide +kernel
theorem dX3_bestFreePiece_61 : decode cX3_bestFreePiece 61 = .ok (.goto 4, 3) := by decide +kernel
theorem dX3_bestFreePiece_64 : decode cX3_bestFreePiece 64 = .ok (.iconst 0, 1) := by decide +kernel
theorem dX3_bestFreePiece_65 : decode cX3_bestFreePiece 65 = .ok (.istore 5, 2) := by decide +kernel
theorem dX3_bestFreePiece_67 : decode cX3_bestFreePiece 67 = .ok (.iload 5, 2) := by decide +kernel
theorem dX3_bestFreePiece_69 : decode cX3_bestFreePiece 69 = .ok (.ifCond .eq 33, 3) := by decide +kernel
theorem dX3_bestFreePiece_72 : decode cX3_bestFreePiece 72 = .ok (.iload_n 3, 1) := by decide +kernel
theorem dX3_bestFreePiece_73 : decode cX3_bestFreePiece 73 = .ok (.iconst (-1), 1) := by decide +kernel
theorem dX3_bestFreePiece_74 : decode cX3_bestFreePiece 74 = .ok (.if_icmp .eq 25, 3) := by decide +kernel
theorem dX3_bestFreePiece_77 : decode cX3_bestFreePiece 77 = .ok (.aload_n 0, 1) := by decide +kernel
theorem dX3_bestFreePiece_78 : decode cX3_bestFreePiece 78 = .ok (.getfield 17, 3) := by decide +kernel
theorem dX3_bestFreePiece_81 : decode cX3_bestFreePiece 81 = .ok (.iload 4, 2) := by decide +kernel
theorem dX3_bestFreePiece_83 : decode cX3_bestFreePiece 83 = .ok (.aaload, 1) := by decide +kernel
theorem dX3_bestFreePiece_84 : decode cX3_bestFreePiece 84 = .ok (.getfield 126, 3) := by decide +kernel
theorem dX3_bestFreePiece_87 : decode cX3_bestFreePiece 87 = .ok (.aload_n 0, 1) := by decide +kernel
theorem dX3_bestFreePiece_88 : decode cX3_bestFreePiece 88 = .ok (.getfield 17, 3) := by decide +kernel
theorem dX3_bestFreePiece_91 : decode cX3_bestFreePiece 91 = .ok (.iload_n 3, 1) := by decide +kernel
theorem dX3_bestFreePiece_92 : decode cX3_bestFreePiece 92 = .ok (.aaload, 1) := by decide +kernel
theorem dX3_bestFreePiece_93 : decode cX3_bestFreePiece 93 = .ok (.getfield 126, 3) := by decide +kernel
theorem dX3_bestFreePiece_96 : decode cX3_bestFreePiece 96 = .ok (.if_icmp .le 6, 3) := by decide +kernel
theorem dX3_bestFreePiece_99 : decode cX3_bestFreePiece 99 = .ok (.iload 4, 2) := by decide +kernel
theorem dX3_bestFreePiece_101 : decode cX3_bestFreePiece 101 = .ok (.istore_n 3, 1) := by decide +kernel
theorem dX3_bestFreePiece_102 : decode cX3_bestFreePiece 102 = .ok (.iinc 4 1, 3) := by decide +kernel
theorem dX3_bestFreePiece_105 : decode cX3_bestFreePiece 105 = .ok (.goto (-100), 3) := by decide +kernel
theorem dX3_bestFreePiece_108 : decode cX3_bestFreePiece 108 = .ok (.iload_n 3, 1) := by decide +kernel
theorem dX3_bestFreePiece_109 : decode cX3_bestFreePiece 109 = .ok (.ireturn, 1) := by decide +kernel
theorem dJ6_bitCount_0f7a4_0 : decode cJ6_bitCount_0f7a4 0 = .ok (.iload_n 0, 1) := by decide +kernel
theorem dJ6_bitCount_0f7a4_1 : decode cJ6_bitCount_0f7a4 1 = .ok (.iload_n 0, 1) := by decide +kernel
theorem dJ6_bitCount_0f7a4_2 : decode cJ6_bitCount_0f7a4 2 = .ok (.iconst 1, 1) := by decide +kernel
theorem dJ6_bitCount_0f7a4_3 : decode cJ6_bitCount_0f7a4 3 = .ok (.iushr, 1) := by decide +kernel
theorem dJ6_bitCount_0f7a4_4 : decode cJ6_bitCount_0f7a4 4 = .ok (.ldc_w 265, 3) := by decide +kernel
theorem dJ6_bitCount_0f7a4_7 : decode cJ6_bitCount_0f7a4 7 = .ok (.iand, 1) := by decide +kernel
theorem dJ6_bitCount_0f7a4_8 : decode cJ6_bitCount_0f7a4 8 = .ok (.isub, 1) := by decide +kernel
theorem dJ6_bitCount_0f7a4_9 : decode cJ6_bitCount_0f7a4 9 = .ok (.istore_n 0, 1) := by decide +kernel
theorem dJ6_bitCount_0f7a4_10 : decode cJ6_bitCount_0f7a4 10 = .ok (.iload_n 0, 1) := by decide +kernel
theorem dJ6_bitCount_0f7a4_11 : decode cJ6_bitCount_0f7a4 11 = .ok (.ldc_w 266, 3) := by decide +kernel
theorem dJ6_bitCount_0f7a4_14 : decode cJ6_bitCount_0f7a4 14 = .ok (.iand, 1) := by decide +kernel
theorem dJ6_bitCount_0f7a4_15 : decode cJ6_bitCount_0f7a4 15 = .ok (.iload_n 0, 1) := by decide +kernel
theorem dJ6_bitCount_0f7a4_16 : decode cJ6_bitCount_0f7a4 16 = .ok (.iconst 2, 1) := by decide +kernel
theorem dJ6_bitCount_0f7a4_17 : decode cJ6_bitCount_0f7a4 17 = .ok (.iushr, 1) := by decide +kernel
theorem dJ6_bitCount_0f7a4_18 : decode cJ6_bitCount_0f7a4 18 = .ok (.ldc_w 266, 3) := by decide +kernel
theorem dJ6_bitCount_0f7a4_21 : decode cJ6_bitCount_0f7a4 21 = .ok (.iand, 1) := by decide +kernel
theorem dJ6_bitCount_0f7a4_22 : decode cJ6_bitCount_0f7a4 22 = .ok (.iadd, 1) := by decide +kernel
theorem dJ6_bitCount_0f7a4_23 : decode cJ6_bitCount_0f7a4 23 = .ok (.istore_n 0, 1) := by decide +kernel
theorem dJ6_bitCount_0f7a4_24 : decode cJ6_bitCount_0f7a4 24 = .ok (.iload_n 0, 1) := by decide +kernel
theorem dJ6_bitCount_0f7a4_25 : decode cJ6_bitCount_0f7a4 25 = .ok (.iload_n 0, 1) := by decide +kernel
theorem dJ6_bitCount_0f7a4_26 : decode cJ6_bitCount_0f7a4 26 = .ok (.iconst 4, 1) := by decide +kernel
theorem dJ6_bitCount_0f7a4_27 : decode cJ6_bitCount_0f7a4 27 = .ok (.iushr, 1) := by decide +kernel
theorem dJ6_bitCount_0f7a4_28 : decode cJ6_bitCount_0f7a4 28 = .ok (.iadd, 1) := by decide +kernel
theorem dJ6_bitCount_0f7a4_29 : decode cJ6_bitCount_0f7a4 29 = .ok (.ldc_w 267, 3) := by decide +kernel
theorem dJ6_bitCount_0f7a4_32 : decode cJ6_bitCount_0f7a4 32 = .ok (.iand, 1) := by decide +kernel
theorem dJ6_bitCount_0f7a4_33 : decode cJ6_bitCount_0f7a4 33 = .ok (.istore_n 0, 1) := by decide +kernel
theorem dJ6_bitCount_0f7a4_34 : decode cJ6_bitCount_0f7a4 34 = .ok (.iload_n 0, 1) := by decide +kernel
theorem dJ6_bitCount_0f7a4_35 : decode cJ6_bitCount_0f7a4 35 = .ok (.iload_n 0, 1) := by decide +kernel
theorem dJ6_bitCount_0f7a4_36 : decode cJ6_bitCount_0f7a4 36 = .ok (.bipush 8, 2) := by decide +kernel
theorem dJ6_bitCount_0f7a4_38 : decode cJ6_bitCount_0f7a4 38 = .ok (.iushr, 1) := by decide +kernel
theorem dJ6_bitCount_0f7a4_39 : decode cJ6_bitCount_0f7a4 39 = .ok (.iadd, 1) := by decide +kernel
theorem dJ6_bitCount_0f7a4_40 : decode cJ6_bitCount_0f7a4 40 = .ok (.istore_n 0, 1) := by decide +kernel
theorem dJ6_bitCount_0f7a4_41 : decode cJ6_bitCount_0f7a4 41 = .ok (.iload_n 0, 1) := by decide +kernel
theorem dJ6_bitCount_0f7a4_42 : decode cJ6_bitCount_0f7a4 42 = .ok (.iload_n 0, 1) := by decide +kernel
theorem dJ6_bitCount_0f7a4_43 : decode cJ6_bitCount_0f7a4 43 = .ok (.bipush 16, 2) := by decide +kernel
theorem dJ6_bitCount_0f7a4_45 : decode cJ6_bitCount_0f7a4 45 = .ok (.iushr, 1) := by decide +kernel
theorem dJ6_bitCount_0f7a4_46 : decode cJ6_bitCount_0f7a4 46 = .ok (.iadd, 1) := by decide +kernel
theorem dJ6_bitCount_0f7a4_47 : decode cJ6_bitCount_0f7a4 47 = .ok (.istore_n 0, 1) := by decide +kernel
theorem dJ6_bitCount_0f7a4_48 : decode cJ6_bitCount_0f7a4 48 = .ok (.iload_n 0, 1) := by decide +kernel
theorem dJ6_bitCount_0f7a4_49 : decode cJ6_bitCount_0f7a4 49 = .ok (.bipush 63, 2) := by decide +kernel
theorem dJ6_bitCount_0f7a4_51 : decode cJ6_bitCount_0f7a4 51 = .ok (.iand, 1) := by decide +kernel
theorem dJ6_bitCount_0f7a4_52 : decode cJ6_bitCount_0f7a4 52 = .ok (.ireturn, 1) := by decide +kernel
theorem dJ9_abs_0f7a4_0 : decode cJ9_abs_0f7a4 0 = .ok (.iload_n 0, 1) := by decide +kernel
theorem dJ9_abs_0f7a4_1 : decode cJ9_abs_0f7a4 1 = .ok (.ifCond .ge 8, 3) := by decide +kernel
theorem dJ9_abs_0f7a4_4 : decode cJ9_abs_0f7a4 4 = .ok (.iload_n 0, 1) := by decide +kernel
theorem dJ9_abs_0f7a4_5 : decode cJ9_abs_0f7a4 5 = .ok (.ineg, 1) := by decide +kernel
theorem dJ9_abs_0f7a4_6 : decode cJ9_abs_0f7a4 6 = .ok (.goto 4, 3) := by decide +kernel
theorem dJ9_abs_0f7a4_9 : decode cJ9_abs_0f7a4 9 = .ok (.iload_n 0, 1) := by decide +kernel
theorem dJ9_abs_0f7a4_10 : decode cJ9_abs_0f7a4 10 = .ok (.ireturn, 1) := by decide +kernel
theorem dJ9_max_7cf53_0 : decode cJ9_max_7cf53 0 = .ok (.iload_n 0, 1) := by decide +kernel
theorem dJ9_max_7cf53_1 : decode cJ9_max_7cf53 1 = .ok (.iload_n 1, 1) := by decide +kernel
theorem dJ9_max_7cf53_2 : decode cJ9_max_7cf53 2 = .ok (.if_icmp .lt 7, 3) := by decide +kernel
theorem dJ9_max_7cf53_5 : decode cJ9_max_7cf53 5 = .ok (.iload_n 0, 1) := by decide +kernel
theorem dJ9_max_7cf53_6 : decode cJ9_max_7cf53 6 = .ok (.goto 4, 3) := by decide +kernel
theorem dJ9_max_7cf53_9 : decode cJ9_max_7cf53 9 = .ok (.iload_n 1, 1) := by decide +kernel
theorem dJ9_max_7cf53_10 : decode cJ9_max_7cf53 10 = .ok (.ireturn, 1) := by decide +kernel
theorem dJ9_min_7cf53_0 : decode cJ9_min_7cf53 0 = .ok (.iload_n 0, 1) := by decide +kernel
theorem dJ9_min_7cf53_1 : decode cJ9_min_7cf53 1 = .ok (.iload_n 1, 1) := by decide +kernel
theorem dJ9_min_7cf53_2 : decode cJ9_min_7cf53 2 = .ok (.if_icmp .gt 7, 3) := by decide +kernel
theorem dJ9_min_7cf53_5 : decode cJ9_min_7cf53 5 = .ok (.iload_n 0, 1) := by decide +kernel
theorem dJ9_min_7cf53_6 : decode cJ9_min_7cf53 6 = .ok (.goto 4, 3) := by decide +kernel
theorem dJ9_min_7cf53_9 : decode cJ9_min_7cf53 9 = .ok (.iload_n 1, 1) := by decide +kernel
theorem dJ9_min_7cf53_10 : decode cJ9_min_7cf53 10 = .ok (.ireturn, 1) := by decide +kernel
