theorem dX9_init_0 : decode cX9_init 0 = .ok (.aload_n 0, 1) := by decide +kernel
theorem dX9_init_1 : decode cX9_init 1 = .ok (.invokespecial 1, 3) := by decide +kernel
theorem dX9_init_4 : decode cX9_init 4 = .ok (.aload_n 0, 1) := by decide +kernel
theorem dX9_init_5 : decode cX9_init 5 = .ok (.sipush 200, 3) := by decide +kernel
theorem dX9_init_8 : decode cX9_init 8 = .ok (.newarray .int, 2) := by decide +kernel
theorem dX9_init_10 : decode cX9_init 10 = .ok (.putfield 7, 3) := by decide +kernel
theorem dX9_init_13 : decode cX9_init 13 = .ok (.aload_n 0, 1) := by decide +kernel
theorem dX9_init_14 : decode cX9_init 14 = .ok (.bipush 6, 2) := by decide +kernel
theorem dX9_init_16 : decode cX9_init 16 = .ok (.newarray .int, 2) := by decide +kernel
theorem dX9_init_18 : decode cX9_init 18 = .ok (.putfield 13, 3) := by decide +kernel
theorem dX9_init_21 : decode cX9_init 21 = .ok (.aload_n 0, 1) := by decide +kernel
theorem dX9_init_22 : decode cX9_init 22 = .ok (.bipush 7, 2) := by decide +kernel
theorem dX9_init_24 : decode cX9_init 24 = .ok (.newarray .int, 2) := by decide +kernel
theorem dX9_init_26 : decode cX9_init 26 = .ok (.putfield 16, 3) := by decide +kernel
theorem dX9_init_29 : decode cX9_init 29 = .ok (.aload_n 0, 1) := by decide +kernel
theorem dX9_init_30 : decode cX9_init 30 = .ok (.bipush 7, 2) := by decide +kernel
theorem dX9_init_32 : decode cX9_init 32 = .ok (.newarray .int, 2) := by decide +kernel
theorem dX9_init_34 : decode cX9_init 34 = .ok (.putfield 19, 3) := by decide +kernel
theorem dX9_init_37 : decode cX9_init 37 = .ok (.aload_n 0, 1) := by decide +kernel
theorem dX9_init_38 : decode cX9_init 38 = .ok (.bipush 14, 2) := by decide +kernel
theorem dX9_init_40 : decode cX9_init 40 = .ok (.newarray .int, 2) := by decide +kernel
theorem dX9_init_42 : decode cX9_init 42 = .ok (.putfield 22, 3) := by decide +kernel
theorem dX9_init_45 : decode cX9_init 45 = .ok (.aload_n 0, 1) := by decide +kernel
theorem dX9_init_46 : decode cX9_init 46 = .ok (.bipush 14, 2) := by decide +kernel
theorem dX9_init_48 : decode cX9_init 48 = .ok (.newarray .int, 2) := by decide +kernel
theorem dX9_init_50 : decode cX9_init 50 = .ok (.putfield 25, 3) := by decide +kernel
theorem dX9_init_53 : decode cX9_init 53 = .ok (.aload_n 0, 1) := by decide +kernel
theorem dX9_init_54 : decode cX9_init 54 = .ok (.bipush 25, 2) := by decide +kernel
theorem dX9_init_56 : decode cX9_init 56 = .ok (.newarray .int, 2) := by decide +kernel
theorem dX9_init_58 : decode cX9_init 58 = .ok (.putfield 28, 3) := by decide +kernel
theorem dX9_init_61 : decode cX9_init 61 = .ok (.aload_n 0, 1) := by decide +kernel
theorem dX9_init_62 : decode cX9_init 62 = .ok (.bipush 25, 2) := by decide +kernel
theorem dX9_init_64 : decode cX9_init 64 = .ok (.newarray .int, 2) := by decide +kernel
theorem dX9_init_66 : decode cX9_init 66 = .ok (.putfield 31, 3) := by decide +kernel
theorem dX9_init_69 : decode cX9_init 69 = .ok (.aload_n 0, 1) := by decide +kernel
theorem dX9_init_70 : decode cX9_init 70 = .ok (.bipush 50, 2) := by decide +kernel
theorem dX9_init_72 : decode cX9_init 72 = .ok (.newarray .int, 2) := by decide +kernel
theorem dX9_init_74 : decode cX9_init 74 = .ok (.putfield 34, 3) := by decide +kernel
theorem dX9_init_77 : decode cX9_init 77 = .ok (.aload_n 0, 1) := by decide +kernel
theorem dX9_init_78 : decode cX9_init 78 = .ok (.iconst 2, 1) := by decide +kernel
theorem dX9_init_79 : decode cX9_init 79 = .ok (.newarray .boolean, 2) := by decide +kernel
theorem dX9_init_81 : decode cX9_init 81 = .ok (.putfield 37, 3) := by decide +kernel
theorem dX9_init_84 : decode cX9_init 84 = .ok (.aload_n 0, 1) := by decide +kernel
theorem dX9_init_85 : decode cX9_init 85 = .ok (.sipush 250, 3) := by decide +kernel
theorem dX9_init_88 : decode cX9_init 88 = .ok (.newarray .int, 2) := by decide +kernel
theorem dX9_init_90 : decode cX9_init 90 = .ok (.putfield 41, 3) := by decide +kernel
theorem dX9_init_93 : decode cX9_init 93 = .ok (.aload_n 0, 1) := by decide +kernel
theorem dX9_init_94 : decode cX9_init 94 = .ok (.bipush 6, 2) := by decide +kernel
theorem dX9_init_96 : decode cX9_init 96 = .ok (.newarray .int, 2) := by decide +kernel
theorem dX9_init_98 : decode cX9_init 98 = .ok (.putfield 44, 3) := by decide +kernel
theorem dX9_init_101 : decode cX9_init 101 = .ok (.aload_n 0, 1) := by decide +kernel
theorem dX9_init_102 : decode cX9_init 102 = .ok (.bipush 6, 2) := by decide +kernel
theorem dX9_init_104 : decode cX9_init 104 = .ok (.newarray .int, 2) := by decide +kernel
theorem dX9_init_106 : decode cX9_init 106 = .ok (.putfield 47, 3) := by decide +kernel
theorem dX9_init_109 : decode cX9_init 109 = .ok (.aload_n 0, 1) := by decide +kernel
theorem dX9_init_110 : decode cX9_init 110 = .ok (.bipush 6, 2) := by decide +kernel
theorem dX9_init_112 : decode cX9_init 112 = .ok (.newarray .int, 2) := by decide +kernel
theorem dX9_init_114 : decode cX9_init 114 = .ok (.putfield 50, 3) := by decide +kernel
theorem dX9_init_117 : decode cX9_init 117 = .ok (.aload_n 0, 1) := by decide +kernel
theorem dX9_init_118 : decode cX9_init 118 = .ok (.bipush 6, 2) := by decide +kernel
theorem dX9_init_120 : decode cX9_init 120 = .ok (.newarray .int, 2) := by decide +kernel
theorem dX9_init_122 : decode cX9_init 122 = .ok (.putfield 53, 3) := by decide +kernel
theorem dX9_init_125 : decode cX9_init 125 = .ok (.aload_n 0, 1) := by decide +kernel
theorem dX9_init_126 : decode cX9_init 126 = .ok (.bipush 7, 2) := by decide +kernel
theorem dX9_init_128 : decode cX9_init 128 = .ok (.newarray .int, 2) := by decide +kernel
theorem dX9_init_130 : decode cX9_init 130 = .ok (.putfield 56, 3) := by decide +kernel
theorem dX9_init_133 : decode cX9_init 133 = .ok (.aload_n 0, 1) := by decide +kernel
theorem dX9_init_134 : decode cX9_init 134 = .ok (.sipush 128, 3) := by decide +kernel
theorem dX9_init_137 : decode cX9_init 137 = .ok (.newarray .int, 2) := by decide +kernel
theorem dX9_init_139 : decode cX9_init 139 = .ok (.putfield 59, 3) := by decide +kernel
theorem dX9_init_142 : decode cX9_init 142 = .ok (.aload_n 0, 1) := by decide +kernel
theorem dX9_init_143 : decode cX9_init 143 = .ok (.getfield 13, 3) := by decide +kernel
theorem dX9_init_146 : decode cX9_init 146 = .ok (.iconst 0, 1) := by decide +kernel
theorem dX9_init_147 : decode cX9_init 147 = .ok (.iconst 4, 1) := by decide +kernel
theorem dX9_init_148 : decode cX9_init 148 = .ok (.iastore, 1) := by decide +kernel
theorem dX9_init_149 : decode cX9_init 149 = .ok (.aload_n 0, 1) := by decide +kernel
theorem dX9_init_150 : decode cX9_init 150 = .ok (.getfield 28, 3) := by decide +kernel
theorem dX9_init_153 : decode cX9_init 153 = .ok (.bipush 22, 2) := by decide +kernel
theorem dX9_init_155 : decode cX9_init 155 = .ok (.bipush 15, 2) := by decide +kernel
theorem dX9_init_157 : decode cX9_init 157 = .ok (.iastore, 1) := by decide +kernel
theorem dX9_init_158 : decode cX9_init 158 = .ok (.return_, 1) := by decide +kernel
theorem dX9_in_0 : decode cX9_in 0 = .ok (.iload_n 0, 1) := by decide +kernel
theorem dX9_in_1 : decode cX9_in 1 = .ok (.iload_n 1, 1) := by decide +kernel
theorem dX9_in_2 : decode cX9_in 2 = .ok (.if_icmp .lt 12, 3) := by decide +kernel
theorem dX9_in_5 : decode cX9_in 5 = .ok (.iload_n 0, 1) := by decide +kernel
theorem dX9_in_6 : decode cX9_in 6 = .ok (.iload_n 2, 1) := by decide +kernel
theorem dX9_in_7 : decode cX9_in 7 = .ok (.if_icmp .gt 7, 3) := by decide +kernel
theorem dX9_in_10 : decode cX9_in 10 = .ok (.iconst 1, 1) := by decide +kernel
theorem dX9_in_11 : decode cX9_in 11 = .ok (.goto 4, 3) := by decide +kernel
theorem dX9_in_14 : decode cX9_in 14 = .ok (.iconst 0, 1) := by decide +kernel
theorem dX9_in_15 : decode cX9_in 15 = .ok (.ireturn, 1) := by decide +kernel
theorem dX9_ones_0 : decode cX9_ones 0 = .ok (.iconst 0, 1) := by decide +kernel
theorem dX9_ones_1 : decode cX9_ones 1 = .ok (.istore_n 1, 1) := by decide +kernel
theorem dX9_ones_2 : decode cX9_ones 2 = .ok (.iconst 0, 1) := by decide +kernel
theorem dX9_ones_3 : decode cX9_ones 3 = .ok (.istore_n 2, 1) := by decide +kernel
theorem dX9_ones_4 : decode cX9_ones 4 = .ok (.iload_n 2, 1) := by decide +kernel
theorem dX9_ones_5 : decode cX9_ones 5 = .ok (.bipush 7, 2) := by decide +kernel
theorem dX9_ones_7 : decode cX9_ones 7 = .ok (.if_icmp .ge 17, 3) := by decide +kernel
theorem dX9_ones_10 : decode cX9_ones 10 = .ok (.iload_n 1, 1) := by decide +kernel
theorem dX9_ones_11 : decode cX9_ones 11 = .ok (.iload_n 0, 1) := by decide +kernel
theorem dX9_ones_12 : decode cX9_ones 12 = .ok (.iload_n 2, 1) := by decide +kernel
theorem dX9_ones_13 : decode cX9_ones 13 = .ok (.ishr, 1) := by decide +kernel
theorem dX9_ones_14 : decode cX9_ones 14 = .ok (.iconst 1, 1) := by decide +kernel
theorem dX9_ones_15 : decode cX9_ones 15 = .ok (.iand, 1) := by decide +kernel
theorem dX9_ones_16 : decode cX9_ones 16 = .ok (.iadd, 1) := by decide +kernel
theorem dX9_ones_17 : decode cX9_ones 17 = .ok (.istore_n 1, 1) := by decide +kernel
theorem dX9_ones_18 : decode cX9_ones 18 = .ok (.iinc 2 1, 3) := by decide +kernel
theorem dX9_ones_21 : decode cX9_ones 21 = .ok (.goto (-17), 3) := by decide +kernel
theorem dX9_ones_24 : decode cX9_ones 24 = .ok (.iload_n 1, 1) := by decide +kernel
theorem dX9_ones_25 : decode cX9_ones 25 = .ok (.ireturn, 1) := by decide +kernel
theorem dX9_type_0 : decode cX9_type 0 = .ok (.aload_n 0, 1) := by decide +kernel
theorem dX9_type_1 : decode cX9_type 1 = .ok (.iconst 0, 1) := by decide +kernel
theorem dX9_type_2 : decode cX9_type 2 = .ok (.putfield 62, 3) := by decide +kernel
theorem dX9_type_5 : decode cX9_type 5 = .ok (.iload_n 1, 1) := by decide +kernel
theorem dX9_type_6 : decode cX9_type 6 = .ok (.iconst 0, 1) := by decide +kernel
theorem dX9_type_7 : decode cX9_type 7 = .ok (.sipush 255, 3) := by decide +kernel
theorem dX9_type_10 : decode cX9_type 10 = .ok (.invokestatic 66, 3) := by decide +kernel
theorem dX9_type_13 : decode cX9_type 13 = .ok (.ifCond .ne 5, 3) := by decide +kernel
theorem dX9_type_16 : decode cX9_type 16 = .ok (.iconst (-1), 1) := by decide +kernel
theorem dX9_type_17 : decode cX9_type 17 = .ok (.ireturn, 1) := by decide +kernel
theorem dX9_type_18 : decode cX9_type 18 = .ok (.aload_n 0, 1) := by decide +kernel
theorem dX9_type_19 : decode cX9_type 19 = .ok (.getfield 70, 3) := by decide +kernel
theorem dX9_type_22 : decode cX9_type 22 = .ok (.sipush 200, 3) := by decide +kernel
theorem dX9_type_25 : decode cX9_type 25 = .ok (.if_icmp .ne 6, 3) := by decide +kernel
theorem dX9_type_28 : decode cX9_type 28 = .ok (.bipush (-3), 2) := by decide +kernel
theorem dX9_type_30 : decode cX9_type 30 = .ok (.ireturn, 1) := by decide +kernel
theorem dX9_type_31 : decode cX9_type 31 = .ok (.aload_n 0, 1) := by decide +kernel
theorem dX9_type_32 : decode cX9_type 32 = .ok (.getfield 7, 3) := by decide +kernel
theorem dX9_type_35 : decode cX9_type 35 = .ok (.aload_n 0, 1) := by decide +kernel
theorem dX9_type_36 : decode cX9_type 36 = .ok (.getfield 70, 3) := by decide +kernel
theorem dX9_type_39 : decode cX9_type 39 = .ok (.iload_n 1, 1) := by decide +kernel
theorem dX9_type_40 : decode cX9_type 40 = .ok (.iastore, 1) := by decide +kernel
theorem dX9_type_41 : decode cX9_type 41 = .ok (.aload_n 0, 1) := by decide +kernel
theorem dX9_type_42 : decode cX9_type 42 = .ok (.dup, 1) := by decide +kernel
theorem dX9_type_43 : decode cX9_type 43 = .ok (.getfield 70, 3) := by decide +kernel
theorem dX9_type_46 : decode cX9_type 46 = .ok (.iconst 1, 1) := by decide +kernel
theorem dX9_type_47 : decode cX9_type 47 = .ok (.iadd, 1) := by decide +kernel
theorem dX9_type_48 : decode cX9_type 48 = .ok (.putfield 70, 3) := by decide +kernel
theorem dX9_type_51 : decode cX9_type 51 = .ok (.aload_n 0, 1) := by decide +kernel
theorem dX9_type_52 : decode cX9_type 52 = .ok (.getfield 70, 3) := by decide +kernel
theorem dX9_type_55 : decode cX9_type 55 = .ok (.ireturn, 1) := by decide +kernel
theorem dX9_clear_0 : decode cX9_clear 0 = .ok (.aload_n 0, 1) := by decide +kernel
theorem dX9_clear_1 : decode cX9_clear 1 = .ok (.iconst 0, 1) := by decide +kernel
theorem dX9_clear_2 : decode cX9_clear 2 = .ok (.putfield 62, 3) := by decide +kernel
theorem dX9_clear_5 : decode cX9_clear 5 = .ok (.aload_n 0, 1) := by decide +kernel
theorem dX9_clear_6 : decode cX9_clear 6 = .ok (.getfield 70, 3) := by decide +kernel
theorem dX9_clear_9 : decode cX9_clear 9 = .ok (.istore_n 1, 1) := by decide +kernel
theorem dX9_clear_10 : decode cX9_clear 10 = .ok (.aload_n 0, 1) := by decide +kernel
theorem dX9_clear_11 : decode cX9_clear 11 = .ok (.iconst 0, 1) := by decide +kernel
theorem dX9_clear_12 : decode cX9_clear 12 = .ok (.putfield 70, 3) := by decide +kernel
theorem dX9_clear_15 : decode cX9_clear 15 = .ok (.iload_n 1, 1) := by decide +kernel
theorem dX9_clear_16 : decode cX9_clear 16 = .ok (.ireturn, 1) := by decide +kernel
theorem dX9_letterAt_0 : decode cX9_letterAt 0 = .ok (.iload_n 1, 1) := by decide +kernel
theorem dX9_letterAt_1 : decode cX9_letterAt 1 = .ok (.aload_n 0, 1) := by decide +kernel
theorem dX9_letterAt_2 : decode cX9_letterAt 2 = .ok (.getfield 70, 3) := by decide +kernel
theorem dX9_letterAt_5 : decode cX9_letterAt 5 = .ok (.if_icmp .ge 12, 3) := by decide +kernel
theorem dX9_letterAt_8 : decode cX9_letterAt 8 = .ok (.aload_n 0, 1) := by decide +kernel
theorem dX9_letterAt_9 : decode cX9_letterAt 9 = .ok (.getfield 7, 3) := by decide +kernel
theorem dX9_letterAt_12 : decode cX9_letterAt 12 = .ok (.iload_n 1, 1) := by decide +kernel
theorem dX9_letterAt_13 : decode cX9_letterAt 13 = .ok (.iaload, 1) := by decide +kernel
theorem dX9_letterAt_14 : decode cX9_letterAt 14 = .ok (.goto 4, 3) := by decide +kernel
theorem dX9_letterAt_17 : decode cX9_letterAt 17 = .ok (.iconst (-1), 1) := by decide +kernel
theorem dX9_letterAt_18 : decode cX9_letterAt 18 = .ok (.ireturn, 1) := by decide +kernel
theorem dX9_advances_0 : decode cX9_advances 0 = .ok (.aload_n 0, 1) := by decide +kernel
theorem dX9_advances_1 : decode cX9_advances 1 = .ok (.aload_n 0, 1) := by decide +kernel
theorem dX9_advances_2 : decode cX9_advances 2 = .ok (.getfield 73, 3) := by decide +kernel
theorem dX9_advances_5 : decode cX9_advances 5 = .ok (.invokevirtual 76, 3) := by decide +kernel
theorem dX9_advances_8 : decode cX9_advances 8 = .ok (.bipush 32, 2) := by decide +kernel
theorem dX9_advances_10 : decode cX9_advances 10 = .ok (.if_icmp .ne 16, 3) := by decide +kernel
theorem dX9_advances_13 : decode cX9_advances 13 = .ok (.aload_n 0, 1) := by decide +kernel
theorem dX9_advances_14 : decode cX9_advances 14 = .ok (.dup, 1) := by decide +kernel
theorem dX9_advances_15 : decode cX9_advances 15 = .ok (.getfield 73, 3) := by decide +kernel
theorem dX9_advances_18 : decode cX9_advances 18 = .ok (.iconst 1, 1) := by decide +kernel
theorem dX9_advances_19 : decode cX9_advances 19 = .ok (.iadd, 1) := by decide +kernel
theorem dX9_advances_20 : decode cX9_advances 20 = .ok (.putfield 73, 3) := by decide +kernel
theorem dX9_advances_23 : decode cX9_advances 23 = .ok (.goto (-23), 3) := by decide +kernel
theorem dX9_advances_26 : decode cX9_advances 26 = .ok (.aload_n 0, 1) := by decide +kernel
theorem dX9_advances_27 : decode cX9_advances 27 = .ok (.aload_n 0, 1) := by decide +kernel
theorem dX9_advances_28 : decode cX9_advances 28 = .ok (.getfield 73, 3) := by decide +kernel
theorem dX9_advances_31 : decode cX9_advances 31 = .ok (.putfield 80, 3) := by decide +kernel
theorem dX9_advances_34 : decode cX9_advances 34 = .ok (.aload_n 0, 1) := by decide +kernel
theorem dX9_advances_35 : decode cX9_advances 35 = .ok (.aload_n 0, 1) := by decide +kernel
theorem dX9_advances_36 : decode cX9_advances 36 = .ok (.getfield 73, 3) := by decide +kernel
theorem dX9_advances_39 : decode cX9_advances 39 = .ok (.invokevirtual 76, 3) := by decide +kernel
theorem dX9_advances_42 : decode cX9_advances 42 = .ok (.istore_n 1, 1) := by decide +kernel
theorem dX9_advances_43 : decode cX9_advances 43 = .ok (.iload_n 1, 1) := by decide +kernel
theorem dX9_advances_44 : decode cX9_advances 44 = .ok (.ifCond .ge 11, 3) := by decide +kernel
theorem dX9_advances_47 : decode cX9_advances 47 = .ok (.aload_n 0, 1) := by decide +kernel
theorem dX9_advances_48 : decode cX9_advances 48 = .ok (.iconst 0, 1) := by decide +kernel
theorem dX9_advances_49 : decode cX9_advances 49 = .ok (.putfield 83, 3) := by decide +kernel
theorem dX9_advances_52 : decode cX9_advances 52 = .ok (.goto 187, 3) := by decide +kernel
theorem dX9_advances_55 : decode cX9_advances 55 = .ok (.iload_n 1, 1) := by decide +kernel
theorem dX9_advances_56 : decode cX9_advances 56 = .ok (.bipush 48, 2) := by decide +kernel
theorem dX9_advances_58 : decode cX9_advances 58 = .ok (.bipush 57, 2) := by decide +kernel
theorem dX9_advances_60 : decode cX9_advances 60 = .ok (.invokestatic 66, 3) := by decide +kernel
theorem dX9_advances_63 : decode cX9_advances 63 = .ok (.ifCond .eq 118, 3) := by decide +kernel
theorem dX9_advances_66 : decode cX9_advances 66 = .ok (.aload_n 0, 1) := by decide +kernel
theorem dX9_advances_67 : decode cX9_advances 67 = .ok (.iconst 0, 1) := by decide +kernel
theorem dX9_advances_68 : decode cX9_advances 68 = .ok (.putfield 86, 3) := by decide +kernel
theorem dX9_advances_71 : decode cX9_advances 71 = .ok (.aload_n 0, 1) := by decide +kernel
theorem dX9_advances_72 : decode cX9_advances 72 = .ok (.aload_n 0, 1) := by decide +kernel
theorem dX9_advances_73 : decode cX9_advances 73 = .ok (.getfield 73, 3) := by decide +kernel
theorem dX9_advances_76 : decode cX9_advances 76 = .ok (.invokevirtual 76, 3) := by decide +kernel
theorem dX9_advances_79 : decode cX9_advances 79 = .ok (.bipush 48, 2) := by decide +kernel
theorem dX9_advances_81 : decode cX9_advances 81 = .ok (.bipush 57, 2) := by decide +kernel
theorem dX9_advances_83 : decode cX9_advances 83 = .ok (.invokestatic 66, 3) := by decide +kernel
theorem dX9_advances_86 : decode cX9_advances 86 = .ok (.ifCond .eq 55, 3) := by decide +kernel
theorem dX9_advances_89 : decode cX9_advances 89 = .ok (.aload_n 0, 1) := by decide +kernel
theorem dX9_advances_90 : decode cX9_advances 90 = .ok (.aload_n 0, 1) := by decide +kernel
theorem dX9_advances_91 : decode cX9_advances 91 = .ok (.getfield 86, 3) := by decide +kernel
theorem dX9_advances_94 : decode cX9_advances 94 = .ok (.bipush 99, 2) := by decide +kernel
theorem dX9_advances_96 : decode cX9_advances 96 = .ok (.if_icmp .le 10, 3) := by decide +kernel
theorem dX9_advances_99 : decode cX9_advances 99 = .ok (.aload_n 0, 1) := by decide +kernel
theorem dX9_advances_100 : decode cX9_advances 100 = .ok (.getfield 86, 3) := by decide +kernel
theorem dX9_advances_103 : decode cX9_advances 103 = .ok (.goto 22, 3) := by decide +kernel
theorem dX9_advances_106 : decode cX9_advances 106 = .ok (.bipush 10, 2) := by decide +kernel
theorem dX9_advances_108 : decode cX9_advances 108 = .ok (.aload_n 0, 1) := by decide +kernel
theorem dX9_advances_109 : decode cX9_advances 109 = .ok (.getfield 86, 3) := by decide +kernel
theorem dX9_advances_112 : decode cX9_advances 112 = .ok (.imul, 1) := by decide +kernel
theorem dX9_advances_113 : decode cX9_advances 113 = .ok (.aload_n 0, 1) := by decide +kernel
theorem dX9_advances_114 : decode cX9_advances 114 = .ok (.aload_n 0, 1) := by decide +kernel
theorem dX9_advances_115 : decode cX9_advances 115 = .ok (.getfield 73, 3) := by decide +kernel
theorem dX9_advances_118 : decode cX9_advances 118 = .ok (.invokevirtual 76, 3) := by decide +kernel
theorem dX9_advances_121 : decode cX9_advances 121 = .ok (.iadd, 1) := by decide +kernel
theorem dX9_advances_122 : decode cX9_advances 122 = .ok (.bipush 48, 2) := by decide +kernel
theorem dX9_advances_124 : decode cX9_advances 124 = .ok (.isub, 1) := by decide +kernel
theorem dX9_advances_125 : decode cX9_advances 125 = .ok (.putfield 86, 3) := by decide +kernel
theorem dX9_advances_128 : decode cX9_advances 128 = .ok (.aload_n 0, 1) := by decide +kernel
theorem dX9_advances_129 : decode cX9_advances 129 = .ok (.dup, 1) := by decide +kernel
theorem dX9_advances_130 : decode cX9_advances 130 = .ok (.getfield 73, 3) := by decide +kernel
theorem dX9_advances_133 : decode cX9_advances 133 = .ok (.iconst 1, 1) := by decide +kernel
theorem dX9_advances_134 : decode cX9_advances 134 = .ok (.iadd, 1) := by decide +kernel
theorem dX9_advances_135 : decode cX9_advances 135 = .ok (.putfield 73, 3) := by decide +kernel
theorem dX9_advances_138 : decode cX9_advances 138 = .ok (.goto (-67), 3) := by decide +kernel
theorem dX9_advances_141 : decode cX9_advances 141 = .ok (.aload_n 0, 1) := by decide +kernel
theorem dX9_advances_142 : decode cX9_advances 142 = .ok (.aload_n 0, 1) := by decide +kernel
theorem dX9_advances_143 : decode cX9_advances 143 = .ok (.getfield 86, 3) := by decide +kernel
theorem dX9_advances_146 : decode cX9_advances 146 = .ok (.bipush 99, 2) := by decide +kernel
theorem dX9_advances_148 : decode cX9_advances 148 = .ok (.if_icmp .gt 22, 3) := by decide +kernel
theorem dX9_advances_151 : decode cX9_advances 151 = .ok (.iload_n 1, 1) := by decide +kernel
theorem dX9_advances_152 : decode cX9_advances 152 = .ok (.bipush 48, 2) := by decide +kernel
theorem dX9_advances_154 : decode cX9_advances 154 = .ok (.if_icmp .ne 20, 3) := by decide +kernel
theorem dX9_advances_157 : decode cX9_advances 157 = .ok (.aload_n 0, 1) := by decide +kernel
theorem dX9_advances_158 : decode cX9_advances 158 = .ok (.getfield 73, 3) := by decide +kernel
theorem dX9_advances_161 : decode cX9_advances 161 = .ok (.aload_n 0, 1) := by decide +kernel
theorem dX9_advances_162 : decode cX9_advances 162 = .ok (.getfield 80, 3) := by decide +kernel
theorem dX9_advances_165 : decode cX9_advances 165 = .ok (.isub, 1) := by decide +kernel
theorem dX9_advances_166 : decode cX9_advances 166 = .ok (.iconst 1, 1) := by decide +kernel
theorem dX9_advances_167 : decode cX9_advances 167 = .ok (.if_icmp .le 7, 3) := by decide +kernel
theorem dX9_advances_170 : decode cX9_advances 170 = .ok (.iconst 4, 1) := by decide +kernel
theorem dX9_advances_171 : decode cX9_advances 171 = .ok (.goto 4, 3) := by decide +kernel
theorem dX9_advances_174 : decode cX9_advances 174 = .ok (.iconst 2, 1) := by decide +kernel
theorem dX9_advances_175 : decode cX9_advances 175 = .ok (.putfield 83, 3) := by decide +kernel
theorem dX9_advances_178 : decode cX9_advances 178 = .ok (.goto 61, 3) := by decide +kernel
theorem dX9_advances_181 : decode cX9_advances 181 = .ok (.aload_n 0, 1) := by decide +kernel
theorem dX9_advances_182 : decode cX9_advances 182 = .ok (.dup, 1) := by decide +kernel
theorem dX9_advances_183 : decode cX9_advances 183 = .ok (.getfield 73, 3) := by decide +kernel
theorem dX9_advances_186 : decode cX9_advances 186 = .ok (.iconst 1, 1) := by decide +kernel
theorem dX9_advances_187 : decode cX9_advances 187 = .ok (.iadd, 1) := by decide +kernel
theorem dX9_advances_188 : decode cX9_advances 188 = .ok (.putfield 73, 3) := by decide +kernel
theorem dX9_advances_191 : decode cX9_advances 191 = .ok (.aload_n 0, 1) := by decide +kernel
theorem dX9_advances_192 : decode cX9_advances 192 = .ok (.iload_n 1, 1) := by decide +kernel
theorem dX9_advances_193 : decode cX9_advances 193 = .ok (.putfield 86, 3) := by decide +kernel
theorem dX9_advances_196 : decode cX9_advances 196 = .ok (.aload_n 0, 1) := by decide +kernel
theorem dX9_advances_197 : decode cX9_advances 197 = .ok (.iload_n 1, 1) := by decide +kernel
theorem dX9_advances_198 : decode cX9_advances 198 = .ok (.bipush 59, 2) := by decide +kernel
theorem dX9_advances_200 : decode cX9_advances 200 = .ok (.if_icmp .ne 7, 3) := by decide +kernel
theorem dX9_advances_203 : decode cX9_advances 203 = .ok (.iconst 3, 1) := by decide +kernel
theorem dX9_advances_204 : decode cX9_advances 204 = .ok (.goto 32, 3) := by decide +kernel
theorem dX9_advances_207 : decode cX9_advances 207 = .ok (.iload_n 1, 1) := by decide +kernel
theorem dX9_advances_208 : decode cX9_advances 208 = .ok (.bipush 110, 2) := by decide +kernel
theorem dX9_advances_210 : decode cX9_advances 210 = .ok (.if_icmp .eq 21, 3) := by decide +kernel
theorem dX9_advances_213 : decode cX9_advances 213 = .ok (.iload_n 1, 1) := by decide +kernel
theorem dX9_advances_214 : decode cX9_advances 214 = .ok (.bipush 112, 2) := by decide +kernel
theorem dX9_advances_216 : decode cX9_advances 216 = .ok (.if_icmp .eq 15, 3) := by decide +kernel
theorem dX9_advances_219 : decode cX9_advances 219 = .ok (.iload_n 1, 1) := by decide +kernel
theorem dX9_advances_220 : decode cX9_advances 220 = .ok (.bipush 113, 2) := by decide +kernel
theorem dX9_advances_222 : decode cX9_advances 222 = .ok (.if_icmp .eq 9, 3) := by decide +kernel
theorem dX9_advances_225 : decode cX9_advances 225 = .ok (.iload_n 1, 1) := by decide +kernel
theorem dX9_advances_226 : decode cX9_advances 226 = .ok (.bipush 108, 2) := by decide +kernel
theorem dX9_advances_228 : decode cX9_advances 228 = .ok (.if_icmp .ne 7, 3) := by decide +kernel
theorem dX9_advances_231 : decode cX9_advances 231 = .ok (.iconst 1, 1) := by decide +kernel
theorem dX9_advances_232 : decode cX9_advances 232 = .ok (.goto 4, 3) := by decide +kernel
theorem dX9_advances_235 : decode cX9_advances 235 = .ok (.iconst 4, 1) := by decide +kernel
theorem dX9_advances_236 : decode cX9_advances 236 = .ok (.putfield 83, 3) := by decide +kernel
theorem dX9_advances_239 : decode cX9_advances 239 = .ok (.return_, 1) := by decide +kernel
theorem dX9_isWell_0 : decode cX9_isWell 0 = .ok (.aload_n 0, 1) := by decide +kernel
theorem dX9_isWell_1 : decode cX9_isWell 1 = .ok (.getfield 89, 3) := by decide +kernel
theorem dX9_isWell_4 : decode cX9_isWell 4 = .ok (.ifCond .ge 7, 3) := by decide +kernel
theorem dX9_isWell_7 : decode cX9_isWell 7 = .ok (.iconst 1, 1) := by decide +kernel
theorem dX9_isWell_8 : decode cX9_isWell 8 = .ok (.goto 4, 3) := by decide +kernel
theorem dX9_isWell_11 : decode cX9_isWell 11 = .ok (.iconst 0, 1) := by decide +kernel
theorem dX9_isWell_12 : decode cX9_isWell 12 = .ok (.ireturn, 1) := by decide +kernel
theorem dX9_takes_0 : decode cX9_takes 0 = .ok (.aload_n 0, 1) := by decide +kernel
theorem dX9_takes_1 : decode cX9_takes 1 = .ok (.invokevirtual 92, 3) := by decide +kernel
theorem dX9_takes_4 : decode cX9_takes 4 = .ok (.ifCond .ne 5, 3) := by decide +kernel
theorem dX9_takes_7 : decode cX9_takes 7 = .ok (.iconst 0, 1) := by decide +kernel
theorem dX9_takes_8 : decode cX9_takes 8 = .ok (.ireturn, 1) := by decide +kernel
theorem dX9_takes_9 : decode cX9_takes 9 = .ok (.iload_n 1, 1) := by decide +kernel
theorem dX9_takes_10 : decode cX9_takes 10 = .ok (.ifCond .ne 13, 3) := by decide +kernel
theorem dX9_takes_13 : decode cX9_takes 13 = .ok (.aload_n 0, 1) := by decide +kernel
theorem dX9_takes_14 : decode cX9_takes 14 = .ok (.aload_n 0, 1) := by decide +kernel
theorem dX9_takes_15 : decode cX9_takes 15 = .ok (.getfield 80, 3) := by decide +kernel
theorem dX9_takes_18 : decode cX9_takes 18 = .ok (.putfield 89, 3) := by decide +kernel
theorem dX9_takes_21 : decode cX9_takes 21 = .ok (.iconst 0, 1) := by decide +kernel
theorem dX9_takes_22 : decode cX9_takes 22 = .ok (.ireturn, 1) := by decide +kernel
theorem dX9_takes_23 : decode cX9_takes 23 = .ok (.aload_n 0, 1) := by decide +kernel
theorem dX9_takes_24 : decode cX9_takes 24 = .ok (.getfield 86, 3) := by decide +kernel
theorem dX9_takes_27 : decode cX9_takes 27 = .ok (.istore_n 2, 1) := by decide +kernel
theorem dX9_takes_28 : decode cX9_takes 28 = .ok (.aload_n 0, 1) := by decide +kernel
theorem dX9_takes_29 : decode cX9_takes 29 = .ok (.invokevirtual 96, 3) := by decide +kernel
theorem dX9_takes_32 : decode cX9_takes 32 = .ok (.iload_n 2, 1) := by decide +kernel
theorem dX9_takes_33 : decode cX9_takes 33 = .ok (.ireturn, 1) := by decide +kernel
theorem dX9_number_0 : decode cX9_number 0 = .ok (.aload_n 0, 1) := by decide +kernel
theorem dX9_number_1 : decode cX9_number 1 = .ok (.aload_n 0, 1) := by decide +kernel
theorem dX9_number_2 : decode cX9_number 2 = .ok (.getfield 83, 3) := by decide +kernel
theorem dX9_number_5 : decode cX9_number 5 = .ok (.iconst 2, 1) := by decide +kernel
theorem dX9_number_6 : decode cX9_number 6 = .ok (.if_icmp .ne 19, 3) := by decide +kernel
theorem dX9_number_9 : decode cX9_number 9 = .ok (.aload_n 0, 1) := by decide +kernel
theorem dX9_number_10 : decode cX9_number 10 = .ok (.getfield 86, 3) := by decide +kernel
theorem dX9_number_13 : decode cX9_number 13 = .ok (.iload_n 1, 1) := by decide +kernel
theorem dX9_number_14 : decode cX9_number 14 = .ok (.iload_n 2, 1) := by decide +kernel
theorem dX9_number_15 : decode cX9_number 15 = .ok (.invokestatic 66, 3) := by decide +kernel
theorem dX9_number_18 : decode cX9_number 18 = .ok (.ifCond .eq 7, 3) := by decide +kernel
theorem dX9_number_21 : decode cX9_number 21 = .ok (.iconst 1, 1) := by decide +kernel
theorem dX9_number_22 : decode cX9_number 22 = .ok (.goto 4, 3) := by decide +kernel
theorem dX9_number_25 : decode cX9_number 25 = .ok (.iconst 0, 1) := by decide +kernel
theorem dX9_number_26 : decode cX9_number 26 = .ok (.invokevirtual 99, 3) := by decide +kernel
theorem dX9_number_29 : decode cX9_number 29 = .ok (.ireturn, 1) := by decide +kernel
theorem dX9_mayBegin_0 : decode cX9_mayBegin 0 = .ok (.aload_n 0, 1) := by decide +kernel
theorem dX9_mayBegin_1 : decode cX9_mayBegin 1 = .ok (.getfield 86, 3) := by decide +kernel
theorem dX9_mayBegin_4 : decode cX9_mayBegin 4 = .ok (.bipush 110, 2) := by decide +kernel
theorem dX9_mayBegin_6 : decode cX9_mayBegin 6 = .ok (.if_icmp .ne 15, 3) := by decide +kernel
theorem dX9_mayBegin_9 : decode cX9_mayBegin 9 = .ok (.iload_n 1, 1) := by decide +kernel
theorem dX9_mayBegin_10 : decode cX9_mayBegin 10 = .ok (.ifCond .ne 7, 3) := by decide +kernel
theorem dX9_mayBegin_13 : decode cX9_mayBegin 13 = .ok (.iconst 1, 1) := by decide +kernel
theorem dX9_mayBegin_14 : decode cX9_mayBegin 14 = .ok (.goto 56, 3) := by decide +kernel
theorem dX9_mayBegin_17 : decode cX9_mayBegin 17 = .ok (.iconst 0, 1) := by decide +kernel
theorem dX9_mayBegin_18 : decode cX9_mayBegin 18 = .ok (.goto 52, 3) := by decide +kernel
theorem dX9_mayBegin_21 : decode cX9_mayBegin 21 = .ok (.aload_n 0, 1) := by decide +kernel
theorem dX9_mayBegin_22 : decode cX9_mayBegin 22 = .ok (.getfield 86, 3) := by decide +kernel
theorem dX9_mayBegin_25 : decode cX9_mayBegin 25 = .ok (.bipush 112, 2) := by decide +kernel
theorem dX9_mayBegin_27 : decode cX9_mayBegin 27 = .ok (.if_icmp .ne 22, 3) := by decide +kernel
theorem dX9_mayBegin_30 : decode cX9_mayBegin 30 = .ok (.aload_n 0, 1) := by decide +kernel
theorem dX9_mayBegin_31 : decode cX9_mayBegin 31 = .ok (.getfield 13, 3) := by decide +kernel
theorem dX9_mayBegin_34 : decode cX9_mayBegin 34 = .ok (.iconst 4, 1) := by decide +kernel
theorem dX9_mayBegin_35 : decode cX9_mayBegin 35 = .ok (.iaload, 1) := by decide +kernel
theorem dX9_mayBegin_36 : decode cX9_mayBegin 36 = .ok (.bipush 7, 2) := by decide +kernel
theorem dX9_mayBegin_38 : decode cX9_mayBegin 38 = .ok (.if_icmp .ge 7, 3) := by decide +kernel
theorem dX9_mayBegin_41 : decode cX9_mayBegin 41 = .ok (.iconst 1, 1) := by decide +kernel
theorem dX9_mayBegin_42 : decode cX9_mayBegin 42 = .ok (.goto 28, 3) := by decide +kernel
theorem dX9_mayBegin_45 : decode cX9_mayBegin 45 = .ok (.iconst 0, 1) := by decide +kernel
theorem dX9_mayBegin_46 : decode cX9_mayBegin 46 = .ok (.goto 24, 3) := by decide +kernel
theorem dX9_mayBegin_49 : decode cX9_mayBegin 49 = .ok (.aload_n 0, 1) := by decide +kernel
theorem dX9_mayBegin_50 : decode cX9_mayBegin 50 = .ok (.getfield 86, 3) := by decide +kernel
theorem dX9_mayBegin_53 : decode cX9_mayBegin 53 = .ok (.bipush 113, 2) := by decide +kernel
theorem dX9_mayBegin_55 : decode cX9_mayBegin 55 = .ok (.if_icmp .eq 10, 3) := by decide +kernel
theorem dX9_mayBegin_58 : decode cX9_mayBegin 58 = .ok (.aload_n 0, 1) := by decide +kernel
theorem dX9_mayBegin_59 : decode cX9_mayBegin 59 = .ok (.getfield 103, 3) := by decide +kernel
theorem dX9_mayBegin_62 : decode cX9_mayBegin 62 = .ok (.ifCond .ne 7, 3) := by decide +kernel
theorem dX9_mayBegin_65 : decode cX9_mayBegin 65 = .ok (.iconst 1, 1) := by decide +kernel
theorem dX9_mayBegin_66 : decode cX9_mayBegin 66 = .ok (.goto 4, 3) := by decide +kernel
theorem dX9_mayBegin_69 : decode cX9_mayBegin 69 = .ok (.iconst 0, 1) := by decide +kernel
theorem dX9_mayBegin_70 : decode cX9_mayBegin 70 = .ok (.ireturn, 1) := by decide +kernel
theorem dX9_readsItem_0 : decode cX9_readsItem 0 = .ok (.iload_n 1, 1) := by decide +kernel
theorem dX9_readsItem_1 : decode cX9_readsItem 1 = .ok (.bipush 110, 2) := by decide +kernel
theorem dX9_readsItem_3 : decode cX9_readsItem 3 = .ok (.if_icmp .ne 18, 3) := by decide +kernel
theorem dX9_readsItem_6 : decode cX9_readsItem 6 = .ok (.aload_n 0, 1) := by decide +kernel
theorem dX9_readsItem_7 : decode cX9_readsItem 7 = .ok (.getfield 13, 3) := by decide +kernel
theorem dX9_readsItem_10 : decode cX9_readsItem 10 = .ok (.iconst 3, 1) := by decide +kernel
theorem dX9_readsItem_11 : decode cX9_readsItem 11 = .ok (.aload_n 0, 1) := by decide +kernel
theorem dX9_readsItem_12 : decode cX9_readsItem 12 = .ok (.iconst 1, 1) := by decide +kernel
theorem dX9_readsItem_13 : decode cX9_readsItem 13 = .ok (.iconst 4, 1) := by decide +kernel
theorem dX9_readsItem_14 : decode cX9_readsItem 14 = .ok (.invokevirtual 107, 3) := by decide +kernel
theorem dX9_readsItem_17 : decode cX9_readsItem 17 = .ok (.iastore, 1) := by decide +kernel
theorem dX9_readsItem_18 : decode cX9_readsItem 18 = .ok (.goto 200, 3) := by decide +kernel
theorem dX9_readsItem_21 : decode cX9_readsItem 21 = .ok (.iload_n 1, 1) := by decide +kernel
theorem dX9_readsItem_22 : decode cX9_readsItem 22 = .ok (.bipush 112, 2) := by decide +kernel
theorem dX9_readsItem_24 : decode cX9_readsItem 24 = .ok (.if_icmp .ne 71, 3) := by decide +kernel
theorem dX9_readsItem_27 : decode cX9_readsItem 27 = .ok (.aload_n 0, 1) := by decide +kernel
theorem dX9_readsItem_28 : decode cX9_readsItem 28 = .ok (.getfield 13, 3) := by decide +kernel
theorem dX9_readsItem_31 : decode cX9_readsItem 31 = .ok (.iconst 4, 1) := by decide +kernel
theorem dX9_readsItem_32 : decode cX9_readsItem 32 = .ok (.iaload, 1) := by decide +kernel
theorem dX9_readsItem_33 : decode cX9_readsItem 33 = .ok (.istore_n 2, 1) := by decide +kernel
theorem dX9_readsItem_34 : decode cX9_readsItem 34 = .ok (.aload_n 0, 1) := by decide +kernel
theorem dX9_readsItem_35 : decode cX9_readsItem 35 = .ok (.getfield 16, 3) := by decide +kernel
theorem dX9_readsItem_38 : decode cX9_readsItem 38 = .ok (.iload_n 2, 1) := by decide +kernel
theorem dX9_readsItem_39 : decode cX9_readsItem 39 = .ok (.aload_n 0, 1) := by decide +kernel
theorem dX9_readsItem_40 : decode cX9_readsItem 40 = .ok (.iconst 0, 1) := by decide +kernel
theorem dX9_readsItem_41 : decode cX9_readsItem 41 = .ok (.aload_n 0, 1) := by decide +kernel
theorem dX9_readsItem_42 : decode cX9_readsItem 42 = .ok (.getfield 13, 3) := by decide +kernel
theorem dX9_readsItem_45 : decode cX9_readsItem 45 = .ok (.iconst 3, 1) := by decide +kernel
theorem dX9_readsItem_46 : decode cX9_readsItem 46 = .ok (.iaload, 1) := by decide +kernel
theorem dX9_readsItem_47 : decode cX9_readsItem 47 = .ok (.iconst 1, 1) := by decide +kernel
theorem dX9_readsItem_48 : decode cX9_readsItem 48 = .ok (.isub, 1) := by decide +kernel
theorem dX9_readsItem_49 : decode cX9_readsItem 49 = .ok (.invokevirtual 107, 3) := by decide +kernel
theorem dX9_readsItem_52 : decode cX9_readsItem 52 = .ok (.iastore, 1) := by decide +kernel
theorem dX9_readsItem_53 : decode cX9_readsItem 53 = .ok (.aload_n 0, 1) := by decide +kernel
theorem dX9_readsItem_54 : decode cX9_readsItem 54 = .ok (.getfield 19, 3) := by decide +kernel
theorem dX9_readsItem_57 : decode cX9_readsItem 57 = .ok (.iload_n 2, 1) := by decide +kernel
theorem dX9_readsItem_58 : decode cX9_readsItem 58 = .ok (.aload_n 0, 1) := by decide +kernel
theorem dX9_readsItem_59 : decode cX9_readsItem 59 = .ok (.iconst 0, 1) := by decide +kernel
theorem dX9_readsItem_60 : decode cX9_readsItem 60 = .ok (.bipush 99, 2) := by decide +kernel
theorem dX9_readsItem_62 : decode cX9_readsItem 62 = .ok (.invokevirtual 107, 3) := by decide +kernel
theorem dX9_readsItem_65 : decode cX9_readsItem 65 = .ok (.iastore, 1) := by decide +kernel
theorem dX9_readsItem_66 : decode cX9_readsItem 66 = .ok (.aload_n 0, 1) := by decide +kernel
theorem dX9_readsItem_67 : decode cX9_readsItem 67 = .ok (.getfield 22, 3) := by decide +kernel
theorem dX9_readsItem_70 : decode cX9_readsItem 70 = .ok (.bipush 7, 2) := by decide +kernel
theorem dX9_readsItem_72 : decode cX9_readsItem 72 = .ok (.iload_n 2, 1) := by decide +kernel
theorem dX9_readsItem_73 : decode cX9_readsItem 73 = .ok (.iadd, 1) := by decide +kernel
theorem dX9_readsItem_74 : decode cX9_readsItem 74 = .ok (.aload_n 0, 1) := by decide +kernel
theorem dX9_readsItem_75 : decode cX9_readsItem 75 = .ok (.iconst 0, 1) := by decide +kernel
theorem dX9_readsItem_76 : decode cX9_readsItem 76 = .ok (.bipush 31, 2) := by decide +kernel
theorem dX9_readsItem_78 : decode cX9_readsItem 78 = .ok (.invokevirtual 107, 3) := by decide +kernel
theorem dX9_readsItem_81 : decode cX9_readsItem 81 = .ok (.iastore, 1) := by decide +kernel
theorem dX9_readsItem_82 : decode cX9_readsItem 82 = .ok (.aload_n 0, 1) := by decide +kernel
theorem dX9_readsItem_83 : decode cX9_readsItem 83 = .ok (.getfield 13, 3) := by decide +kernel
theorem dX9_readsItem_86 : decode cX9_readsItem 86 = .ok (.iconst 4, 1) := by decide +kernel
theorem dX9_readsItem_87 : decode cX9_readsItem 87 = .ok (.dup2, 1) := by decide +kernel
theorem dX9_readsItem_88 : decode cX9_readsItem 88 = .ok (.iaload, 1) := by decide +kernel
theorem dX9_readsItem_89 : decode cX9_readsItem 89 = .ok (.iconst 1, 1) := by decide +kernel
theorem dX9_readsItem_90 : decode cX9_readsItem 90 = .ok (.iadd, 1) := by decide +kernel
theorem dX9_readsItem_91 : decode cX9_readsItem 91 = .ok (.iastore, 1) := by decide +kernel
theorem dX9_readsItem_92 : decode cX9_readsItem 92 = .ok (.goto 126, 3) := by decide +kernel
theorem dX9_readsItem_95 : decode cX9_readsItem 95 = .ok (.iload_n 1, 1) := by decide +kernel
theorem dX9_readsItem_96 : decode cX9_readsItem 96 = .ok (.bipush 113, 2) := by decide +kernel
theorem dX9_readsItem_98 : decode cX9_readsItem 98 = .ok (.if_icmp .ne 102, 3) := by decide +kernel
theorem dX9_readsItem_101 : decode cX9_readsItem 101 = .ok (.aload_n 0, 1) := by decide +kernel
theorem dX9_readsItem_102 : decode cX9_readsItem 102 = .ok (.iconst 0, 1) := by decide +kernel
theorem dX9_readsItem_103 : decode cX9_readsItem 103 = .ok (.aload_n 0, 1) := by decide +kernel
theorem dX9_readsItem_104 : decode cX9_readsItem 104 = .ok (.getfield 13, 3) := by decide +kernel
theorem dX9_readsItem_107 : decode cX9_readsItem 107 = .ok (.iconst 4, 1) := by decide +kernel
theorem dX9_readsItem_108 : decode cX9_readsItem 108 = .ok (.iaload, 1) := by decide +kernel
theorem dX9_readsItem_109 : decode cX9_readsItem 109 = .ok (.iconst 1, 1) := by decide +kernel
theorem dX9_readsItem_110 : decode cX9_readsItem 110 = .ok (.isub, 1) := by decide +kernel
theorem dX9_readsItem_111 : decode cX9_readsItem 111 = .ok (.invokevirtual 107, 3) := by decide +kernel
theorem dX9_readsItem_114 : decode cX9_readsItem 114 = .ok (.istore_n 2, 1) := by decide +kernel
theorem dX9_readsItem_115 : decode cX9_readsItem 115 = .ok (.aload_n 0, 1) := by decide +kernel
theorem dX9_readsItem_116 : decode cX9_readsItem 116 = .ok (.aload_n 0, 1) := by decide +kernel
theorem dX9_readsItem_117 : decode cX9_readsItem 117 = .ok (.getfield 83, 3) := by decide +kernel
theorem dX9_readsItem_120 : decode cX9_readsItem 120 = .ok (.iconst 2, 1) := by decide +kernel
theorem dX9_readsItem_121 : decode cX9_readsItem 121 = .ok (.if_icmp .ne 34, 3) := by decide +kernel
theorem dX9_readsItem_124 : decode cX9_readsItem 124 = .ok (.aload_n 0, 1) := by decide +kernel
theorem dX9_readsItem_125 : decode cX9_readsItem 125 = .ok (.getfield 86, 3) := by decide +kernel
theorem dX9_readsItem_128 : decode cX9_readsItem 128 = .ok (.iconst 0, 1) := by decide +kernel
theorem dX9_readsItem_129 : decode cX9_readsItem 129 = .ok (.aload_n 0, 1) := by decide +kernel
theorem dX9_readsItem_130 : decode cX9_readsItem 130 = .ok (.getfield 13, 3) := by decide +kernel
theorem dX9_readsItem_133 : decode cX9_readsItem 133 = .ok (.iconst 4, 1) := by decide +kernel
theorem dX9_readsItem_134 : decode cX9_readsItem 134 = .ok (.iaload, 1) := by decide +kernel
theorem dX9_readsItem_135 : decode cX9_readsItem 135 = .ok (.iconst 1, 1) := by decide +kernel
theorem dX9_readsItem_136 : decode cX9_readsItem 136 = .ok (.isub, 1) := by decide +kernel
theorem dX9_readsItem_137 : decode cX9_readsItem 137 = .ok (.invokestatic 66, 3) := by decide +kernel
theorem dX9_readsItem_140 : decode cX9_readsItem 140 = .ok (.ifCond .eq 15, 3) := by decide +kernel
theorem dX9_readsItem_143 : decode cX9_readsItem 143 = .ok (.aload_n 0, 1) := by decide +kernel
theorem dX9_readsItem_144 : decode cX9_readsItem 144 = .ok (.getfield 86, 3) := by decide +kernel
theorem dX9_readsItem_147 : decode cX9_readsItem 147 = .ok (.iload_n 2, 1) := by decide +kernel
theorem dX9_readsItem_148 : decode cX9_readsItem 148 = .ok (.if_icmp .eq 7, 3) := by decide +kernel
theorem dX9_readsItem_151 : decode cX9_readsItem 151 = .ok (.iconst 1, 1) := by decide +kernel
theorem dX9_readsItem_152 : decode cX9_readsItem 152 = .ok (.goto 4, 3) := by decide +kernel
theorem dX9_readsItem_155 : decode cX9_readsItem 155 = .ok (.iconst 0, 1) := by decide +kernel
theorem dX9_readsItem_156 : decode cX9_readsItem 156 = .ok (.invokevirtual 99, 3) := by decide +kernel
theorem dX9_readsItem_159 : decode cX9_readsItem 159 = .ok (.istore_n 3, 1) := by decide +kernel
theorem dX9_readsItem_160 : decode cX9_readsItem 160 = .ok (.aload_n 0, 1) := by decide +kernel
theorem dX9_readsItem_161 : decode cX9_readsItem 161 = .ok (.invokevirtual 92, 3) := by decide +kernel
theorem dX9_readsItem_164 : decode cX9_readsItem 164 = .ok (.ifCond .eq 33, 3) := by decide +kernel
theorem dX9_readsItem_167 : decode cX9_readsItem 167 = .ok (.aload_n 0, 1) := by decide +kernel
theorem dX9_readsItem_168 : decode cX9_readsItem 168 = .ok (.getfield 25, 3) := by decide +kernel
theorem dX9_readsItem_171 : decode cX9_readsItem 171 = .ok (.bipush 7, 2) := by decide +kernel
theorem dX9_readsItem_173 : decode cX9_readsItem 173 = .ok (.iload_n 2, 1) := by decide +kernel
theorem dX9_readsItem_174 : decode cX9_readsItem 174 = .ok (.iadd, 1) := by decide +kernel
theorem dX9_readsItem_175 : decode cX9_readsItem 175 = .ok (.dup2, 1) := by decide +kernel
theorem dX9_readsItem_176 : decode cX9_readsItem 176 = .ok (.iaload, 1) := by decide +kernel
theorem dX9_readsItem_177 : decode cX9_readsItem 177 = .ok (.iconst 1, 1) := by decide +kernel
theorem dX9_readsItem_178 : decode cX9_readsItem 178 = .ok (.iload_n 3, 1) := by decide +kernel
theorem dX9_readsItem_179 : decode cX9_readsItem 179 = .ok (.ishl, 1) := by decide +kernel
theorem dX9_readsItem_180 : decode cX9_readsItem 180 = .ok (.ior, 1) := by decide +kernel
theorem dX9_readsItem_181 : decode cX9_readsItem 181 = .ok (.iastore, 1) := by decide +kernel
theorem dX9_readsItem_182 : decode cX9_readsItem 182 = .ok (.aload_n 0, 1) := by decide +kernel
theorem dX9_readsItem_183 : decode cX9_readsItem 183 = .ok (.getfield 25, 3) := by decide +kernel
theorem dX9_readsItem_186 : decode cX9_readsItem 186 = .ok (.bipush 7, 2) := by decide +kernel
theorem dX9_readsItem_188 : decode cX9_readsItem 188 = .ok (.iload_n 3, 1) := by decide +kernel
theorem dX9_readsItem_189 : decode cX9_readsItem 189 = .ok (.iadd, 1) := by decide +kernel
theorem dX9_readsItem_190 : decode cX9_readsItem 190 = .ok (.dup2, 1) := by decide +kernel
theorem dX9_readsItem_191 : decode cX9_readsItem 191 = .ok (.iaload, 1) := by decide +kernel
theorem dX9_readsItem_192 : decode cX9_readsItem 192 = .ok (.iconst 1, 1) := by decide +kernel
theorem dX9_readsItem_193 : decode cX9_readsItem 193 = .ok (.iload_n 2, 1) := by decide +kernel
theorem dX9_readsItem_194 : decode cX9_readsItem 194 = .ok (.ishl, 1) := by decide +kernel
theorem dX9_readsItem_195 : decode cX9_readsItem 195 = .ok (.ior, 1) := by decide +kernel
theorem dX9_readsItem_196 : decode cX9_readsItem 196 = .ok (.iastore, 1) := by decide +kernel
theorem dX9_readsItem_197 : decode cX9_readsItem 197 = .ok (.goto 21, 3) := by decide +kernel
theorem dX9_readsItem_200 : decode cX9_readsItem 200 = .ok (.aload_n 0, 1) := by decide +kernel
theorem dX9_readsItem_201 : decode cX9_readsItem 201 = .ok (.getfield 13, 3) := by decide +kernel
theorem dX9_readsItem_204 : decode cX9_readsItem 204 = .ok (.iconst 5, 1) := by decide +kernel
theorem dX9_readsItem_205 : decode cX9_readsItem 205 = .ok (.aload_n 0, 1) := by decide +kernel
theorem dX9_readsItem_206 : decode cX9_readsItem 206 = .ok (.iconst 0, 1) := by decide +kernel
theorem dX9_readsItem_207 : decode cX9_readsItem 207 = .ok (.bipush 15, 2) := by decide +kernel
theorem dX9_readsItem_209 : decode cX9_readsItem 209 = .ok (.invokevirtual 107, 3) := by decide +kernel
theorem dX9_readsItem_212 : decode cX9_readsItem 212 = .ok (.iastore, 1) := by decide +kernel
theorem dX9_readsItem_213 : decode cX9_readsItem 213 = .ok (.aload_n 0, 1) := by decide +kernel
theorem dX9_readsItem_214 : decode cX9_readsItem 214 = .ok (.iconst 1, 1) := by decide +kernel
theorem dX9_readsItem_215 : decode cX9_readsItem 215 = .ok (.putfield 103, 3) := by decide +kernel
theorem dX9_readsItem_218 : decode cX9_readsItem 218 = .ok (.return_, 1) := by decide +kernel
theorem dX9_republic_0 : decode cX9_republic 0 = .ok (.aload_n 0, 1) := by decide +kernel
theorem dX9_republic_1 : decode cX9_republic 1 = .ok (.iconst 0, 1) := by decide +kernel
theorem dX9_republic_2 : decode cX9_republic 2 = .ok (.putfield 62, 3) := by decide +kernel
theorem dX9_republic_5 : decode cX9_republic 5 = .ok (.aload_n 0, 1) := by decide +kernel
theorem dX9_republic_6 : decode cX9_republic 6 = .ok (.iconst (-1), 1) := by decide +kernel
theorem dX9_republic_7 : decode cX9_republic 7 = .ok (.putfield 89, 3) := by decide +kernel
theorem dX9_republic_10 : decode cX9_republic 10 = .ok (.aload_n 0, 1) := by decide +kernel
theorem dX9_republic_11 : decode cX9_republic 11 = .ok (.iconst 0, 1) := by decide +kernel
theorem dX9_republic_12 : decode cX9_republic 12 = .ok (.putfield 73, 3) := by decide +kernel
theorem dX9_republic_15 : decode cX9_republic 15 = .ok (.iconst 0, 1) := by decide +kernel
theorem dX9_republic_16 : decode cX9_republic 16 = .ok (.istore_n 1, 1) := by decide +kernel
theorem dX9_republic_17 : decode cX9_republic 17 = .ok (.aload_n 0, 1) := by decide +kernel
theorem dX9_republic_18 : decode cX9_republic 18 = .ok (.getfield 13, 3) := by decide +kernel
theorem dX9_republic_21 : decode cX9_republic 21 = .ok (.iconst 3, 1) := by decide +kernel
theorem dX9_republic_22 : decode cX9_republic 22 = .ok (.iconst 4, 1) := by decide +kernel
theorem dX9_republic_23 : decode cX9_republic 23 = .ok (.iastore, 1) := by decide +kernel
theorem dX9_republic_24 : decode cX9_republic 24 = .ok (.aload_n 0, 1) := by decide +kernel
theorem dX9_republic_25 : decode cX9_republic 25 = .ok (.getfield 13, 3) := by decide +kernel
theorem dX9_republic_28 : decode cX9_republic 28 = .ok (.iconst 4, 1) := by decide +kernel
theorem dX9_republic_29 : decode cX9_republic 29 = .ok (.iconst 0, 1) := by decide +kernel
theorem dX9_republic_30 : decode cX9_republic 30 = .ok (.iastore, 1) := by decide +kernel
theorem dX9_republic_31 : decode cX9_republic 31 = .ok (.aload_n 0, 1) := by decide +kernel
theorem dX9_republic_32 : decode cX9_republic 32 = .ok (.getfield 13, 3) := by decide +kernel
theorem dX9_republic_35 : decode cX9_republic 35 = .ok (.iconst 5, 1) := by decide +kernel
theorem dX9_republic_36 : decode cX9_republic 36 = .ok (.bipush 15, 2) := by decide +kernel
theorem dX9_republic_38 : decode cX9_republic 38 = .ok (.iastore, 1) := by decide +kernel
theorem dX9_republic_39 : decode cX9_republic 39 = .ok (.aload_n 0, 1) := by decide +kernel
theorem dX9_republic_40 : decode cX9_republic 40 = .ok (.iconst 0, 1) := by decide +kernel
theorem dX9_republic_41 : decode cX9_republic 41 = .ok (.putfield 103, 3) := by decide +kernel
theorem dX9_republic_44 : decode cX9_republic 44 = .ok (.bipush 7, 2) := by decide +kernel
theorem dX9_republic_46 : decode cX9_republic 46 = .ok (.istore_n 2, 1) := by decide +kernel
theorem dX9_republic_47 : decode cX9_republic 47 = .ok (.iload_n 2, 1) := by decide +kernel
theorem dX9_republic_48 : decode cX9_republic 48 = .ok (.bipush 14, 2) := by decide +kernel
theorem dX9_republic_50 : decode cX9_republic 50 = .ok (.if_icmp .ge 16, 3) := by decide +kernel
theorem dX9_republic_53 : decode cX9_republic 53 = .ok (.aload_n 0, 1) := by decide +kernel
theorem dX9_republic_54 : decode cX9_republic 54 = .ok (.getfield 25, 3) := by decide +kernel
theorem dX9_republic_57 : decode cX9_republic 57 = .ok (.iload_n 2, 1) := by decide +kernel
theorem dX9_republic_58 : decode cX9_republic 58 = .ok (.iconst 0, 1) := by decide +kernel
theorem dX9_republic_59 : decode cX9_republic 59 = .ok (.iastore, 1) := by decide +kernel
theorem dX9_republic_60 : decode cX9_republic 60 = .ok (.iinc 2 1, 3) := by decide +kernel
theorem dX9_republic_63 : decode cX9_republic 63 = .ok (.goto (-16), 3) := by decide +kernel
theorem dX9_republic_66 : decode cX9_republic 66 = .ok (.aload_n 0, 1) := by decide +kernel
theorem dX9_republic_67 : decode cX9_republic 67 = .ok (.invokevirtual 96, 3) := by decide +kernel
theorem dX9_republic_70 : decode cX9_republic 70 = .ok (.aload_n 0, 1) := by decide +kernel
theorem dX9_republic_71 : decode cX9_republic 71 = .ok (.invokevirtual 92, 3) := by decide +kernel
theorem dX9_republic_74 : decode cX9_republic 74 = .ok (.ifCond .eq 72, 3) := by decide +kernel
theorem dX9_republic_77 : decode cX9_republic 77 = .ok (.aload_n 0, 1) := by decide +kernel
theorem dX9_republic_78 : decode cX9_republic 78 = .ok (.getfield 83, 3) := by decide +kernel
theorem dX9_republic_81 : decode cX9_republic 81 = .ok (.ifCond .eq 65, 3) := by decide +kernel
theorem dX9_republic_84 : decode cX9_republic 84 = .ok (.aload_n 0, 1) := by decide +kernel
theorem dX9_republic_85 : decode cX9_republic 85 = .ok (.aload_n 0, 1) := by decide +kernel
theorem dX9_republic_86 : decode cX9_republic 86 = .ok (.getfield 83, 3) := by decide +kernel
theorem dX9_republic_89 : decode cX9_republic 89 = .ok (.iconst 1, 1) := by decide +kernel
theorem dX9_republic_90 : decode cX9_republic 90 = .ok (.if_icmp .ne 15, 3) := by decide +kernel
theorem dX9_republic_93 : decode cX9_republic 93 = .ok (.aload_n 0, 1) := by decide +kernel
theorem dX9_republic_94 : decode cX9_republic 94 = .ok (.iload_n 1, 1) := by decide +kernel
theorem dX9_republic_95 : decode cX9_republic 95 = .ok (.invokevirtual 111, 3) := by decide +kernel
theorem dX9_republic_98 : decode cX9_republic 98 = .ok (.ifCond .eq 7, 3) := by decide +kernel
theorem dX9_republic_101 : decode cX9_republic 101 = .ok (.iconst 1, 1) := by decide +kernel
theorem dX9_republic_102 : decode cX9_republic 102 = .ok (.goto 4, 3) := by decide +kernel
theorem dX9_republic_105 : decode cX9_republic 105 = .ok (.iconst 0, 1) := by decide +kernel
theorem dX9_republic_106 : decode cX9_republic 106 = .ok (.invokevirtual 99, 3) := by decide +kernel
theorem dX9_republic_109 : decode cX9_republic 109 = .ok (.istore_n 2, 1) := by decide +kernel
theorem dX9_republic_110 : decode cX9_republic 110 = .ok (.aload_n 0, 1) := by decide +kernel
theorem dX9_republic_111 : decode cX9_republic 111 = .ok (.invokevirtual 92, 3) := by decide +kernel
theorem dX9_republic_114 : decode cX9_republic 114 = .ok (.ifCond .eq 8, 3) := by decide +kernel
theorem dX9_republic_117 : decode cX9_republic 117 = .ok (.aload_n 0, 1) := by decide +kernel
theorem dX9_republic_118 : decode cX9_republic 118 = .ok (.iload_n 2, 1) := by decide +kernel
theorem dX9_republic_119 : decode cX9_republic 119 = .ok (.invokevirtual 115, 3) := by decide +kernel
theorem dX9_republic_122 : decode cX9_republic 122 = .ok (.aload_n 0, 1) := by decide +kernel
theorem dX9_republic_123 : decode cX9_republic 123 = .ok (.aload_n 0, 1) := by decide +kernel
theorem dX9_republic_124 : decode cX9_republic 124 = .ok (.getfield 83, 3) := by decide +kernel
theorem dX9_republic_127 : decode cX9_republic 127 = .ok (.iconst 3, 1) := by decide +kernel
theorem dX9_republic_128 : decode cX9_republic 128 = .ok (.if_icmp .ne 7, 3) := by decide +kernel
theorem dX9_republic_131 : decode cX9_republic 131 = .ok (.iconst 1, 1) := by decide +kernel
theorem dX9_republic_132 : decode cX9_republic 132 = .ok (.goto 4, 3) := by decide +kernel
theorem dX9_republic_135 : decode cX9_republic 135 = .ok (.iconst 0, 1) := by decide +kernel
theorem dX9_republic_136 : decode cX9_republic 136 = .ok (.invokevirtual 99, 3) := by decide +kernel
theorem dX9_republic_139 : decode cX9_republic 139 = .ok (.pop, 1) := by decide +kernel
theorem dX9_republic_140 : decode cX9_republic 140 = .ok (.iinc 1 1, 3) := by decide +kernel
theorem dX9_republic_143 : decode cX9_republic 143 = .ok (.goto (-73), 3) := by decide +kernel
theorem dX9_republic_146 : decode cX9_republic 146 = .ok (.aload_n 0, 1) := by decide +kernel
theorem dX9_republic_147 : decode cX9_republic 147 = .ok (.invokevirtual 92, 3) := by decide +kernel
theorem dX9_republic_150 : decode cX9_republic 150 = .ok (.ifCond .ne 11, 3) := by decide +kernel
theorem dX9_republic_153 : decode cX9_republic 153 = .ok (.bipush (-10), 2) := by decide +kernel
theorem dX9_republic_155 : decode cX9_republic 155 = .ok (.aload_n 0, 1) := by decide +kernel
theorem dX9_republic_156 : decode cX9_republic 156 = .ok (.getfield 89, 3) := by decide +kernel
theorem dX9_republic_159 : decode cX9_republic 159 = .ok (.isub, 1) := by decide +kernel
theorem dX9_republic_160 : decode cX9_republic 160 = .ok (.ireturn, 1) := by decide +kernel
theorem dX9_republic_161 : decode cX9_republic 161 = .ok (.aload_n 0, 1) := by decide +kernel
theorem dX9_republic_162 : decode cX9_republic 162 = .ok (.invokevirtual 119, 3) := by decide +kernel
theorem dX9_republic_165 : decode cX9_republic 165 = .ok (.iload_n 1, 1) := by decide +kernel
theorem dX9_republic_166 : decode cX9_republic 166 = .ok (.ireturn, 1) := by decide +kernel
theorem dX9_settles_0 : decode cX9_settles 0 = .ok (.aload_n 0, 1) := by decide +kernel
theorem dX9_settles_1 : decode cX9_settles 1 = .ok (.getfield 13, 3) := by decide +kernel
theorem dX9_settles_4 : decode cX9_settles 4 = .ok (.iconst 0, 1) := by decide +kernel
theorem dX9_settles_5 : decode cX9_settles 5 = .ok (.aload_n 0, 1) := by decide +kernel
theorem dX9_settles_6 : decode cX9_settles 6 = .ok (.getfield 13, 3) := by decide +kernel
theorem dX9_settles_9 : decode cX9_settles 9 = .ok (.iconst 3, 1) := by decide +kernel
theorem dX9_settles_10 : decode cX9_settles 10 = .ok (.iaload, 1) := by decide +kernel
theorem dX9_settles_11 : decode cX9_settles 11 = .ok (.iastore, 1) := by decide +kernel
theorem dX9_settles_12 : decode cX9_settles 12 = .ok (.aload_n 0, 1) := by decide +kernel
theorem dX9_settles_13 : decode cX9_settles 13 = .ok (.getfield 13, 3) := by decide +kernel
theorem dX9_settles_16 : decode cX9_settles 16 = .ok (.iconst 1, 1) := by decide +kernel
theorem dX9_settles_17 : decode cX9_settles 17 = .ok (.aload_n 0, 1) := by decide +kernel
theorem dX9_settles_18 : decode cX9_settles 18 = .ok (.getfield 13, 3) := by decide +kernel
theorem dX9_settles_21 : decode cX9_settles 21 = .ok (.iconst 4, 1) := by decide +kernel
theorem dX9_settles_22 : decode cX9_settles 22 = .ok (.iaload, 1) := by decide +kernel
theorem dX9_settles_23 : decode cX9_settles 23 = .ok (.iastore, 1) := by decide +kernel
theorem dX9_settles_24 : decode cX9_settles 24 = .ok (.iconst 0, 1) := by decide +kernel
theorem dX9_settles_25 : decode cX9_settles 25 = .ok (.istore_n 1, 1) := by decide +kernel
theorem dX9_settles_26 : decode cX9_settles 26 = .ok (.iload_n 1, 1) := by decide +kernel
theorem dX9_settles_27 : decode cX9_settles 27 = .ok (.bipush 25, 2) := by decide +kernel
theorem dX9_settles_29 : decode cX9_settles 29 = .ok (.if_icmp .ge 16, 3) := by decide +kernel
theorem dX9_settles_32 : decode cX9_settles 32 = .ok (.aload_n 0, 1) := by decide +kernel
theorem dX9_settles_33 : decode cX9_settles 33 = .ok (.getfield 28, 3) := by decide +kernel
theorem dX9_settles_36 : decode cX9_settles 36 = .ok (.iload_n 1, 1) := by decide +kernel
theorem dX9_settles_37 : decode cX9_settles 37 = .ok (.iconst 0, 1) := by decide +kernel
theorem dX9_settles_38 : decode cX9_settles 38 = .ok (.iastore, 1) := by decide +kernel
theorem dX9_settles_39 : decode cX9_settles 39 = .ok (.iinc 1 1, 3) := by decide +kernel
theorem dX9_settles_42 : decode cX9_settles 42 = .ok (.goto (-16), 3) := by decide +kernel
theorem dX9_settles_45 : decode cX9_settles 45 = .ok (.iconst 0, 1) := by decide +kernel
theorem dX9_settles_46 : decode cX9_settles 46 = .ok (.istore_n 1, 1) := by decide +kernel
theorem dX9_settles_47 : decode cX9_settles 47 = .ok (.iload_n 1, 1) := by decide +kernel
theorem dX9_settles_48 : decode cX9_settles 48 = .ok (.bipush 7, 2) := by decide +kernel
theorem dX9_settles_50 : decode cX9_settles 50 = .ok (.if_icmp .ge 96, 3) := by decide +kernel
theorem dX9_settles_53 : decode cX9_settles 53 = .ok (.aload_n 0, 1) := by decide +kernel
theorem dX9_settles_54 : decode cX9_settles 54 = .ok (.getfield 22, 3) := by decide +kernel
theorem dX9_settles_57 : decode cX9_settles 57 = .ok (.iload_n 1, 1) := by decide +kernel
theorem dX9_settles_58 : decode cX9_settles 58 = .ok (.aload_n 0, 1) := by decide +kernel
theorem dX9_settles_59 : decode cX9_settles 59 = .ok (.getfield 22, 3) := by decide +kernel
theorem dX9_settles_62 : decode cX9_settles 62 = .ok (.bipush 7, 2) := by decide +kernel
theorem dX9_settles_64 : decode cX9_settles 64 = .ok (.iload_n 1, 1) := by decide +kernel
theorem dX9_settles_65 : decode cX9_settles 65 = .ok (.iadd, 1) := by decide +kernel
theorem dX9_settles_66 : decode cX9_settles 66 = .ok (.iaload, 1) := by decide +kernel
theorem dX9_settles_67 : decode cX9_settles 67 = .ok (.iastore, 1) := by decide +kernel
theorem dX9_settles_68 : decode cX9_settles 68 = .ok (.aload_n 0, 1) := by decide +kernel
theorem dX9_settles_69 : decode cX9_settles 69 = .ok (.getfield 25, 3) := by decide +kernel
theorem dX9_settles_72 : decode cX9_settles 72 = .ok (.iload_n 1, 1) := by decide +kernel
theorem dX9_settles_73 : decode cX9_settles 73 = .ok (.aload_n 0, 1) := by decide +kernel
theorem dX9_settles_74 : decode cX9_settles 74 = .ok (.getfield 25, 3) := by decide +kernel
theorem dX9_settles_77 : decode cX9_settles 77 = .ok (.bipush 7, 2) := by decide +kernel
theorem dX9_settles_79 : decode cX9_settles 79 = .ok (.iload_n 1, 1) := by decide +kernel
theorem dX9_settles_80 : decode cX9_settles 80 = .ok (.iadd, 1) := by decide +kernel
theorem dX9_settles_81 : decode cX9_settles 81 = .ok (.iaload, 1) := by decide +kernel
theorem dX9_settles_82 : decode cX9_settles 82 = .ok (.iastore, 1) := by decide +kernel
theorem dX9_settles_83 : decode cX9_settles 83 = .ok (.aload_n 0, 1) := by decide +kernel
theorem dX9_settles_84 : decode cX9_settles 84 = .ok (.getfield 28, 3) := by decide +kernel
theorem dX9_settles_87 : decode cX9_settles 87 = .ok (.iconst 0, 1) := by decide +kernel
theorem dX9_settles_88 : decode cX9_settles 88 = .ok (.iload_n 1, 1) := by decide +kernel
theorem dX9_settles_89 : decode cX9_settles 89 = .ok (.iadd, 1) := by decide +kernel
theorem dX9_settles_90 : decode cX9_settles 90 = .ok (.iload_n 1, 1) := by decide +kernel
theorem dX9_settles_91 : decode cX9_settles 91 = .ok (.aload_n 0, 1) := by decide +kernel
theorem dX9_settles_92 : decode cX9_settles 92 = .ok (.getfield 13, 3) := by decide +kernel
theorem dX9_settles_95 : decode cX9_settles 95 = .ok (.iconst 1, 1) := by decide +kernel
theorem dX9_settles_96 : decode cX9_settles 96 = .ok (.iaload, 1) := by decide +kernel
theorem dX9_settles_97 : decode cX9_settles 97 = .ok (.if_icmp .ge 12, 3) := by decide +kernel
theorem dX9_settles_100 : decode cX9_settles 100 = .ok (.aload_n 0, 1) := by decide +kernel
theorem dX9_settles_101 : decode cX9_settles 101 = .ok (.getfield 16, 3) := by decide +kernel
theorem dX9_settles_104 : decode cX9_settles 104 = .ok (.iload_n 1, 1) := by decide +kernel
theorem dX9_settles_105 : decode cX9_settles 105 = .ok (.iaload, 1) := by decide +kernel
theorem dX9_settles_106 : decode cX9_settles 106 = .ok (.goto 4, 3) := by decide +kernel
theorem dX9_settles_109 : decode cX9_settles 109 = .ok (.iconst 0, 1) := by decide +kernel
theorem dX9_settles_110 : decode cX9_settles 110 = .ok (.iastore, 1) := by decide +kernel
theorem dX9_settles_111 : decode cX9_settles 111 = .ok (.aload_n 0, 1) := by decide +kernel
theorem dX9_settles_112 : decode cX9_settles 112 = .ok (.getfield 28, 3) := by decide +kernel
theorem dX9_settles_115 : decode cX9_settles 115 = .ok (.bipush 7, 2) := by decide +kernel
theorem dX9_settles_117 : decode cX9_settles 117 = .ok (.iload_n 1, 1) := by decide +kernel
theorem dX9_settles_118 : decode cX9_settles 118 = .ok (.iadd, 1) := by decide +kernel
theorem dX9_settles_119 : decode cX9_settles 119 = .ok (.iload_n 1, 1) := by decide +kernel
theorem dX9_settles_120 : decode cX9_settles 120 = .ok (.aload_n 0, 1) := by decide +kernel
theorem dX9_settles_121 : decode cX9_settles 121 = .ok (.getfield 13, 3) := by decide +kernel
theorem dX9_settles_124 : decode cX9_settles 124 = .ok (.iconst 1, 1) := by decide +kernel
theorem dX9_settles_125 : decode cX9_settles 125 = .ok (.iaload, 1) := by decide +kernel
theorem dX9_settles_126 : decode cX9_settles 126 = .ok (.if_icmp .ge 12, 3) := by decide +kernel
theorem dX9_settles_129 : decode cX9_settles 129 = .ok (.aload_n 0, 1) := by decide +kernel
theorem dX9_settles_130 : decode cX9_settles 130 = .ok (.getfield 19, 3) := by decide +kernel
theorem dX9_settles_133 : decode cX9_settles 133 = .ok (.iload_n 1, 1) := by decide +kernel
theorem dX9_settles_134 : decode cX9_settles 134 = .ok (.iaload, 1) := by decide +kernel
theorem dX9_settles_135 : decode cX9_settles 135 = .ok (.goto 4, 3) := by decide +kernel
theorem dX9_settles_138 : decode cX9_settles 138 = .ok (.iconst 0, 1) := by decide +kernel
theorem dX9_settles_139 : decode cX9_settles 139 = .ok (.iastore, 1) := by decide +kernel
theorem dX9_settles_140 : decode cX9_settles 140 = .ok (.iinc 1 1, 3) := by decide +kernel
theorem dX9_settles_143 : decode cX9_settles 143 = .ok (.goto (-96), 3) := by decide +kernel
theorem dX9_settles_146 : decode cX9_settles 146 = .ok (.aload_n 0, 1) := by decide +kernel
theorem dX9_settles_147 : decode cX9_settles 147 = .ok (.getfield 28, 3) := by decide +kernel
theorem dX9_settles_150 : decode cX9_settles 150 = .ok (.bipush 22, 2) := by decide +kernel
theorem dX9_settles_152 : decode cX9_settles 152 = .ok (.aload_n 0, 1) := by decide +kernel
theorem dX9_settles_153 : decode cX9_settles 153 = .ok (.getfield 13, 3) := by decide +kernel
theorem dX9_settles_156 : decode cX9_settles 156 = .ok (.iconst 5, 1) := by decide +kernel
theorem dX9_settles_157 : decode cX9_settles 157 = .ok (.iaload, 1) := by decide +kernel
theorem dX9_settles_158 : decode cX9_settles 158 = .ok (.iastore, 1) := by decide +kernel
theorem dX9_settles_159 : decode cX9_settles 159 = .ok (.aload_n 0, 1) := by decide +kernel
theorem dX9_settles_160 : decode cX9_settles 160 = .ok (.iconst 0, 1) := by decide +kernel
theorem dX9_settles_161 : decode cX9_settles 161 = .ok (.putfield 70, 3) := by decide +kernel
theorem dX9_settles_164 : decode cX9_settles 164 = .ok (.aload_n 0, 1) := by decide +kernel
theorem dX9_settles_165 : decode cX9_settles 165 = .ok (.iconst 0, 1) := by decide +kernel
theorem dX9_settles_166 : decode cX9_settles 166 = .ok (.putfield 122, 3) := by decide +kernel
theorem dX9_settles_169 : decode cX9_settles 169 = .ok (.aload_n 0, 1) := by decide +kernel
theorem dX9_settles_170 : decode cX9_settles 170 = .ok (.iconst 0, 1) := by decide +kernel
theorem dX9_settles_171 : decode cX9_settles 171 = .ok (.putfield 125, 3) := by decide +kernel
theorem dX9_settles_174 : decode cX9_settles 174 = .ok (.aload_n 0, 1) := by decide +kernel
theorem dX9_settles_175 : decode cX9_settles 175 = .ok (.iconst 0, 1) := by decide +kernel
theorem dX9_settles_176 : decode cX9_settles 176 = .ok (.putfield 128, 3) := by decide +kernel
theorem dX9_settles_179 : decode cX9_settles 179 = .ok (.aload_n 0, 1) := by decide +kernel
theorem dX9_settles_180 : decode cX9_settles 180 = .ok (.getfield 37, 3) := by decide +kernel
theorem dX9_settles_183 : decode cX9_settles 183 = .ok (.iconst 0, 1) := by decide +kernel
theorem dX9_settles_184 : decode cX9_settles 184 = .ok (.iconst 0, 1) := by decide +kernel
theorem dX9_settles_185 : decode cX9_settles 185 = .ok (.bastore, 1) := by decide +kernel
theorem dX9_settles_186 : decode cX9_settles 186 = .ok (.aload_n 0, 1) := by decide +kernel
theorem dX9_settles_187 : decode cX9_settles 187 = .ok (.getfield 37, 3) := by decide +kernel
theorem dX9_settles_190 : decode cX9_settles 190 = .ok (.iconst 1, 1) := by decide +kernel
theorem dX9_settles_191 : decode cX9_settles 191 = .ok (.iconst 0, 1) := by decide +kernel
theorem dX9_settles_192 : decode cX9_settles 192 = .ok (.bastore, 1) := by decide +kernel
theorem dX9_settles_193 : decode cX9_settles 193 = .ok (.return_, 1) := by decide +kernel
theorem dX9_isPerson_0 : decode cX9_isPerson 0 = .ok (.iload_n 1, 1) := by decide +kernel
theorem dX9_isPerson_1 : decode cX9_isPerson 1 = .ok (.iconst 0, 1) := by decide +kernel
theorem dX9_isPerson_2 : decode cX9_isPerson 2 = .ok (.aload_n 0, 1) := by decide +kernel
theorem dX9_isPerson_3 : decode cX9_isPerson 3 = .ok (.getfield 13, 3) := by decide +kernel
theorem dX9_isPerson_6 : decode cX9_isPerson 6 = .ok (.iconst 1, 1) := by decide +kernel
theorem dX9_isPerson_7 : decode cX9_isPerson 7 = .ok (.iaload, 1) := by decide +kernel
theorem dX9_isPerson_8 : decode cX9_isPerson 8 = .ok (.iconst 1, 1) := by decide +kernel
theorem dX9_isPerson_9 : decode cX9_isPerson 9 = .ok (.isub, 1) := by decide +kernel
theorem dX9_isPerson_10 : decode cX9_isPerson 10 = .ok (.invokestatic 66, 3) := by decide +kernel
theorem dX9_isPerson_13 : decode cX9_isPerson 13 = .ok (.ireturn, 1) := by decide +kernel
theorem dX9_isName_0 : decode cX9_isName 0 = .ok (.iload_n 1, 1) := by decide +kernel
theorem dX9_isName_1 : decode cX9_isName 1 = .ok (.iconst 0, 1) := by decide +kernel
theorem dX9_isName_2 : decode cX9_isName 2 = .ok (.aload_n 0, 1) := by decide +kernel
theorem dX9_isName_3 : decode cX9_isName 3 = .ok (.getfield 13, 3) := by decide +kernel
theorem dX9_isName_6 : decode cX9_isName 6 = .ok (.iconst 0, 1) := by decide +kernel
theorem dX9_isName_7 : decode cX9_isName 7 = .ok (.iaload, 1) := by decide +kernel
theorem dX9_isName_8 : decode cX9_isName 8 = .ok (.iconst 1, 1) := by decide +kernel
theorem dX9_isName_9 : decode cX9_isName 9 = .ok (.isub, 1) := by decide +kernel
theorem dX9_isName_10 : decode cX9_isName 10 = .ok (.invokestatic 66, 3) := by decide +kernel
theorem dX9_isName_13 : decode cX9_isName 13 = .ok (.ireturn, 1) := by decide +kernel
theorem dX9_peopleOf_0 : decode cX9_peopleOf 0 = .ok (.iconst 0, 1) := by decide +kernel
theorem dX9_peopleOf_1 : decode cX9_peopleOf 1 = .ok (.istore_n 3, 1) := by decide +kernel
theorem dX9_peopleOf_2 : decode cX9_peopleOf 2 = .ok (.iconst 0, 1) := by decide +kernel
theorem dX9_peopleOf_3 : decode cX9_peopleOf 3 = .ok (.istore 4, 2) := by decide +kernel
theorem dX9_peopleOf_5 : decode cX9_peopleOf 5 = .ok (.iload 4, 2) := by decide +kernel
theorem dX9_peopleOf_7 : decode cX9_peopleOf 7 = .ok (.aload_n 0, 1) := by decide +kernel
theorem dX9_peopleOf_8 : decode cX9_peopleOf 8 = .ok (.getfield 13, 3) := by decide +kernel
theorem dX9_peopleOf_11 : decode cX9_peopleOf 11 = .ok (.iconst 1, 1) := by decide +kernel
theorem dX9_peopleOf_12 : decode cX9_peopleOf 12 = .ok (.iaload, 1) := by decide +kernel
theorem dX9_peopleOf_13 : decode cX9_peopleOf 13 = .ok (.if_icmp .ge 30, 3) := by decide +kernel
theorem dX9_peopleOf_16 : decode cX9_peopleOf 16 = .ok (.iload_n 3, 1) := by decide +kernel
theorem dX9_peopleOf_17 : decode cX9_peopleOf 17 = .ok (.aload_n 1, 1) := by decide +kernel
theorem dX9_peopleOf_18 : decode cX9_peopleOf 18 = .ok (.iconst 0, 1) := by decide +kernel
theorem dX9_peopleOf_19 : decode cX9_peopleOf 19 = .ok (.iload 4, 2) := by decide +kernel
theorem dX9_peopleOf_21 : decode cX9_peopleOf 21 = .ok (.iadd, 1) := by decide +kernel
theorem dX9_peopleOf_22 : decode cX9_peopleOf 22 = .ok (.iaload, 1) := by decide +kernel
theorem dX9_peopleOf_23 : decode cX9_peopleOf 23 = .ok (.iload_n 2, 1) := by decide +kernel
theorem dX9_peopleOf_24 : decode cX9_peopleOf 24 = .ok (.if_icmp .ne 10, 3) := by decide +kernel
theorem dX9_peopleOf_27 : decode cX9_peopleOf 27 = .ok (.iconst 1, 1) := by decide +kernel
theorem dX9_peopleOf_28 : decode cX9_peopleOf 28 = .ok (.iload 4, 2) := by decide +kernel
theorem dX9_peopleOf_30 : decode cX9_peopleOf 30 = .ok (.ishl, 1) := by decide +kernel
theorem dX9_peopleOf_31 : decode cX9_peopleOf 31 = .ok (.goto 4, 3) := by decide +kernel
theorem dX9_peopleOf_34 : decode cX9_peopleOf 34 = .ok (.iconst 0, 1) := by decide +kernel
theorem dX9_peopleOf_35 : decode cX9_peopleOf 35 = .ok (.ior, 1) := by decide +kernel
theorem dX9_peopleOf_36 : decode cX9_peopleOf 36 = .ok (.istore_n 3, 1) := by decide +kernel
theorem dX9_peopleOf_37 : decode cX9_peopleOf 37 = .ok (.iinc 4 1, 3) := by decide +kernel
theorem dX9_peopleOf_40 : decode cX9_peopleOf 40 = .ok (.goto (-35), 3) := by decide +kernel
theorem dX9_peopleOf_43 : decode cX9_peopleOf 43 = .ok (.iload_n 3, 1) := by decide +kernel
theorem dX9_peopleOf_44 : decode cX9_peopleOf 44 = .ok (.ireturn, 1) := by decide +kernel
theorem dX9_isLaw_0 : decode cX9_isLaw 0 = .ok (.aload_n 0, 1) := by decide +kernel
theorem dX9_isLaw_1 : decode cX9_isLaw 1 = .ok (.bipush 22, 2) := by decide +kernel
theorem dX9_isLaw_3 : decode cX9_isLaw 3 = .ok (.iaload, 1) := by decide +kernel
theorem dX9_isLaw_4 : decode cX9_isLaw 4 = .ok (.iload_n 1, 1) := by decide +kernel
theorem dX9_isLaw_5 : decode cX9_isLaw 5 = .ok (.iand, 1) := by decide +kernel
theorem dX9_isLaw_6 : decode cX9_isLaw 6 = .ok (.ifCond .eq 7, 3) := by decide +kernel
theorem dX9_isLaw_9 : decode cX9_isLaw 9 = .ok (.iconst 1, 1) := by decide +kernel
theorem dX9_isLaw_10 : decode cX9_isLaw 10 = .ok (.goto 4, 3) := by decide +kernel
theorem dX9_isLaw_13 : decode cX9_isLaw 13 = .ok (.iconst 0, 1) := by decide +kernel
theorem dX9_isLaw_14 : decode cX9_isLaw 14 = .ok (.ireturn, 1) := by decide +kernel
theorem dX9_sumOf_0 : decode cX9_sumOf 0 = .ok (.iconst 0, 1) := by decide +kernel
theorem dX9_sumOf_1 : decode cX9_sumOf 1 = .ok (.istore 4, 2) := by decide +kernel
theorem dX9_sumOf_3 : decode cX9_sumOf 3 = .ok (.iconst 0, 1) := by decide +kernel
theorem dX9_sumOf_4 : decode cX9_sumOf 4 = .ok (.istore 5, 2) := by decide +kernel
theorem dX9_sumOf_6 : decode cX9_sumOf 6 = .ok (.iload 5, 2) := by decide +kernel
theorem dX9_sumOf_8 : decode cX9_sumOf 8 = .ok (.aload_n 0, 1) := by decide +kernel
theorem dX9_sumOf_9 : decode cX9_sumOf 9 = .ok (.getfield 13, 3) := by decide +kernel
theorem dX9_sumOf_12 : decode cX9_sumOf 12 = .ok (.iconst 1, 1) := by decide +kernel
theorem dX9_sumOf_13 : decode cX9_sumOf 13 = .ok (.iaload, 1) := by decide +kernel
theorem dX9_sumOf_14 : decode cX9_sumOf 14 = .ok (.if_icmp .ge 34, 3) := by decide +kernel
theorem dX9_sumOf_17 : decode cX9_sumOf 17 = .ok (.iload 4, 2) := by decide +kernel
theorem dX9_sumOf_19 : decode cX9_sumOf 19 = .ok (.iload_n 3, 1) := by decide +kernel
theorem dX9_sumOf_20 : decode cX9_sumOf 20 = .ok (.iload 5, 2) := by decide +kernel
theorem dX9_sumOf_22 : decode cX9_sumOf 22 = .ok (.ishr, 1) := by decide +kernel
theorem dX9_sumOf_23 : decode cX9_sumOf 23 = .ok (.iconst 1, 1) := by decide +kernel
theorem dX9_sumOf_24 : decode cX9_sumOf 24 = .ok (.iand, 1) := by decide +kernel
theorem dX9_sumOf_25 : decode cX9_sumOf 25 = .ok (.iconst 1, 1) := by decide +kernel
theorem dX9_sumOf_26 : decode cX9_sumOf 26 = .ok (.if_icmp .ne 12, 3) := by decide +kernel
theorem dX9_sumOf_29 : decode cX9_sumOf 29 = .ok (.aload_n 1, 1) := by decide +kernel
theorem dX9_sumOf_30 : decode cX9_sumOf 30 = .ok (.iload_n 2, 1) := by decide +kernel
theorem dX9_sumOf_31 : decode cX9_sumOf 31 = .ok (.iload 5, 2) := by decide +kernel
theorem dX9_sumOf_33 : decode cX9_sumOf 33 = .ok (.iadd, 1) := by decide +kernel
theorem dX9_sumOf_34 : decode cX9_sumOf 34 = .ok (.iaload, 1) := by decide +kernel
theorem dX9_sumOf_35 : decode cX9_sumOf 35 = .ok (.goto 4, 3) := by decide +kernel
theorem dX9_sumOf_38 : decode cX9_sumOf 38 = .ok (.iconst 0, 1) := by decide +kernel
theorem dX9_sumOf_39 : decode cX9_sumOf 39 = .ok (.iadd, 1) := by decide +kernel
theorem dX9_sumOf_40 : decode cX9_sumOf 40 = .ok (.istore 4, 2) := by decide +kernel
theorem dX9_sumOf_42 : decode cX9_sumOf 42 = .ok (.iinc 5 1, 3) := by decide +kernel
theorem dX9_sumOf_45 : decode cX9_sumOf 45 = .ok (.goto (-39), 3) := by decide +kernel
theorem dX9_sumOf_48 : decode cX9_sumOf 48 = .ok (.iload 4, 2) := by decide +kernel
theorem dX9_sumOf_50 : decode cX9_sumOf 50 = .ok (.ireturn, 1) := by decide +kernel
theorem dX9_limps_0 : decode cX9_limps 0 = .ok (.aload_n 1, 1) := by decide +kernel
theorem dX9_limps_1 : decode cX9_limps 1 = .ok (.iconst 1, 1) := by decide +kernel
theorem dX9_limps_2 : decode cX9_limps 2 = .ok (.invokestatic 131, 3) := by decide +kernel
theorem dX9_limps_5 : decode cX9_limps 5 = .ok (.ifCond .eq 16, 3) := by decide +kernel
theorem dX9_limps_8 : decode cX9_limps 8 = .ok (.aload_n 0, 1) := by decide +kernel
theorem dX9_limps_9 : decode cX9_limps 9 = .ok (.aload_n 1, 1) := by decide +kernel
theorem dX9_limps_10 : decode cX9_limps 10 = .ok (.aload_n 1, 1) := by decide +kernel
theorem dX9_limps_11 : decode cX9_limps 11 = .ok (.iconst 0, 1) := by decide +kernel
theorem dX9_limps_12 : decode cX9_limps 12 = .ok (.iload_n 2, 1) := by decide +kernel
theorem dX9_limps_13 : decode cX9_limps 13 = .ok (.iadd, 1) := by decide +kernel
theorem dX9_limps_14 : decode cX9_limps 14 = .ok (.iaload, 1) := by decide +kernel
theorem dX9_limps_15 : decode cX9_limps 15 = .ok (.invokevirtual 135, 3) := by decide +kernel
theorem dX9_limps_18 : decode cX9_limps 18 = .ok (.goto 6, 3) := by decide +kernel
theorem dX9_limps_21 : decode cX9_limps 21 = .ok (.iconst 1, 1) := by decide +kernel
theorem dX9_limps_22 : decode cX9_limps 22 = .ok (.iload_n 2, 1) := by decide +kernel
theorem dX9_limps_23 : decode cX9_limps 23 = .ok (.ishl, 1) := by decide +kernel
theorem dX9_limps_24 : decode cX9_limps 24 = .ok (.istore_n 3, 1) := by decide +kernel
theorem dX9_limps_25 : decode cX9_limps 25 = .ok (.iload_n 3, 1) := by decide +kernel
theorem dX9_limps_26 : decode cX9_limps 26 = .ok (.aload_n 1, 1) := by decide +kernel
theorem dX9_limps_27 : decode cX9_limps 27 = .ok (.bipush 21, 2) := by decide +kernel
theorem dX9_limps_29 : decode cX9_limps 29 = .ok (.iaload, 1) := by decide +kernel
theorem dX9_limps_30 : decode cX9_limps 30 = .ok (.iand, 1) := by decide +kernel
theorem dX9_limps_31 : decode cX9_limps 31 = .ok (.ifCond .eq 7, 3) := by decide +kernel
theorem dX9_limps_34 : decode cX9_limps 34 = .ok (.iconst 1, 1) := by decide +kernel
theorem dX9_limps_35 : decode cX9_limps 35 = .ok (.goto 4, 3) := by decide +kernel
theorem dX9_limps_38 : decode cX9_limps 38 = .ok (.iconst 0, 1) := by decide +kernel
theorem dX9_limps_39 : decode cX9_limps 39 = .ok (.ireturn, 1) := by decide +kernel
theorem dX9_fame_0 : decode cX9_fame 0 = .ok (.aload_n 1, 1) := by decide +kernel
theorem dX9_fame_1 : decode cX9_fame 1 = .ok (.bipush 8, 2) := by decide +kernel
theorem dX9_fame_3 : decode cX9_fame 3 = .ok (.invokestatic 131, 3) := by decide +kernel
theorem dX9_fame_6 : decode cX9_fame 6 = .ok (.ifCond .eq 23, 3) := by decide +kernel
theorem dX9_fame_9 : decode cX9_fame 9 = .ok (.aload_n 0, 1) := by decide +kernel
theorem dX9_fame_10 : decode cX9_fame 10 = .ok (.aload_n 1, 1) := by decide +kernel
theorem dX9_fame_11 : decode cX9_fame 11 = .ok (.bipush 14, 2) := by decide +kernel
theorem dX9_fame_13 : decode cX9_fame 13 = .ok (.aload_n 0, 1) := by decide +kernel
theorem dX9_fame_14 : decode cX9_fame 14 = .ok (.aload_n 1, 1) := by decide +kernel
theorem dX9_fame_15 : decode cX9_fame 15 = .ok (.aload_n 1, 1) := by decide +kernel
theorem dX9_fame_16 : decode cX9_fame 16 = .ok (.iconst 0, 1) := by decide +kernel
theorem dX9_fame_17 : decode cX9_fame 17 = .ok (.iload_n 2, 1) := by decide +kernel
theorem dX9_fame_18 : decode cX9_fame 18 = .ok (.iadd, 1) := by decide +kernel
theorem dX9_fame_19 : decode cX9_fame 19 = .ok (.iaload, 1) := by decide +kernel
theorem dX9_fame_20 : decode cX9_fame 20 = .ok (.invokevirtual 135, 3) := by decide +kernel
theorem dX9_fame_23 : decode cX9_fame 23 = .ok (.invokevirtual 139, 3) := by decide +kernel
theorem dX9_fame_26 : decode cX9_fame 26 = .ok (.goto 9, 3) := by decide +kernel
theorem dX9_fame_29 : decode cX9_fame 29 = .ok (.aload_n 1, 1) := by decide +kernel
theorem dX9_fame_30 : decode cX9_fame 30 = .ok (.bipush 14, 2) := by decide +kernel
theorem dX9_fame_32 : decode cX9_fame 32 = .ok (.iload_n 2, 1) := by decide +kernel
theorem dX9_fame_33 : decode cX9_fame 33 = .ok (.iadd, 1) := by decide +kernel
theorem dX9_fame_34 : decode cX9_fame 34 = .ok (.iaload, 1) := by decide +kernel
theorem dX9_fame_35 : decode cX9_fame 35 = .ok (.ireturn, 1) := by decide +kernel
theorem dX9_tax_0 : decode cX9_tax 0 = .ok (.aload_n 1, 1) := by decide +kernel
theorem dX9_tax_1 : decode cX9_tax 1 = .ok (.iconst 4, 1) := by decide +kernel
theorem dX9_tax_2 : decode cX9_tax 2 = .ok (.invokestatic 131, 3) := by decide +kernel
theorem dX9_tax_5 : decode cX9_tax 5 = .ok (.ifCond .eq 16, 3) := by decide +kernel
theorem dX9_tax_8 : decode cX9_tax 8 = .ok (.aload_n 0, 1) := by decide +kernel
theorem dX9_tax_9 : decode cX9_tax 9 = .ok (.aload_n 1, 1) := by decide +kernel
theorem dX9_tax_10 : decode cX9_tax 10 = .ok (.aload_n 1, 1) := by decide +kernel
theorem dX9_tax_11 : decode cX9_tax 11 = .ok (.iconst 0, 1) := by decide +kernel
theorem dX9_tax_12 : decode cX9_tax 12 = .ok (.iload_n 2, 1) := by decide +kernel
theorem dX9_tax_13 : decode cX9_tax 13 = .ok (.iadd, 1) := by decide +kernel
theorem dX9_tax_14 : decode cX9_tax 14 = .ok (.iaload, 1) := by decide +kernel
theorem dX9_tax_15 : decode cX9_tax 15 = .ok (.invokevirtual 135, 3) := by decide +kernel
theorem dX9_tax_18 : decode cX9_tax 18 = .ok (.goto 6, 3) := by decide +kernel
theorem dX9_tax_21 : decode cX9_tax 21 = .ok (.iconst 1, 1) := by decide +kernel
theorem dX9_tax_22 : decode cX9_tax 22 = .ok (.iload_n 2, 1) := by decide +kernel
theorem dX9_tax_23 : decode cX9_tax 23 = .ok (.ishl, 1) := by decide +kernel
theorem dX9_tax_24 : decode cX9_tax 24 = .ok (.istore_n 3, 1) := by decide +kernel
theorem dX9_tax_25 : decode cX9_tax 25 = .ok (.aload_n 0, 1) := by decide +kernel
theorem dX9_tax_26 : decode cX9_tax 26 = .ok (.aload_n 1, 1) := by decide +kernel
theorem dX9_tax_27 : decode cX9_tax 27 = .ok (.bipush 7, 2) := by decide +kernel
theorem dX9_tax_29 : decode cX9_tax 29 = .ok (.iload_n 3, 1) := by decide +kernel
theorem dX9_tax_30 : decode cX9_tax 30 = .ok (.invokevirtual 139, 3) := by decide +kernel
theorem dX9_tax_33 : decode cX9_tax 33 = .ok (.iload_n 3, 1) := by decide +kernel
theorem dX9_tax_34 : decode cX9_tax 34 = .ok (.invokestatic 143, 3) := by decide +kernel
theorem dX9_tax_37 : decode cX9_tax 37 = .ok (.idiv, 1) := by decide +kernel
theorem dX9_tax_38 : decode cX9_tax 38 = .ok (.bipush 10, 2) := by decide +kernel
theorem dX9_tax_40 : decode cX9_tax 40 = .ok (.idiv, 1) := by decide +kernel
theorem dX9_tax_41 : decode cX9_tax 41 = .ok (.ireturn, 1) := by decide +kernel
theorem dX9_leadOf_0 : decode cX9_leadOf 0 = .ok (.iconst 0, 1) := by decide +kernel
theorem dX9_leadOf_1 : decode cX9_leadOf 1 = .ok (.istore_n 3, 1) := by decide +kernel
theorem dX9_leadOf_2 : decode cX9_leadOf 2 = .ok (.iconst 0, 1) := by decide +kernel
theorem dX9_leadOf_3 : decode cX9_leadOf 3 = .ok (.istore 4, 2) := by decide +kernel
theorem dX9_leadOf_5 : decode cX9_leadOf 5 = .ok (.iload 4, 2) := by decide +kernel
theorem dX9_leadOf_7 : decode cX9_leadOf 7 = .ok (.aload_n 0, 1) := by decide +kernel
theorem dX9_leadOf_8 : decode cX9_leadOf 8 = .ok (.getfield 13, 3) := by decide +kernel
theorem dX9_leadOf_11 : decode cX9_leadOf 11 = .ok (.iconst 1, 1) := by decide +kernel
theorem dX9_leadOf_12 : decode cX9_leadOf 12 = .ok (.iaload, 1) := by decide +kernel
theorem dX9_leadOf_13 : decode cX9_leadOf 13 = .ok (.if_icmp .ge 45, 3) := by decide +kernel
theorem dX9_leadOf_16 : decode cX9_leadOf 16 = .ok (.iload_n 3, 1) := by decide +kernel
theorem dX9_leadOf_17 : decode cX9_leadOf 17 = .ok (.iload_n 1, 1) := by decide +kernel
theorem dX9_leadOf_18 : decode cX9_leadOf 18 = .ok (.iload 4, 2) := by decide +kernel
theorem dX9_leadOf_20 : decode cX9_leadOf 20 = .ok (.ishr, 1) := by decide +kernel
theorem dX9_leadOf_21 : decode cX9_leadOf 21 = .ok (.iconst 1, 1) := by decide +kernel
theorem dX9_leadOf_22 : decode cX9_leadOf 22 = .ok (.iand, 1) := by decide +kernel
theorem dX9_leadOf_23 : decode cX9_leadOf 23 = .ok (.ifCond .ne 7, 3) := by decide +kernel
theorem dX9_leadOf_26 : decode cX9_leadOf 26 = .ok (.iconst 0, 1) := by decide +kernel
theorem dX9_leadOf_27 : decode cX9_leadOf 27 = .ok (.goto 23, 3) := by decide +kernel
theorem dX9_leadOf_30 : decode cX9_leadOf 30 = .ok (.aload_n 0, 1) := by decide +kernel
theorem dX9_leadOf_31 : decode cX9_leadOf 31 = .ok (.getfield 22, 3) := by decide +kernel
theorem dX9_leadOf_34 : decode cX9_leadOf 34 = .ok (.iload 4, 2) := by decide +kernel
theorem dX9_leadOf_36 : decode cX9_leadOf 36 = .ok (.iaload, 1) := by decide +kernel
theorem dX9_leadOf_37 : decode cX9_leadOf 37 = .ok (.iload_n 2, 1) := by decide +kernel
theorem dX9_leadOf_38 : decode cX9_leadOf 38 = .ok (.ishr, 1) := by decide +kernel
theorem dX9_leadOf_39 : decode cX9_leadOf 39 = .ok (.iconst 1, 1) := by decide +kernel
theorem dX9_leadOf_40 : decode cX9_leadOf 40 = .ok (.iand, 1) := by decide +kernel
theorem dX9_leadOf_41 : decode cX9_leadOf 41 = .ok (.iconst 1, 1) := by decide +kernel
theorem dX9_leadOf_42 : decode cX9_leadOf 42 = .ok (.if_icmp .ne 7, 3) := by decide +kernel
theorem dX9_leadOf_45 : decode cX9_leadOf 45 = .ok (.iconst 1, 1) := by decide +kernel
theorem dX9_leadOf_46 : decode cX9_leadOf 46 = .ok (.goto 4, 3) := by decide +kernel
theorem dX9_leadOf_49 : decode cX9_leadOf 49 = .ok (.iconst (-1), 1) := by decide +kernel
theorem dX9_leadOf_50 : decode cX9_leadOf 50 = .ok (.iadd, 1) := by decide +kernel
theorem dX9_leadOf_51 : decode cX9_leadOf 51 = .ok (.istore_n 3, 1) := by decide +kernel
theorem dX9_leadOf_52 : decode cX9_leadOf 52 = .ok (.iinc 4 1, 3) := by decide +kernel
theorem dX9_leadOf_55 : decode cX9_leadOf 55 = .ok (.goto (-50), 3) := by decide +kernel
theorem dX9_leadOf_58 : decode cX9_leadOf 58 = .ok (.iload_n 3, 1) := by decide +kernel
theorem dX9_leadOf_59 : decode cX9_leadOf 59 = .ok (.ireturn, 1) := by decide +kernel
theorem dX9_voices_0 : decode cX9_voices 0 = .ok (.iconst 0, 1) := by decide +kernel
theorem dX9_voices_1 : decode cX9_voices 1 = .ok (.istore 5, 2) := by decide +kernel
theorem dX9_voices_3 : decode cX9_voices 3 = .ok (.aload_n 1, 1) := by decide +kernel
theorem dX9_voices_4 : decode cX9_voices 4 = .ok (.iconst 2, 1) := by decide +kernel
theorem dX9_voices_5 : decode cX9_voices 5 = .ok (.invokestatic 131, 3) := by decide +kernel
theorem dX9_voices_8 : decode cX9_voices 8 = .ok (.ifCond .eq 56, 3) := by decide +kernel
theorem dX9_voices_11 : decode cX9_voices 11 = .ok (.iconst 0, 1) := by decide +kernel
theorem dX9_voices_12 : decode cX9_voices 12 = .ok (.istore 6, 2) := by decide +kernel
theorem dX9_voices_14 : decode cX9_voices 14 = .ok (.iload 6, 2) := by decide +kernel
theorem dX9_voices_16 : decode cX9_voices 16 = .ok (.aload_n 0, 1) := by decide +kernel
theorem dX9_voices_17 : decode cX9_voices 17 = .ok (.getfield 13, 3) := by decide +kernel
theorem dX9_voices_20 : decode cX9_voices 20 = .ok (.iconst 0, 1) := by decide +kernel
theorem dX9_voices_21 : decode cX9_voices 21 = .ok (.iaload, 1) := by decide +kernel
theorem dX9_voices_22 : decode cX9_voices 22 = .ok (.if_icmp .ge 39, 3) := by decide +kernel
theorem dX9_voices_25 : decode cX9_voices 25 = .ok (.iload 5, 2) := by decide +kernel
theorem dX9_voices_27 : decode cX9_voices 27 = .ok (.aload_n 0, 1) := by decide +kernel
theorem dX9_voices_28 : decode cX9_voices 28 = .ok (.aload_n 0, 1) := by decide +kernel
theorem dX9_voices_29 : decode cX9_voices 29 = .ok (.aload_n 1, 1) := by decide +kernel
theorem dX9_voices_30 : decode cX9_voices 30 = .ok (.iload 6, 2) := by decide +kernel
theorem dX9_voices_32 : decode cX9_voices 32 = .ok (.invokevirtual 135, 3) := by decide +kernel
theorem dX9_voices_35 : decode cX9_voices 35 = .ok (.iload_n 3, 1) := by decide +kernel
theorem dX9_voices_36 : decode cX9_voices 36 = .ok (.iand, 1) := by decide +kernel
theorem dX9_voices_37 : decode cX9_voices 37 = .ok (.iload_n 2, 1) := by decide +kernel
theorem dX9_voices_38 : decode cX9_voices 38 = .ok (.invokevirtual 146, 3) := by decide +kernel
theorem dX9_voices_41 : decode cX9_voices 41 = .ok (.iload 4, 2) := by decide +kernel
theorem dX9_voices_43 : decode cX9_voices 43 = .ok (.imul, 1) := by decide +kernel
theorem dX9_voices_44 : decode cX9_voices 44 = .ok (.ifCond .le 7, 3) := by decide +kernel
theorem dX9_voices_47 : decode cX9_voices 47 = .ok (.iconst 1, 1) := by decide +kernel
theorem dX9_voices_48 : decode cX9_voices 48 = .ok (.goto 4, 3) := by decide +kernel
theorem dX9_voices_51 : decode cX9_voices 51 = .ok (.iconst 0, 1) := by decide +kernel
theorem dX9_voices_52 : decode cX9_voices 52 = .ok (.iadd, 1) := by decide +kernel
theorem dX9_voices_53 : decode cX9_voices 53 = .ok (.istore 5, 2) := by decide +kernel
theorem dX9_voices_55 : decode cX9_voices 55 = .ok (.iinc 6 1, 3) := by decide +kernel
theorem dX9_voices_58 : decode cX9_voices 58 = .ok (.goto (-44), 3) := by decide +kernel
theorem dX9_voices_61 : decode cX9_voices 61 = .ok (.iload 5, 2) := by decide +kernel
theorem dX9_voices_63 : decode cX9_voices 63 = .ok (.ireturn, 1) := by decide +kernel
theorem dX9_voices_64 : decode cX9_voices 64 = .ok (.iconst 0, 1) := by decide +kernel
theorem dX9_voices_65 : decode cX9_voices 65 = .ok (.istore 6, 2) := by decide +kernel
theorem dX9_voices_67 : decode cX9_voices 67 = .ok (.iload 6, 2) := by decide +kernel
theorem dX9_voices_69 : decode cX9_voices 69 = .ok (.aload_n 0, 1) := by decide +kernel
theorem dX9_voices_70 : decode cX9_voices 70 = .ok (.getfield 13, 3) := by decide +kernel
theorem dX9_voices_73 : decode cX9_voices 73 = .ok (.iconst 1, 1) := by decide +kernel
theorem dX9_voices_74 : decode cX9_voices 74 = .ok (.iaload, 1) := by decide +kernel
theorem dX9_voices_75 : decode cX9_voices 75 = .ok (.if_icmp .ge 35, 3) := by decide +kernel
theorem dX9_voices_78 : decode cX9_voices 78 = .ok (.iload 5, 2) := by decide +kernel
theorem dX9_voices_80 : decode cX9_voices 80 = .ok (.aload_n 0, 1) := by decide +kernel
theorem dX9_voices_81 : decode cX9_voices 81 = .ok (.iload_n 3, 1) := by decide +kernel
theorem dX9_voices_82 : decode cX9_voices 82 = .ok (.iconst 1, 1) := by decide +kernel
theorem dX9_voices_83 : decode cX9_voices 83 = .ok (.iload 6, 2) := by decide +kernel
theorem dX9_voices_85 : decode cX9_voices 85 = .ok (.ishl, 1) := by decide +kernel
theorem dX9_voices_86 : decode cX9_voices 86 = .ok (.iand, 1) := by decide +kernel
theorem dX9_voices_87 : decode cX9_voices 87 = .ok (.iload_n 2, 1) := by decide +kernel
theorem dX9_voices_88 : decode cX9_voices 88 = .ok (.invokevirtual 146, 3) := by decide +kernel
theorem dX9_voices_91 : decode cX9_voices 91 = .ok (.iload 4, 2) := by decide +kernel
theorem dX9_voices_93 : decode cX9_voices 93 = .ok (.if_icmp .ne 7, 3) := by decide +kernel
theorem dX9_voices_96 : decode cX9_voices 96 = .ok (.iconst 1, 1) := by decide +kernel
theorem dX9_voices_97 : decode cX9_voices 97 = .ok (.goto 4, 3) := by decide +kernel
theorem dX9_voices_100 : decode cX9_voices 100 = .ok (.iconst 0, 1) := by decide +kernel
theorem dX9_voices_101 : decode cX9_voices 101 = .ok (.iadd, 1) := by decide +kernel
theorem dX9_voices_102 : decode cX9_voices 102 = .ok (.istore 5, 2) := by decide +kernel
theorem dX9_voices_104 : decode cX9_voices 104 = .ok (.iinc 6 1, 3) := by decide +kernel
theorem dX9_voices_107 : decode cX9_voices 107 = .ok (.goto (-40), 3) := by decide +kernel
theorem dX9_voices_110 : decode cX9_voices 110 = .ok (.iload 5, 2) := by decide +kernel
theorem dX9_voices_112 : decode cX9_voices 112 = .ok (.ireturn, 1) := by decide +kernel
theorem dX9_passes_0 : decode cX9_passes 0 = .ok (.aload_n 0, 1) := by decide +kernel
theorem dX9_passes_1 : decode cX9_passes 1 = .ok (.aload_n 1, 1) := by decide +kernel
theorem dX9_passes_2 : decode cX9_passes 2 = .ok (.iload_n 2, 1) := by decide +kernel
theorem dX9_passes_3 : decode cX9_passes 3 = .ok (.iload_n 3, 1) := by decide +kernel
theorem dX9_passes_4 : decode cX9_passes 4 = .ok (.iconst 1, 1) := by decide +kernel
theorem dX9_passes_5 : decode cX9_passes 5 = .ok (.invokevirtual 149, 3) := by decide +kernel
theorem dX9_passes_8 : decode cX9_passes 8 = .ok (.aload_n 0, 1) := by decide +kernel
theorem dX9_passes_9 : decode cX9_passes 9 = .ok (.aload_n 1, 1) := by decide +kernel
theorem dX9_passes_10 : decode cX9_passes 10 = .ok (.iload_n 2, 1) := by decide +kernel
theorem dX9_passes_11 : decode cX9_passes 11 = .ok (.iload_n 3, 1) := by decide +kernel
theorem dX9_passes_12 : decode cX9_passes 12 = .ok (.iconst (-1), 1) := by decide +kernel
theorem dX9_passes_13 : decode cX9_passes 13 = .ok (.invokevirtual 149, 3) := by decide +kernel
theorem dX9_passes_16 : decode cX9_passes 16 = .ok (.if_icmp .le 7, 3) := by decide +kernel
theorem dX9_passes_19 : decode cX9_passes 19 = .ok (.iconst 1, 1) := by decide +kernel
theorem dX9_passes_20 : decode cX9_passes 20 = .ok (.goto 4, 3) := by decide +kernel
theorem dX9_passes_23 : decode cX9_passes 23 = .ok (.iconst 0, 1) := by decide +kernel
theorem dX9_passes_24 : decode cX9_passes 24 = .ok (.ireturn, 1) := by decide +kernel
theorem dX9_everybody_0 : decode cX9_everybody 0 = .ok (.iconst 1, 1) := by decide +kernel
theorem dX9_everybody_1 : decode cX9_everybody 1 = .ok (.aload_n 0, 1) := by decide +kernel
theorem dX9_everybody_2 : decode cX9_everybody 2 = .ok (.getfield 13, 3) := by decide +kernel
theorem dX9_everybody_5 : decode cX9_everybody 5 = .ok (.iconst 1, 1) := by decide +kernel
theorem dX9_everybody_6 : decode cX9_everybody 6 = .ok (.iaload, 1) := by decide +kernel
theorem dX9_everybody_7 : decode cX9_everybody 7 = .ok (.ishl, 1) := by decide +kernel
theorem dX9_everybody_8 : decode cX9_everybody 8 = .ok (.iconst 1, 1) := by decide +kernel
theorem dX9_everybody_9 : decode cX9_everybody 9 = .ok (.isub, 1) := by decide +kernel
theorem dX9_everybody_10 : decode cX9_everybody 10 = .ok (.ireturn, 1) := by decide +kernel
theorem dX9_person_0 : decode cX9_person 0 = .ok (.aload_n 0, 1) := by decide +kernel
theorem dX9_person_1 : decode cX9_person 1 = .ok (.iconst 0, 1) := by decide +kernel
theorem dX9_person_2 : decode cX9_person 2 = .ok (.putfield 62, 3) := by decide +kernel
theorem dX9_person_5 : decode cX9_person 5 = .ok (.aload_n 0, 1) := by decide +kernel
theorem dX9_person_6 : decode cX9_person 6 = .ok (.iload_n 1, 1) := by decide +kernel
theorem dX9_person_7 : decode cX9_person 7 = .ok (.invokevirtual 153, 3) := by decide +kernel
theorem dX9_person_10 : decode cX9_person 10 = .ok (.ifCond .eq 13, 3) := by decide +kernel
theorem dX9_person_13 : decode cX9_person 13 = .ok (.iload_n 2, 1) := by decide +kernel
theorem dX9_person_14 : decode cX9_person 14 = .ok (.iconst 0, 1) := by decide +kernel
theorem dX9_person_15 : decode cX9_person 15 = .ok (.bipush 7, 2) := by decide +kernel
theorem dX9_person_17 : decode cX9_person 17 = .ok (.invokestatic 66, 3) := by decide +kernel
theorem dX9_person_20 : decode cX9_person 20 = .ok (.ifCond .ne 5, 3) := by decide +kernel
theorem dX9_person_23 : decode cX9_person 23 = .ok (.iconst (-1), 1) := by decide +kernel
theorem dX9_person_24 : decode cX9_person 24 = .ok (.ireturn, 1) := by decide +kernel
theorem dX9_person_25 : decode cX9_person 25 = .ok (.iload_n 2, 1) := by decide +kernel
theorem dX9_person_26 : decode cX9_person 26 = .ok (.iconst 4, 1) := by decide +kernel
theorem dX9_person_27 : decode cX9_person 27 = .ok (.if_icmp .ge 61, 3) := by decide +kernel
theorem dX9_person_30 : decode cX9_person 30 = .ok (.iload_n 2, 1) := by decide +kernel
theorem dX9_person_31 : decode cX9_person 31 = .ok (.ifCond .ne 14, 3) := by decide +kernel
theorem dX9_person_34 : decode cX9_person 34 = .ok (.aload_n 0, 1) := by decide +kernel
theorem dX9_person_35 : decode cX9_person 35 = .ok (.getfield 28, 3) := by decide +kernel
theorem dX9_person_38 : decode cX9_person 38 = .ok (.iconst 0, 1) := by decide +kernel
theorem dX9_person_39 : decode cX9_person 39 = .ok (.iload_n 1, 1) := by decide +kernel
theorem dX9_person_40 : decode cX9_person 40 = .ok (.iadd, 1) := by decide +kernel
theorem dX9_person_41 : decode cX9_person 41 = .ok (.iaload, 1) := by decide +kernel
theorem dX9_person_42 : decode cX9_person 42 = .ok (.goto 45, 3) := by decide +kernel
theorem dX9_person_45 : decode cX9_person 45 = .ok (.iload_n 2, 1) := by decide +kernel
theorem dX9_person_46 : decode cX9_person 46 = .ok (.iconst 1, 1) := by decide +kernel
theorem dX9_person_47 : decode cX9_person 47 = .ok (.if_icmp .ne 15, 3) := by decide +kernel
theorem dX9_person_50 : decode cX9_person 50 = .ok (.aload_n 0, 1) := by decide +kernel
theorem dX9_person_51 : decode cX9_person 51 = .ok (.getfield 28, 3) := by decide +kernel
theorem dX9_person_54 : decode cX9_person 54 = .ok (.bipush 7, 2) := by decide +kernel
theorem dX9_person_56 : decode cX9_person 56 = .ok (.iload_n 1, 1) := by decide +kernel
theorem dX9_person_57 : decode cX9_person 57 = .ok (.iadd, 1) := by decide +kernel
theorem dX9_person_58 : decode cX9_person 58 = .ok (.iaload, 1) := by decide +kernel
theorem dX9_person_59 : decode cX9_person 59 = .ok (.goto 28, 3) := by decide +kernel
theorem dX9_person_62 : decode cX9_person 62 = .ok (.iload_n 2, 1) := by decide +kernel
theorem dX9_person_63 : decode cX9_person 63 = .ok (.iconst 2, 1) := by decide +kernel
theorem dX9_person_64 : decode cX9_person 64 = .ok (.if_icmp .ne 12, 3) := by decide +kernel
theorem dX9_person_67 : decode cX9_person 67 = .ok (.aload_n 0, 1) := by decide +kernel
theorem dX9_person_68 : decode cX9_person 68 = .ok (.getfield 22, 3) := by decide +kernel
theorem dX9_person_71 : decode cX9_person 71 = .ok (.iload_n 1, 1) := by decide +kernel
theorem dX9_person_72 : decode cX9_person 72 = .ok (.iaload, 1) := by decide +kernel
theorem dX9_person_73 : decode cX9_person 73 = .ok (.goto 14, 3) := by decide +kernel
theorem dX9_person_76 : decode cX9_person 76 = .ok (.aload_n 0, 1) := by decide +kernel
theorem dX9_person_77 : decode cX9_person 77 = .ok (.getfield 28, 3) := by decide +kernel
theorem dX9_person_80 : decode cX9_person 80 = .ok (.bipush 21, 2) := by decide +kernel
theorem dX9_person_82 : decode cX9_person 82 = .ok (.iaload, 1) := by decide +kernel
theorem dX9_person_83 : decode cX9_person 83 = .ok (.iload_n 1, 1) := by decide +kernel
theorem dX9_person_84 : decode cX9_person 84 = .ok (.ishr, 1) := by decide +kernel
theorem dX9_person_85 : decode cX9_person 85 = .ok (.iconst 1, 1) := by decide +kernel
theorem dX9_person_86 : decode cX9_person 86 = .ok (.iand, 1) := by decide +kernel
theorem dX9_person_87 : decode cX9_person 87 = .ok (.ireturn, 1) := by decide +kernel
theorem dX9_person_88 : decode cX9_person 88 = .ok (.iload_n 2, 1) := by decide +kernel
theorem dX9_person_89 : decode cX9_person 89 = .ok (.iconst 4, 1) := by decide +kernel
theorem dX9_person_90 : decode cX9_person 90 = .ok (.if_icmp .ne 23, 3) := by decide +kernel
theorem dX9_person_93 : decode cX9_person 93 = .ok (.aload_n 0, 1) := by decide +kernel
theorem dX9_person_94 : decode cX9_person 94 = .ok (.aload_n 0, 1) := by decide +kernel
theorem dX9_person_95 : decode cX9_person 95 = .ok (.getfield 28, 3) := by decide +kernel
theorem dX9_person_98 : decode cX9_person 98 = .ok (.iload_n 1, 1) := by decide +kernel
theorem dX9_person_99 : decode cX9_person 99 = .ok (.invokevirtual 156, 3) := by decide +kernel
theorem dX9_person_102 : decode cX9_person 102 = .ok (.ifCond .eq 7, 3) := by decide +kernel
theorem dX9_person_105 : decode cX9_person 105 = .ok (.iconst 1, 1) := by decide +kernel
theorem dX9_person_106 : decode cX9_person 106 = .ok (.goto 51, 3) := by decide +kernel
theorem dX9_person_109 : decode cX9_person 109 = .ok (.iconst 0, 1) := by decide +kernel
theorem dX9_person_110 : decode cX9_person 110 = .ok (.goto 47, 3) := by decide +kernel
theorem dX9_person_113 : decode cX9_person 113 = .ok (.iload_n 2, 1) := by decide +kernel
theorem dX9_person_114 : decode cX9_person 114 = .ok (.iconst 5, 1) := by decide +kernel
theorem dX9_person_115 : decode cX9_person 115 = .ok (.if_icmp .ne 15, 3) := by decide +kernel
theorem dX9_person_118 : decode cX9_person 118 = .ok (.aload_n 0, 1) := by decide +kernel
theorem dX9_person_119 : decode cX9_person 119 = .ok (.getfield 28, 3) := by decide +kernel
theorem dX9_person_122 : decode cX9_person 122 = .ok (.bipush 14, 2) := by decide +kernel
theorem dX9_person_124 : decode cX9_person 124 = .ok (.iload_n 1, 1) := by decide +kernel
theorem dX9_person_125 : decode cX9_person 125 = .ok (.iadd, 1) := by decide +kernel
theorem dX9_person_126 : decode cX9_person 126 = .ok (.iaload, 1) := by decide +kernel
theorem dX9_person_127 : decode cX9_person 127 = .ok (.goto 30, 3) := by decide +kernel
theorem dX9_person_130 : decode cX9_person 130 = .ok (.iload_n 2, 1) := by decide +kernel
theorem dX9_person_131 : decode cX9_person 131 = .ok (.bipush 6, 2) := by decide +kernel
theorem dX9_person_133 : decode cX9_person 133 = .ok (.if_icmp .ne 15, 3) := by decide +kernel
theorem dX9_person_136 : decode cX9_person 136 = .ok (.aload_n 0, 1) := by decide +kernel
theorem dX9_person_137 : decode cX9_person 137 = .ok (.aload_n 0, 1) := by decide +kernel
theorem dX9_person_138 : decode cX9_person 138 = .ok (.getfield 28, 3) := by decide +kernel
theorem dX9_person_141 : decode cX9_person 141 = .ok (.iload_n 1, 1) := by decide +kernel
theorem dX9_person_142 : decode cX9_person 142 = .ok (.invokevirtual 159, 3) := by decide +kernel
theorem dX9_person_145 : decode cX9_person 145 = .ok (.goto 12, 3) := by decide +kernel
theorem dX9_person_148 : decode cX9_person 148 = .ok (.aload_n 0, 1) := by decide +kernel
theorem dX9_person_149 : decode cX9_person 149 = .ok (.aload_n 0, 1) := by decide +kernel
theorem dX9_person_150 : decode cX9_person 150 = .ok (.getfield 28, 3) := by decide +kernel
theorem dX9_person_153 : decode cX9_person 153 = .ok (.iload_n 1, 1) := by decide +kernel
theorem dX9_person_154 : decode cX9_person 154 = .ok (.invokevirtual 162, 3) := by decide +kernel
theorem dX9_person_157 : decode cX9_person 157 = .ok (.ireturn, 1) := by decide +kernel
theorem dX9_quarrels_0 : decode cX9_quarrels 0 = .ok (.aload_n 0, 1) := by decide +kernel
theorem dX9_quarrels_1 : decode cX9_quarrels 1 = .ok (.iconst 0, 1) := by decide +kernel
theorem dX9_quarrels_2 : decode cX9_quarrels 2 = .ok (.putfield 62, 3) := by decide +kernel
theorem dX9_quarrels_5 : decode cX9_quarrels 5 = .ok (.aload_n 0, 1) := by decide +kernel
theorem dX9_quarrels_6 : decode cX9_quarrels 6 = .ok (.iload_n 1, 1) := by decide +kernel
theorem dX9_quarrels_7 : decode cX9_quarrels 7 = .ok (.invokevirtual 153, 3) := by decide +kernel
theorem dX9_quarrels_10 : decode cX9_quarrels 10 = .ok (.ifCond .eq 12, 3) := by decide +kernel
theorem dX9_quarrels_13 : decode cX9_quarrels 13 = .ok (.aload_n 0, 1) := by decide +kernel
theorem dX9_quarrels_14 : decode cX9_quarrels 14 = .ok (.getfield 25, 3) := by decide +kernel
theorem dX9_quarrels_17 : decode cX9_quarrels 17 = .ok (.iload_n 1, 1) := by decide +kernel
theorem dX9_quarrels_18 : decode cX9_quarrels 18 = .ok (.iaload, 1) := by decide +kernel
theorem dX9_quarrels_19 : decode cX9_quarrels 19 = .ok (.goto 4, 3) := by decide +kernel
theorem dX9_quarrels_22 : decode cX9_quarrels 22 = .ok (.iconst (-1), 1) := by decide +kernel
theorem dX9_quarrels_23 : decode cX9_quarrels 23 = .ok (.ireturn, 1) := by decide +kernel
theorem dX9_gcd_0 : decode cX9_gcd 0 = .ok (.iload_n 0, 1) := by decide +kernel
theorem dX9_gcd_1 : decode cX9_gcd 1 = .ok (.istore_n 2, 1) := by decide +kernel
theorem dX9_gcd_2 : decode cX9_gcd 2 = .ok (.iload_n 1, 1) := by decide +kernel
theorem dX9_gcd_3 : decode cX9_gcd 3 = .ok (.istore_n 3, 1) := by decide +kernel
theorem dX9_gcd_4 : decode cX9_gcd 4 = .ok (.iload_n 3, 1) := by decide +kernel
theorem dX9_gcd_5 : decode cX9_gcd 5 = .ok (.ifCond .eq 16, 3) := by decide +kernel
theorem dX9_gcd_8 : decode cX9_gcd 8 = .ok (.iload_n 2, 1) := by decide +kernel
theorem dX9_gcd_9 : decode cX9_gcd 9 = .ok (.iload_n 3, 1) := by decide +kernel
theorem dX9_gcd_10 : decode cX9_gcd 10 = .ok (.irem, 1) := by decide +kernel
theorem dX9_gcd_11 : decode cX9_gcd 11 = .ok (.istore 4, 2) := by decide +kernel
theorem dX9_gcd_13 : decode cX9_gcd 13 = .ok (.iload_n 3, 1) := by decide +kernel
theorem dX9_gcd_14 : decode cX9_gcd 14 = .ok (.istore_n 2, 1) := by decide +kernel
theorem dX9_gcd_15 : decode cX9_gcd 15 = .ok (.iload 4, 2) := by decide +kernel
theorem dX9_gcd_17 : decode cX9_gcd 17 = .ok (.istore_n 3, 1) := by decide +kernel
theorem dX9_gcd_18 : decode cX9_gcd 18 = .ok (.goto (-14), 3) := by decide +kernel
theorem dX9_gcd_21 : decode cX9_gcd 21 = .ok (.iload_n 2, 1) := by decide +kernel
theorem dX9_gcd_22 : decode cX9_gcd 22 = .ok (.ireturn, 1) := by decide +kernel
theorem dX9_part_0 : decode cX9_part 0 = .ok (.iload_n 0, 1) := by decide +kernel
theorem dX9_part_1 : decode cX9_part 1 = .ok (.iload_n 1, 1) := by decide +kernel
theorem dX9_part_2 : decode cX9_part 2 = .ok (.invokestatic 165, 3) := by decide +kernel
theorem dX9_part_5 : decode cX9_part 5 = .ok (.istore_n 3, 1) := by decide +kernel
theorem dX9_part_6 : decode cX9_part 6 = .ok (.iload_n 2, 1) := by decide +kernel
theorem dX9_part_7 : decode cX9_part 7 = .ok (.ifCond .ne 9, 3) := by decide +kernel
theorem dX9_part_10 : decode cX9_part 10 = .ok (.iload_n 0, 1) := by decide +kernel
theorem dX9_part_11 : decode cX9_part 11 = .ok (.iload_n 3, 1) := by decide +kernel
theorem dX9_part_12 : decode cX9_part 12 = .ok (.idiv, 1) := by decide +kernel
theorem dX9_part_13 : decode cX9_part 13 = .ok (.goto 6, 3) := by decide +kernel
theorem dX9_part_16 : decode cX9_part 16 = .ok (.iload_n 1, 1) := by decide +kernel
theorem dX9_part_17 : decode cX9_part 17 = .ok (.iload_n 3, 1) := by decide +kernel
theorem dX9_part_18 : decode cX9_part 18 = .ok (.idiv, 1) := by decide +kernel
theorem dX9_part_19 : decode cX9_part 19 = .ok (.ireturn, 1) := by decide +kernel
theorem dX9_name_0 : decode cX9_name 0 = .ok (.aload_n 0, 1) := by decide +kernel
theorem dX9_name_1 : decode cX9_name 1 = .ok (.iconst 0, 1) := by decide +kernel
theorem dX9_name_2 : decode cX9_name 2 = .ok (.putfield 62, 3) := by decide +kernel
theorem dX9_name_5 : decode cX9_name 5 = .ok (.aload_n 0, 1) := by decide +kernel
theorem dX9_name_6 : decode cX9_name 6 = .ok (.iload_n 1, 1) := by decide +kernel
theorem dX9_name_7 : decode cX9_name 7 = .ok (.invokevirtual 168, 3) := by decide +kernel
theorem dX9_name_10 : decode cX9_name 10 = .ok (.ifCond .eq 12, 3) := by decide +kernel
theorem dX9_name_13 : decode cX9_name 13 = .ok (.iload_n 2, 1) := by decide +kernel
theorem dX9_name_14 : decode cX9_name 14 = .ok (.iconst 0, 1) := by decide +kernel
theorem dX9_name_15 : decode cX9_name 15 = .ok (.iconst 2, 1) := by decide +kernel
theorem dX9_name_16 : decode cX9_name 16 = .ok (.invokestatic 66, 3) := by decide +kernel
theorem dX9_name_19 : decode cX9_name 19 = .ok (.ifCond .ne 5, 3) := by decide +kernel
theorem dX9_name_22 : decode cX9_name 22 = .ok (.iconst (-1), 1) := by decide +kernel
theorem dX9_name_23 : decode cX9_name 23 = .ok (.ireturn, 1) := by decide +kernel
theorem dX9_name_24 : decode cX9_name 24 = .ok (.aload_n 0, 1) := by decide +kernel
theorem dX9_name_25 : decode cX9_name 25 = .ok (.aload_n 0, 1) := by decide +kernel
theorem dX9_name_26 : decode cX9_name 26 = .ok (.getfield 28, 3) := by decide +kernel
theorem dX9_name_29 : decode cX9_name 29 = .ok (.iload_n 1, 1) := by decide +kernel
theorem dX9_name_30 : decode cX9_name 30 = .ok (.invokevirtual 135, 3) := by decide +kernel
theorem dX9_name_33 : decode cX9_name 33 = .ok (.istore_n 3, 1) := by decide +kernel
theorem dX9_name_34 : decode cX9_name 34 = .ok (.iload_n 2, 1) := by decide +kernel
theorem dX9_name_35 : decode cX9_name 35 = .ok (.ifCond .eq 7, 3) := by decide +kernel
theorem dX9_name_38 : decode cX9_name 38 = .ok (.iload_n 3, 1) := by decide +kernel
theorem dX9_name_39 : decode cX9_name 39 = .ok (.ifCond .ne 15, 3) := by decide +kernel
theorem dX9_name_42 : decode cX9_name 42 = .ok (.iload_n 2, 1) := by decide +kernel
theorem dX9_name_43 : decode cX9_name 43 = .ok (.ifCond .ne 7, 3) := by decide +kernel
theorem dX9_name_46 : decode cX9_name 46 = .ok (.iload_n 3, 1) := by decide +kernel
theorem dX9_name_47 : decode cX9_name 47 = .ok (.goto 6, 3) := by decide +kernel
theorem dX9_name_50 : decode cX9_name 50 = .ok (.iload_n 2, 1) := by decide +kernel
theorem dX9_name_51 : decode cX9_name 51 = .ok (.iconst 1, 1) := by decide +kernel
theorem dX9_name_52 : decode cX9_name 52 = .ok (.isub, 1) := by decide +kernel
theorem dX9_name_53 : decode cX9_name 53 = .ok (.ireturn, 1) := by decide +kernel
theorem dX9_name_54 : decode cX9_name 54 = .ok (.aload_n 0, 1) := by decide +kernel
theorem dX9_name_55 : decode cX9_name 55 = .ok (.aload_n 0, 1) := by decide +kernel
theorem dX9_name_56 : decode cX9_name 56 = .ok (.getfield 28, 3) := by decide +kernel
theorem dX9_name_59 : decode cX9_name 59 = .ok (.bipush 7, 2) := by decide +kernel
theorem dX9_name_61 : decode cX9_name 61 = .ok (.iload_n 3, 1) := by decide +kernel
theorem dX9_name_62 : decode cX9_name 62 = .ok (.invokevirtual 139, 3) := by decide +kernel
theorem dX9_name_65 : decode cX9_name 65 = .ok (.iload_n 3, 1) := by decide +kernel
theorem dX9_name_66 : decode cX9_name 66 = .ok (.invokestatic 143, 3) := by decide +kernel
theorem dX9_name_69 : decode cX9_name 69 = .ok (.iload_n 2, 1) := by decide +kernel
theorem dX9_name_70 : decode cX9_name 70 = .ok (.iconst 1, 1) := by decide +kernel
theorem dX9_name_71 : decode cX9_name 71 = .ok (.isub, 1) := by decide +kernel
theorem dX9_name_72 : decode cX9_name 72 = .ok (.invokestatic 171, 3) := by decide +kernel
theorem dX9_name_75 : decode cX9_name 75 = .ok (.ireturn, 1) := by decide +kernel
theorem dX9_swayOf_0 : decode cX9_swayOf 0 = .ok (.iconst 0, 1) := by decide +kernel
theorem dX9_swayOf_1 : decode cX9_swayOf 1 = .ok (.istore_n 2, 1) := by decide +kernel
theorem dX9_swayOf_2 : decode cX9_swayOf 2 = .ok (.iconst 0, 1) := by decide +kernel
theorem dX9_swayOf_3 : decode cX9_swayOf 3 = .ok (.istore_n 3, 1) := by decide +kernel
theorem dX9_swayOf_4 : decode cX9_swayOf 4 = .ok (.iload_n 3, 1) := by decide +kernel
theorem dX9_swayOf_5 : decode cX9_swayOf 5 = .ok (.aload_n 0, 1) := by decide +kernel
theorem dX9_swayOf_6 : decode cX9_swayOf 6 = .ok (.getfield 13, 3) := by decide +kernel
theorem dX9_swayOf_9 : decode cX9_swayOf 9 = .ok (.iconst 0, 1) := by decide +kernel
theorem dX9_swayOf_10 : decode cX9_swayOf 10 = .ok (.iaload, 1) := by decide +kernel
theorem dX9_swayOf_11 : decode cX9_swayOf 11 = .ok (.if_icmp .ge 60, 3) := by decide +kernel
theorem dX9_swayOf_14 : decode cX9_swayOf 14 = .ok (.iload_n 2, 1) := by decide +kernel
theorem dX9_swayOf_15 : decode cX9_swayOf 15 = .ok (.aload_n 0, 1) := by decide +kernel
theorem dX9_swayOf_16 : decode cX9_swayOf 16 = .ok (.aload_n 0, 1) := by decide +kernel
theorem dX9_swayOf_17 : decode cX9_swayOf 17 = .ok (.getfield 28, 3) := by decide +kernel
theorem dX9_swayOf_20 : decode cX9_swayOf 20 = .ok (.iload_n 1, 1) := by decide +kernel
theorem dX9_swayOf_21 : decode cX9_swayOf 21 = .ok (.aload_n 0, 1) := by decide +kernel
theorem dX9_swayOf_22 : decode cX9_swayOf 22 = .ok (.invokevirtual 175, 3) := by decide +kernel
theorem dX9_swayOf_25 : decode cX9_swayOf 25 = .ok (.aload_n 0, 1) := by decide +kernel
theorem dX9_swayOf_26 : decode cX9_swayOf 26 = .ok (.aload_n 0, 1) := by decide +kernel
theorem dX9_swayOf_27 : decode cX9_swayOf 27 = .ok (.getfield 28, 3) := by decide +kernel
theorem dX9_swayOf_30 : decode cX9_swayOf 30 = .ok (.iload_n 3, 1) := by decide +kernel
theorem dX9_swayOf_31 : decode cX9_swayOf 31 = .ok (.invokevirtual 135, 3) := by decide +kernel
theorem dX9_swayOf_34 : decode cX9_swayOf 34 = .ok (.iconst (-1), 1) := by decide +kernel
theorem dX9_swayOf_35 : decode cX9_swayOf 35 = .ok (.ixor, 1) := by decide +kernel
theorem dX9_swayOf_36 : decode cX9_swayOf 36 = .ok (.iand, 1) := by decide +kernel
theorem dX9_swayOf_37 : decode cX9_swayOf 37 = .ok (.invokevirtual 179, 3) := by decide +kernel
theorem dX9_swayOf_40 : decode cX9_swayOf 40 = .ok (.aload_n 0, 1) := by decide +kernel
theorem dX9_swayOf_41 : decode cX9_swayOf 41 = .ok (.aload_n 0, 1) := by decide +kernel
theorem dX9_swayOf_42 : decode cX9_swayOf 42 = .ok (.getfield 28, 3) := by decide +kernel
theorem dX9_swayOf_45 : decode cX9_swayOf 45 = .ok (.iload_n 1, 1) := by decide +kernel
theorem dX9_swayOf_46 : decode cX9_swayOf 46 = .ok (.aload_n 0, 1) := by decide +kernel
theorem dX9_swayOf_47 : decode cX9_swayOf 47 = .ok (.invokevirtual 175, 3) := by decide +kernel
theorem dX9_swayOf_50 : decode cX9_swayOf 50 = .ok (.invokevirtual 179, 3) := by decide +kernel
theorem dX9_swayOf_53 : decode cX9_swayOf 53 = .ok (.if_icmp .eq 9, 3) := by decide +kernel
theorem dX9_swayOf_56 : decode cX9_swayOf 56 = .ok (.iconst 1, 1) := by decide +kernel
theorem dX9_swayOf_57 : decode cX9_swayOf 57 = .ok (.iload_n 3, 1) := by decide +kernel
theorem dX9_swayOf_58 : decode cX9_swayOf 58 = .ok (.ishl, 1) := by decide +kernel
theorem dX9_swayOf_59 : decode cX9_swayOf 59 = .ok (.goto 4, 3) := by decide +kernel
theorem dX9_swayOf_62 : decode cX9_swayOf 62 = .ok (.iconst 0, 1) := by decide +kernel
theorem dX9_swayOf_63 : decode cX9_swayOf 63 = .ok (.ior, 1) := by decide +kernel
theorem dX9_swayOf_64 : decode cX9_swayOf 64 = .ok (.istore_n 2, 1) := by decide +kernel
theorem dX9_swayOf_65 : decode cX9_swayOf 65 = .ok (.iinc 3 1, 3) := by decide +kernel
theorem dX9_swayOf_68 : decode cX9_swayOf 68 = .ok (.goto (-64), 3) := by decide +kernel
theorem dX9_swayOf_71 : decode cX9_swayOf 71 = .ok (.iload_n 2, 1) := by decide +kernel
theorem dX9_swayOf_72 : decode cX9_swayOf 72 = .ok (.ireturn, 1) := by decide +kernel
theorem dX9_bill_0 : decode cX9_bill 0 = .ok (.aload_n 0, 1) := by decide +kernel
theorem dX9_bill_1 : decode cX9_bill 1 = .ok (.iconst 0, 1) := by decide +kernel
theorem dX9_bill_2 : decode cX9_bill 2 = .ok (.putfield 62, 3) := by decide +kernel
theorem dX9_bill_5 : decode cX9_bill 5 = .ok (.iload_n 1, 1) := by decide +kernel
theorem dX9_bill_6 : decode cX9_bill 6 = .ok (.iconst 0, 1) := by decide +kernel
theorem dX9_bill_7 : decode cX9_bill 7 = .ok (.iconst 4, 1) := by decide +kernel
theorem dX9_bill_8 : decode cX9_bill 8 = .ok (.invokestatic 66, 3) := by decide +kernel
theorem dX9_bill_11 : decode cX9_bill 11 = .ok (.ifCond .eq 12, 3) := by decide +kernel
theorem dX9_bill_14 : decode cX9_bill 14 = .ok (.iload_n 2, 1) := by decide +kernel
theorem dX9_bill_15 : decode cX9_bill 15 = .ok (.iconst 0, 1) := by decide +kernel
theorem dX9_bill_16 : decode cX9_bill 16 = .ok (.iconst 3, 1) := by decide +kernel
theorem dX9_bill_17 : decode cX9_bill 17 = .ok (.invokestatic 66, 3) := by decide +kernel
theorem dX9_bill_20 : decode cX9_bill 20 = .ok (.ifCond .ne 5, 3) := by decide +kernel
theorem dX9_bill_23 : decode cX9_bill 23 = .ok (.iconst (-1), 1) := by decide +kernel
theorem dX9_bill_24 : decode cX9_bill 24 = .ok (.ireturn, 1) := by decide +kernel
theorem dX9_bill_25 : decode cX9_bill 25 = .ok (.iload_n 2, 1) := by decide +kernel
theorem dX9_bill_26 : decode cX9_bill 26 = .ok (.ifCond .ne 20, 3) := by decide +kernel
theorem dX9_bill_29 : decode cX9_bill 29 = .ok (.aload_n 0, 1) := by decide +kernel
theorem dX9_bill_30 : decode cX9_bill 30 = .ok (.aload_n 0, 1) := by decide +kernel
theorem dX9_bill_31 : decode cX9_bill 31 = .ok (.getfield 28, 3) := by decide +kernel
theorem dX9_bill_34 : decode cX9_bill 34 = .ok (.iload_n 1, 1) := by decide +kernel
theorem dX9_bill_35 : decode cX9_bill 35 = .ok (.aload_n 0, 1) := by decide +kernel
theorem dX9_bill_36 : decode cX9_bill 36 = .ok (.invokevirtual 175, 3) := by decide +kernel
theorem dX9_bill_39 : decode cX9_bill 39 = .ok (.iconst 1, 1) := by decide +kernel
theorem dX9_bill_40 : decode cX9_bill 40 = .ok (.invokevirtual 149, 3) := by decide +kernel
theorem dX9_bill_43 : decode cX9_bill 43 = .ok (.goto 59, 3) := by decide +kernel
theorem dX9_bill_46 : decode cX9_bill 46 = .ok (.iload_n 2, 1) := by decide +kernel
theorem dX9_bill_47 : decode cX9_bill 47 = .ok (.iconst 1, 1) := by decide +kernel
theorem dX9_bill_48 : decode cX9_bill 48 = .ok (.if_icmp .ne 20, 3) := by decide +kernel
theorem dX9_bill_51 : decode cX9_bill 51 = .ok (.aload_n 0, 1) := by decide +kernel
theorem dX9_bill_52 : decode cX9_bill 52 = .ok (.aload_n 0, 1) := by decide +kernel
theorem dX9_bill_53 : decode cX9_bill 53 = .ok (.getfield 28, 3) := by decide +kernel
theorem dX9_bill_56 : decode cX9_bill 56 = .ok (.iload_n 1, 1) := by decide +kernel
theorem dX9_bill_57 : decode cX9_bill 57 = .ok (.aload_n 0, 1) := by decide +kernel
theorem dX9_bill_58 : decode cX9_bill 58 = .ok (.invokevirtual 175, 3) := by decide +kernel
theorem dX9_bill_61 : decode cX9_bill 61 = .ok (.iconst (-1), 1) := by decide +kernel
theorem dX9_bill_62 : decode cX9_bill 62 = .ok (.invokevirtual 149, 3) := by decide +kernel
theorem dX9_bill_65 : decode cX9_bill 65 = .ok (.goto 37, 3) := by decide +kernel
theorem dX9_bill_68 : decode cX9_bill 68 = .ok (.iload_n 2, 1) := by decide +kernel
theorem dX9_bill_69 : decode cX9_bill 69 = .ok (.iconst 2, 1) := by decide +kernel
theorem dX9_bill_70 : decode cX9_bill 70 = .ok (.if_icmp .ne 27, 3) := by decide +kernel
theorem dX9_bill_73 : decode cX9_bill 73 = .ok (.aload_n 0, 1) := by decide +kernel
theorem dX9_bill_74 : decode cX9_bill 74 = .ok (.aload_n 0, 1) := by decide +kernel
theorem dX9_bill_75 : decode cX9_bill 75 = .ok (.getfield 28, 3) := by decide +kernel
theorem dX9_bill_78 : decode cX9_bill 78 = .ok (.iload_n 1, 1) := by decide +kernel
theorem dX9_bill_79 : decode cX9_bill 79 = .ok (.aload_n 0, 1) := by decide +kernel
theorem dX9_bill_80 : decode cX9_bill 80 = .ok (.invokevirtual 175, 3) := by decide +kernel
theorem dX9_bill_83 : decode cX9_bill 83 = .ok (.invokevirtual 179, 3) := by decide +kernel
theorem dX9_bill_86 : decode cX9_bill 86 = .ok (.ifCond .eq 7, 3) := by decide +kernel
theorem dX9_bill_89 : decode cX9_bill 89 = .ok (.iconst 1, 1) := by decide +kernel
theorem dX9_bill_90 : decode cX9_bill 90 = .ok (.goto 12, 3) := by decide +kernel
theorem dX9_bill_93 : decode cX9_bill 93 = .ok (.iconst 0, 1) := by decide +kernel
theorem dX9_bill_94 : decode cX9_bill 94 = .ok (.goto 8, 3) := by decide +kernel
theorem dX9_bill_97 : decode cX9_bill 97 = .ok (.aload_n 0, 1) := by decide +kernel
theorem dX9_bill_98 : decode cX9_bill 98 = .ok (.iload_n 1, 1) := by decide +kernel
theorem dX9_bill_99 : decode cX9_bill 99 = .ok (.invokevirtual 183, 3) := by decide +kernel
theorem dX9_bill_102 : decode cX9_bill 102 = .ok (.ireturn, 1) := by decide +kernel
theorem dX9_limping_0 : decode cX9_limping 0 = .ok (.iconst 0, 1) := by decide +kernel
theorem dX9_limping_1 : decode cX9_limping 1 = .ok (.istore_n 1, 1) := by decide +kernel
theorem dX9_limping_2 : decode cX9_limping 2 = .ok (.iconst 0, 1) := by decide +kernel
theorem dX9_limping_3 : decode cX9_limping 3 = .ok (.istore_n 2, 1) := by decide +kernel
theorem dX9_limping_4 : decode cX9_limping 4 = .ok (.iload_n 2, 1) := by decide +kernel
theorem dX9_limping_5 : decode cX9_limping 5 = .ok (.aload_n 0, 1) := by decide +kernel
theorem dX9_limping_6 : decode cX9_limping 6 = .ok (.getfield 13, 3) := by decide +kernel
theorem dX9_limping_9 : decode cX9_limping 9 = .ok (.iconst 1, 1) := by decide +kernel
theorem dX9_limping_10 : decode cX9_limping 10 = .ok (.iaload, 1) := by decide +kernel
theorem dX9_limping_11 : decode cX9_limping 11 = .ok (.if_icmp .ge 31, 3) := by decide +kernel
theorem dX9_limping_14 : decode cX9_limping 14 = .ok (.iload_n 1, 1) := by decide +kernel
theorem dX9_limping_15 : decode cX9_limping 15 = .ok (.aload_n 0, 1) := by decide +kernel
theorem dX9_limping_16 : decode cX9_limping 16 = .ok (.aload_n 0, 1) := by decide +kernel
theorem dX9_limping_17 : decode cX9_limping 17 = .ok (.getfield 28, 3) := by decide +kernel
theorem dX9_limping_20 : decode cX9_limping 20 = .ok (.iload_n 2, 1) := by decide +kernel
theorem dX9_limping_21 : decode cX9_limping 21 = .ok (.invokevirtual 156, 3) := by decide +kernel
theorem dX9_limping_24 : decode cX9_limping 24 = .ok (.ifCond .eq 9, 3) := by decide +kernel
theorem dX9_limping_27 : decode cX9_limping 27 = .ok (.iconst 1, 1) := by decide +kernel
theorem dX9_limping_28 : decode cX9_limping 28 = .ok (.iload_n 2, 1) := by decide +kernel
theorem dX9_limping_29 : decode cX9_limping 29 = .ok (.ishl, 1) := by decide +kernel
theorem dX9_limping_30 : decode cX9_limping 30 = .ok (.goto 4, 3) := by decide +kernel
theorem dX9_limping_33 : decode cX9_limping 33 = .ok (.iconst 0, 1) := by decide +kernel
theorem dX9_limping_34 : decode cX9_limping 34 = .ok (.ior, 1) := by decide +kernel
theorem dX9_limping_35 : decode cX9_limping 35 = .ok (.istore_n 1, 1) := by decide +kernel
theorem dX9_limping_36 : decode cX9_limping 36 = .ok (.iinc 2 1, 3) := by decide +kernel
theorem dX9_limping_39 : decode cX9_limping 39 = .ok (.goto (-35), 3) := by decide +kernel
theorem dX9_limping_42 : decode cX9_limping 42 = .ok (.iload_n 1, 1) := by decide +kernel
theorem dX9_limping_43 : decode cX9_limping 43 = .ok (.ireturn, 1) := by decide +kernel
theorem dX9_badOnes_0 : decode cX9_badOnes 0 = .ok (.iconst 0, 1) := by decide +kernel
theorem dX9_badOnes_1 : decode cX9_badOnes 1 = .ok (.istore_n 1, 1) := by decide +kernel
theorem dX9_badOnes_2 : decode cX9_badOnes 2 = .ok (.iconst 0, 1) := by decide +kernel
theorem dX9_badOnes_3 : decode cX9_badOnes 3 = .ok (.istore_n 2, 1) := by decide +kernel
theorem dX9_badOnes_4 : decode cX9_badOnes 4 = .ok (.iload_n 2, 1) := by decide +kernel
theorem dX9_badOnes_5 : decode cX9_badOnes 5 = .ok (.aload_n 0, 1) := by decide +kernel
theorem dX9_badOnes_6 : decode cX9_badOnes 6 = .ok (.getfield 13, 3) := by decide +kernel
theorem dX9_badOnes_9 : decode cX9_badOnes 9 = .ok (.iconst 1, 1) := by decide +kernel
theorem dX9_badOnes_10 : decode cX9_badOnes 10 = .ok (.iaload, 1) := by decide +kernel
theorem dX9_badOnes_11 : decode cX9_badOnes 11 = .ok (.if_icmp .ge 38, 3) := by decide +kernel
theorem dX9_badOnes_14 : decode cX9_badOnes 14 = .ok (.iload_n 1, 1) := by decide +kernel
theorem dX9_badOnes_15 : decode cX9_badOnes 15 = .ok (.aload_n 0, 1) := by decide +kernel
theorem dX9_badOnes_16 : decode cX9_badOnes 16 = .ok (.getfield 25, 3) := by decide +kernel
theorem dX9_badOnes_19 : decode cX9_badOnes 19 = .ok (.iload_n 2, 1) := by decide +kernel
theorem dX9_badOnes_20 : decode cX9_badOnes 20 = .ok (.iaload, 1) := by decide +kernel
theorem dX9_badOnes_21 : decode cX9_badOnes 21 = .ok (.aload_n 0, 1) := by decide +kernel
theorem dX9_badOnes_22 : decode cX9_badOnes 22 = .ok (.aload_n 0, 1) := by decide +kernel
theorem dX9_badOnes_23 : decode cX9_badOnes 23 = .ok (.getfield 28, 3) := by decide +kernel
theorem dX9_badOnes_26 : decode cX9_badOnes 26 = .ok (.aload_n 0, 1) := by decide +kernel
theorem dX9_badOnes_27 : decode cX9_badOnes 27 = .ok (.getfield 28, 3) := by decide +kernel
theorem dX9_badOnes_30 : decode cX9_badOnes 30 = .ok (.iconst 0, 1) := by decide +kernel
theorem dX9_badOnes_31 : decode cX9_badOnes 31 = .ok (.iload_n 2, 1) := by decide +kernel
theorem dX9_badOnes_32 : decode cX9_badOnes 32 = .ok (.iadd, 1) := by decide +kernel
theorem dX9_badOnes_33 : decode cX9_badOnes 33 = .ok (.iaload, 1) := by decide +kernel
theorem dX9_badOnes_34 : decode cX9_badOnes 34 = .ok (.invokevirtual 135, 3) := by decide +kernel
theorem dX9_badOnes_37 : decode cX9_badOnes 37 = .ok (.iand, 1) := by decide +kernel
theorem dX9_badOnes_38 : decode cX9_badOnes 38 = .ok (.invokestatic 143, 3) := by decide +kernel
theorem dX9_badOnes_41 : decode cX9_badOnes 41 = .ok (.iadd, 1) := by decide +kernel
theorem dX9_badOnes_42 : decode cX9_badOnes 42 = .ok (.istore_n 1, 1) := by decide +kernel
theorem dX9_badOnes_43 : decode cX9_badOnes 43 = .ok (.iinc 2 1, 3) := by decide +kernel
theorem dX9_badOnes_46 : decode cX9_badOnes 46 = .ok (.goto (-42), 3) := by decide +kernel
theorem dX9_badOnes_49 : decode cX9_badOnes 49 = .ok (.iload_n 1, 1) := by decide +kernel
theorem dX9_badOnes_50 : decode cX9_badOnes 50 = .ok (.iconst 2, 1) := by decide +kernel
theorem dX9_badOnes_51 : decode cX9_badOnes 51 = .ok (.idiv, 1) := by decide +kernel
theorem dX9_badOnes_52 : decode cX9_badOnes 52 = .ok (.ireturn, 1) := by decide +kernel
theorem dX9_alone_0 : decode cX9_alone 0 = .ok (.iconst 0, 1) := by decide +kernel
theorem dX9_alone_1 : decode cX9_alone 1 = .ok (.istore_n 1, 1) := by decide +kernel
theorem dX9_alone_2 : decode cX9_alone 2 = .ok (.iconst 0, 1) := by decide +kernel
theorem dX9_alone_3 : decode cX9_alone 3 = .ok (.istore_n 2, 1) := by decide +kernel
theorem dX9_alone_4 : decode cX9_alone 4 = .ok (.iload_n 2, 1) := by decide +kernel
theorem dX9_alone_5 : decode cX9_alone 5 = .ok (.aload_n 0, 1) := by decide +kernel
theorem dX9_alone_6 : decode cX9_alone 6 = .ok (.getfield 13, 3) := by decide +kernel
theorem dX9_alone_9 : decode cX9_alone 9 = .ok (.iconst 1, 1) := by decide +kernel
theorem dX9_alone_10 : decode cX9_alone 10 = .ok (.iaload, 1) := by decide +kernel
theorem dX9_alone_11 : decode cX9_alone 11 = .ok (.if_icmp .ge 41, 3) := by decide +kernel
theorem dX9_alone_14 : decode cX9_alone 14 = .ok (.iload_n 1, 1) := by decide +kernel
theorem dX9_alone_15 : decode cX9_alone 15 = .ok (.aload_n 0, 1) := by decide +kernel
theorem dX9_alone_16 : decode cX9_alone 16 = .ok (.aload_n 0, 1) := by decide +kernel
theorem dX9_alone_17 : decode cX9_alone 17 = .ok (.getfield 28, 3) := by decide +kernel
theorem dX9_alone_20 : decode cX9_alone 20 = .ok (.aload_n 0, 1) := by decide +kernel
theorem dX9_alone_21 : decode cX9_alone 21 = .ok (.getfield 28, 3) := by decide +kernel
theorem dX9_alone_24 : decode cX9_alone 24 = .ok (.iconst 0, 1) := by decide +kernel
theorem dX9_alone_25 : decode cX9_alone 25 = .ok (.iload_n 2, 1) := by decide +kernel
theorem dX9_alone_26 : decode cX9_alone 26 = .ok (.iadd, 1) := by decide +kernel
theorem dX9_alone_27 : decode cX9_alone 27 = .ok (.iaload, 1) := by decide +kernel
theorem dX9_alone_28 : decode cX9_alone 28 = .ok (.invokevirtual 135, 3) := by decide +kernel
theorem dX9_alone_31 : decode cX9_alone 31 = .ok (.iconst 1, 1) := by decide +kernel
theorem dX9_alone_32 : decode cX9_alone 32 = .ok (.iload_n 2, 1) := by decide +kernel
theorem dX9_alone_33 : decode cX9_alone 33 = .ok (.ishl, 1) := by decide +kernel
theorem dX9_alone_34 : decode cX9_alone 34 = .ok (.if_icmp .ne 9, 3) := by decide +kernel
theorem dX9_alone_37 : decode cX9_alone 37 = .ok (.iconst 1, 1) := by decide +kernel
theorem dX9_alone_38 : decode cX9_alone 38 = .ok (.iload_n 2, 1) := by decide +kernel
theorem dX9_alone_39 : decode cX9_alone 39 = .ok (.ishl, 1) := by decide +kernel
theorem dX9_alone_40 : decode cX9_alone 40 = .ok (.goto 4, 3) := by decide +kernel
theorem dX9_alone_43 : decode cX9_alone 43 = .ok (.iconst 0, 1) := by decide +kernel
theorem dX9_alone_44 : decode cX9_alone 44 = .ok (.ior, 1) := by decide +kernel
theorem dX9_alone_45 : decode cX9_alone 45 = .ok (.istore_n 1, 1) := by decide +kernel
theorem dX9_alone_46 : decode cX9_alone 46 = .ok (.iinc 2 1, 3) := by decide +kernel
theorem dX9_alone_49 : decode cX9_alone 49 = .ok (.goto (-45), 3) := by decide +kernel
theorem dX9_alone_52 : decode cX9_alone 52 = .ok (.iload_n 1, 1) := by decide +kernel
theorem dX9_alone_53 : decode cX9_alone 53 = .ok (.ireturn, 1) := by decide +kernel
theorem dX9_restless_0 : decode cX9_restless 0 = .ok (.iconst 0, 1) := by decide +kernel
theorem dX9_restless_1 : decode cX9_restless 1 = .ok (.istore_n 1, 1) := by decide +kernel
theorem dX9_restless_2 : decode cX9_restless 2 = .ok (.iconst 0, 1) := by decide +kernel
theorem dX9_restless_3 : decode cX9_restless 3 = .ok (.istore_n 2, 1) := by decide +kernel
theorem dX9_restless_4 : decode cX9_restless 4 = .ok (.iload_n 2, 1) := by decide +kernel
theorem dX9_restless_5 : decode cX9_restless 5 = .ok (.aload_n 0, 1) := by decide +kernel
theorem dX9_restless_6 : decode cX9_restless 6 = .ok (.getfield 13, 3) := by decide +kernel
theorem dX9_restless_9 : decode cX9_restless 9 = .ok (.iconst 1, 1) := by decide +kernel
theorem dX9_restless_10 : decode cX9_restless 10 = .ok (.iaload, 1) := by decide +kernel
theorem dX9_restless_11 : decode cX9_restless 11 = .ok (.if_icmp .ge 41, 3) := by decide +kernel
theorem dX9_restless_14 : decode cX9_restless 14 = .ok (.iload_n 1, 1) := by decide +kernel
theorem dX9_restless_15 : decode cX9_restless 15 = .ok (.aload_n 0, 1) := by decide +kernel
theorem dX9_restless_16 : decode cX9_restless 16 = .ok (.iload_n 2, 1) := by decide +kernel
theorem dX9_restless_17 : decode cX9_restless 17 = .ok (.aload_n 0, 1) := by decide +kernel
theorem dX9_restless_18 : decode cX9_restless 18 = .ok (.iload_n 2, 1) := by decide +kernel
theorem dX9_restless_19 : decode cX9_restless 19 = .ok (.invokevirtual 186, 3) := by decide +kernel
theorem dX9_restless_22 : decode cX9_restless 22 = .ok (.invokevirtual 189, 3) := by decide +kernel
theorem dX9_restless_25 : decode cX9_restless 25 = .ok (.aload_n 0, 1) := by decide +kernel
theorem dX9_restless_26 : decode cX9_restless 26 = .ok (.aload_n 0, 1) := by decide +kernel
theorem dX9_restless_27 : decode cX9_restless 27 = .ok (.getfield 28, 3) := by decide +kernel
theorem dX9_restless_30 : decode cX9_restless 30 = .ok (.iload_n 2, 1) := by decide +kernel
theorem dX9_restless_31 : decode cX9_restless 31 = .ok (.invokevirtual 162, 3) := by decide +kernel
theorem dX9_restless_34 : decode cX9_restless 34 = .ok (.if_icmp .ge 9, 3) := by decide +kernel
theorem dX9_restless_37 : decode cX9_restless 37 = .ok (.iconst 1, 1) := by decide +kernel
theorem dX9_restless_38 : decode cX9_restless 38 = .ok (.iload_n 2, 1) := by decide +kernel
theorem dX9_restless_39 : decode cX9_restless 39 = .ok (.ishl, 1) := by decide +kernel
theorem dX9_restless_40 : decode cX9_restless 40 = .ok (.goto 4, 3) := by decide +kernel
theorem dX9_restless_43 : decode cX9_restless 43 = .ok (.iconst 0, 1) := by decide +kernel
theorem dX9_restless_44 : decode cX9_restless 44 = .ok (.ior, 1) := by decide +kernel
theorem dX9_restless_45 : decode cX9_restless 45 = .ok (.istore_n 1, 1) := by decide +kernel
theorem dX9_restless_46 : decode cX9_restless 46 = .ok (.iinc 2 1, 3) := by decide +kernel
theorem dX9_restless_49 : decode cX9_restless 49 = .ok (.goto (-45), 3) := by decide +kernel
theorem dX9_restless_52 : decode cX9_restless 52 = .ok (.iload_n 1, 1) := by decide +kernel
theorem dX9_restless_53 : decode cX9_restless 53 = .ok (.ireturn, 1) := by decide +kernel
theorem dX9_now_0 : decode cX9_now 0 = .ok (.aload_n 0, 1) := by decide +kernel
theorem dX9_now_1 : decode cX9_now 1 = .ok (.iconst 0, 1) := by decide +kernel
theorem dX9_now_2 : decode cX9_now 2 = .ok (.putfield 62, 3) := by decide +kernel
theorem dX9_now_5 : decode cX9_now 5 = .ok (.iload_n 1, 1) := by decide +kernel
theorem dX9_now_6 : decode cX9_now 6 = .ok (.iconst 0, 1) := by decide +kernel
theorem dX9_now_7 : decode cX9_now 7 = .ok (.bipush 7, 2) := by decide +kernel
theorem dX9_now_9 : decode cX9_now 9 = .ok (.invokestatic 66, 3) := by decide +kernel
theorem dX9_now_12 : decode cX9_now 12 = .ok (.ifCond .ne 5, 3) := by decide +kernel
theorem dX9_now_15 : decode cX9_now 15 = .ok (.iconst (-1), 1) := by decide +kernel
theorem dX9_now_16 : decode cX9_now 16 = .ok (.ireturn, 1) := by decide +kernel
theorem dX9_now_17 : decode cX9_now 17 = .ok (.iload_n 1, 1) := by decide +kernel
theorem dX9_now_18 : decode cX9_now 18 = .ok (.iconst 3, 1) := by decide +kernel
theorem dX9_now_19 : decode cX9_now 19 = .ok (.if_icmp .ge 40, 3) := by decide +kernel
theorem dX9_now_22 : decode cX9_now 22 = .ok (.iload_n 1, 1) := by decide +kernel
theorem dX9_now_23 : decode cX9_now 23 = .ok (.ifCond .ne 13, 3) := by decide +kernel
theorem dX9_now_26 : decode cX9_now 26 = .ok (.aload_n 0, 1) := by decide +kernel
theorem dX9_now_27 : decode cX9_now 27 = .ok (.getfield 28, 3) := by decide +kernel
theorem dX9_now_30 : decode cX9_now 30 = .ok (.bipush 24, 2) := by decide +kernel
theorem dX9_now_32 : decode cX9_now 32 = .ok (.iaload, 1) := by decide +kernel
theorem dX9_now_33 : decode cX9_now 33 = .ok (.goto 25, 3) := by decide +kernel
theorem dX9_now_36 : decode cX9_now 36 = .ok (.iload_n 1, 1) := by decide +kernel
theorem dX9_now_37 : decode cX9_now 37 = .ok (.iconst 1, 1) := by decide +kernel
theorem dX9_now_38 : decode cX9_now 38 = .ok (.if_icmp .ne 13, 3) := by decide +kernel
theorem dX9_now_41 : decode cX9_now 41 = .ok (.aload_n 0, 1) := by decide +kernel
theorem dX9_now_42 : decode cX9_now 42 = .ok (.getfield 28, 3) := by decide +kernel
theorem dX9_now_45 : decode cX9_now 45 = .ok (.bipush 23, 2) := by decide +kernel
theorem dX9_now_47 : decode cX9_now 47 = .ok (.iaload, 1) := by decide +kernel
theorem dX9_now_48 : decode cX9_now 48 = .ok (.goto 10, 3) := by decide +kernel
theorem dX9_now_51 : decode cX9_now 51 = .ok (.aload_n 0, 1) := by decide +kernel
theorem dX9_now_52 : decode cX9_now 52 = .ok (.getfield 28, 3) := by decide +kernel
theorem dX9_now_55 : decode cX9_now 55 = .ok (.bipush 22, 2) := by decide +kernel
theorem dX9_now_57 : decode cX9_now 57 = .ok (.iaload, 1) := by decide +kernel
theorem dX9_now_58 : decode cX9_now 58 = .ok (.ireturn, 1) := by decide +kernel
theorem dX9_now_59 : decode cX9_now 59 = .ok (.iload_n 1, 1) := by decide +kernel
theorem dX9_now_60 : decode cX9_now 60 = .ok (.iconst 3, 1) := by decide +kernel
theorem dX9_now_61 : decode cX9_now 61 = .ok (.if_icmp .ne 10, 3) := by decide +kernel
theorem dX9_now_64 : decode cX9_now 64 = .ok (.aload_n 0, 1) := by decide +kernel
theorem dX9_now_65 : decode cX9_now 65 = .ok (.invokevirtual 192, 3) := by decide +kernel
theorem dX9_now_68 : decode cX9_now 68 = .ok (.goto 44, 3) := by decide +kernel
theorem dX9_now_71 : decode cX9_now 71 = .ok (.iload_n 1, 1) := by decide +kernel
theorem dX9_now_72 : decode cX9_now 72 = .ok (.iconst 4, 1) := by decide +kernel
theorem dX9_now_73 : decode cX9_now 73 = .ok (.if_icmp .ne 10, 3) := by decide +kernel
theorem dX9_now_76 : decode cX9_now 76 = .ok (.aload_n 0, 1) := by decide +kernel
theorem dX9_now_77 : decode cX9_now 77 = .ok (.invokevirtual 195, 3) := by decide +kernel
theorem dX9_now_80 : decode cX9_now 80 = .ok (.goto 32, 3) := by decide +kernel
theorem dX9_now_83 : decode cX9_now 83 = .ok (.iload_n 1, 1) := by decide +kernel
theorem dX9_now_84 : decode cX9_now 84 = .ok (.iconst 5, 1) := by decide +kernel
theorem dX9_now_85 : decode cX9_now 85 = .ok (.if_icmp .ne 10, 3) := by decide +kernel
theorem dX9_now_88 : decode cX9_now 88 = .ok (.aload_n 0, 1) := by decide +kernel
theorem dX9_now_89 : decode cX9_now 89 = .ok (.invokevirtual 198, 3) := by decide +kernel
theorem dX9_now_92 : decode cX9_now 92 = .ok (.goto 20, 3) := by decide +kernel
theorem dX9_now_95 : decode cX9_now 95 = .ok (.iload_n 1, 1) := by decide +kernel
theorem dX9_now_96 : decode cX9_now 96 = .ok (.bipush 6, 2) := by decide +kernel
theorem dX9_now_98 : decode cX9_now 98 = .ok (.if_icmp .ne 10, 3) := by decide +kernel
theorem dX9_now_101 : decode cX9_now 101 = .ok (.aload_n 0, 1) := by decide +kernel
theorem dX9_now_102 : decode cX9_now 102 = .ok (.invokevirtual 201, 3) := by decide +kernel
theorem dX9_now_105 : decode cX9_now 105 = .ok (.goto 7, 3) := by decide +kernel
theorem dX9_now_108 : decode cX9_now 108 = .ok (.aload_n 0, 1) := by decide +kernel
theorem dX9_now_109 : decode cX9_now 109 = .ok (.getfield 128, 3) := by decide +kernel
theorem dX9_now_112 : decode cX9_now 112 = .ok (.ireturn, 1) := by decide +kernel
theorem dX9_notes_0 : decode cX9_notes 0 = .ok (.aload_n 0, 1) := by decide +kernel
theorem dX9_notes_1 : decode cX9_notes 1 = .ok (.getfield 128, 3) := by decide +kernel
theorem dX9_notes_4 : decode cX9_notes 4 = .ok (.bipush 10, 2) := by decide +kernel
theorem dX9_notes_6 : decode cX9_notes 6 = .ok (.if_icmp .ne 39, 3) := by decide +kernel
theorem dX9_notes_9 : decode cX9_notes 9 = .ok (.iconst 0, 1) := by decide +kernel
theorem dX9_notes_10 : decode cX9_notes 10 = .ok (.istore_n 1, 1) := by decide +kernel
theorem dX9_notes_11 : decode cX9_notes 11 = .ok (.iload_n 1, 1) := by decide +kernel
theorem dX9_notes_12 : decode cX9_notes 12 = .ok (.sipush 225, 3) := by decide +kernel
theorem dX9_notes_15 : decode cX9_notes 15 = .ok (.if_icmp .ge 24, 3) := by decide +kernel
theorem dX9_notes_18 : decode cX9_notes 18 = .ok (.aload_n 0, 1) := by decide +kernel
theorem dX9_notes_19 : decode cX9_notes 19 = .ok (.getfield 41, 3) := by decide +kernel
theorem dX9_notes_22 : decode cX9_notes 22 = .ok (.iload_n 1, 1) := by decide +kernel
theorem dX9_notes_23 : decode cX9_notes 23 = .ok (.aload_n 0, 1) := by decide +kernel
theorem dX9_notes_24 : decode cX9_notes 24 = .ok (.getfield 41, 3) := by decide +kernel
theorem dX9_notes_27 : decode cX9_notes 27 = .ok (.iload_n 1, 1) := by decide +kernel
theorem dX9_notes_28 : decode cX9_notes 28 = .ok (.bipush 25, 2) := by decide +kernel
theorem dX9_notes_30 : decode cX9_notes 30 = .ok (.iadd, 1) := by decide +kernel
theorem dX9_notes_31 : decode cX9_notes 31 = .ok (.iaload, 1) := by decide +kernel
theorem dX9_notes_32 : decode cX9_notes 32 = .ok (.iastore, 1) := by decide +kernel
theorem dX9_notes_33 : decode cX9_notes 33 = .ok (.iinc 1 1, 3) := by decide +kernel
theorem dX9_notes_36 : decode cX9_notes 36 = .ok (.goto (-25), 3) := by decide +kernel
theorem dX9_notes_39 : decode cX9_notes 39 = .ok (.aload_n 0, 1) := by decide +kernel
theorem dX9_notes_40 : decode cX9_notes 40 = .ok (.bipush 9, 2) := by decide +kernel
theorem dX9_notes_42 : decode cX9_notes 42 = .ok (.putfield 128, 3) := by decide +kernel
theorem dX9_notes_45 : decode cX9_notes 45 = .ok (.iconst 0, 1) := by decide +kernel
theorem dX9_notes_46 : decode cX9_notes 46 = .ok (.istore_n 1, 1) := by decide +kernel
theorem dX9_notes_47 : decode cX9_notes 47 = .ok (.iload_n 1, 1) := by decide +kernel
theorem dX9_notes_48 : decode cX9_notes 48 = .ok (.bipush 25, 2) := by decide +kernel
theorem dX9_notes_50 : decode cX9_notes 50 = .ok (.if_icmp .ge 29, 3) := by decide +kernel
theorem dX9_notes_53 : decode cX9_notes 53 = .ok (.aload_n 0, 1) := by decide +kernel
theorem dX9_notes_54 : decode cX9_notes 54 = .ok (.getfield 41, 3) := by decide +kernel
theorem dX9_notes_57 : decode cX9_notes 57 = .ok (.bipush 25, 2) := by decide +kernel
theorem dX9_notes_59 : decode cX9_notes 59 = .ok (.aload_n 0, 1) := by decide +kernel
theorem dX9_notes_60 : decode cX9_notes 60 = .ok (.getfield 128, 3) := by decide +kernel
theorem dX9_notes_63 : decode cX9_notes 63 = .ok (.imul, 1) := by decide +kernel
theorem dX9_notes_64 : decode cX9_notes 64 = .ok (.iload_n 1, 1) := by decide +kernel
theorem dX9_notes_65 : decode cX9_notes 65 = .ok (.iadd, 1) := by decide +kernel
theorem dX9_notes_66 : decode cX9_notes 66 = .ok (.aload_n 0, 1) := by decide +kernel
theorem dX9_notes_67 : decode cX9_notes 67 = .ok (.getfield 28, 3) := by decide +kernel
theorem dX9_notes_70 : decode cX9_notes 70 = .ok (.iload_n 1, 1) := by decide +kernel
theorem dX9_notes_71 : decode cX9_notes 71 = .ok (.iaload, 1) := by decide +kernel
theorem dX9_notes_72 : decode cX9_notes 72 = .ok (.iastore, 1) := by decide +kernel
theorem dX9_notes_73 : decode cX9_notes 73 = .ok (.iinc 1 1, 3) := by decide +kernel
theorem dX9_notes_76 : decode cX9_notes 76 = .ok (.goto (-29), 3) := by decide +kernel
theorem dX9_notes_79 : decode cX9_notes 79 = .ok (.aload_n 0, 1) := by decide +kernel
theorem dX9_notes_80 : decode cX9_notes 80 = .ok (.dup, 1) := by decide +kernel
theorem dX9_notes_81 : decode cX9_notes 81 = .ok (.getfield 128, 3) := by decide +kernel
theorem dX9_notes_84 : decode cX9_notes 84 = .ok (.iconst 1, 1) := by decide +kernel
theorem dX9_notes_85 : decode cX9_notes 85 = .ok (.iadd, 1) := by decide +kernel
theorem dX9_notes_86 : decode cX9_notes 86 = .ok (.putfield 128, 3) := by decide +kernel
theorem dX9_notes_89 : decode cX9_notes 89 = .ok (.return_, 1) := by decide +kernel
theorem dX9_hurts_0 : decode cX9_hurts 0 = .ok (.aload_n 0, 1) := by decide +kernel
theorem dX9_hurts_1 : decode cX9_hurts 1 = .ok (.iconst 0, 1) := by decide +kernel
theorem dX9_hurts_2 : decode cX9_hurts 2 = .ok (.putfield 62, 3) := by decide +kernel
theorem dX9_hurts_5 : decode cX9_hurts 5 = .ok (.aload_n 0, 1) := by decide +kernel
theorem dX9_hurts_6 : decode cX9_hurts 6 = .ok (.iload_n 1, 1) := by decide +kernel
theorem dX9_hurts_7 : decode cX9_hurts 7 = .ok (.invokevirtual 153, 3) := by decide +kernel
theorem dX9_hurts_10 : decode cX9_hurts 10 = .ok (.ifCond .eq 12, 3) := by decide +kernel
theorem dX9_hurts_13 : decode cX9_hurts 13 = .ok (.iload_n 2, 1) := by decide +kernel
theorem dX9_hurts_14 : decode cX9_hurts 14 = .ok (.iconst 0, 1) := by decide +kernel
theorem dX9_hurts_15 : decode cX9_hurts 15 = .ok (.iconst 1, 1) := by decide +kernel
theorem dX9_hurts_16 : decode cX9_hurts 16 = .ok (.invokestatic 66, 3) := by decide +kernel
theorem dX9_hurts_19 : decode cX9_hurts 19 = .ok (.ifCond .ne 5, 3) := by decide +kernel
theorem dX9_hurts_22 : decode cX9_hurts 22 = .ok (.iconst (-1), 1) := by decide +kernel
theorem dX9_hurts_23 : decode cX9_hurts 23 = .ok (.ireturn, 1) := by decide +kernel
theorem dX9_hurts_24 : decode cX9_hurts 24 = .ok (.aload_n 0, 1) := by decide +kernel
theorem dX9_hurts_25 : decode cX9_hurts 25 = .ok (.invokevirtual 204, 3) := by decide +kernel
theorem dX9_hurts_28 : decode cX9_hurts 28 = .ok (.aload_n 0, 1) := by decide +kernel
theorem dX9_hurts_29 : decode cX9_hurts 29 = .ok (.getfield 28, 3) := by decide +kernel
theorem dX9_hurts_32 : decode cX9_hurts 32 = .ok (.bipush 21, 2) := by decide +kernel
theorem dX9_hurts_34 : decode cX9_hurts 34 = .ok (.iaload, 1) := by decide +kernel
theorem dX9_hurts_35 : decode cX9_hurts 35 = .ok (.iload_n 1, 1) := by decide +kernel
theorem dX9_hurts_36 : decode cX9_hurts 36 = .ok (.ishr, 1) := by decide +kernel
theorem dX9_hurts_37 : decode cX9_hurts 37 = .ok (.iconst 1, 1) := by decide +kernel
theorem dX9_hurts_38 : decode cX9_hurts 38 = .ok (.iand, 1) := by decide +kernel
theorem dX9_hurts_39 : decode cX9_hurts 39 = .ok (.istore_n 3, 1) := by decide +kernel
theorem dX9_hurts_40 : decode cX9_hurts 40 = .ok (.aload_n 0, 1) := by decide +kernel
theorem dX9_hurts_41 : decode cX9_hurts 41 = .ok (.getfield 28, 3) := by decide +kernel
theorem dX9_hurts_44 : decode cX9_hurts 44 = .ok (.bipush 21, 2) := by decide +kernel
theorem dX9_hurts_46 : decode cX9_hurts 46 = .ok (.aload_n 0, 1) := by decide +kernel
theorem dX9_hurts_47 : decode cX9_hurts 47 = .ok (.getfield 28, 3) := by decide +kernel
theorem dX9_hurts_50 : decode cX9_hurts 50 = .ok (.bipush 21, 2) := by decide +kernel
theorem dX9_hurts_52 : decode cX9_hurts 52 = .ok (.iaload, 1) := by decide +kernel
theorem dX9_hurts_53 : decode cX9_hurts 53 = .ok (.iconst 1, 1) := by decide +kernel
theorem dX9_hurts_54 : decode cX9_hurts 54 = .ok (.iload_n 1, 1) := by decide +kernel
theorem dX9_hurts_55 : decode cX9_hurts 55 = .ok (.ishl, 1) := by decide +kernel
theorem dX9_hurts_56 : decode cX9_hurts 56 = .ok (.iconst (-1), 1) := by decide +kernel
theorem dX9_hurts_57 : decode cX9_hurts 57 = .ok (.ixor, 1) := by decide +kernel
theorem dX9_hurts_58 : decode cX9_hurts 58 = .ok (.iand, 1) := by decide +kernel
theorem dX9_hurts_59 : decode cX9_hurts 59 = .ok (.iload_n 2, 1) := by decide +kernel
theorem dX9_hurts_60 : decode cX9_hurts 60 = .ok (.iload_n 1, 1) := by decide +kernel
theorem dX9_hurts_61 : decode cX9_hurts 61 = .ok (.ishl, 1) := by decide +kernel
theorem dX9_hurts_62 : decode cX9_hurts 62 = .ok (.ior, 1) := by decide +kernel
theorem dX9_hurts_63 : decode cX9_hurts 63 = .ok (.iastore, 1) := by decide +kernel
theorem dX9_hurts_64 : decode cX9_hurts 64 = .ok (.iload_n 3, 1) := by decide +kernel
theorem dX9_hurts_65 : decode cX9_hurts 65 = .ok (.ireturn, 1) := by decide +kernel
theorem dX9_deeds_0 : decode cX9_deeds 0 = .ok (.aload_n 0, 1) := by decide +kernel
theorem dX9_deeds_1 : decode cX9_deeds 1 = .ok (.iconst 0, 1) := by decide +kernel
theorem dX9_deeds_2 : decode cX9_deeds 2 = .ok (.putfield 62, 3) := by decide +kernel
theorem dX9_deeds_5 : decode cX9_deeds 5 = .ok (.aload_n 0, 1) := by decide +kernel
theorem dX9_deeds_6 : decode cX9_deeds 6 = .ok (.iload_n 1, 1) := by decide +kernel
theorem dX9_deeds_7 : decode cX9_deeds 7 = .ok (.invokevirtual 153, 3) := by decide +kernel
theorem dX9_deeds_10 : decode cX9_deeds 10 = .ok (.ifCond .ne 5, 3) := by decide +kernel
theorem dX9_deeds_13 : decode cX9_deeds 13 = .ok (.iconst (-1), 1) := by decide +kernel
theorem dX9_deeds_14 : decode cX9_deeds 14 = .ok (.ireturn, 1) := by decide +kernel
theorem dX9_deeds_15 : decode cX9_deeds 15 = .ok (.aload_n 0, 1) := by decide +kernel
theorem dX9_deeds_16 : decode cX9_deeds 16 = .ok (.getfield 28, 3) := by decide +kernel
theorem dX9_deeds_19 : decode cX9_deeds 19 = .ok (.bipush 14, 2) := by decide +kernel
theorem dX9_deeds_21 : decode cX9_deeds 21 = .ok (.iload_n 1, 1) := by decide +kernel
theorem dX9_deeds_22 : decode cX9_deeds 22 = .ok (.iadd, 1) := by decide +kernel
theorem dX9_deeds_23 : decode cX9_deeds 23 = .ok (.iaload, 1) := by decide +kernel
theorem dX9_deeds_24 : decode cX9_deeds 24 = .ok (.bipush 99, 2) := by decide +kernel
theorem dX9_deeds_26 : decode cX9_deeds 26 = .ok (.if_icmp .ne 6, 3) := by decide +kernel
theorem dX9_deeds_29 : decode cX9_deeds 29 = .ok (.bipush (-2), 2) := by decide +kernel
theorem dX9_deeds_31 : decode cX9_deeds 31 = .ok (.ireturn, 1) := by decide +kernel
theorem dX9_deeds_32 : decode cX9_deeds 32 = .ok (.aload_n 0, 1) := by decide +kernel
theorem dX9_deeds_33 : decode cX9_deeds 33 = .ok (.invokevirtual 204, 3) := by decide +kernel
theorem dX9_deeds_36 : decode cX9_deeds 36 = .ok (.aload_n 0, 1) := by decide +kernel
theorem dX9_deeds_37 : decode cX9_deeds 37 = .ok (.getfield 28, 3) := by decide +kernel
theorem dX9_deeds_40 : decode cX9_deeds 40 = .ok (.bipush 14, 2) := by decide +kernel
theorem dX9_deeds_42 : decode cX9_deeds 42 = .ok (.iload_n 1, 1) := by decide +kernel
theorem dX9_deeds_43 : decode cX9_deeds 43 = .ok (.iadd, 1) := by decide +kernel
theorem dX9_deeds_44 : decode cX9_deeds 44 = .ok (.dup2, 1) := by decide +kernel
theorem dX9_deeds_45 : decode cX9_deeds 45 = .ok (.iaload, 1) := by decide +kernel
theorem dX9_deeds_46 : decode cX9_deeds 46 = .ok (.iconst 1, 1) := by decide +kernel
theorem dX9_deeds_47 : decode cX9_deeds 47 = .ok (.iadd, 1) := by decide +kernel
theorem dX9_deeds_48 : decode cX9_deeds 48 = .ok (.iastore, 1) := by decide +kernel
theorem dX9_deeds_49 : decode cX9_deeds 49 = .ok (.aload_n 0, 1) := by decide +kernel
theorem dX9_deeds_50 : decode cX9_deeds 50 = .ok (.aload_n 0, 1) := by decide +kernel
theorem dX9_deeds_51 : decode cX9_deeds 51 = .ok (.getfield 28, 3) := by decide +kernel
theorem dX9_deeds_54 : decode cX9_deeds 54 = .ok (.iload_n 1, 1) := by decide +kernel
theorem dX9_deeds_55 : decode cX9_deeds 55 = .ok (.invokevirtual 159, 3) := by decide +kernel
theorem dX9_deeds_58 : decode cX9_deeds 58 = .ok (.ireturn, 1) := by decide +kernel
theorem dX9_earns_0 : decode cX9_earns 0 = .ok (.aload_n 0, 1) := by decide +kernel
theorem dX9_earns_1 : decode cX9_earns 1 = .ok (.iconst 0, 1) := by decide +kernel
theorem dX9_earns_2 : decode cX9_earns 2 = .ok (.putfield 62, 3) := by decide +kernel
theorem dX9_earns_5 : decode cX9_earns 5 = .ok (.aload_n 0, 1) := by decide +kernel
theorem dX9_earns_6 : decode cX9_earns 6 = .ok (.iload_n 1, 1) := by decide +kernel
theorem dX9_earns_7 : decode cX9_earns 7 = .ok (.invokevirtual 153, 3) := by decide +kernel
theorem dX9_earns_10 : decode cX9_earns 10 = .ok (.ifCond .eq 14, 3) := by decide +kernel
theorem dX9_earns_13 : decode cX9_earns 13 = .ok (.iload_n 2, 1) := by decide +kernel
theorem dX9_earns_14 : decode cX9_earns 14 = .ok (.bipush (-99), 2) := by decide +kernel
theorem dX9_earns_16 : decode cX9_earns 16 = .ok (.bipush 99, 2) := by decide +kernel
theorem dX9_earns_18 : decode cX9_earns 18 = .ok (.invokestatic 66, 3) := by decide +kernel
theorem dX9_earns_21 : decode cX9_earns 21 = .ok (.ifCond .ne 5, 3) := by decide +kernel
theorem dX9_earns_24 : decode cX9_earns 24 = .ok (.iconst (-1), 1) := by decide +kernel
theorem dX9_earns_25 : decode cX9_earns 25 = .ok (.ireturn, 1) := by decide +kernel
theorem dX9_earns_26 : decode cX9_earns 26 = .ok (.aload_n 0, 1) := by decide +kernel
theorem dX9_earns_27 : decode cX9_earns 27 = .ok (.invokevirtual 204, 3) := by decide +kernel
theorem dX9_earns_30 : decode cX9_earns 30 = .ok (.aload_n 0, 1) := by decide +kernel
theorem dX9_earns_31 : decode cX9_earns 31 = .ok (.getfield 28, 3) := by decide +kernel
theorem dX9_earns_34 : decode cX9_earns 34 = .ok (.bipush 7, 2) := by decide +kernel
theorem dX9_earns_36 : decode cX9_earns 36 = .ok (.iload_n 1, 1) := by decide +kernel
theorem dX9_earns_37 : decode cX9_earns 37 = .ok (.iadd, 1) := by decide +kernel
theorem dX9_earns_38 : decode cX9_earns 38 = .ok (.iaload, 1) := by decide +kernel
theorem dX9_earns_39 : decode cX9_earns 39 = .ok (.iload_n 2, 1) := by decide +kernel
theorem dX9_earns_40 : decode cX9_earns 40 = .ok (.iadd, 1) := by decide +kernel
theorem dX9_earns_41 : decode cX9_earns 41 = .ok (.istore_n 3, 1) := by decide +kernel
theorem dX9_earns_42 : decode cX9_earns 42 = .ok (.aload_n 0, 1) := by decide +kernel
theorem dX9_earns_43 : decode cX9_earns 43 = .ok (.getfield 28, 3) := by decide +kernel
theorem dX9_earns_46 : decode cX9_earns 46 = .ok (.bipush 7, 2) := by decide +kernel
theorem dX9_earns_48 : decode cX9_earns 48 = .ok (.iload_n 1, 1) := by decide +kernel
theorem dX9_earns_49 : decode cX9_earns 49 = .ok (.iadd, 1) := by decide +kernel
theorem dX9_earns_50 : decode cX9_earns 50 = .ok (.iload_n 3, 1) := by decide +kernel
theorem dX9_earns_51 : decode cX9_earns 51 = .ok (.ifCond .ge 7, 3) := by decide +kernel
theorem dX9_earns_54 : decode cX9_earns 54 = .ok (.iconst 0, 1) := by decide +kernel
theorem dX9_earns_55 : decode cX9_earns 55 = .ok (.goto 17, 3) := by decide +kernel
theorem dX9_earns_58 : decode cX9_earns 58 = .ok (.iload_n 3, 1) := by decide +kernel
theorem dX9_earns_59 : decode cX9_earns 59 = .ok (.sipush 999, 3) := by decide +kernel
theorem dX9_earns_62 : decode cX9_earns 62 = .ok (.if_icmp .le 9, 3) := by decide +kernel
theorem dX9_earns_65 : decode cX9_earns 65 = .ok (.sipush 999, 3) := by decide +kernel
theorem dX9_earns_68 : decode cX9_earns 68 = .ok (.goto 4, 3) := by decide +kernel
theorem dX9_earns_71 : decode cX9_earns 71 = .ok (.iload_n 3, 1) := by decide +kernel
theorem dX9_earns_72 : decode cX9_earns 72 = .ok (.iastore, 1) := by decide +kernel
theorem dX9_earns_73 : decode cX9_earns 73 = .ok (.aload_n 0, 1) := by decide +kernel
theorem dX9_earns_74 : decode cX9_earns 74 = .ok (.getfield 28, 3) := by decide +kernel
theorem dX9_earns_77 : decode cX9_earns 77 = .ok (.bipush 7, 2) := by decide +kernel
theorem dX9_earns_79 : decode cX9_earns 79 = .ok (.iload_n 1, 1) := by decide +kernel
theorem dX9_earns_80 : decode cX9_earns 80 = .ok (.iadd, 1) := by decide +kernel
theorem dX9_earns_81 : decode cX9_earns 81 = .ok (.iaload, 1) := by decide +kernel
theorem dX9_earns_82 : decode cX9_earns 82 = .ok (.ireturn, 1) := by decide +kernel
theorem dX9_names_0 : decode cX9_names 0 = .ok (.aload_n 0, 1) := by decide +kernel
theorem dX9_names_1 : decode cX9_names 1 = .ok (.iconst 0, 1) := by decide +kernel
theorem dX9_names_2 : decode cX9_names 2 = .ok (.putfield 62, 3) := by decide +kernel
theorem dX9_names_5 : decode cX9_names 5 = .ok (.aload_n 0, 1) := by decide +kernel
theorem dX9_names_6 : decode cX9_names 6 = .ok (.iload_n 1, 1) := by decide +kernel
theorem dX9_names_7 : decode cX9_names 7 = .ok (.invokevirtual 153, 3) := by decide +kernel
theorem dX9_names_10 : decode cX9_names 10 = .ok (.ifCond .eq 11, 3) := by decide +kernel
theorem dX9_names_13 : decode cX9_names 13 = .ok (.aload_n 0, 1) := by decide +kernel
theorem dX9_names_14 : decode cX9_names 14 = .ok (.iload_n 2, 1) := by decide +kernel
theorem dX9_names_15 : decode cX9_names 15 = .ok (.invokevirtual 168, 3) := by decide +kernel
theorem dX9_names_18 : decode cX9_names 18 = .ok (.ifCond .ne 5, 3) := by decide +kernel
theorem dX9_names_21 : decode cX9_names 21 = .ok (.iconst (-1), 1) := by decide +kernel
theorem dX9_names_22 : decode cX9_names 22 = .ok (.ireturn, 1) := by decide +kernel
theorem dX9_names_23 : decode cX9_names 23 = .ok (.aload_n 0, 1) := by decide +kernel
theorem dX9_names_24 : decode cX9_names 24 = .ok (.invokevirtual 204, 3) := by decide +kernel
theorem dX9_names_27 : decode cX9_names 27 = .ok (.aload_n 0, 1) := by decide +kernel
theorem dX9_names_28 : decode cX9_names 28 = .ok (.getfield 28, 3) := by decide +kernel
theorem dX9_names_31 : decode cX9_names 31 = .ok (.iconst 0, 1) := by decide +kernel
theorem dX9_names_32 : decode cX9_names 32 = .ok (.iload_n 1, 1) := by decide +kernel
theorem dX9_names_33 : decode cX9_names 33 = .ok (.iadd, 1) := by decide +kernel
theorem dX9_names_34 : decode cX9_names 34 = .ok (.iaload, 1) := by decide +kernel
theorem dX9_names_35 : decode cX9_names 35 = .ok (.istore_n 3, 1) := by decide +kernel
theorem dX9_names_36 : decode cX9_names 36 = .ok (.aload_n 0, 1) := by decide +kernel
theorem dX9_names_37 : decode cX9_names 37 = .ok (.getfield 28, 3) := by decide +kernel
theorem dX9_names_40 : decode cX9_names 40 = .ok (.iconst 0, 1) := by decide +kernel
theorem dX9_names_41 : decode cX9_names 41 = .ok (.iload_n 1, 1) := by decide +kernel
theorem dX9_names_42 : decode cX9_names 42 = .ok (.iadd, 1) := by decide +kernel
theorem dX9_names_43 : decode cX9_names 43 = .ok (.iload_n 2, 1) := by decide +kernel
theorem dX9_names_44 : decode cX9_names 44 = .ok (.iastore, 1) := by decide +kernel
theorem dX9_names_45 : decode cX9_names 45 = .ok (.iload_n 3, 1) := by decide +kernel
theorem dX9_names_46 : decode cX9_names 46 = .ok (.ireturn, 1) := by decide +kernel
theorem dX9_laws_0 : decode cX9_laws 0 = .ok (.aload_n 0, 1) := by decide +kernel
theorem dX9_laws_1 : decode cX9_laws 1 = .ok (.iconst 0, 1) := by decide +kernel
theorem dX9_laws_2 : decode cX9_laws 2 = .ok (.putfield 62, 3) := by decide +kernel
theorem dX9_laws_5 : decode cX9_laws 5 = .ok (.iload_n 1, 1) := by decide +kernel
theorem dX9_laws_6 : decode cX9_laws 6 = .ok (.iconst 0, 1) := by decide +kernel
theorem dX9_laws_7 : decode cX9_laws 7 = .ok (.bipush 15, 2) := by decide +kernel
theorem dX9_laws_9 : decode cX9_laws 9 = .ok (.invokestatic 66, 3) := by decide +kernel
theorem dX9_laws_12 : decode cX9_laws 12 = .ok (.ifCond .ne 5, 3) := by decide +kernel
theorem dX9_laws_15 : decode cX9_laws 15 = .ok (.iconst (-1), 1) := by decide +kernel
theorem dX9_laws_16 : decode cX9_laws 16 = .ok (.ireturn, 1) := by decide +kernel
theorem dX9_laws_17 : decode cX9_laws 17 = .ok (.aload_n 0, 1) := by decide +kernel
theorem dX9_laws_18 : decode cX9_laws 18 = .ok (.invokevirtual 204, 3) := by decide +kernel
theorem dX9_laws_21 : decode cX9_laws 21 = .ok (.aload_n 0, 1) := by decide +kernel
theorem dX9_laws_22 : decode cX9_laws 22 = .ok (.getfield 28, 3) := by decide +kernel
theorem dX9_laws_25 : decode cX9_laws 25 = .ok (.bipush 22, 2) := by decide +kernel
theorem dX9_laws_27 : decode cX9_laws 27 = .ok (.iaload, 1) := by decide +kernel
theorem dX9_laws_28 : decode cX9_laws 28 = .ok (.istore_n 2, 1) := by decide +kernel
theorem dX9_laws_29 : decode cX9_laws 29 = .ok (.aload_n 0, 1) := by decide +kernel
theorem dX9_laws_30 : decode cX9_laws 30 = .ok (.getfield 28, 3) := by decide +kernel
theorem dX9_laws_33 : decode cX9_laws 33 = .ok (.bipush 22, 2) := by decide +kernel
theorem dX9_laws_35 : decode cX9_laws 35 = .ok (.iload_n 1, 1) := by decide +kernel
theorem dX9_laws_36 : decode cX9_laws 36 = .ok (.iastore, 1) := by decide +kernel
theorem dX9_laws_37 : decode cX9_laws 37 = .ok (.iload_n 2, 1) := by decide +kernel
theorem dX9_laws_38 : decode cX9_laws 38 = .ok (.ireturn, 1) := by decide +kernel
theorem dX9_year_0 : decode cX9_year 0 = .ok (.aload_n 0, 1) := by decide +kernel
theorem dX9_year_1 : decode cX9_year 1 = .ok (.iconst 0, 1) := by decide +kernel
theorem dX9_year_2 : decode cX9_year 2 = .ok (.putfield 62, 3) := by decide +kernel
theorem dX9_year_5 : decode cX9_year 5 = .ok (.aload_n 0, 1) := by decide +kernel
theorem dX9_year_6 : decode cX9_year 6 = .ok (.getfield 28, 3) := by decide +kernel
theorem dX9_year_9 : decode cX9_year 9 = .ok (.bipush 24, 2) := by decide +kernel
theorem dX9_year_11 : decode cX9_year 11 = .ok (.iaload, 1) := by decide +kernel
theorem dX9_year_12 : decode cX9_year 12 = .ok (.sipush 999, 3) := by decide +kernel
theorem dX9_year_15 : decode cX9_year 15 = .ok (.if_icmp .ne 6, 3) := by decide +kernel
theorem dX9_year_18 : decode cX9_year 18 = .ok (.bipush (-2), 2) := by decide +kernel
theorem dX9_year_20 : decode cX9_year 20 = .ok (.ireturn, 1) := by decide +kernel
theorem dX9_year_21 : decode cX9_year 21 = .ok (.aload_n 0, 1) := by decide +kernel
theorem dX9_year_22 : decode cX9_year 22 = .ok (.invokevirtual 204, 3) := by decide +kernel
theorem dX9_year_25 : decode cX9_year 25 = .ok (.iconst 0, 1) := by decide +kernel
theorem dX9_year_26 : decode cX9_year 26 = .ok (.istore_n 1, 1) := by decide +kernel
theorem dX9_year_27 : decode cX9_year 27 = .ok (.iconst 0, 1) := by decide +kernel
theorem dX9_year_28 : decode cX9_year 28 = .ok (.istore_n 2, 1) := by decide +kernel
theorem dX9_year_29 : decode cX9_year 29 = .ok (.iload_n 2, 1) := by decide +kernel
theorem dX9_year_30 : decode cX9_year 30 = .ok (.aload_n 0, 1) := by decide +kernel
theorem dX9_year_31 : decode cX9_year 31 = .ok (.getfield 13, 3) := by decide +kernel
theorem dX9_year_34 : decode cX9_year 34 = .ok (.iconst 1, 1) := by decide +kernel
theorem dX9_year_35 : decode cX9_year 35 = .ok (.iaload, 1) := by decide +kernel
theorem dX9_year_36 : decode cX9_year 36 = .ok (.if_icmp .ge 66, 3) := by decide +kernel
theorem dX9_year_39 : decode cX9_year 39 = .ok (.aload_n 0, 1) := by decide +kernel
theorem dX9_year_40 : decode cX9_year 40 = .ok (.getfield 56, 3) := by decide +kernel
theorem dX9_year_43 : decode cX9_year 43 = .ok (.iload_n 2, 1) := by decide +kernel
theorem dX9_year_44 : decode cX9_year 44 = .ok (.aload_n 0, 1) := by decide +kernel
theorem dX9_year_45 : decode cX9_year 45 = .ok (.aload_n 0, 1) := by decide +kernel
theorem dX9_year_46 : decode cX9_year 46 = .ok (.getfield 28, 3) := by decide +kernel
theorem dX9_year_49 : decode cX9_year 49 = .ok (.iload_n 2, 1) := by decide +kernel
theorem dX9_year_50 : decode cX9_year 50 = .ok (.invokevirtual 162, 3) := by decide +kernel
theorem dX9_year_53 : decode cX9_year 53 = .ok (.aload_n 0, 1) := by decide +kernel
theorem dX9_year_54 : decode cX9_year 54 = .ok (.getfield 28, 3) := by decide +kernel
theorem dX9_year_57 : decode cX9_year 57 = .ok (.bipush 7, 2) := by decide +kernel
theorem dX9_year_59 : decode cX9_year 59 = .ok (.iload_n 2, 1) := by decide +kernel
theorem dX9_year_60 : decode cX9_year 60 = .ok (.iadd, 1) := by decide +kernel
theorem dX9_year_61 : decode cX9_year 61 = .ok (.iaload, 1) := by decide +kernel
theorem dX9_year_62 : decode cX9_year 62 = .ok (.if_icmp .ge 15, 3) := by decide +kernel
theorem dX9_year_65 : decode cX9_year 65 = .ok (.aload_n 0, 1) := by decide +kernel
theorem dX9_year_66 : decode cX9_year 66 = .ok (.aload_n 0, 1) := by decide +kernel
theorem dX9_year_67 : decode cX9_year 67 = .ok (.getfield 28, 3) := by decide +kernel
theorem dX9_year_70 : decode cX9_year 70 = .ok (.iload_n 2, 1) := by decide +kernel
theorem dX9_year_71 : decode cX9_year 71 = .ok (.invokevirtual 162, 3) := by decide +kernel
theorem dX9_year_74 : decode cX9_year 74 = .ok (.goto 12, 3) := by decide +kernel
theorem dX9_year_77 : decode cX9_year 77 = .ok (.aload_n 0, 1) := by decide +kernel
theorem dX9_year_78 : decode cX9_year 78 = .ok (.getfield 28, 3) := by decide +kernel
theorem dX9_year_81 : decode cX9_year 81 = .ok (.bipush 7, 2) := by decide +kernel
theorem dX9_year_83 : decode cX9_year 83 = .ok (.iload_n 2, 1) := by decide +kernel
theorem dX9_year_84 : decode cX9_year 84 = .ok (.iadd, 1) := by decide +kernel
theorem dX9_year_85 : decode cX9_year 85 = .ok (.iaload, 1) := by decide +kernel
theorem dX9_year_86 : decode cX9_year 86 = .ok (.iastore, 1) := by decide +kernel
theorem dX9_year_87 : decode cX9_year 87 = .ok (.iload_n 1, 1) := by decide +kernel
theorem dX9_year_88 : decode cX9_year 88 = .ok (.aload_n 0, 1) := by decide +kernel
theorem dX9_year_89 : decode cX9_year 89 = .ok (.getfield 56, 3) := by decide +kernel
theorem dX9_year_92 : decode cX9_year 92 = .ok (.iload_n 2, 1) := by decide +kernel
theorem dX9_year_93 : decode cX9_year 93 = .ok (.iaload, 1) := by decide +kernel
theorem dX9_year_94 : decode cX9_year 94 = .ok (.iadd, 1) := by decide +kernel
theorem dX9_year_95 : decode cX9_year 95 = .ok (.istore_n 1, 1) := by decide +kernel
theorem dX9_year_96 : decode cX9_year 96 = .ok (.iinc 2 1, 3) := by decide +kernel
theorem dX9_year_99 : decode cX9_year 99 = .ok (.goto (-70), 3) := by decide +kernel
theorem dX9_year_102 : decode cX9_year 102 = .ok (.iconst 0, 1) := by decide +kernel
theorem dX9_year_103 : decode cX9_year 103 = .ok (.istore_n 2, 1) := by decide +kernel
theorem dX9_year_104 : decode cX9_year 104 = .ok (.iload_n 2, 1) := by decide +kernel
theorem dX9_year_105 : decode cX9_year 105 = .ok (.aload_n 0, 1) := by decide +kernel
theorem dX9_year_106 : decode cX9_year 106 = .ok (.getfield 13, 3) := by decide +kernel
theorem dX9_year_109 : decode cX9_year 109 = .ok (.iconst 1, 1) := by decide +kernel
theorem dX9_year_110 : decode cX9_year 110 = .ok (.iaload, 1) := by decide +kernel
theorem dX9_year_111 : decode cX9_year 111 = .ok (.if_icmp .ge 27, 3) := by decide +kernel
theorem dX9_year_114 : decode cX9_year 114 = .ok (.aload_n 0, 1) := by decide +kernel
theorem dX9_year_115 : decode cX9_year 115 = .ok (.getfield 28, 3) := by decide +kernel
theorem dX9_year_118 : decode cX9_year 118 = .ok (.bipush 7, 2) := by decide +kernel
theorem dX9_year_120 : decode cX9_year 120 = .ok (.iload_n 2, 1) := by decide +kernel
theorem dX9_year_121 : decode cX9_year 121 = .ok (.iadd, 1) := by decide +kernel
theorem dX9_year_122 : decode cX9_year 122 = .ok (.dup2, 1) := by decide +kernel
theorem dX9_year_123 : decode cX9_year 123 = .ok (.iaload, 1) := by decide +kernel
theorem dX9_year_124 : decode cX9_year 124 = .ok (.aload_n 0, 1) := by decide +kernel
theorem dX9_year_125 : decode cX9_year 125 = .ok (.getfield 56, 3) := by decide +kernel
theorem dX9_year_128 : decode cX9_year 128 = .ok (.iload_n 2, 1) := by decide +kernel
theorem dX9_year_129 : decode cX9_year 129 = .ok (.iaload, 1) := by decide +kernel
theorem dX9_year_130 : decode cX9_year 130 = .ok (.isub, 1) := by decide +kernel
theorem dX9_year_131 : decode cX9_year 131 = .ok (.iastore, 1) := by decide +kernel
theorem dX9_year_132 : decode cX9_year 132 = .ok (.iinc 2 1, 3) := by decide +kernel
theorem dX9_year_135 : decode cX9_year 135 = .ok (.goto (-31), 3) := by decide +kernel
theorem dX9_year_138 : decode cX9_year 138 = .ok (.aload_n 0, 1) := by decide +kernel
theorem dX9_year_139 : decode cX9_year 139 = .ok (.getfield 28, 3) := by decide +kernel
theorem dX9_year_142 : decode cX9_year 142 = .ok (.bipush 23, 2) := by decide +kernel
theorem dX9_year_144 : decode cX9_year 144 = .ok (.aload_n 0, 1) := by decide +kernel
theorem dX9_year_145 : decode cX9_year 145 = .ok (.getfield 28, 3) := by decide +kernel
theorem dX9_year_148 : decode cX9_year 148 = .ok (.bipush 23, 2) := by decide +kernel
theorem dX9_year_150 : decode cX9_year 150 = .ok (.iaload, 1) := by decide +kernel
theorem dX9_year_151 : decode cX9_year 151 = .ok (.iload_n 1, 1) := by decide +kernel
theorem dX9_year_152 : decode cX9_year 152 = .ok (.iadd, 1) := by decide +kernel
theorem dX9_year_153 : decode cX9_year 153 = .ok (.ldc 207, 2) := by decide +kernel
theorem dX9_year_155 : decode cX9_year 155 = .ok (.if_icmp .le 8, 3) := by decide +kernel
theorem dX9_year_158 : decode cX9_year 158 = .ok (.ldc 207, 2) := by decide +kernel
theorem dX9_year_160 : decode cX9_year 160 = .ok (.goto 12, 3) := by decide +kernel
theorem dX9_year_163 : decode cX9_year 163 = .ok (.aload_n 0, 1) := by decide +kernel
theorem dX9_year_164 : decode cX9_year 164 = .ok (.getfield 28, 3) := by decide +kernel
theorem dX9_year_167 : decode cX9_year 167 = .ok (.bipush 23, 2) := by decide +kernel
theorem dX9_year_169 : decode cX9_year 169 = .ok (.iaload, 1) := by decide +kernel
theorem dX9_year_170 : decode cX9_year 170 = .ok (.iload_n 1, 1) := by decide +kernel
theorem dX9_year_171 : decode cX9_year 171 = .ok (.iadd, 1) := by decide +kernel
theorem dX9_year_172 : decode cX9_year 172 = .ok (.iastore, 1) := by decide +kernel
theorem dX9_year_173 : decode cX9_year 173 = .ok (.aload_n 0, 1) := by decide +kernel
theorem dX9_year_174 : decode cX9_year 174 = .ok (.getfield 28, 3) := by decide +kernel
theorem dX9_year_177 : decode cX9_year 177 = .ok (.bipush 24, 2) := by decide +kernel
theorem dX9_year_179 : decode cX9_year 179 = .ok (.dup2, 1) := by decide +kernel
theorem dX9_year_180 : decode cX9_year 180 = .ok (.iaload, 1) := by decide +kernel
theorem dX9_year_181 : decode cX9_year 181 = .ok (.iconst 1, 1) := by decide +kernel
theorem dX9_year_182 : decode cX9_year 182 = .ok (.iadd, 1) := by decide +kernel
theorem dX9_year_183 : decode cX9_year 183 = .ok (.iastore, 1) := by decide +kernel
theorem dX9_year_184 : decode cX9_year 184 = .ok (.iload_n 1, 1) := by decide +kernel
theorem dX9_year_185 : decode cX9_year 185 = .ok (.ireturn, 1) := by decide +kernel
theorem dX9_undo_0 : decode cX9_undo 0 = .ok (.aload_n 0, 1) := by decide +kernel
theorem dX9_undo_1 : decode cX9_undo 1 = .ok (.iconst 0, 1) := by decide +kernel
theorem dX9_undo_2 : decode cX9_undo 2 = .ok (.putfield 62, 3) := by decide +kernel
theorem dX9_undo_5 : decode cX9_undo 5 = .ok (.aload_n 0, 1) := by decide +kernel
theorem dX9_undo_6 : decode cX9_undo 6 = .ok (.getfield 128, 3) := by decide +kernel
theorem dX9_undo_9 : decode cX9_undo 9 = .ok (.ifCond .ne 6, 3) := by decide +kernel
theorem dX9_undo_12 : decode cX9_undo 12 = .ok (.bipush (-2), 2) := by decide +kernel
theorem dX9_undo_14 : decode cX9_undo 14 = .ok (.ireturn, 1) := by decide +kernel
theorem dX9_undo_15 : decode cX9_undo 15 = .ok (.aload_n 0, 1) := by decide +kernel
theorem dX9_undo_16 : decode cX9_undo 16 = .ok (.dup, 1) := by decide +kernel
theorem dX9_undo_17 : decode cX9_undo 17 = .ok (.getfield 128, 3) := by decide +kernel
theorem dX9_undo_20 : decode cX9_undo 20 = .ok (.iconst 1, 1) := by decide +kernel
theorem dX9_undo_21 : decode cX9_undo 21 = .ok (.isub, 1) := by decide +kernel
theorem dX9_undo_22 : decode cX9_undo 22 = .ok (.putfield 128, 3) := by decide +kernel
theorem dX9_undo_25 : decode cX9_undo 25 = .ok (.iconst 0, 1) := by decide +kernel
theorem dX9_undo_26 : decode cX9_undo 26 = .ok (.istore_n 1, 1) := by decide +kernel
theorem dX9_undo_27 : decode cX9_undo 27 = .ok (.iload_n 1, 1) := by decide +kernel
theorem dX9_undo_28 : decode cX9_undo 28 = .ok (.bipush 25, 2) := by decide +kernel
theorem dX9_undo_30 : decode cX9_undo 30 = .ok (.if_icmp .ge 29, 3) := by decide +kernel
theorem dX9_undo_33 : decode cX9_undo 33 = .ok (.aload_n 0, 1) := by decide +kernel
theorem dX9_undo_34 : decode cX9_undo 34 = .ok (.getfield 28, 3) := by decide +kernel
theorem dX9_undo_37 : decode cX9_undo 37 = .ok (.iload_n 1, 1) := by decide +kernel
theorem dX9_undo_38 : decode cX9_undo 38 = .ok (.aload_n 0, 1) := by decide +kernel
theorem dX9_undo_39 : decode cX9_undo 39 = .ok (.getfield 41, 3) := by decide +kernel
theorem dX9_undo_42 : decode cX9_undo 42 = .ok (.bipush 25, 2) := by decide +kernel
theorem dX9_undo_44 : decode cX9_undo 44 = .ok (.aload_n 0, 1) := by decide +kernel
theorem dX9_undo_45 : decode cX9_undo 45 = .ok (.getfield 128, 3) := by decide +kernel
theorem dX9_undo_48 : decode cX9_undo 48 = .ok (.imul, 1) := by decide +kernel
theorem dX9_undo_49 : decode cX9_undo 49 = .ok (.iload_n 1, 1) := by decide +kernel
theorem dX9_undo_50 : decode cX9_undo 50 = .ok (.iadd, 1) := by decide +kernel
theorem dX9_undo_51 : decode cX9_undo 51 = .ok (.iaload, 1) := by decide +kernel
theorem dX9_undo_52 : decode cX9_undo 52 = .ok (.iastore, 1) := by decide +kernel
theorem dX9_undo_53 : decode cX9_undo 53 = .ok (.iinc 1 1, 3) := by decide +kernel
theorem dX9_undo_56 : decode cX9_undo 56 = .ok (.goto (-29), 3) := by decide +kernel
theorem dX9_undo_59 : decode cX9_undo 59 = .ok (.aload_n 0, 1) := by decide +kernel
theorem dX9_undo_60 : decode cX9_undo 60 = .ok (.getfield 128, 3) := by decide +kernel
theorem dX9_undo_63 : decode cX9_undo 63 = .ok (.ireturn, 1) := by decide +kernel
theorem dX9_asNow_0 : decode cX9_asNow 0 = .ok (.iconst 0, 1) := by decide +kernel
theorem dX9_asNow_1 : decode cX9_asNow 1 = .ok (.istore_n 1, 1) := by decide +kernel
theorem dX9_asNow_2 : decode cX9_asNow 2 = .ok (.iload_n 1, 1) := by decide +kernel
theorem dX9_asNow_3 : decode cX9_asNow 3 = .ok (.bipush 25, 2) := by decide +kernel
theorem dX9_asNow_5 : decode cX9_asNow 5 = .ok (.if_icmp .ge 21, 3) := by decide +kernel
theorem dX9_asNow_8 : decode cX9_asNow 8 = .ok (.aload_n 0, 1) := by decide +kernel
theorem dX9_asNow_9 : decode cX9_asNow 9 = .ok (.getfield 31, 3) := by decide +kernel
theorem dX9_asNow_12 : decode cX9_asNow 12 = .ok (.iload_n 1, 1) := by decide +kernel
theorem dX9_asNow_13 : decode cX9_asNow 13 = .ok (.aload_n 0, 1) := by decide +kernel
theorem dX9_asNow_14 : decode cX9_asNow 14 = .ok (.getfield 28, 3) := by decide +kernel
theorem dX9_asNow_17 : decode cX9_asNow 17 = .ok (.iload_n 1, 1) := by decide +kernel
theorem dX9_asNow_18 : decode cX9_asNow 18 = .ok (.iaload, 1) := by decide +kernel
theorem dX9_asNow_19 : decode cX9_asNow 19 = .ok (.iastore, 1) := by decide +kernel
theorem dX9_asNow_20 : decode cX9_asNow 20 = .ok (.iinc 1 1, 3) := by decide +kernel
theorem dX9_asNow_23 : decode cX9_asNow 23 = .ok (.goto (-21), 3) := by decide +kernel
theorem dX9_asNow_26 : decode cX9_asNow 26 = .ok (.return_, 1) := by decide +kernel
theorem dX9_renamedBy_0 : decode cX9_renamedBy 0 = .ok (.iload_n 1, 1) := by decide +kernel
theorem dX9_renamedBy_1 : decode cX9_renamedBy 1 = .ok (.istore_n 2, 1) := by decide +kernel
theorem dX9_renamedBy_2 : decode cX9_renamedBy 2 = .ok (.iconst 0, 1) := by decide +kernel
theorem dX9_renamedBy_3 : decode cX9_renamedBy 3 = .ok (.istore_n 3, 1) := by decide +kernel
theorem dX9_renamedBy_4 : decode cX9_renamedBy 4 = .ok (.aload_n 0, 1) := by decide +kernel
theorem dX9_renamedBy_5 : decode cX9_renamedBy 5 = .ok (.getfield 13, 3) := by decide +kernel
theorem dX9_renamedBy_8 : decode cX9_renamedBy 8 = .ok (.iconst 1, 1) := by decide +kernel
theorem dX9_renamedBy_9 : decode cX9_renamedBy 9 = .ok (.iaload, 1) := by decide +kernel
theorem dX9_renamedBy_10 : decode cX9_renamedBy 10 = .ok (.iconst 1, 1) := by decide +kernel
theorem dX9_renamedBy_11 : decode cX9_renamedBy 11 = .ok (.isub, 1) := by decide +kernel
theorem dX9_renamedBy_12 : decode cX9_renamedBy 12 = .ok (.istore 4, 2) := by decide +kernel
theorem dX9_renamedBy_14 : decode cX9_renamedBy 14 = .ok (.iload 4, 2) := by decide +kernel
theorem dX9_renamedBy_16 : decode cX9_renamedBy 16 = .ok (.ifCond .lt 64, 3) := by decide +kernel
theorem dX9_renamedBy_19 : decode cX9_renamedBy 19 = .ok (.aload_n 0, 1) := by decide +kernel
theorem dX9_renamedBy_20 : decode cX9_renamedBy 20 = .ok (.getfield 31, 3) := by decide +kernel
theorem dX9_renamedBy_23 : decode cX9_renamedBy 23 = .ok (.iconst 0, 1) := by decide +kernel
theorem dX9_renamedBy_24 : decode cX9_renamedBy 24 = .ok (.iload 4, 2) := by decide +kernel
theorem dX9_renamedBy_26 : decode cX9_renamedBy 26 = .ok (.iadd, 1) := by decide +kernel
theorem dX9_renamedBy_27 : decode cX9_renamedBy 27 = .ok (.iload_n 2, 1) := by decide +kernel
theorem dX9_renamedBy_28 : decode cX9_renamedBy 28 = .ok (.aload_n 0, 1) := by decide +kernel
theorem dX9_renamedBy_29 : decode cX9_renamedBy 29 = .ok (.getfield 13, 3) := by decide +kernel
theorem dX9_renamedBy_32 : decode cX9_renamedBy 32 = .ok (.iconst 0, 1) := by decide +kernel
theorem dX9_renamedBy_33 : decode cX9_renamedBy 33 = .ok (.iaload, 1) := by decide +kernel
theorem dX9_renamedBy_34 : decode cX9_renamedBy 34 = .ok (.irem, 1) := by decide +kernel
theorem dX9_renamedBy_35 : decode cX9_renamedBy 35 = .ok (.iastore, 1) := by decide +kernel
theorem dX9_renamedBy_36 : decode cX9_renamedBy 36 = .ok (.iload_n 2, 1) := by decide +kernel
theorem dX9_renamedBy_37 : decode cX9_renamedBy 37 = .ok (.aload_n 0, 1) := by decide +kernel
theorem dX9_renamedBy_38 : decode cX9_renamedBy 38 = .ok (.getfield 13, 3) := by decide +kernel
theorem dX9_renamedBy_41 : decode cX9_renamedBy 41 = .ok (.iconst 0, 1) := by decide +kernel
theorem dX9_renamedBy_42 : decode cX9_renamedBy 42 = .ok (.iaload, 1) := by decide +kernel
theorem dX9_renamedBy_43 : decode cX9_renamedBy 43 = .ok (.idiv, 1) := by decide +kernel
theorem dX9_renamedBy_44 : decode cX9_renamedBy 44 = .ok (.istore_n 2, 1) := by decide +kernel
theorem dX9_renamedBy_45 : decode cX9_renamedBy 45 = .ok (.iload_n 3, 1) := by decide +kernel
theorem dX9_renamedBy_46 : decode cX9_renamedBy 46 = .ok (.aload_n 0, 1) := by decide +kernel
theorem dX9_renamedBy_47 : decode cX9_renamedBy 47 = .ok (.getfield 31, 3) := by decide +kernel
theorem dX9_renamedBy_50 : decode cX9_renamedBy 50 = .ok (.iconst 0, 1) := by decide +kernel
theorem dX9_renamedBy_51 : decode cX9_renamedBy 51 = .ok (.iload 4, 2) := by decide +kernel
theorem dX9_renamedBy_53 : decode cX9_renamedBy 53 = .ok (.iadd, 1) := by decide +kernel
theorem dX9_renamedBy_54 : decode cX9_renamedBy 54 = .ok (.iaload, 1) := by decide +kernel
theorem dX9_renamedBy_55 : decode cX9_renamedBy 55 = .ok (.aload_n 0, 1) := by decide +kernel
theorem dX9_renamedBy_56 : decode cX9_renamedBy 56 = .ok (.getfield 28, 3) := by decide +kernel
theorem dX9_renamedBy_59 : decode cX9_renamedBy 59 = .ok (.iconst 0, 1) := by decide +kernel
theorem dX9_renamedBy_60 : decode cX9_renamedBy 60 = .ok (.iload 4, 2) := by decide +kernel
theorem dX9_renamedBy_62 : decode cX9_renamedBy 62 = .ok (.iadd, 1) := by decide +kernel
theorem dX9_renamedBy_63 : decode cX9_renamedBy 63 = .ok (.iaload, 1) := by decide +kernel
theorem dX9_renamedBy_64 : decode cX9_renamedBy 64 = .ok (.if_icmp .eq 7, 3) := by decide +kernel
theorem dX9_renamedBy_67 : decode cX9_renamedBy 67 = .ok (.iconst 1, 1) := by decide +kernel
theorem dX9_renamedBy_68 : decode cX9_renamedBy 68 = .ok (.goto 4, 3) := by decide +kernel
theorem dX9_renamedBy_71 : decode cX9_renamedBy 71 = .ok (.iconst 0, 1) := by decide +kernel
theorem dX9_renamedBy_72 : decode cX9_renamedBy 72 = .ok (.iadd, 1) := by decide +kernel
theorem dX9_renamedBy_73 : decode cX9_renamedBy 73 = .ok (.istore_n 3, 1) := by decide +kernel
theorem dX9_renamedBy_74 : decode cX9_renamedBy 74 = .ok (.iinc 4 (-1), 3) := by decide +kernel
theorem dX9_renamedBy_77 : decode cX9_renamedBy 77 = .ok (.goto (-63), 3) := by decide +kernel
theorem dX9_renamedBy_80 : decode cX9_renamedBy 80 = .ok (.iconst 0, 1) := by decide +kernel
theorem dX9_renamedBy_81 : decode cX9_renamedBy 81 = .ok (.istore 4, 2) := by decide +kernel
theorem dX9_renamedBy_83 : decode cX9_renamedBy 83 = .ok (.iload 4, 2) := by decide +kernel
theorem dX9_renamedBy_85 : decode cX9_renamedBy 85 = .ok (.aload_n 0, 1) := by decide +kernel
theorem dX9_renamedBy_86 : decode cX9_renamedBy 86 = .ok (.getfield 13, 3) := by decide +kernel
theorem dX9_renamedBy_89 : decode cX9_renamedBy 89 = .ok (.iconst 1, 1) := by decide +kernel
theorem dX9_renamedBy_90 : decode cX9_renamedBy 90 = .ok (.iaload, 1) := by decide +kernel
theorem dX9_renamedBy_91 : decode cX9_renamedBy 91 = .ok (.if_icmp .ge 65, 3) := by decide +kernel
theorem dX9_renamedBy_94 : decode cX9_renamedBy 94 = .ok (.iconst 0, 1) := by decide +kernel
theorem dX9_renamedBy_95 : decode cX9_renamedBy 95 = .ok (.istore 5, 2) := by decide +kernel
theorem dX9_renamedBy_97 : decode cX9_renamedBy 97 = .ok (.iload 5, 2) := by decide +kernel
theorem dX9_renamedBy_99 : decode cX9_renamedBy 99 = .ok (.iload 4, 2) := by decide +kernel
theorem dX9_renamedBy_101 : decode cX9_renamedBy 101 = .ok (.if_icmp .ge 49, 3) := by decide +kernel
theorem dX9_renamedBy_104 : decode cX9_renamedBy 104 = .ok (.aload_n 0, 1) := by decide +kernel
theorem dX9_renamedBy_105 : decode cX9_renamedBy 105 = .ok (.getfield 25, 3) := by decide +kernel
theorem dX9_renamedBy_108 : decode cX9_renamedBy 108 = .ok (.iload 4, 2) := by decide +kernel
theorem dX9_renamedBy_110 : decode cX9_renamedBy 110 = .ok (.iaload, 1) := by decide +kernel
theorem dX9_renamedBy_111 : decode cX9_renamedBy 111 = .ok (.iload 5, 2) := by decide +kernel
theorem dX9_renamedBy_113 : decode cX9_renamedBy 113 = .ok (.ishr, 1) := by decide +kernel
theorem dX9_renamedBy_114 : decode cX9_renamedBy 114 = .ok (.iconst 1, 1) := by decide +kernel
theorem dX9_renamedBy_115 : decode cX9_renamedBy 115 = .ok (.iand, 1) := by decide +kernel
theorem dX9_renamedBy_116 : decode cX9_renamedBy 116 = .ok (.iconst 1, 1) := by decide +kernel
theorem dX9_renamedBy_117 : decode cX9_renamedBy 117 = .ok (.if_icmp .ne 27, 3) := by decide +kernel
theorem dX9_renamedBy_120 : decode cX9_renamedBy 120 = .ok (.aload_n 0, 1) := by decide +kernel
theorem dX9_renamedBy_121 : decode cX9_renamedBy 121 = .ok (.getfield 31, 3) := by decide +kernel
theorem dX9_renamedBy_124 : decode cX9_renamedBy 124 = .ok (.iconst 0, 1) := by decide +kernel
theorem dX9_renamedBy_125 : decode cX9_renamedBy 125 = .ok (.iload 4, 2) := by decide +kernel
theorem dX9_renamedBy_127 : decode cX9_renamedBy 127 = .ok (.iadd, 1) := by decide +kernel
theorem dX9_renamedBy_128 : decode cX9_renamedBy 128 = .ok (.iaload, 1) := by decide +kernel
theorem dX9_renamedBy_129 : decode cX9_renamedBy 129 = .ok (.aload_n 0, 1) := by decide +kernel
theorem dX9_renamedBy_130 : decode cX9_renamedBy 130 = .ok (.getfield 31, 3) := by decide +kernel
theorem dX9_renamedBy_133 : decode cX9_renamedBy 133 = .ok (.iconst 0, 1) := by decide +kernel
theorem dX9_renamedBy_134 : decode cX9_renamedBy 134 = .ok (.iload 5, 2) := by decide +kernel
theorem dX9_renamedBy_136 : decode cX9_renamedBy 136 = .ok (.iadd, 1) := by decide +kernel
theorem dX9_renamedBy_137 : decode cX9_renamedBy 137 = .ok (.iaload, 1) := by decide +kernel
theorem dX9_renamedBy_138 : decode cX9_renamedBy 138 = .ok (.if_icmp .ne 6, 3) := by decide +kernel
theorem dX9_renamedBy_141 : decode cX9_renamedBy 141 = .ok (.bipush (-9), 2) := by decide +kernel
theorem dX9_renamedBy_143 : decode cX9_renamedBy 143 = .ok (.ireturn, 1) := by decide +kernel
theorem dX9_renamedBy_144 : decode cX9_renamedBy 144 = .ok (.iinc 5 1, 3) := by decide +kernel
theorem dX9_renamedBy_147 : decode cX9_renamedBy 147 = .ok (.goto (-50), 3) := by decide +kernel
theorem dX9_renamedBy_150 : decode cX9_renamedBy 150 = .ok (.iinc 4 1, 3) := by decide +kernel
theorem dX9_renamedBy_153 : decode cX9_renamedBy 153 = .ok (.goto (-70), 3) := by decide +kernel
theorem dX9_renamedBy_156 : decode cX9_renamedBy 156 = .ok (.iload_n 3, 1) := by decide +kernel
theorem dX9_renamedBy_157 : decode cX9_renamedBy 157 = .ok (.ireturn, 1) := by decide +kernel
theorem dX9_apart_0 : decode cX9_apart 0 = .ok (.aload_n 0, 1) := by decide +kernel
theorem dX9_apart_1 : decode cX9_apart 1 = .ok (.iconst 0, 1) := by decide +kernel
theorem dX9_apart_2 : decode cX9_apart 2 = .ok (.putfield 62, 3) := by decide +kernel
theorem dX9_apart_5 : decode cX9_apart 5 = .ok (.iload_n 1, 1) := by decide +kernel
theorem dX9_apart_6 : decode cX9_apart 6 = .ok (.iconst (-1), 1) := by decide +kernel
theorem dX9_apart_7 : decode cX9_apart 7 = .ok (.if_icmp .eq 13, 3) := by decide +kernel
theorem dX9_apart_10 : decode cX9_apart 10 = .ok (.aload_n 0, 1) := by decide +kernel
theorem dX9_apart_11 : decode cX9_apart 11 = .ok (.iload_n 1, 1) := by decide +kernel
theorem dX9_apart_12 : decode cX9_apart 12 = .ok (.invokevirtual 153, 3) := by decide +kernel
theorem dX9_apart_15 : decode cX9_apart 15 = .ok (.ifCond .ne 5, 3) := by decide +kernel
theorem dX9_apart_18 : decode cX9_apart 18 = .ok (.iconst (-1), 1) := by decide +kernel
theorem dX9_apart_19 : decode cX9_apart 19 = .ok (.ireturn, 1) := by decide +kernel
theorem dX9_apart_20 : decode cX9_apart 20 = .ok (.iconst 1, 1) := by decide +kernel
theorem dX9_apart_21 : decode cX9_apart 21 = .ok (.istore_n 2, 1) := by decide +kernel
theorem dX9_apart_22 : decode cX9_apart 22 = .ok (.iconst 0, 1) := by decide +kernel
theorem dX9_apart_23 : decode cX9_apart 23 = .ok (.istore_n 3, 1) := by decide +kernel
theorem dX9_apart_24 : decode cX9_apart 24 = .ok (.iload_n 3, 1) := by decide +kernel
theorem dX9_apart_25 : decode cX9_apart 25 = .ok (.aload_n 0, 1) := by decide +kernel
theorem dX9_apart_26 : decode cX9_apart 26 = .ok (.getfield 13, 3) := by decide +kernel
theorem dX9_apart_29 : decode cX9_apart 29 = .ok (.iconst 1, 1) := by decide +kernel
theorem dX9_apart_30 : decode cX9_apart 30 = .ok (.iaload, 1) := by decide +kernel
theorem dX9_apart_31 : decode cX9_apart 31 = .ok (.if_icmp .ge 18, 3) := by decide +kernel
theorem dX9_apart_34 : decode cX9_apart 34 = .ok (.iload_n 2, 1) := by decide +kernel
theorem dX9_apart_35 : decode cX9_apart 35 = .ok (.aload_n 0, 1) := by decide +kernel
theorem dX9_apart_36 : decode cX9_apart 36 = .ok (.getfield 13, 3) := by decide +kernel
theorem dX9_apart_39 : decode cX9_apart 39 = .ok (.iconst 0, 1) := by decide +kernel
theorem dX9_apart_40 : decode cX9_apart 40 = .ok (.iaload, 1) := by decide +kernel
theorem dX9_apart_41 : decode cX9_apart 41 = .ok (.imul, 1) := by decide +kernel
theorem dX9_apart_42 : decode cX9_apart 42 = .ok (.istore_n 2, 1) := by decide +kernel
theorem dX9_apart_43 : decode cX9_apart 43 = .ok (.iinc 3 1, 3) := by decide +kernel
theorem dX9_apart_46 : decode cX9_apart 46 = .ok (.goto (-22), 3) := by decide +kernel
theorem dX9_apart_49 : decode cX9_apart 49 = .ok (.ldc 208, 2) := by decide +kernel
theorem dX9_apart_51 : decode cX9_apart 51 = .ok (.istore_n 3, 1) := by decide +kernel
theorem dX9_apart_52 : decode cX9_apart 52 = .ok (.iconst 0, 1) := by decide +kernel
theorem dX9_apart_53 : decode cX9_apart 53 = .ok (.istore 4, 2) := by decide +kernel
theorem dX9_apart_55 : decode cX9_apart 55 = .ok (.iload 4, 2) := by decide +kernel
theorem dX9_apart_57 : decode cX9_apart 57 = .ok (.iload_n 2, 1) := by decide +kernel
theorem dX9_apart_58 : decode cX9_apart 58 = .ok (.if_icmp .ge 69, 3) := by decide +kernel
theorem dX9_apart_61 : decode cX9_apart 61 = .ok (.aload_n 0, 1) := by decide +kernel
theorem dX9_apart_62 : decode cX9_apart 62 = .ok (.iload 4, 2) := by decide +kernel
theorem dX9_apart_64 : decode cX9_apart 64 = .ok (.invokevirtual 209, 3) := by decide +kernel
theorem dX9_apart_67 : decode cX9_apart 67 = .ok (.istore 5, 2) := by decide +kernel
theorem dX9_apart_69 : decode cX9_apart 69 = .ok (.iload 5, 2) := by decide +kernel
theorem dX9_apart_71 : decode cX9_apart 71 = .ok (.bipush (-9), 2) := by decide +kernel
theorem dX9_apart_73 : decode cX9_apart 73 = .ok (.if_icmp .eq 48, 3) := by decide +kernel
theorem dX9_apart_76 : decode cX9_apart 76 = .ok (.iload 5, 2) := by decide +kernel
theorem dX9_apart_78 : decode cX9_apart 78 = .ok (.iload_n 3, 1) := by decide +kernel
theorem dX9_apart_79 : decode cX9_apart 79 = .ok (.if_icmp .ge 42, 3) := by decide +kernel
theorem dX9_apart_82 : decode cX9_apart 82 = .ok (.iload 5, 2) := by decide +kernel
theorem dX9_apart_84 : decode cX9_apart 84 = .ok (.istore_n 3, 1) := by decide +kernel
theorem dX9_apart_85 : decode cX9_apart 85 = .ok (.iconst 0, 1) := by decide +kernel
theorem dX9_apart_86 : decode cX9_apart 86 = .ok (.istore 6, 2) := by decide +kernel
theorem dX9_apart_88 : decode cX9_apart 88 = .ok (.iload 6, 2) := by decide +kernel
theorem dX9_apart_90 : decode cX9_apart 90 = .ok (.aload_n 0, 1) := by decide +kernel
theorem dX9_apart_91 : decode cX9_apart 91 = .ok (.getfield 13, 3) := by decide +kernel
theorem dX9_apart_94 : decode cX9_apart 94 = .ok (.iconst 1, 1) := by decide +kernel
theorem dX9_apart_95 : decode cX9_apart 95 = .ok (.iaload, 1) := by decide +kernel
theorem dX9_apart_96 : decode cX9_apart 96 = .ok (.if_icmp .ge 25, 3) := by decide +kernel
theorem dX9_apart_99 : decode cX9_apart 99 = .ok (.aload_n 0, 1) := by decide +kernel
theorem dX9_apart_100 : decode cX9_apart 100 = .ok (.getfield 56, 3) := by decide +kernel
theorem dX9_apart_103 : decode cX9_apart 103 = .ok (.iload 6, 2) := by decide +kernel
theorem dX9_apart_105 : decode cX9_apart 105 = .ok (.aload_n 0, 1) := by decide +kernel
theorem dX9_apart_106 : decode cX9_apart 106 = .ok (.getfield 31, 3) := by decide +kernel
theorem dX9_apart_109 : decode cX9_apart 109 = .ok (.iconst 0, 1) := by decide +kernel
theorem dX9_apart_110 : decode cX9_apart 110 = .ok (.iload 6, 2) := by decide +kernel
theorem dX9_apart_112 : decode cX9_apart 112 = .ok (.iadd, 1) := by decide +kernel
theorem dX9_apart_113 : decode cX9_apart 113 = .ok (.iaload, 1) := by decide +kernel
theorem dX9_apart_114 : decode cX9_apart 114 = .ok (.iastore, 1) := by decide +kernel
theorem dX9_apart_115 : decode cX9_apart 115 = .ok (.iinc 6 1, 3) := by decide +kernel
theorem dX9_apart_118 : decode cX9_apart 118 = .ok (.goto (-30), 3) := by decide +kernel
theorem dX9_apart_121 : decode cX9_apart 121 = .ok (.iinc 4 1, 3) := by decide +kernel
theorem dX9_apart_124 : decode cX9_apart 124 = .ok (.goto (-69), 3) := by decide +kernel
theorem dX9_apart_127 : decode cX9_apart 127 = .ok (.iload_n 3, 1) := by decide +kernel
theorem dX9_apart_128 : decode cX9_apart 128 = .ok (.ldc 208, 2) := by decide +kernel
theorem dX9_apart_130 : decode cX9_apart 130 = .ok (.if_icmp .ne 8, 3) := by decide +kernel
theorem dX9_apart_133 : decode cX9_apart 133 = .ok (.bipush (-9), 2) := by decide +kernel
theorem dX9_apart_135 : decode cX9_apart 135 = .ok (.goto 18, 3) := by decide +kernel
theorem dX9_apart_138 : decode cX9_apart 138 = .ok (.iload_n 1, 1) := by decide +kernel
theorem dX9_apart_139 : decode cX9_apart 139 = .ok (.iconst (-1), 1) := by decide +kernel
theorem dX9_apart_140 : decode cX9_apart 140 = .ok (.if_icmp .ne 7, 3) := by decide +kernel
theorem dX9_apart_143 : decode cX9_apart 143 = .ok (.iload_n 3, 1) := by decide +kernel
theorem dX9_apart_144 : decode cX9_apart 144 = .ok (.goto 9, 3) := by decide +kernel
theorem dX9_apart_147 : decode cX9_apart 147 = .ok (.aload_n 0, 1) := by decide +kernel
theorem dX9_apart_148 : decode cX9_apart 148 = .ok (.getfield 56, 3) := by decide +kernel
theorem dX9_apart_151 : decode cX9_apart 151 = .ok (.iload_n 1, 1) := by decide +kernel
theorem dX9_apart_152 : decode cX9_apart 152 = .ok (.iaload, 1) := by decide +kernel
theorem dX9_apart_153 : decode cX9_apart 153 = .ok (.ireturn, 1) := by decide +kernel
theorem dX9_taxBy_0 : decode cX9_taxBy 0 = .ok (.aload_n 0, 1) := by decide +kernel
theorem dX9_taxBy_1 : decode cX9_taxBy 1 = .ok (.invokevirtual 212, 3) := by decide +kernel
theorem dX9_taxBy_4 : decode cX9_taxBy 4 = .ok (.aload_n 0, 1) := by decide +kernel
theorem dX9_taxBy_5 : decode cX9_taxBy 5 = .ok (.getfield 31, 3) := by decide +kernel
theorem dX9_taxBy_8 : decode cX9_taxBy 8 = .ok (.iconst 0, 1) := by decide +kernel
theorem dX9_taxBy_9 : decode cX9_taxBy 9 = .ok (.iload_n 1, 1) := by decide +kernel
theorem dX9_taxBy_10 : decode cX9_taxBy 10 = .ok (.iadd, 1) := by decide +kernel
theorem dX9_taxBy_11 : decode cX9_taxBy 11 = .ok (.iload_n 2, 1) := by decide +kernel
theorem dX9_taxBy_12 : decode cX9_taxBy 12 = .ok (.iastore, 1) := by decide +kernel
theorem dX9_taxBy_13 : decode cX9_taxBy 13 = .ok (.aload_n 0, 1) := by decide +kernel
theorem dX9_taxBy_14 : decode cX9_taxBy 14 = .ok (.aload_n 0, 1) := by decide +kernel
theorem dX9_taxBy_15 : decode cX9_taxBy 15 = .ok (.getfield 31, 3) := by decide +kernel
theorem dX9_taxBy_18 : decode cX9_taxBy 18 = .ok (.iload_n 1, 1) := by decide +kernel
theorem dX9_taxBy_19 : decode cX9_taxBy 19 = .ok (.invokevirtual 162, 3) := by decide +kernel
theorem dX9_taxBy_22 : decode cX9_taxBy 22 = .ok (.ireturn, 1) := by decide +kernel
theorem dX9_cheapestOf_0 : decode cX9_cheapestOf 0 = .ok (.iconst 0, 1) := by decide +kernel
theorem dX9_cheapestOf_1 : decode cX9_cheapestOf 1 = .ok (.istore_n 2, 1) := by decide +kernel
theorem dX9_cheapestOf_2 : decode cX9_cheapestOf 2 = .ok (.iconst 1, 1) := by decide +kernel
theorem dX9_cheapestOf_3 : decode cX9_cheapestOf 3 = .ok (.istore_n 3, 1) := by decide +kernel
theorem dX9_cheapestOf_4 : decode cX9_cheapestOf 4 = .ok (.iload_n 3, 1) := by decide +kernel
theorem dX9_cheapestOf_5 : decode cX9_cheapestOf 5 = .ok (.aload_n 0, 1) := by decide +kernel
theorem dX9_cheapestOf_6 : decode cX9_cheapestOf 6 = .ok (.getfield 13, 3) := by decide +kernel
theorem dX9_cheapestOf_9 : decode cX9_cheapestOf 9 = .ok (.iconst 0, 1) := by decide +kernel
theorem dX9_cheapestOf_10 : decode cX9_cheapestOf 10 = .ok (.iaload, 1) := by decide +kernel
theorem dX9_cheapestOf_11 : decode cX9_cheapestOf 11 = .ok (.if_icmp .ge 30, 3) := by decide +kernel
theorem dX9_cheapestOf_14 : decode cX9_cheapestOf 14 = .ok (.aload_n 0, 1) := by decide +kernel
theorem dX9_cheapestOf_15 : decode cX9_cheapestOf 15 = .ok (.iload_n 1, 1) := by decide +kernel
theorem dX9_cheapestOf_16 : decode cX9_cheapestOf 16 = .ok (.iload_n 3, 1) := by decide +kernel
theorem dX9_cheapestOf_17 : decode cX9_cheapestOf 17 = .ok (.invokevirtual 189, 3) := by decide +kernel
theorem dX9_cheapestOf_20 : decode cX9_cheapestOf 20 = .ok (.aload_n 0, 1) := by decide +kernel
theorem dX9_cheapestOf_21 : decode cX9_cheapestOf 21 = .ok (.iload_n 1, 1) := by decide +kernel
theorem dX9_cheapestOf_22 : decode cX9_cheapestOf 22 = .ok (.iload_n 2, 1) := by decide +kernel
theorem dX9_cheapestOf_23 : decode cX9_cheapestOf 23 = .ok (.invokevirtual 189, 3) := by decide +kernel
theorem dX9_cheapestOf_26 : decode cX9_cheapestOf 26 = .ok (.if_icmp .ge 7, 3) := by decide +kernel
theorem dX9_cheapestOf_29 : decode cX9_cheapestOf 29 = .ok (.iload_n 3, 1) := by decide +kernel
theorem dX9_cheapestOf_30 : decode cX9_cheapestOf 30 = .ok (.goto 4, 3) := by decide +kernel
theorem dX9_cheapestOf_33 : decode cX9_cheapestOf 33 = .ok (.iload_n 2, 1) := by decide +kernel
theorem dX9_cheapestOf_34 : decode cX9_cheapestOf 34 = .ok (.istore_n 2, 1) := by decide +kernel
theorem dX9_cheapestOf_35 : decode cX9_cheapestOf 35 = .ok (.iinc 3 1, 3) := by decide +kernel
theorem dX9_cheapestOf_38 : decode cX9_cheapestOf 38 = .ok (.goto (-34), 3) := by decide +kernel
theorem dX9_cheapestOf_41 : decode cX9_cheapestOf 41 = .ok (.iload_n 2, 1) := by decide +kernel
theorem dX9_cheapestOf_42 : decode cX9_cheapestOf 42 = .ok (.ireturn, 1) := by decide +kernel
theorem dX9_cheapest_0 : decode cX9_cheapest 0 = .ok (.aload_n 0, 1) := by decide +kernel
theorem dX9_cheapest_1 : decode cX9_cheapest 1 = .ok (.iconst 0, 1) := by decide +kernel
theorem dX9_cheapest_2 : decode cX9_cheapest 2 = .ok (.putfield 62, 3) := by decide +kernel
theorem dX9_cheapest_5 : decode cX9_cheapest 5 = .ok (.aload_n 0, 1) := by decide +kernel
theorem dX9_cheapest_6 : decode cX9_cheapest 6 = .ok (.iload_n 1, 1) := by decide +kernel
theorem dX9_cheapest_7 : decode cX9_cheapest 7 = .ok (.invokevirtual 153, 3) := by decide +kernel
theorem dX9_cheapest_10 : decode cX9_cheapest 10 = .ok (.ifCond .eq 11, 3) := by decide +kernel
theorem dX9_cheapest_13 : decode cX9_cheapest 13 = .ok (.aload_n 0, 1) := by decide +kernel
theorem dX9_cheapest_14 : decode cX9_cheapest 14 = .ok (.iload_n 1, 1) := by decide +kernel
theorem dX9_cheapest_15 : decode cX9_cheapest 15 = .ok (.invokevirtual 186, 3) := by decide +kernel
theorem dX9_cheapest_18 : decode cX9_cheapest 18 = .ok (.goto 4, 3) := by decide +kernel
theorem dX9_cheapest_21 : decode cX9_cheapest 21 = .ok (.iconst (-1), 1) := by decide +kernel
theorem dX9_cheapest_22 : decode cX9_cheapest 22 = .ok (.ireturn, 1) := by decide +kernel
theorem dX9_tells_0 : decode cX9_tells 0 = .ok (.aload_n 0, 1) := by decide +kernel
theorem dX9_tells_1 : decode cX9_tells 1 = .ok (.iconst 0, 1) := by decide +kernel
theorem dX9_tells_2 : decode cX9_tells 2 = .ok (.putfield 62, 3) := by decide +kernel
theorem dX9_tells_5 : decode cX9_tells 5 = .ok (.aload_n 0, 1) := by decide +kernel
theorem dX9_tells_6 : decode cX9_tells 6 = .ok (.iload_n 1, 1) := by decide +kernel
theorem dX9_tells_7 : decode cX9_tells 7 = .ok (.invokevirtual 153, 3) := by decide +kernel
theorem dX9_tells_10 : decode cX9_tells 10 = .ok (.ifCond .eq 12, 3) := by decide +kernel
theorem dX9_tells_13 : decode cX9_tells 13 = .ok (.iload_n 2, 1) := by decide +kernel
theorem dX9_tells_14 : decode cX9_tells 14 = .ok (.iconst 0, 1) := by decide +kernel
theorem dX9_tells_15 : decode cX9_tells 15 = .ok (.iconst 1, 1) := by decide +kernel
theorem dX9_tells_16 : decode cX9_tells 16 = .ok (.invokestatic 66, 3) := by decide +kernel
theorem dX9_tells_19 : decode cX9_tells 19 = .ok (.ifCond .ne 5, 3) := by decide +kernel
theorem dX9_tells_22 : decode cX9_tells 22 = .ok (.iconst (-1), 1) := by decide +kernel
theorem dX9_tells_23 : decode cX9_tells 23 = .ok (.ireturn, 1) := by decide +kernel
theorem dX9_tells_24 : decode cX9_tells 24 = .ok (.aload_n 0, 1) := by decide +kernel
theorem dX9_tells_25 : decode cX9_tells 25 = .ok (.getfield 122, 3) := by decide +kernel
theorem dX9_tells_28 : decode cX9_tells 28 = .ok (.bipush 6, 2) := by decide +kernel
theorem dX9_tells_30 : decode cX9_tells 30 = .ok (.if_icmp .ne 6, 3) := by decide +kernel
theorem dX9_tells_33 : decode cX9_tells 33 = .ok (.bipush (-3), 2) := by decide +kernel
theorem dX9_tells_35 : decode cX9_tells 35 = .ok (.ireturn, 1) := by decide +kernel
theorem dX9_tells_36 : decode cX9_tells 36 = .ok (.aload_n 0, 1) := by decide +kernel
theorem dX9_tells_37 : decode cX9_tells 37 = .ok (.getfield 44, 3) := by decide +kernel
theorem dX9_tells_40 : decode cX9_tells 40 = .ok (.aload_n 0, 1) := by decide +kernel
theorem dX9_tells_41 : decode cX9_tells 41 = .ok (.getfield 122, 3) := by decide +kernel
theorem dX9_tells_44 : decode cX9_tells 44 = .ok (.iload_n 1, 1) := by decide +kernel
theorem dX9_tells_45 : decode cX9_tells 45 = .ok (.iastore, 1) := by decide +kernel
theorem dX9_tells_46 : decode cX9_tells 46 = .ok (.aload_n 0, 1) := by decide +kernel
theorem dX9_tells_47 : decode cX9_tells 47 = .ok (.getfield 47, 3) := by decide +kernel
theorem dX9_tells_50 : decode cX9_tells 50 = .ok (.aload_n 0, 1) := by decide +kernel
theorem dX9_tells_51 : decode cX9_tells 51 = .ok (.getfield 122, 3) := by decide +kernel
theorem dX9_tells_54 : decode cX9_tells 54 = .ok (.iload_n 2, 1) := by decide +kernel
theorem dX9_tells_55 : decode cX9_tells 55 = .ok (.iastore, 1) := by decide +kernel
theorem dX9_tells_56 : decode cX9_tells 56 = .ok (.aload_n 0, 1) := by decide +kernel
theorem dX9_tells_57 : decode cX9_tells 57 = .ok (.dup, 1) := by decide +kernel
theorem dX9_tells_58 : decode cX9_tells 58 = .ok (.getfield 122, 3) := by decide +kernel
theorem dX9_tells_61 : decode cX9_tells 61 = .ok (.iconst 1, 1) := by decide +kernel
theorem dX9_tells_62 : decode cX9_tells 62 = .ok (.iadd, 1) := by decide +kernel
theorem dX9_tells_63 : decode cX9_tells 63 = .ok (.putfield 122, 3) := by decide +kernel
theorem dX9_tells_66 : decode cX9_tells 66 = .ok (.aload_n 0, 1) := by decide +kernel
theorem dX9_tells_67 : decode cX9_tells 67 = .ok (.getfield 122, 3) := by decide +kernel
theorem dX9_tells_70 : decode cX9_tells 70 = .ok (.ireturn, 1) := by decide +kernel
theorem dX9_record_0 : decode cX9_record 0 = .ok (.aload_n 0, 1) := by decide +kernel
theorem dX9_record_1 : decode cX9_record 1 = .ok (.iconst 0, 1) := by decide +kernel
theorem dX9_record_2 : decode cX9_record 2 = .ok (.putfield 62, 3) := by decide +kernel
theorem dX9_record_5 : decode cX9_record 5 = .ok (.iload_n 1, 1) := by decide +kernel
theorem dX9_record_6 : decode cX9_record 6 = .ok (.iconst 0, 1) := by decide +kernel
theorem dX9_record_7 : decode cX9_record 7 = .ok (.iconst 4, 1) := by decide +kernel
theorem dX9_record_8 : decode cX9_record 8 = .ok (.invokestatic 66, 3) := by decide +kernel
theorem dX9_record_11 : decode cX9_record 11 = .ok (.ifCond .eq 12, 3) := by decide +kernel
theorem dX9_record_14 : decode cX9_record 14 = .ok (.iload_n 2, 1) := by decide +kernel
theorem dX9_record_15 : decode cX9_record 15 = .ok (.iconst 0, 1) := by decide +kernel
theorem dX9_record_16 : decode cX9_record 16 = .ok (.iconst 1, 1) := by decide +kernel
theorem dX9_record_17 : decode cX9_record 17 = .ok (.invokestatic 66, 3) := by decide +kernel
theorem dX9_record_20 : decode cX9_record 20 = .ok (.ifCond .ne 5, 3) := by decide +kernel
theorem dX9_record_23 : decode cX9_record 23 = .ok (.iconst (-1), 1) := by decide +kernel
theorem dX9_record_24 : decode cX9_record 24 = .ok (.ireturn, 1) := by decide +kernel
theorem dX9_record_25 : decode cX9_record 25 = .ok (.aload_n 0, 1) := by decide +kernel
theorem dX9_record_26 : decode cX9_record 26 = .ok (.getfield 125, 3) := by decide +kernel
theorem dX9_record_29 : decode cX9_record 29 = .ok (.bipush 6, 2) := by decide +kernel
theorem dX9_record_31 : decode cX9_record 31 = .ok (.if_icmp .ne 6, 3) := by decide +kernel
theorem dX9_record_34 : decode cX9_record 34 = .ok (.bipush (-3), 2) := by decide +kernel
theorem dX9_record_36 : decode cX9_record 36 = .ok (.ireturn, 1) := by decide +kernel
theorem dX9_record_37 : decode cX9_record 37 = .ok (.aload_n 0, 1) := by decide +kernel
theorem dX9_record_38 : decode cX9_record 38 = .ok (.getfield 50, 3) := by decide +kernel
theorem dX9_record_41 : decode cX9_record 41 = .ok (.aload_n 0, 1) := by decide +kernel
theorem dX9_record_42 : decode cX9_record 42 = .ok (.getfield 125, 3) := by decide +kernel
theorem dX9_record_45 : decode cX9_record 45 = .ok (.iload_n 1, 1) := by decide +kernel
theorem dX9_record_46 : decode cX9_record 46 = .ok (.iastore, 1) := by decide +kernel
theorem dX9_record_47 : decode cX9_record 47 = .ok (.aload_n 0, 1) := by decide +kernel
theorem dX9_record_48 : decode cX9_record 48 = .ok (.getfield 53, 3) := by decide +kernel
theorem dX9_record_51 : decode cX9_record 51 = .ok (.aload_n 0, 1) := by decide +kernel
theorem dX9_record_52 : decode cX9_record 52 = .ok (.getfield 125, 3) := by decide +kernel
theorem dX9_record_55 : decode cX9_record 55 = .ok (.iload_n 2, 1) := by decide +kernel
theorem dX9_record_56 : decode cX9_record 56 = .ok (.iastore, 1) := by decide +kernel
theorem dX9_record_57 : decode cX9_record 57 = .ok (.aload_n 0, 1) := by decide +kernel
theorem dX9_record_58 : decode cX9_record 58 = .ok (.dup, 1) := by decide +kernel
theorem dX9_record_59 : decode cX9_record 59 = .ok (.getfield 125, 3) := by decide +kernel
theorem dX9_record_62 : decode cX9_record 62 = .ok (.iconst 1, 1) := by decide +kernel
theorem dX9_record_63 : decode cX9_record 63 = .ok (.iadd, 1) := by decide +kernel
theorem dX9_record_64 : decode cX9_record 64 = .ok (.putfield 125, 3) := by decide +kernel
theorem dX9_record_67 : decode cX9_record 67 = .ok (.aload_n 0, 1) := by decide +kernel
theorem dX9_record_68 : decode cX9_record 68 = .ok (.getfield 125, 3) := by decide +kernel
theorem dX9_record_71 : decode cX9_record 71 = .ok (.ireturn, 1) := by decide +kernel
theorem dX9_forget_0 : decode cX9_forget 0 = .ok (.aload_n 0, 1) := by decide +kernel
theorem dX9_forget_1 : decode cX9_forget 1 = .ok (.iconst 0, 1) := by decide +kernel
theorem dX9_forget_2 : decode cX9_forget 2 = .ok (.putfield 62, 3) := by decide +kernel
theorem dX9_forget_5 : decode cX9_forget 5 = .ok (.aload_n 0, 1) := by decide +kernel
theorem dX9_forget_6 : decode cX9_forget 6 = .ok (.getfield 122, 3) := by decide +kernel
theorem dX9_forget_9 : decode cX9_forget 9 = .ok (.aload_n 0, 1) := by decide +kernel
theorem dX9_forget_10 : decode cX9_forget 10 = .ok (.getfield 125, 3) := by decide +kernel
theorem dX9_forget_13 : decode cX9_forget 13 = .ok (.iadd, 1) := by decide +kernel
theorem dX9_forget_14 : decode cX9_forget 14 = .ok (.istore_n 1, 1) := by decide +kernel
theorem dX9_forget_15 : decode cX9_forget 15 = .ok (.aload_n 0, 1) := by decide +kernel
theorem dX9_forget_16 : decode cX9_forget 16 = .ok (.iconst 0, 1) := by decide +kernel
theorem dX9_forget_17 : decode cX9_forget 17 = .ok (.putfield 122, 3) := by decide +kernel
theorem dX9_forget_20 : decode cX9_forget 20 = .ok (.aload_n 0, 1) := by decide +kernel
theorem dX9_forget_21 : decode cX9_forget 21 = .ok (.iconst 0, 1) := by decide +kernel
theorem dX9_forget_22 : decode cX9_forget 22 = .ok (.putfield 125, 3) := by decide +kernel
theorem dX9_forget_25 : decode cX9_forget 25 = .ok (.iload_n 1, 1) := by decide +kernel
theorem dX9_forget_26 : decode cX9_forget 26 = .ok (.ireturn, 1) := by decide +kernel
theorem dX9_isAsTold_0 : decode cX9_isAsTold 0 = .ok (.iconst 1, 1) := by decide +kernel
theorem dX9_isAsTold_1 : decode cX9_isAsTold 1 = .ok (.istore_n 1, 1) := by decide +kernel
theorem dX9_isAsTold_2 : decode cX9_isAsTold 2 = .ok (.iconst 0, 1) := by decide +kernel
theorem dX9_isAsTold_3 : decode cX9_isAsTold 3 = .ok (.istore_n 2, 1) := by decide +kernel
theorem dX9_isAsTold_4 : decode cX9_isAsTold 4 = .ok (.iload_n 2, 1) := by decide +kernel
theorem dX9_isAsTold_5 : decode cX9_isAsTold 5 = .ok (.aload_n 0, 1) := by decide +kernel
theorem dX9_isAsTold_6 : decode cX9_isAsTold 6 = .ok (.getfield 122, 3) := by decide +kernel
theorem dX9_isAsTold_9 : decode cX9_isAsTold 9 = .ok (.if_icmp .ge 51, 3) := by decide +kernel
theorem dX9_isAsTold_12 : decode cX9_isAsTold 12 = .ok (.iload_n 1, 1) := by decide +kernel
theorem dX9_isAsTold_13 : decode cX9_isAsTold 13 = .ok (.ifCond .eq 39, 3) := by decide +kernel
theorem dX9_isAsTold_16 : decode cX9_isAsTold 16 = .ok (.aload_n 0, 1) := by decide +kernel
theorem dX9_isAsTold_17 : decode cX9_isAsTold 17 = .ok (.aload_n 0, 1) := by decide +kernel
theorem dX9_isAsTold_18 : decode cX9_isAsTold 18 = .ok (.getfield 31, 3) := by decide +kernel
theorem dX9_isAsTold_21 : decode cX9_isAsTold 21 = .ok (.aload_n 0, 1) := by decide +kernel
theorem dX9_isAsTold_22 : decode cX9_isAsTold 22 = .ok (.getfield 44, 3) := by decide +kernel
theorem dX9_isAsTold_25 : decode cX9_isAsTold 25 = .ok (.iload_n 2, 1) := by decide +kernel
theorem dX9_isAsTold_26 : decode cX9_isAsTold 26 = .ok (.iaload, 1) := by decide +kernel
theorem dX9_isAsTold_27 : decode cX9_isAsTold 27 = .ok (.invokevirtual 156, 3) := by decide +kernel
theorem dX9_isAsTold_30 : decode cX9_isAsTold 30 = .ok (.aload_n 0, 1) := by decide +kernel
theorem dX9_isAsTold_31 : decode cX9_isAsTold 31 = .ok (.getfield 47, 3) := by decide +kernel
theorem dX9_isAsTold_34 : decode cX9_isAsTold 34 = .ok (.iload_n 2, 1) := by decide +kernel
theorem dX9_isAsTold_35 : decode cX9_isAsTold 35 = .ok (.iaload, 1) := by decide +kernel
theorem dX9_isAsTold_36 : decode cX9_isAsTold 36 = .ok (.iconst 1, 1) := by decide +kernel
theorem dX9_isAsTold_37 : decode cX9_isAsTold 37 = .ok (.if_icmp .ne 7, 3) := by decide +kernel
theorem dX9_isAsTold_40 : decode cX9_isAsTold 40 = .ok (.iconst 1, 1) := by decide +kernel
theorem dX9_isAsTold_41 : decode cX9_isAsTold 41 = .ok (.goto 4, 3) := by decide +kernel
theorem dX9_isAsTold_44 : decode cX9_isAsTold 44 = .ok (.iconst 0, 1) := by decide +kernel
theorem dX9_isAsTold_45 : decode cX9_isAsTold 45 = .ok (.if_icmp .ne 7, 3) := by decide +kernel
theorem dX9_isAsTold_48 : decode cX9_isAsTold 48 = .ok (.iconst 1, 1) := by decide +kernel
theorem dX9_isAsTold_49 : decode cX9_isAsTold 49 = .ok (.goto 4, 3) := by decide +kernel
theorem dX9_isAsTold_52 : decode cX9_isAsTold 52 = .ok (.iconst 0, 1) := by decide +kernel
theorem dX9_isAsTold_53 : decode cX9_isAsTold 53 = .ok (.istore_n 1, 1) := by decide +kernel
theorem dX9_isAsTold_54 : decode cX9_isAsTold 54 = .ok (.iinc 2 1, 3) := by decide +kernel
theorem dX9_isAsTold_57 : decode cX9_isAsTold 57 = .ok (.goto (-53), 3) := by decide +kernel
theorem dX9_isAsTold_60 : decode cX9_isAsTold 60 = .ok (.iload_n 1, 1) := by decide +kernel
theorem dX9_isAsTold_61 : decode cX9_isAsTold 61 = .ok (.ireturn, 1) := by decide +kernel
theorem dX9_isAsRecorded_0 : decode cX9_isAsRecorded 0 = .ok (.iconst 1, 1) := by decide +kernel
theorem dX9_isAsRecorded_1 : decode cX9_isAsRecorded 1 = .ok (.istore_n 1, 1) := by decide +kernel
theorem dX9_isAsRecorded_2 : decode cX9_isAsRecorded 2 = .ok (.iconst 0, 1) := by decide +kernel
theorem dX9_isAsRecorded_3 : decode cX9_isAsRecorded 3 = .ok (.istore_n 2, 1) := by decide +kernel
theorem dX9_isAsRecorded_4 : decode cX9_isAsRecorded 4 = .ok (.iload_n 2, 1) := by decide +kernel
theorem dX9_isAsRecorded_5 : decode cX9_isAsRecorded 5 = .ok (.aload_n 0, 1) := by decide +kernel
theorem dX9_isAsRecorded_6 : decode cX9_isAsRecorded 6 = .ok (.getfield 125, 3) := by decide +kernel
theorem dX9_isAsRecorded_9 : decode cX9_isAsRecorded 9 = .ok (.if_icmp .ge 55, 3) := by decide +kernel
theorem dX9_isAsRecorded_12 : decode cX9_isAsRecorded 12 = .ok (.iload_n 1, 1) := by decide +kernel
theorem dX9_isAsRecorded_13 : decode cX9_isAsRecorded 13 = .ok (.ifCond .eq 43, 3) := by decide +kernel
theorem dX9_isAsRecorded_16 : decode cX9_isAsRecorded 16 = .ok (.aload_n 0, 1) := by decide +kernel
theorem dX9_isAsRecorded_17 : decode cX9_isAsRecorded 17 = .ok (.aload_n 0, 1) := by decide +kernel
theorem dX9_isAsRecorded_18 : decode cX9_isAsRecorded 18 = .ok (.getfield 31, 3) := by decide +kernel
theorem dX9_isAsRecorded_21 : decode cX9_isAsRecorded 21 = .ok (.aload_n 0, 1) := by decide +kernel
theorem dX9_isAsRecorded_22 : decode cX9_isAsRecorded 22 = .ok (.getfield 50, 3) := by decide +kernel
theorem dX9_isAsRecorded_25 : decode cX9_isAsRecorded 25 = .ok (.iload_n 2, 1) := by decide +kernel
theorem dX9_isAsRecorded_26 : decode cX9_isAsRecorded 26 = .ok (.iaload, 1) := by decide +kernel
theorem dX9_isAsRecorded_27 : decode cX9_isAsRecorded 27 = .ok (.aload_n 0, 1) := by decide +kernel
theorem dX9_isAsRecorded_28 : decode cX9_isAsRecorded 28 = .ok (.invokevirtual 175, 3) := by decide +kernel
theorem dX9_isAsRecorded_31 : decode cX9_isAsRecorded 31 = .ok (.invokevirtual 179, 3) := by decide +kernel
theorem dX9_isAsRecorded_34 : decode cX9_isAsRecorded 34 = .ok (.aload_n 0, 1) := by decide +kernel
theorem dX9_isAsRecorded_35 : decode cX9_isAsRecorded 35 = .ok (.getfield 53, 3) := by decide +kernel
theorem dX9_isAsRecorded_38 : decode cX9_isAsRecorded 38 = .ok (.iload_n 2, 1) := by decide +kernel
theorem dX9_isAsRecorded_39 : decode cX9_isAsRecorded 39 = .ok (.iaload, 1) := by decide +kernel
theorem dX9_isAsRecorded_40 : decode cX9_isAsRecorded 40 = .ok (.iconst 1, 1) := by decide +kernel
theorem dX9_isAsRecorded_41 : decode cX9_isAsRecorded 41 = .ok (.if_icmp .ne 7, 3) := by decide +kernel
theorem dX9_isAsRecorded_44 : decode cX9_isAsRecorded 44 = .ok (.iconst 1, 1) := by decide +kernel
theorem dX9_isAsRecorded_45 : decode cX9_isAsRecorded 45 = .ok (.goto 4, 3) := by decide +kernel
theorem dX9_isAsRecorded_48 : decode cX9_isAsRecorded 48 = .ok (.iconst 0, 1) := by decide +kernel
theorem dX9_isAsRecorded_49 : decode cX9_isAsRecorded 49 = .ok (.if_icmp .ne 7, 3) := by decide +kernel
theorem dX9_isAsRecorded_52 : decode cX9_isAsRecorded 52 = .ok (.iconst 1, 1) := by decide +kernel
theorem dX9_isAsRecorded_53 : decode cX9_isAsRecorded 53 = .ok (.goto 4, 3) := by decide +kernel
theorem dX9_isAsRecorded_56 : decode cX9_isAsRecorded 56 = .ok (.iconst 0, 1) := by decide +kernel
theorem dX9_isAsRecorded_57 : decode cX9_isAsRecorded 57 = .ok (.istore_n 1, 1) := by decide +kernel
theorem dX9_isAsRecorded_58 : decode cX9_isAsRecorded 58 = .ok (.iinc 2 1, 3) := by decide +kernel
theorem dX9_isAsRecorded_61 : decode cX9_isAsRecorded 61 = .ok (.goto (-57), 3) := by decide +kernel
theorem dX9_isAsRecorded_64 : decode cX9_isAsRecorded 64 = .ok (.iload_n 1, 1) := by decide +kernel
theorem dX9_isAsRecorded_65 : decode cX9_isAsRecorded 65 = .ok (.ireturn, 1) := by decide +kernel
theorem dX9_who_0 : decode cX9_who 0 = .ok (.aload_n 0, 1) := by decide +kernel
theorem dX9_who_1 : decode cX9_who 1 = .ok (.iconst 0, 1) := by decide +kernel
theorem dX9_who_2 : decode cX9_who 2 = .ok (.putfield 62, 3) := by decide +kernel
theorem dX9_who_5 : decode cX9_who 5 = .ok (.aload_n 0, 1) := by decide +kernel
theorem dX9_who_6 : decode cX9_who 6 = .ok (.invokevirtual 212, 3) := by decide +kernel
theorem dX9_who_9 : decode cX9_who 9 = .ok (.aload_n 0, 1) := by decide +kernel
theorem dX9_who_10 : decode cX9_who 10 = .ok (.getfield 31, 3) := by decide +kernel
theorem dX9_who_13 : decode cX9_who 13 = .ok (.bipush 21, 2) := by decide +kernel
theorem dX9_who_15 : decode cX9_who 15 = .ok (.iconst 0, 1) := by decide +kernel
theorem dX9_who_16 : decode cX9_who 16 = .ok (.iastore, 1) := by decide +kernel
theorem dX9_who_17 : decode cX9_who 17 = .ok (.aload_n 0, 1) := by decide +kernel
theorem dX9_who_18 : decode cX9_who 18 = .ok (.invokevirtual 215, 3) := by decide +kernel
theorem dX9_who_21 : decode cX9_who 21 = .ok (.ifCond .eq 9, 3) := by decide +kernel
theorem dX9_who_24 : decode cX9_who 24 = .ok (.sipush 128, 3) := by decide +kernel
theorem dX9_who_27 : decode cX9_who 27 = .ok (.goto 4, 3) := by decide +kernel
theorem dX9_who_30 : decode cX9_who 30 = .ok (.iconst 0, 1) := by decide +kernel
theorem dX9_who_31 : decode cX9_who 31 = .ok (.istore_n 1, 1) := by decide +kernel
theorem dX9_who_32 : decode cX9_who 32 = .ok (.iconst 0, 1) := by decide +kernel
theorem dX9_who_33 : decode cX9_who 33 = .ok (.istore_n 2, 1) := by decide +kernel
theorem dX9_who_34 : decode cX9_who 34 = .ok (.iload_n 2, 1) := by decide +kernel
theorem dX9_who_35 : decode cX9_who 35 = .ok (.aload_n 0, 1) := by decide +kernel
theorem dX9_who_36 : decode cX9_who 36 = .ok (.getfield 13, 3) := by decide +kernel
theorem dX9_who_39 : decode cX9_who 39 = .ok (.iconst 1, 1) := by decide +kernel
theorem dX9_who_40 : decode cX9_who 40 = .ok (.iaload, 1) := by decide +kernel
theorem dX9_who_41 : decode cX9_who 41 = .ok (.if_icmp .ge 36, 3) := by decide +kernel
theorem dX9_who_44 : decode cX9_who 44 = .ok (.aload_n 0, 1) := by decide +kernel
theorem dX9_who_45 : decode cX9_who 45 = .ok (.getfield 31, 3) := by decide +kernel
theorem dX9_who_48 : decode cX9_who 48 = .ok (.bipush 21, 2) := by decide +kernel
theorem dX9_who_50 : decode cX9_who 50 = .ok (.iconst 1, 1) := by decide +kernel
theorem dX9_who_51 : decode cX9_who 51 = .ok (.iload_n 2, 1) := by decide +kernel
theorem dX9_who_52 : decode cX9_who 52 = .ok (.ishl, 1) := by decide +kernel
theorem dX9_who_53 : decode cX9_who 53 = .ok (.iastore, 1) := by decide +kernel
theorem dX9_who_54 : decode cX9_who 54 = .ok (.iload_n 1, 1) := by decide +kernel
theorem dX9_who_55 : decode cX9_who 55 = .ok (.aload_n 0, 1) := by decide +kernel
theorem dX9_who_56 : decode cX9_who 56 = .ok (.invokevirtual 215, 3) := by decide +kernel
theorem dX9_who_59 : decode cX9_who 59 = .ok (.ifCond .eq 9, 3) := by decide +kernel
theorem dX9_who_62 : decode cX9_who 62 = .ok (.iconst 1, 1) := by decide +kernel
theorem dX9_who_63 : decode cX9_who 63 = .ok (.iload_n 2, 1) := by decide +kernel
theorem dX9_who_64 : decode cX9_who 64 = .ok (.ishl, 1) := by decide +kernel
theorem dX9_who_65 : decode cX9_who 65 = .ok (.goto 4, 3) := by decide +kernel
theorem dX9_who_68 : decode cX9_who 68 = .ok (.iconst 0, 1) := by decide +kernel
theorem dX9_who_69 : decode cX9_who 69 = .ok (.ior, 1) := by decide +kernel
theorem dX9_who_70 : decode cX9_who 70 = .ok (.istore_n 1, 1) := by decide +kernel
theorem dX9_who_71 : decode cX9_who 71 = .ok (.iinc 2 1, 3) := by decide +kernel
theorem dX9_who_74 : decode cX9_who 74 = .ok (.goto (-40), 3) := by decide +kernel
theorem dX9_who_77 : decode cX9_who 77 = .ok (.iload_n 1, 1) := by decide +kernel
theorem dX9_who_78 : decode cX9_who 78 = .ok (.ireturn, 1) := by decide +kernel
theorem dX9_which_0 : decode cX9_which 0 = .ok (.aload_n 0, 1) := by decide +kernel
theorem dX9_which_1 : decode cX9_which 1 = .ok (.iconst 0, 1) := by decide +kernel
theorem dX9_which_2 : decode cX9_which 2 = .ok (.putfield 62, 3) := by decide +kernel
theorem dX9_which_5 : decode cX9_which 5 = .ok (.iload_n 1, 1) := by decide +kernel
theorem dX9_which_6 : decode cX9_which 6 = .ok (.iconst 0, 1) := by decide +kernel
theorem dX9_which_7 : decode cX9_which 7 = .ok (.iconst 2, 1) := by decide +kernel
theorem dX9_which_8 : decode cX9_which 8 = .ok (.invokestatic 66, 3) := by decide +kernel
theorem dX9_which_11 : decode cX9_which 11 = .ok (.ifCond .ne 5, 3) := by decide +kernel
theorem dX9_which_14 : decode cX9_which 14 = .ok (.iconst (-1), 1) := by decide +kernel
theorem dX9_which_15 : decode cX9_which 15 = .ok (.ireturn, 1) := by decide +kernel
theorem dX9_which_16 : decode cX9_which 16 = .ok (.aload_n 0, 1) := by decide +kernel
theorem dX9_which_17 : decode cX9_which 17 = .ok (.invokevirtual 212, 3) := by decide +kernel
theorem dX9_which_20 : decode cX9_which 20 = .ok (.iconst 0, 1) := by decide +kernel
theorem dX9_which_21 : decode cX9_which 21 = .ok (.istore_n 2, 1) := by decide +kernel
theorem dX9_which_22 : decode cX9_which 22 = .ok (.bipush (-9), 2) := by decide +kernel
theorem dX9_which_24 : decode cX9_which 24 = .ok (.istore_n 3, 1) := by decide +kernel
theorem dX9_which_25 : decode cX9_which 25 = .ok (.bipush 15, 2) := by decide +kernel
theorem dX9_which_27 : decode cX9_which 27 = .ok (.istore 4, 2) := by decide +kernel
theorem dX9_which_29 : decode cX9_which 29 = .ok (.iconst 0, 1) := by decide +kernel
theorem dX9_which_30 : decode cX9_which 30 = .ok (.istore 5, 2) := by decide +kernel
theorem dX9_which_32 : decode cX9_which 32 = .ok (.iload 5, 2) := by decide +kernel
theorem dX9_which_34 : decode cX9_which 34 = .ok (.bipush 16, 2) := by decide +kernel
theorem dX9_which_36 : decode cX9_which 36 = .ok (.if_icmp .ge 53, 3) := by decide +kernel
theorem dX9_which_39 : decode cX9_which 39 = .ok (.aload_n 0, 1) := by decide +kernel
theorem dX9_which_40 : decode cX9_which 40 = .ok (.getfield 31, 3) := by decide +kernel
theorem dX9_which_43 : decode cX9_which 43 = .ok (.bipush 22, 2) := by decide +kernel
theorem dX9_which_45 : decode cX9_which 45 = .ok (.iload 5, 2) := by decide +kernel
theorem dX9_which_47 : decode cX9_which 47 = .ok (.iastore, 1) := by decide +kernel
theorem dX9_which_48 : decode cX9_which 48 = .ok (.aload_n 0, 1) := by decide +kernel
theorem dX9_which_49 : decode cX9_which 49 = .ok (.invokevirtual 215, 3) := by decide +kernel
theorem dX9_which_52 : decode cX9_which 52 = .ok (.ifCond .eq 31, 3) := by decide +kernel
theorem dX9_which_55 : decode cX9_which 55 = .ok (.aload_n 0, 1) := by decide +kernel
theorem dX9_which_56 : decode cX9_which 56 = .ok (.invokevirtual 218, 3) := by decide +kernel
theorem dX9_which_59 : decode cX9_which 59 = .ok (.ifCond .eq 24, 3) := by decide +kernel
theorem dX9_which_62 : decode cX9_which 62 = .ok (.iload_n 2, 1) := by decide +kernel
theorem dX9_which_63 : decode cX9_which 63 = .ok (.ifCond .ne 8, 3) := by decide +kernel
theorem dX9_which_66 : decode cX9_which 66 = .ok (.iload 5, 2) := by decide +kernel
theorem dX9_which_68 : decode cX9_which 68 = .ok (.goto 4, 3) := by decide +kernel
theorem dX9_which_71 : decode cX9_which 71 = .ok (.iload_n 3, 1) := by decide +kernel
theorem dX9_which_72 : decode cX9_which 72 = .ok (.istore_n 3, 1) := by decide +kernel
theorem dX9_which_73 : decode cX9_which 73 = .ok (.iload 4, 2) := by decide +kernel
theorem dX9_which_75 : decode cX9_which 75 = .ok (.iload 5, 2) := by decide +kernel
theorem dX9_which_77 : decode cX9_which 77 = .ok (.iand, 1) := by decide +kernel
theorem dX9_which_78 : decode cX9_which 78 = .ok (.istore 4, 2) := by decide +kernel
theorem dX9_which_80 : decode cX9_which 80 = .ok (.iinc 2 1, 3) := by decide +kernel
theorem dX9_which_83 : decode cX9_which 83 = .ok (.iinc 5 1, 3) := by decide +kernel
theorem dX9_which_86 : decode cX9_which 86 = .ok (.goto (-54), 3) := by decide +kernel
theorem dX9_which_89 : decode cX9_which 89 = .ok (.iload_n 1, 1) := by decide +kernel
theorem dX9_which_90 : decode cX9_which 90 = .ok (.ifCond .ne 7, 3) := by decide +kernel
theorem dX9_which_93 : decode cX9_which 93 = .ok (.iload_n 2, 1) := by decide +kernel
theorem dX9_which_94 : decode cX9_which 94 = .ok (.goto 18, 3) := by decide +kernel
theorem dX9_which_97 : decode cX9_which 97 = .ok (.iload_n 1, 1) := by decide +kernel
theorem dX9_which_98 : decode cX9_which 98 = .ok (.iconst 1, 1) := by decide +kernel
theorem dX9_which_99 : decode cX9_which 99 = .ok (.if_icmp .eq 7, 3) := by decide +kernel
theorem dX9_which_102 : decode cX9_which 102 = .ok (.iload_n 2, 1) := by decide +kernel
theorem dX9_which_103 : decode cX9_which 103 = .ok (.ifCond .ne 7, 3) := by decide +kernel
theorem dX9_which_106 : decode cX9_which 106 = .ok (.iload_n 3, 1) := by decide +kernel
theorem dX9_which_107 : decode cX9_which 107 = .ok (.goto 5, 3) := by decide +kernel
theorem dX9_which_110 : decode cX9_which 110 = .ok (.iload 4, 2) := by decide +kernel
theorem dX9_which_112 : decode cX9_which 112 = .ok (.ireturn, 1) := by decide +kernel
theorem dX9_mayMarry_0 : decode cX9_mayMarry 0 = .ok (.aload_n 0, 1) := by decide +kernel
theorem dX9_mayMarry_1 : decode cX9_mayMarry 1 = .ok (.getfield 28, 3) := by decide +kernel
theorem dX9_mayMarry_4 : decode cX9_mayMarry 4 = .ok (.iconst 0, 1) := by decide +kernel
theorem dX9_mayMarry_5 : decode cX9_mayMarry 5 = .ok (.iload_n 1, 1) := by decide +kernel
theorem dX9_mayMarry_6 : decode cX9_mayMarry 6 = .ok (.iadd, 1) := by decide +kernel
theorem dX9_mayMarry_7 : decode cX9_mayMarry 7 = .ok (.iaload, 1) := by decide +kernel
theorem dX9_mayMarry_8 : decode cX9_mayMarry 8 = .ok (.aload_n 0, 1) := by decide +kernel
theorem dX9_mayMarry_9 : decode cX9_mayMarry 9 = .ok (.getfield 28, 3) := by decide +kernel
theorem dX9_mayMarry_12 : decode cX9_mayMarry 12 = .ok (.iconst 0, 1) := by decide +kernel
theorem dX9_mayMarry_13 : decode cX9_mayMarry 13 = .ok (.iload_n 2, 1) := by decide +kernel
theorem dX9_mayMarry_14 : decode cX9_mayMarry 14 = .ok (.iadd, 1) := by decide +kernel
theorem dX9_mayMarry_15 : decode cX9_mayMarry 15 = .ok (.iaload, 1) := by decide +kernel
theorem dX9_mayMarry_16 : decode cX9_mayMarry 16 = .ok (.if_icmp .eq 20, 3) := by decide +kernel
theorem dX9_mayMarry_19 : decode cX9_mayMarry 19 = .ok (.aload_n 0, 1) := by decide +kernel
theorem dX9_mayMarry_20 : decode cX9_mayMarry 20 = .ok (.getfield 25, 3) := by decide +kernel
theorem dX9_mayMarry_23 : decode cX9_mayMarry 23 = .ok (.iload_n 1, 1) := by decide +kernel
theorem dX9_mayMarry_24 : decode cX9_mayMarry 24 = .ok (.iaload, 1) := by decide +kernel
theorem dX9_mayMarry_25 : decode cX9_mayMarry 25 = .ok (.iload_n 2, 1) := by decide +kernel
theorem dX9_mayMarry_26 : decode cX9_mayMarry 26 = .ok (.ishr, 1) := by decide +kernel
theorem dX9_mayMarry_27 : decode cX9_mayMarry 27 = .ok (.iconst 1, 1) := by decide +kernel
theorem dX9_mayMarry_28 : decode cX9_mayMarry 28 = .ok (.iand, 1) := by decide +kernel
theorem dX9_mayMarry_29 : decode cX9_mayMarry 29 = .ok (.ifCond .ne 7, 3) := by decide +kernel
theorem dX9_mayMarry_32 : decode cX9_mayMarry 32 = .ok (.iconst 1, 1) := by decide +kernel
theorem dX9_mayMarry_33 : decode cX9_mayMarry 33 = .ok (.goto 4, 3) := by decide +kernel
theorem dX9_mayMarry_36 : decode cX9_mayMarry 36 = .ok (.iconst 0, 1) := by decide +kernel
theorem dX9_mayMarry_37 : decode cX9_mayMarry 37 = .ok (.ireturn, 1) := by decide +kernel
theorem dX9_pairs_0 : decode cX9_pairs 0 = .ok (.aload_n 0, 1) := by decide +kernel
theorem dX9_pairs_1 : decode cX9_pairs 1 = .ok (.getfield 59, 3) := by decide +kernel
theorem dX9_pairs_4 : decode cX9_pairs 4 = .ok (.iconst 0, 1) := by decide +kernel
theorem dX9_pairs_5 : decode cX9_pairs 5 = .ok (.iconst 0, 1) := by decide +kernel
theorem dX9_pairs_6 : decode cX9_pairs 6 = .ok (.iastore, 1) := by decide +kernel
theorem dX9_pairs_7 : decode cX9_pairs 7 = .ok (.iconst 1, 1) := by decide +kernel
theorem dX9_pairs_8 : decode cX9_pairs 8 = .ok (.istore_n 1, 1) := by decide +kernel
theorem dX9_pairs_9 : decode cX9_pairs 9 = .ok (.iload_n 1, 1) := by decide +kernel
theorem dX9_pairs_10 : decode cX9_pairs 10 = .ok (.aload_n 0, 1) := by decide +kernel
theorem dX9_pairs_11 : decode cX9_pairs 11 = .ok (.invokevirtual 175, 3) := by decide +kernel
theorem dX9_pairs_14 : decode cX9_pairs 14 = .ok (.if_icmp .gt 136, 3) := by decide +kernel
theorem dX9_pairs_17 : decode cX9_pairs 17 = .ok (.iconst 0, 1) := by decide +kernel
theorem dX9_pairs_18 : decode cX9_pairs 18 = .ok (.istore_n 2, 1) := by decide +kernel
theorem dX9_pairs_19 : decode cX9_pairs 19 = .ok (.iload_n 1, 1) := by decide +kernel
theorem dX9_pairs_20 : decode cX9_pairs 20 = .ok (.iload_n 2, 1) := by decide +kernel
theorem dX9_pairs_21 : decode cX9_pairs 21 = .ok (.ishr, 1) := by decide +kernel
theorem dX9_pairs_22 : decode cX9_pairs 22 = .ok (.iconst 1, 1) := by decide +kernel
theorem dX9_pairs_23 : decode cX9_pairs 23 = .ok (.iand, 1) := by decide +kernel
theorem dX9_pairs_24 : decode cX9_pairs 24 = .ok (.ifCond .ne 9, 3) := by decide +kernel
theorem dX9_pairs_27 : decode cX9_pairs 27 = .ok (.iinc 2 1, 3) := by decide +kernel
theorem dX9_pairs_30 : decode cX9_pairs 30 = .ok (.goto (-11), 3) := by decide +kernel
theorem dX9_pairs_33 : decode cX9_pairs 33 = .ok (.iload_n 1, 1) := by decide +kernel
theorem dX9_pairs_34 : decode cX9_pairs 34 = .ok (.iconst 1, 1) := by decide +kernel
theorem dX9_pairs_35 : decode cX9_pairs 35 = .ok (.iload_n 2, 1) := by decide +kernel
theorem dX9_pairs_36 : decode cX9_pairs 36 = .ok (.ishl, 1) := by decide +kernel
theorem dX9_pairs_37 : decode cX9_pairs 37 = .ok (.iconst (-1), 1) := by decide +kernel
theorem dX9_pairs_38 : decode cX9_pairs 38 = .ok (.ixor, 1) := by decide +kernel
theorem dX9_pairs_39 : decode cX9_pairs 39 = .ok (.iand, 1) := by decide +kernel
theorem dX9_pairs_40 : decode cX9_pairs 40 = .ok (.istore_n 3, 1) := by decide +kernel
theorem dX9_pairs_41 : decode cX9_pairs 41 = .ok (.aload_n 0, 1) := by decide +kernel
theorem dX9_pairs_42 : decode cX9_pairs 42 = .ok (.getfield 59, 3) := by decide +kernel
theorem dX9_pairs_45 : decode cX9_pairs 45 = .ok (.iload_n 1, 1) := by decide +kernel
theorem dX9_pairs_46 : decode cX9_pairs 46 = .ok (.aload_n 0, 1) := by decide +kernel
theorem dX9_pairs_47 : decode cX9_pairs 47 = .ok (.getfield 59, 3) := by decide +kernel
theorem dX9_pairs_50 : decode cX9_pairs 50 = .ok (.iload_n 3, 1) := by decide +kernel
theorem dX9_pairs_51 : decode cX9_pairs 51 = .ok (.iaload, 1) := by decide +kernel
theorem dX9_pairs_52 : decode cX9_pairs 52 = .ok (.iastore, 1) := by decide +kernel
theorem dX9_pairs_53 : decode cX9_pairs 53 = .ok (.iload_n 2, 1) := by decide +kernel
theorem dX9_pairs_54 : decode cX9_pairs 54 = .ok (.iconst 1, 1) := by decide +kernel
theorem dX9_pairs_55 : decode cX9_pairs 55 = .ok (.iadd, 1) := by decide +kernel
theorem dX9_pairs_56 : decode cX9_pairs 56 = .ok (.istore 4, 2) := by decide +kernel
theorem dX9_pairs_58 : decode cX9_pairs 58 = .ok (.iload 4, 2) := by decide +kernel
theorem dX9_pairs_60 : decode cX9_pairs 60 = .ok (.aload_n 0, 1) := by decide +kernel
theorem dX9_pairs_61 : decode cX9_pairs 61 = .ok (.getfield 13, 3) := by decide +kernel
theorem dX9_pairs_64 : decode cX9_pairs 64 = .ok (.iconst 1, 1) := by decide +kernel
theorem dX9_pairs_65 : decode cX9_pairs 65 = .ok (.iaload, 1) := by decide +kernel
theorem dX9_pairs_66 : decode cX9_pairs 66 = .ok (.if_icmp .ge 78, 3) := by decide +kernel
theorem dX9_pairs_69 : decode cX9_pairs 69 = .ok (.iload_n 3, 1) := by decide +kernel
theorem dX9_pairs_70 : decode cX9_pairs 70 = .ok (.iload 4, 2) := by decide +kernel
theorem dX9_pairs_72 : decode cX9_pairs 72 = .ok (.ishr, 1) := by decide +kernel
theorem dX9_pairs_73 : decode cX9_pairs 73 = .ok (.iconst 1, 1) := by decide +kernel
theorem dX9_pairs_74 : decode cX9_pairs 74 = .ok (.iand, 1) := by decide +kernel
theorem dX9_pairs_75 : decode cX9_pairs 75 = .ok (.iconst 1, 1) := by decide +kernel
theorem dX9_pairs_76 : decode cX9_pairs 76 = .ok (.if_icmp .ne 31, 3) := by decide +kernel
theorem dX9_pairs_79 : decode cX9_pairs 79 = .ok (.aload_n 0, 1) := by decide +kernel
theorem dX9_pairs_80 : decode cX9_pairs 80 = .ok (.iload_n 2, 1) := by decide +kernel
theorem dX9_pairs_81 : decode cX9_pairs 81 = .ok (.iload 4, 2) := by decide +kernel
theorem dX9_pairs_83 : decode cX9_pairs 83 = .ok (.invokevirtual 221, 3) := by decide +kernel
theorem dX9_pairs_86 : decode cX9_pairs 86 = .ok (.ifCond .eq 21, 3) := by decide +kernel
theorem dX9_pairs_89 : decode cX9_pairs 89 = .ok (.iconst 1, 1) := by decide +kernel
theorem dX9_pairs_90 : decode cX9_pairs 90 = .ok (.aload_n 0, 1) := by decide +kernel
theorem dX9_pairs_91 : decode cX9_pairs 91 = .ok (.getfield 59, 3) := by decide +kernel
theorem dX9_pairs_94 : decode cX9_pairs 94 = .ok (.iload_n 3, 1) := by decide +kernel
theorem dX9_pairs_95 : decode cX9_pairs 95 = .ok (.iconst 1, 1) := by decide +kernel
theorem dX9_pairs_96 : decode cX9_pairs 96 = .ok (.iload 4, 2) := by decide +kernel
theorem dX9_pairs_98 : decode cX9_pairs 98 = .ok (.ishl, 1) := by decide +kernel
theorem dX9_pairs_99 : decode cX9_pairs 99 = .ok (.iconst (-1), 1) := by decide +kernel
theorem dX9_pairs_100 : decode cX9_pairs 100 = .ok (.ixor, 1) := by decide +kernel
theorem dX9_pairs_101 : decode cX9_pairs 101 = .ok (.iand, 1) := by decide +kernel
theorem dX9_pairs_102 : decode cX9_pairs 102 = .ok (.iaload, 1) := by decide +kernel
theorem dX9_pairs_103 : decode cX9_pairs 103 = .ok (.iadd, 1) := by decide +kernel
theorem dX9_pairs_104 : decode cX9_pairs 104 = .ok (.goto 4, 3) := by decide +kernel
theorem dX9_pairs_107 : decode cX9_pairs 107 = .ok (.iconst 0, 1) := by decide +kernel
theorem dX9_pairs_108 : decode cX9_pairs 108 = .ok (.istore 5, 2) := by decide +kernel
theorem dX9_pairs_110 : decode cX9_pairs 110 = .ok (.aload_n 0, 1) := by decide +kernel
theorem dX9_pairs_111 : decode cX9_pairs 111 = .ok (.getfield 59, 3) := by decide +kernel
theorem dX9_pairs_114 : decode cX9_pairs 114 = .ok (.iload_n 1, 1) := by decide +kernel
theorem dX9_pairs_115 : decode cX9_pairs 115 = .ok (.iload 5, 2) := by decide +kernel
theorem dX9_pairs_117 : decode cX9_pairs 117 = .ok (.aload_n 0, 1) := by decide +kernel
theorem dX9_pairs_118 : decode cX9_pairs 118 = .ok (.getfield 59, 3) := by decide +kernel
theorem dX9_pairs_121 : decode cX9_pairs 121 = .ok (.iload_n 1, 1) := by decide +kernel
theorem dX9_pairs_122 : decode cX9_pairs 122 = .ok (.iaload, 1) := by decide +kernel
theorem dX9_pairs_123 : decode cX9_pairs 123 = .ok (.if_icmp .le 8, 3) := by decide +kernel
theorem dX9_pairs_126 : decode cX9_pairs 126 = .ok (.iload 5, 2) := by decide +kernel
theorem dX9_pairs_128 : decode cX9_pairs 128 = .ok (.goto 9, 3) := by decide +kernel
theorem dX9_pairs_131 : decode cX9_pairs 131 = .ok (.aload_n 0, 1) := by decide +kernel
theorem dX9_pairs_132 : decode cX9_pairs 132 = .ok (.getfield 59, 3) := by decide +kernel
theorem dX9_pairs_135 : decode cX9_pairs 135 = .ok (.iload_n 1, 1) := by decide +kernel
theorem dX9_pairs_136 : decode cX9_pairs 136 = .ok (.iaload, 1) := by decide +kernel
theorem dX9_pairs_137 : decode cX9_pairs 137 = .ok (.iastore, 1) := by decide +kernel
theorem dX9_pairs_138 : decode cX9_pairs 138 = .ok (.iinc 4 1, 3) := by decide +kernel
theorem dX9_pairs_141 : decode cX9_pairs 141 = .ok (.goto (-83), 3) := by decide +kernel
theorem dX9_pairs_144 : decode cX9_pairs 144 = .ok (.iinc 1 1, 3) := by decide +kernel
theorem dX9_pairs_147 : decode cX9_pairs 147 = .ok (.goto (-138), 3) := by decide +kernel
theorem dX9_pairs_150 : decode cX9_pairs 150 = .ok (.return_, 1) := by decide +kernel
theorem dX9_married_0 : decode cX9_married 0 = .ok (.aload_n 0, 1) := by decide +kernel
theorem dX9_married_1 : decode cX9_married 1 = .ok (.iconst 0, 1) := by decide +kernel
theorem dX9_married_2 : decode cX9_married 2 = .ok (.putfield 62, 3) := by decide +kernel
theorem dX9_married_5 : decode cX9_married 5 = .ok (.iload_n 1, 1) := by decide +kernel
theorem dX9_married_6 : decode cX9_married 6 = .ok (.iconst (-1), 1) := by decide +kernel
theorem dX9_married_7 : decode cX9_married 7 = .ok (.if_icmp .eq 13, 3) := by decide +kernel
theorem dX9_married_10 : decode cX9_married 10 = .ok (.aload_n 0, 1) := by decide +kernel
theorem dX9_married_11 : decode cX9_married 11 = .ok (.iload_n 1, 1) := by decide +kernel
theorem dX9_married_12 : decode cX9_married 12 = .ok (.invokevirtual 153, 3) := by decide +kernel
theorem dX9_married_15 : decode cX9_married 15 = .ok (.ifCond .ne 5, 3) := by decide +kernel
theorem dX9_married_18 : decode cX9_married 18 = .ok (.iconst (-1), 1) := by decide +kernel
theorem dX9_married_19 : decode cX9_married 19 = .ok (.ireturn, 1) := by decide +kernel
theorem dX9_married_20 : decode cX9_married 20 = .ok (.aload_n 0, 1) := by decide +kernel
theorem dX9_married_21 : decode cX9_married 21 = .ok (.invokevirtual 225, 3) := by decide +kernel
theorem dX9_married_24 : decode cX9_married 24 = .ok (.aload_n 0, 1) := by decide +kernel
theorem dX9_married_25 : decode cX9_married 25 = .ok (.invokevirtual 175, 3) := by decide +kernel
theorem dX9_married_28 : decode cX9_married 28 = .ok (.istore_n 2, 1) := by decide +kernel
theorem dX9_married_29 : decode cX9_married 29 = .ok (.iconst 0, 1) := by decide +kernel
theorem dX9_married_30 : decode cX9_married 30 = .ok (.istore_n 3, 1) := by decide +kernel
theorem dX9_married_31 : decode cX9_married 31 = .ok (.iload_n 3, 1) := by decide +kernel
theorem dX9_married_32 : decode cX9_married 32 = .ok (.aload_n 0, 1) := by decide +kernel
theorem dX9_married_33 : decode cX9_married 33 = .ok (.getfield 13, 3) := by decide +kernel
theorem dX9_married_36 : decode cX9_married 36 = .ok (.iconst 1, 1) := by decide +kernel
theorem dX9_married_37 : decode cX9_married 37 = .ok (.iaload, 1) := by decide +kernel
theorem dX9_married_38 : decode cX9_married 38 = .ok (.if_icmp .ge 156, 3) := by decide +kernel
theorem dX9_married_41 : decode cX9_married 41 = .ok (.iload_n 2, 1) := by decide +kernel
theorem dX9_married_42 : decode cX9_married 42 = .ok (.iload_n 3, 1) := by decide +kernel
theorem dX9_married_43 : decode cX9_married 43 = .ok (.ishr, 1) := by decide +kernel
theorem dX9_married_44 : decode cX9_married 44 = .ok (.iconst 1, 1) := by decide +kernel
theorem dX9_married_45 : decode cX9_married 45 = .ok (.iand, 1) := by decide +kernel
theorem dX9_married_46 : decode cX9_married 46 = .ok (.iconst 1, 1) := by decide +kernel
theorem dX9_married_47 : decode cX9_married 47 = .ok (.if_icmp .ne 141, 3) := by decide +kernel
theorem dX9_married_50 : decode cX9_married 50 = .ok (.iload_n 2, 1) := by decide +kernel
theorem dX9_married_51 : decode cX9_married 51 = .ok (.iconst 1, 1) := by decide +kernel
theorem dX9_married_52 : decode cX9_married 52 = .ok (.iload_n 3, 1) := by decide +kernel
theorem dX9_married_53 : decode cX9_married 53 = .ok (.ishl, 1) := by decide +kernel
theorem dX9_married_54 : decode cX9_married 54 = .ok (.iconst (-1), 1) := by decide +kernel
theorem dX9_married_55 : decode cX9_married 55 = .ok (.ixor, 1) := by decide +kernel
theorem dX9_married_56 : decode cX9_married 56 = .ok (.iand, 1) := by decide +kernel
theorem dX9_married_57 : decode cX9_married 57 = .ok (.istore 4, 2) := by decide +kernel
theorem dX9_married_59 : decode cX9_married 59 = .ok (.bipush (-9), 2) := by decide +kernel
theorem dX9_married_61 : decode cX9_married 61 = .ok (.istore 5, 2) := by decide +kernel
theorem dX9_married_63 : decode cX9_married 63 = .ok (.aload_n 0, 1) := by decide +kernel
theorem dX9_married_64 : decode cX9_married 64 = .ok (.getfield 13, 3) := by decide +kernel
theorem dX9_married_67 : decode cX9_married 67 = .ok (.iconst 1, 1) := by decide +kernel
theorem dX9_married_68 : decode cX9_married 68 = .ok (.iaload, 1) := by decide +kernel
theorem dX9_married_69 : decode cX9_married 69 = .ok (.iconst 1, 1) := by decide +kernel
theorem dX9_married_70 : decode cX9_married 70 = .ok (.isub, 1) := by decide +kernel
theorem dX9_married_71 : decode cX9_married 71 = .ok (.istore 6, 2) := by decide +kernel
theorem dX9_married_73 : decode cX9_married 73 = .ok (.iload 6, 2) := by decide +kernel
theorem dX9_married_75 : decode cX9_married 75 = .ok (.iload_n 3, 1) := by decide +kernel
theorem dX9_married_76 : decode cX9_married 76 = .ok (.if_icmp .le 76, 3) := by decide +kernel
theorem dX9_married_79 : decode cX9_married 79 = .ok (.iload 4, 2) := by decide +kernel
theorem dX9_married_81 : decode cX9_married 81 = .ok (.iload 6, 2) := by decide +kernel
theorem dX9_married_83 : decode cX9_married 83 = .ok (.ishr, 1) := by decide +kernel
theorem dX9_married_84 : decode cX9_married 84 = .ok (.iconst 1, 1) := by decide +kernel
theorem dX9_married_85 : decode cX9_married 85 = .ok (.iand, 1) := by decide +kernel
theorem dX9_married_86 : decode cX9_married 86 = .ok (.iconst 1, 1) := by decide +kernel
theorem dX9_married_87 : decode cX9_married 87 = .ok (.if_icmp .ne 42, 3) := by decide +kernel
theorem dX9_married_90 : decode cX9_married 90 = .ok (.aload_n 0, 1) := by decide +kernel
theorem dX9_married_91 : decode cX9_married 91 = .ok (.iload_n 3, 1) := by decide +kernel
theorem dX9_married_92 : decode cX9_married 92 = .ok (.iload 6, 2) := by decide +kernel
theorem dX9_married_94 : decode cX9_married 94 = .ok (.invokevirtual 221, 3) := by decide +kernel
theorem dX9_married_97 : decode cX9_married 97 = .ok (.ifCond .eq 32, 3) := by decide +kernel
theorem dX9_married_100 : decode cX9_married 100 = .ok (.iconst 1, 1) := by decide +kernel
theorem dX9_married_101 : decode cX9_married 101 = .ok (.aload_n 0, 1) := by decide +kernel
theorem dX9_married_102 : decode cX9_married 102 = .ok (.getfield 59, 3) := by decide +kernel
theorem dX9_married_105 : decode cX9_married 105 = .ok (.iload 4, 2) := by decide +kernel
theorem dX9_married_107 : decode cX9_married 107 = .ok (.iconst 1, 1) := by decide +kernel
theorem dX9_married_108 : decode cX9_married 108 = .ok (.iload 6, 2) := by decide +kernel
theorem dX9_married_110 : decode cX9_married 110 = .ok (.ishl, 1) := by decide +kernel
theorem dX9_married_111 : decode cX9_married 111 = .ok (.iconst (-1), 1) := by decide +kernel
theorem dX9_married_112 : decode cX9_married 112 = .ok (.ixor, 1) := by decide +kernel
theorem dX9_married_113 : decode cX9_married 113 = .ok (.iand, 1) := by decide +kernel
theorem dX9_married_114 : decode cX9_married 114 = .ok (.iaload, 1) := by decide +kernel
theorem dX9_married_115 : decode cX9_married 115 = .ok (.iadd, 1) := by decide +kernel
theorem dX9_married_116 : decode cX9_married 116 = .ok (.aload_n 0, 1) := by decide +kernel
theorem dX9_married_117 : decode cX9_married 117 = .ok (.getfield 59, 3) := by decide +kernel
theorem dX9_married_120 : decode cX9_married 120 = .ok (.iload_n 2, 1) := by decide +kernel
theorem dX9_married_121 : decode cX9_married 121 = .ok (.iaload, 1) := by decide +kernel
theorem dX9_married_122 : decode cX9_married 122 = .ok (.if_icmp .ne 7, 3) := by decide +kernel
theorem dX9_married_125 : decode cX9_married 125 = .ok (.iconst 1, 1) := by decide +kernel
theorem dX9_married_126 : decode cX9_married 126 = .ok (.goto 4, 3) := by decide +kernel
theorem dX9_married_129 : decode cX9_married 129 = .ok (.iconst 0, 1) := by decide +kernel
theorem dX9_married_130 : decode cX9_married 130 = .ok (.istore 7, 2) := by decide +kernel
theorem dX9_married_132 : decode cX9_married 132 = .ok (.iload 7, 2) := by decide +kernel
theorem dX9_married_134 : decode cX9_married 134 = .ok (.ifCond .eq 8, 3) := by decide +kernel
theorem dX9_married_137 : decode cX9_married 137 = .ok (.iload 6, 2) := by decide +kernel
theorem dX9_married_139 : decode cX9_married 139 = .ok (.goto 5, 3) := by decide +kernel
theorem dX9_married_142 : decode cX9_married 142 = .ok (.iload 5, 2) := by decide +kernel
theorem dX9_married_144 : decode cX9_married 144 = .ok (.istore 5, 2) := by decide +kernel
theorem dX9_married_146 : decode cX9_married 146 = .ok (.iinc 6 (-1), 3) := by decide +kernel
theorem dX9_married_149 : decode cX9_married 149 = .ok (.goto (-76), 3) := by decide +kernel
theorem dX9_married_152 : decode cX9_married 152 = .ok (.aload_n 0, 1) := by decide +kernel
theorem dX9_married_153 : decode cX9_married 153 = .ok (.getfield 56, 3) := by decide +kernel
theorem dX9_married_156 : decode cX9_married 156 = .ok (.iload_n 3, 1) := by decide +kernel
theorem dX9_married_157 : decode cX9_married 157 = .ok (.iload 5, 2) := by decide +kernel
theorem dX9_married_159 : decode cX9_married 159 = .ok (.iastore, 1) := by decide +kernel
theorem dX9_married_160 : decode cX9_married 160 = .ok (.iload 4, 2) := by decide +kernel
theorem dX9_married_162 : decode cX9_married 162 = .ok (.istore_n 2, 1) := by decide +kernel
theorem dX9_married_163 : decode cX9_married 163 = .ok (.iload 5, 2) := by decide +kernel
theorem dX9_married_165 : decode cX9_married 165 = .ok (.bipush (-9), 2) := by decide +kernel
theorem dX9_married_167 : decode cX9_married 167 = .ok (.if_icmp .eq 21, 3) := by decide +kernel
theorem dX9_married_170 : decode cX9_married 170 = .ok (.aload_n 0, 1) := by decide +kernel
theorem dX9_married_171 : decode cX9_married 171 = .ok (.getfield 56, 3) := by decide +kernel
theorem dX9_married_174 : decode cX9_married 174 = .ok (.iload 5, 2) := by decide +kernel
theorem dX9_married_176 : decode cX9_married 176 = .ok (.iload_n 3, 1) := by decide +kernel
theorem dX9_married_177 : decode cX9_married 177 = .ok (.iastore, 1) := by decide +kernel
theorem dX9_married_178 : decode cX9_married 178 = .ok (.iload 4, 2) := by decide +kernel
theorem dX9_married_180 : decode cX9_married 180 = .ok (.iconst 1, 1) := by decide +kernel
theorem dX9_married_181 : decode cX9_married 181 = .ok (.iload 5, 2) := by decide +kernel
theorem dX9_married_183 : decode cX9_married 183 = .ok (.ishl, 1) := by decide +kernel
theorem dX9_married_184 : decode cX9_married 184 = .ok (.iconst (-1), 1) := by decide +kernel
theorem dX9_married_185 : decode cX9_married 185 = .ok (.ixor, 1) := by decide +kernel
theorem dX9_married_186 : decode cX9_married 186 = .ok (.iand, 1) := by decide +kernel
theorem dX9_married_187 : decode cX9_married 187 = .ok (.istore_n 2, 1) := by decide +kernel
theorem dX9_married_188 : decode cX9_married 188 = .ok (.iinc 3 1, 3) := by decide +kernel
theorem dX9_married_191 : decode cX9_married 191 = .ok (.goto (-160), 3) := by decide +kernel
theorem dX9_married_194 : decode cX9_married 194 = .ok (.iload_n 1, 1) := by decide +kernel
theorem dX9_married_195 : decode cX9_married 195 = .ok (.iconst (-1), 1) := by decide +kernel
theorem dX9_married_196 : decode cX9_married 196 = .ok (.if_icmp .ne 15, 3) := by decide +kernel
theorem dX9_married_199 : decode cX9_married 199 = .ok (.aload_n 0, 1) := by decide +kernel
theorem dX9_married_200 : decode cX9_married 200 = .ok (.getfield 59, 3) := by decide +kernel
theorem dX9_married_203 : decode cX9_married 203 = .ok (.aload_n 0, 1) := by decide +kernel
theorem dX9_married_204 : decode cX9_married 204 = .ok (.invokevirtual 175, 3) := by decide +kernel
theorem dX9_married_207 : decode cX9_married 207 = .ok (.iaload, 1) := by decide +kernel
theorem dX9_married_208 : decode cX9_married 208 = .ok (.goto 9, 3) := by decide +kernel
theorem dX9_married_211 : decode cX9_married 211 = .ok (.aload_n 0, 1) := by decide +kernel
theorem dX9_married_212 : decode cX9_married 212 = .ok (.getfield 56, 3) := by decide +kernel
theorem dX9_married_215 : decode cX9_married 215 = .ok (.iload_n 1, 1) := by decide +kernel
theorem dX9_married_216 : decode cX9_married 216 = .ok (.iaload, 1) := by decide +kernel
theorem dX9_married_217 : decode cX9_married 217 = .ok (.ireturn, 1) := by decide +kernel
theorem dX9_power_0 : decode cX9_power 0 = .ok (.iconst 1, 1) := by decide +kernel
theorem dX9_power_1 : decode cX9_power 1 = .ok (.istore_n 2, 1) := by decide +kernel
theorem dX9_power_2 : decode cX9_power 2 = .ok (.iconst 0, 1) := by decide +kernel
theorem dX9_power_3 : decode cX9_power 3 = .ok (.istore_n 3, 1) := by decide +kernel
theorem dX9_power_4 : decode cX9_power 4 = .ok (.iload_n 3, 1) := by decide +kernel
theorem dX9_power_5 : decode cX9_power 5 = .ok (.iload_n 1, 1) := by decide +kernel
theorem dX9_power_6 : decode cX9_power 6 = .ok (.if_icmp .ge 13, 3) := by decide +kernel
theorem dX9_power_9 : decode cX9_power 9 = .ok (.iload_n 2, 1) := by decide +kernel
theorem dX9_power_10 : decode cX9_power 10 = .ok (.iload_n 0, 1) := by decide +kernel
theorem dX9_power_11 : decode cX9_power 11 = .ok (.imul, 1) := by decide +kernel
theorem dX9_power_12 : decode cX9_power 12 = .ok (.istore_n 2, 1) := by decide +kernel
theorem dX9_power_13 : decode cX9_power 13 = .ok (.iinc 3 1, 3) := by decide +kernel
theorem dX9_power_16 : decode cX9_power 16 = .ok (.goto (-12), 3) := by decide +kernel
theorem dX9_power_19 : decode cX9_power 19 = .ok (.iload_n 2, 1) := by decide +kernel
theorem dX9_power_20 : decode cX9_power 20 = .ok (.ireturn, 1) := by decide +kernel
theorem dX9_odds_0 : decode cX9_odds 0 = .ok (.aload_n 0, 1) := by decide +kernel
theorem dX9_odds_1 : decode cX9_odds 1 = .ok (.iconst 0, 1) := by decide +kernel
theorem dX9_odds_2 : decode cX9_odds 2 = .ok (.putfield 62, 3) := by decide +kernel
theorem dX9_odds_5 : decode cX9_odds 5 = .ok (.aload_n 0, 1) := by decide +kernel
theorem dX9_odds_6 : decode cX9_odds 6 = .ok (.iload_n 1, 1) := by decide +kernel
theorem dX9_odds_7 : decode cX9_odds 7 = .ok (.invokevirtual 168, 3) := by decide +kernel
theorem dX9_odds_10 : decode cX9_odds 10 = .ok (.ifCond .eq 33, 3) := by decide +kernel
theorem dX9_odds_13 : decode cX9_odds 13 = .ok (.iload_n 2, 1) := by decide +kernel
theorem dX9_odds_14 : decode cX9_odds 14 = .ok (.iconst 0, 1) := by decide +kernel
theorem dX9_odds_15 : decode cX9_odds 15 = .ok (.bipush 6, 2) := by decide +kernel
theorem dX9_odds_17 : decode cX9_odds 17 = .ok (.invokestatic 66, 3) := by decide +kernel
theorem dX9_odds_20 : decode cX9_odds 20 = .ok (.ifCond .eq 23, 3) := by decide +kernel
theorem dX9_odds_23 : decode cX9_odds 23 = .ok (.iload_n 3, 1) := by decide +kernel
theorem dX9_odds_24 : decode cX9_odds 24 = .ok (.iconst 0, 1) := by decide +kernel
theorem dX9_odds_25 : decode cX9_odds 25 = .ok (.bipush 20, 2) := by decide +kernel
theorem dX9_odds_27 : decode cX9_odds 27 = .ok (.invokestatic 66, 3) := by decide +kernel
theorem dX9_odds_30 : decode cX9_odds 30 = .ok (.ifCond .eq 13, 3) := by decide +kernel
theorem dX9_odds_33 : decode cX9_odds 33 = .ok (.iload 4, 2) := by decide +kernel
theorem dX9_odds_35 : decode cX9_odds 35 = .ok (.iconst 0, 1) := by decide +kernel
theorem dX9_odds_36 : decode cX9_odds 36 = .ok (.iconst 1, 1) := by decide +kernel
theorem dX9_odds_37 : decode cX9_odds 37 = .ok (.invokestatic 66, 3) := by decide +kernel
theorem dX9_odds_40 : decode cX9_odds 40 = .ok (.ifCond .ne 5, 3) := by decide +kernel
theorem dX9_odds_43 : decode cX9_odds 43 = .ok (.iconst (-1), 1) := by decide +kernel
theorem dX9_odds_44 : decode cX9_odds 44 = .ok (.ireturn, 1) := by decide +kernel
theorem dX9_odds_45 : decode cX9_odds 45 = .ok (.iconst 0, 1) := by decide +kernel
theorem dX9_odds_46 : decode cX9_odds 46 = .ok (.istore 5, 2) := by decide +kernel
theorem dX9_odds_48 : decode cX9_odds 48 = .ok (.iconst 0, 1) := by decide +kernel
theorem dX9_odds_49 : decode cX9_odds 49 = .ok (.istore 6, 2) := by decide +kernel
theorem dX9_odds_51 : decode cX9_odds 51 = .ok (.iload 6, 2) := by decide +kernel
theorem dX9_odds_53 : decode cX9_odds 53 = .ok (.iconst 1, 1) := by decide +kernel
theorem dX9_odds_54 : decode cX9_odds 54 = .ok (.iload_n 2, 1) := by decide +kernel
theorem dX9_odds_55 : decode cX9_odds 55 = .ok (.ishl, 1) := by decide +kernel
theorem dX9_odds_56 : decode cX9_odds 56 = .ok (.if_icmp .ge 58, 3) := by decide +kernel
theorem dX9_odds_59 : decode cX9_odds 59 = .ok (.iload 5, 2) := by decide +kernel
theorem dX9_odds_61 : decode cX9_odds 61 = .ok (.aload_n 0, 1) := by decide +kernel
theorem dX9_odds_62 : decode cX9_odds 62 = .ok (.aload_n 0, 1) := by decide +kernel
theorem dX9_odds_63 : decode cX9_odds 63 = .ok (.getfield 28, 3) := by decide +kernel
theorem dX9_odds_66 : decode cX9_odds 66 = .ok (.iload_n 1, 1) := by decide +kernel
theorem dX9_odds_67 : decode cX9_odds 67 = .ok (.invokevirtual 135, 3) := by decide +kernel
theorem dX9_odds_70 : decode cX9_odds 70 = .ok (.invokestatic 143, 3) := by decide +kernel
theorem dX9_odds_73 : decode cX9_odds 73 = .ok (.iload 6, 2) := by decide +kernel
theorem dX9_odds_75 : decode cX9_odds 75 = .ok (.invokestatic 143, 3) := by decide +kernel
theorem dX9_odds_78 : decode cX9_odds 78 = .ok (.iadd, 1) := by decide +kernel
theorem dX9_odds_79 : decode cX9_odds 79 = .ok (.iload_n 3, 1) := by decide +kernel
theorem dX9_odds_80 : decode cX9_odds 80 = .ok (.if_icmp .lt 24, 3) := by decide +kernel
theorem dX9_odds_83 : decode cX9_odds 83 = .ok (.aload_n 0, 1) := by decide +kernel
theorem dX9_odds_84 : decode cX9_odds 84 = .ok (.getfield 13, 3) := by decide +kernel
theorem dX9_odds_87 : decode cX9_odds 87 = .ok (.iconst 0, 1) := by decide +kernel
theorem dX9_odds_88 : decode cX9_odds 88 = .ok (.iaload, 1) := by decide +kernel
theorem dX9_odds_89 : decode cX9_odds 89 = .ok (.iconst 1, 1) := by decide +kernel
theorem dX9_odds_90 : decode cX9_odds 90 = .ok (.isub, 1) := by decide +kernel
theorem dX9_odds_91 : decode cX9_odds 91 = .ok (.iload_n 2, 1) := by decide +kernel
theorem dX9_odds_92 : decode cX9_odds 92 = .ok (.iload 6, 2) := by decide +kernel
theorem dX9_odds_94 : decode cX9_odds 94 = .ok (.invokestatic 143, 3) := by decide +kernel
theorem dX9_odds_97 : decode cX9_odds 97 = .ok (.isub, 1) := by decide +kernel
theorem dX9_odds_98 : decode cX9_odds 98 = .ok (.invokestatic 228, 3) := by decide +kernel
theorem dX9_odds_101 : decode cX9_odds 101 = .ok (.goto 4, 3) := by decide +kernel
theorem dX9_odds_104 : decode cX9_odds 104 = .ok (.iconst 0, 1) := by decide +kernel
theorem dX9_odds_105 : decode cX9_odds 105 = .ok (.iadd, 1) := by decide +kernel
theorem dX9_odds_106 : decode cX9_odds 106 = .ok (.istore 5, 2) := by decide +kernel
theorem dX9_odds_108 : decode cX9_odds 108 = .ok (.iinc 6 1, 3) := by decide +kernel
theorem dX9_odds_111 : decode cX9_odds 111 = .ok (.goto (-60), 3) := by decide +kernel
theorem dX9_odds_114 : decode cX9_odds 114 = .ok (.iload 5, 2) := by decide +kernel
theorem dX9_odds_116 : decode cX9_odds 116 = .ok (.aload_n 0, 1) := by decide +kernel
theorem dX9_odds_117 : decode cX9_odds 117 = .ok (.getfield 13, 3) := by decide +kernel
theorem dX9_odds_120 : decode cX9_odds 120 = .ok (.iconst 0, 1) := by decide +kernel
theorem dX9_odds_121 : decode cX9_odds 121 = .ok (.iaload, 1) := by decide +kernel
theorem dX9_odds_122 : decode cX9_odds 122 = .ok (.iload_n 2, 1) := by decide +kernel
theorem dX9_odds_123 : decode cX9_odds 123 = .ok (.invokestatic 228, 3) := by decide +kernel
theorem dX9_odds_126 : decode cX9_odds 126 = .ok (.iload 4, 2) := by decide +kernel
theorem dX9_odds_128 : decode cX9_odds 128 = .ok (.invokestatic 171, 3) := by decide +kernel
theorem dX9_odds_131 : decode cX9_odds 131 = .ok (.ireturn, 1) := by decide +kernel
theorem dX9_rate_0 : decode cX9_rate 0 = .ok (.aload_n 0, 1) := by decide +kernel
theorem dX9_rate_1 : decode cX9_rate 1 = .ok (.iconst 0, 1) := by decide +kernel
theorem dX9_rate_2 : decode cX9_rate 2 = .ok (.putfield 62, 3) := by decide +kernel
theorem dX9_rate_5 : decode cX9_rate 5 = .ok (.iload_n 1, 1) := by decide +kernel
theorem dX9_rate_6 : decode cX9_rate 6 = .ok (.iconst 0, 1) := by decide +kernel
theorem dX9_rate_7 : decode cX9_rate 7 = .ok (.iconst 5, 1) := by decide +kernel
theorem dX9_rate_8 : decode cX9_rate 8 = .ok (.invokestatic 66, 3) := by decide +kernel
theorem dX9_rate_11 : decode cX9_rate 11 = .ok (.ifCond .eq 11, 3) := by decide +kernel
theorem dX9_rate_14 : decode cX9_rate 14 = .ok (.aload_n 0, 1) := by decide +kernel
theorem dX9_rate_15 : decode cX9_rate 15 = .ok (.iload_n 2, 1) := by decide +kernel
theorem dX9_rate_16 : decode cX9_rate 16 = .ok (.invokevirtual 153, 3) := by decide +kernel
theorem dX9_rate_19 : decode cX9_rate 19 = .ok (.ifCond .ne 6, 3) := by decide +kernel
theorem dX9_rate_22 : decode cX9_rate 22 = .ok (.ldc 231, 2) := by decide +kernel
theorem dX9_rate_24 : decode cX9_rate 24 = .ok (.ireturn, 1) := by decide +kernel
theorem dX9_rate_25 : decode cX9_rate 25 = .ok (.aload_n 0, 1) := by decide +kernel
theorem dX9_rate_26 : decode cX9_rate 26 = .ok (.getfield 28, 3) := by decide +kernel
theorem dX9_rate_29 : decode cX9_rate 29 = .ok (.bipush 7, 2) := by decide +kernel
theorem dX9_rate_31 : decode cX9_rate 31 = .ok (.iload_n 2, 1) := by decide +kernel
theorem dX9_rate_32 : decode cX9_rate 32 = .ok (.iadd, 1) := by decide +kernel
theorem dX9_rate_33 : decode cX9_rate 33 = .ok (.iaload, 1) := by decide +kernel
theorem dX9_rate_34 : decode cX9_rate 34 = .ok (.istore_n 3, 1) := by decide +kernel
theorem dX9_rate_35 : decode cX9_rate 35 = .ok (.iload_n 3, 1) := by decide +kernel
theorem dX9_rate_36 : decode cX9_rate 36 = .ok (.aload_n 0, 1) := by decide +kernel
theorem dX9_rate_37 : decode cX9_rate 37 = .ok (.aload_n 0, 1) := by decide +kernel
theorem dX9_rate_38 : decode cX9_rate 38 = .ok (.getfield 28, 3) := by decide +kernel
theorem dX9_rate_41 : decode cX9_rate 41 = .ok (.iload_n 2, 1) := by decide +kernel
theorem dX9_rate_42 : decode cX9_rate 42 = .ok (.invokevirtual 159, 3) := by decide +kernel
theorem dX9_rate_45 : decode cX9_rate 45 = .ok (.iadd, 1) := by decide +kernel
theorem dX9_rate_46 : decode cX9_rate 46 = .ok (.istore 4, 2) := by decide +kernel
theorem dX9_rate_48 : decode cX9_rate 48 = .ok (.iload_n 3, 1) := by decide +kernel
theorem dX9_rate_49 : decode cX9_rate 49 = .ok (.aload_n 0, 1) := by decide +kernel
theorem dX9_rate_50 : decode cX9_rate 50 = .ok (.aload_n 0, 1) := by decide +kernel
theorem dX9_rate_51 : decode cX9_rate 51 = .ok (.getfield 28, 3) := by decide +kernel
theorem dX9_rate_54 : decode cX9_rate 54 = .ok (.iload_n 2, 1) := by decide +kernel
theorem dX9_rate_55 : decode cX9_rate 55 = .ok (.invokevirtual 162, 3) := by decide +kernel
theorem dX9_rate_58 : decode cX9_rate 58 = .ok (.isub, 1) := by decide +kernel
theorem dX9_rate_59 : decode cX9_rate 59 = .ok (.istore 5, 2) := by decide +kernel
theorem dX9_rate_61 : decode cX9_rate 61 = .ok (.aload_n 0, 1) := by decide +kernel
theorem dX9_rate_62 : decode cX9_rate 62 = .ok (.dup, 1) := by decide +kernel
theorem dX9_rate_63 : decode cX9_rate 63 = .ok (.getfield 232, 3) := by decide +kernel
theorem dX9_rate_66 : decode cX9_rate 66 = .ok (.iload_n 1, 1) := by decide +kernel
theorem dX9_rate_67 : decode cX9_rate 67 = .ok (.ifCond .ne 7, 3) := by decide +kernel
theorem dX9_rate_70 : decode cX9_rate 70 = .ok (.lconst 1, 1) := by decide +kernel
theorem dX9_rate_71 : decode cX9_rate 71 = .ok (.goto 50, 3) := by decide +kernel
theorem dX9_rate_74 : decode cX9_rate 74 = .ok (.iload_n 1, 1) := by decide +kernel
theorem dX9_rate_75 : decode cX9_rate 75 = .ok (.iconst 1, 1) := by decide +kernel
theorem dX9_rate_76 : decode cX9_rate 76 = .ok (.if_icmp .ne 9, 3) := by decide +kernel
theorem dX9_rate_79 : decode cX9_rate 79 = .ok (.ldc2_w 236, 3) := by decide +kernel
theorem dX9_rate_82 : decode cX9_rate 82 = .ok (.goto 39, 3) := by decide +kernel
theorem dX9_rate_85 : decode cX9_rate 85 = .ok (.iload_n 1, 1) := by decide +kernel
theorem dX9_rate_86 : decode cX9_rate 86 = .ok (.iconst 2, 1) := by decide +kernel
theorem dX9_rate_87 : decode cX9_rate 87 = .ok (.if_icmp .ne 9, 3) := by decide +kernel
theorem dX9_rate_90 : decode cX9_rate 90 = .ok (.ldc2_w 238, 3) := by decide +kernel
theorem dX9_rate_93 : decode cX9_rate 93 = .ok (.goto 28, 3) := by decide +kernel
theorem dX9_rate_96 : decode cX9_rate 96 = .ok (.iload_n 1, 1) := by decide +kernel
theorem dX9_rate_97 : decode cX9_rate 97 = .ok (.iconst 3, 1) := by decide +kernel
theorem dX9_rate_98 : decode cX9_rate 98 = .ok (.if_icmp .ne 9, 3) := by decide +kernel
theorem dX9_rate_101 : decode cX9_rate 101 = .ok (.ldc2_w 240, 3) := by decide +kernel
theorem dX9_rate_104 : decode cX9_rate 104 = .ok (.goto 17, 3) := by decide +kernel
theorem dX9_rate_107 : decode cX9_rate 107 = .ok (.iload_n 1, 1) := by decide +kernel
theorem dX9_rate_108 : decode cX9_rate 108 = .ok (.iconst 4, 1) := by decide +kernel
theorem dX9_rate_109 : decode cX9_rate 109 = .ok (.if_icmp .ne 9, 3) := by decide +kernel
theorem dX9_rate_112 : decode cX9_rate 112 = .ok (.ldc2_w 242, 3) := by decide +kernel
theorem dX9_rate_115 : decode cX9_rate 115 = .ok (.goto 6, 3) := by decide +kernel
theorem dX9_rate_118 : decode cX9_rate 118 = .ok (.ldc2_w 244, 3) := by decide +kernel
theorem dX9_rate_121 : decode cX9_rate 121 = .ok (.ladd, 1) := by decide +kernel
theorem dX9_rate_122 : decode cX9_rate 122 = .ok (.putfield 232, 3) := by decide +kernel
theorem dX9_rate_125 : decode cX9_rate 125 = .ok (.iload_n 1, 1) := by decide +kernel
theorem dX9_rate_126 : decode cX9_rate 126 = .ok (.ifCond .ne 7, 3) := by decide +kernel
theorem dX9_rate_129 : decode cX9_rate 129 = .ok (.iload_n 3, 1) := by decide +kernel
theorem dX9_rate_130 : decode cX9_rate 130 = .ok (.goto 56, 3) := by decide +kernel
theorem dX9_rate_133 : decode cX9_rate 133 = .ok (.iload_n 1, 1) := by decide +kernel
theorem dX9_rate_134 : decode cX9_rate 134 = .ok (.iconst 1, 1) := by decide +kernel
theorem dX9_rate_135 : decode cX9_rate 135 = .ok (.if_icmp .ne 8, 3) := by decide +kernel
theorem dX9_rate_138 : decode cX9_rate 138 = .ok (.iload 4, 2) := by decide +kernel
theorem dX9_rate_140 : decode cX9_rate 140 = .ok (.goto 46, 3) := by decide +kernel
theorem dX9_rate_143 : decode cX9_rate 143 = .ok (.iload_n 1, 1) := by decide +kernel
theorem dX9_rate_144 : decode cX9_rate 144 = .ok (.iconst 2, 1) := by decide +kernel
theorem dX9_rate_145 : decode cX9_rate 145 = .ok (.if_icmp .ne 8, 3) := by decide +kernel
theorem dX9_rate_148 : decode cX9_rate 148 = .ok (.iload 5, 2) := by decide +kernel
theorem dX9_rate_150 : decode cX9_rate 150 = .ok (.goto 36, 3) := by decide +kernel
theorem dX9_rate_153 : decode cX9_rate 153 = .ok (.iload_n 1, 1) := by decide +kernel
theorem dX9_rate_154 : decode cX9_rate 154 = .ok (.iconst 3, 1) := by decide +kernel
theorem dX9_rate_155 : decode cX9_rate 155 = .ok (.if_icmp .ne 10, 3) := by decide +kernel
theorem dX9_rate_158 : decode cX9_rate 158 = .ok (.iconst 2, 1) := by decide +kernel
theorem dX9_rate_159 : decode cX9_rate 159 = .ok (.iload 4, 2) := by decide +kernel
theorem dX9_rate_161 : decode cX9_rate 161 = .ok (.imul, 1) := by decide +kernel
theorem dX9_rate_162 : decode cX9_rate 162 = .ok (.goto 24, 3) := by decide +kernel
theorem dX9_rate_165 : decode cX9_rate 165 = .ok (.iload_n 1, 1) := by decide +kernel
theorem dX9_rate_166 : decode cX9_rate 166 = .ok (.iconst 4, 1) := by decide +kernel
theorem dX9_rate_167 : decode cX9_rate 167 = .ok (.if_icmp .ne 10, 3) := by decide +kernel
theorem dX9_rate_170 : decode cX9_rate 170 = .ok (.iload 5, 2) := by decide +kernel
theorem dX9_rate_172 : decode cX9_rate 172 = .ok (.iload_n 2, 1) := by decide +kernel
theorem dX9_rate_173 : decode cX9_rate 173 = .ok (.iadd, 1) := by decide +kernel
theorem dX9_rate_174 : decode cX9_rate 174 = .ok (.goto 12, 3) := by decide +kernel
theorem dX9_rate_177 : decode cX9_rate 177 = .ok (.iload_n 3, 1) := by decide +kernel
theorem dX9_rate_178 : decode cX9_rate 178 = .ok (.aload_n 0, 1) := by decide +kernel
theorem dX9_rate_179 : decode cX9_rate 179 = .ok (.getfield 28, 3) := by decide +kernel
theorem dX9_rate_182 : decode cX9_rate 182 = .ok (.bipush 24, 2) := by decide +kernel
theorem dX9_rate_184 : decode cX9_rate 184 = .ok (.iaload, 1) := by decide +kernel
theorem dX9_rate_185 : decode cX9_rate 185 = .ok (.iadd, 1) := by decide +kernel
theorem dX9_rate_186 : decode cX9_rate 186 = .ok (.ireturn, 1) := by decide +kernel
theorem dX9_keep_0 : decode cX9_keep 0 = .ok (.aload_n 0, 1) := by decide +kernel
theorem dX9_keep_1 : decode cX9_keep 1 = .ok (.iconst 0, 1) := by decide +kernel
theorem dX9_keep_2 : decode cX9_keep 2 = .ok (.putfield 62, 3) := by decide +kernel
theorem dX9_keep_5 : decode cX9_keep 5 = .ok (.iload_n 1, 1) := by decide +kernel
theorem dX9_keep_6 : decode cX9_keep 6 = .ok (.iconst 0, 1) := by decide +kernel
theorem dX9_keep_7 : decode cX9_keep 7 = .ok (.iconst 1, 1) := by decide +kernel
theorem dX9_keep_8 : decode cX9_keep 8 = .ok (.invokestatic 66, 3) := by decide +kernel
theorem dX9_keep_11 : decode cX9_keep 11 = .ok (.ifCond .ne 5, 3) := by decide +kernel
theorem dX9_keep_14 : decode cX9_keep 14 = .ok (.iconst (-1), 1) := by decide +kernel
theorem dX9_keep_15 : decode cX9_keep 15 = .ok (.ireturn, 1) := by decide +kernel
theorem dX9_keep_16 : decode cX9_keep 16 = .ok (.iconst 0, 1) := by decide +kernel
theorem dX9_keep_17 : decode cX9_keep 17 = .ok (.istore_n 2, 1) := by decide +kernel
theorem dX9_keep_18 : decode cX9_keep 18 = .ok (.iload_n 2, 1) := by decide +kernel
theorem dX9_keep_19 : decode cX9_keep 19 = .ok (.bipush 25, 2) := by decide +kernel
theorem dX9_keep_21 : decode cX9_keep 21 = .ok (.if_icmp .ge 26, 3) := by decide +kernel
theorem dX9_keep_24 : decode cX9_keep 24 = .ok (.aload_n 0, 1) := by decide +kernel
theorem dX9_keep_25 : decode cX9_keep 25 = .ok (.getfield 34, 3) := by decide +kernel
theorem dX9_keep_28 : decode cX9_keep 28 = .ok (.bipush 25, 2) := by decide +kernel
theorem dX9_keep_30 : decode cX9_keep 30 = .ok (.iload_n 1, 1) := by decide +kernel
theorem dX9_keep_31 : decode cX9_keep 31 = .ok (.imul, 1) := by decide +kernel
theorem dX9_keep_32 : decode cX9_keep 32 = .ok (.iload_n 2, 1) := by decide +kernel
theorem dX9_keep_33 : decode cX9_keep 33 = .ok (.iadd, 1) := by decide +kernel
theorem dX9_keep_34 : decode cX9_keep 34 = .ok (.aload_n 0, 1) := by decide +kernel
theorem dX9_keep_35 : decode cX9_keep 35 = .ok (.getfield 28, 3) := by decide +kernel
theorem dX9_keep_38 : decode cX9_keep 38 = .ok (.iload_n 2, 1) := by decide +kernel
theorem dX9_keep_39 : decode cX9_keep 39 = .ok (.iaload, 1) := by decide +kernel
theorem dX9_keep_40 : decode cX9_keep 40 = .ok (.iastore, 1) := by decide +kernel
theorem dX9_keep_41 : decode cX9_keep 41 = .ok (.iinc 2 1, 3) := by decide +kernel
theorem dX9_keep_44 : decode cX9_keep 44 = .ok (.goto (-26), 3) := by decide +kernel
theorem dX9_keep_47 : decode cX9_keep 47 = .ok (.aload_n 0, 1) := by decide +kernel
theorem dX9_keep_48 : decode cX9_keep 48 = .ok (.getfield 37, 3) := by decide +kernel
theorem dX9_keep_51 : decode cX9_keep 51 = .ok (.iload_n 1, 1) := by decide +kernel
theorem dX9_keep_52 : decode cX9_keep 52 = .ok (.iconst 1, 1) := by decide +kernel
theorem dX9_keep_53 : decode cX9_keep 53 = .ok (.bastore, 1) := by decide +kernel
theorem dX9_keep_54 : decode cX9_keep 54 = .ok (.aload_n 0, 1) := by decide +kernel
theorem dX9_keep_55 : decode cX9_keep 55 = .ok (.getfield 28, 3) := by decide +kernel
theorem dX9_keep_58 : decode cX9_keep 58 = .ok (.bipush 24, 2) := by decide +kernel
theorem dX9_keep_60 : decode cX9_keep 60 = .ok (.iaload, 1) := by decide +kernel
theorem dX9_keep_61 : decode cX9_keep 61 = .ok (.ireturn, 1) := by decide +kernel
theorem dX9_back_0 : decode cX9_back 0 = .ok (.aload_n 0, 1) := by decide +kernel
theorem dX9_back_1 : decode cX9_back 1 = .ok (.iconst 0, 1) := by decide +kernel
theorem dX9_back_2 : decode cX9_back 2 = .ok (.putfield 62, 3) := by decide +kernel
theorem dX9_back_5 : decode cX9_back 5 = .ok (.iload_n 1, 1) := by decide +kernel
theorem dX9_back_6 : decode cX9_back 6 = .ok (.iconst 0, 1) := by decide +kernel
theorem dX9_back_7 : decode cX9_back 7 = .ok (.iconst 1, 1) := by decide +kernel
theorem dX9_back_8 : decode cX9_back 8 = .ok (.invokestatic 66, 3) := by decide +kernel
theorem dX9_back_11 : decode cX9_back 11 = .ok (.ifCond .ne 5, 3) := by decide +kernel
theorem dX9_back_14 : decode cX9_back 14 = .ok (.iconst (-1), 1) := by decide +kernel
theorem dX9_back_15 : decode cX9_back 15 = .ok (.ireturn, 1) := by decide +kernel
theorem dX9_back_16 : decode cX9_back 16 = .ok (.aload_n 0, 1) := by decide +kernel
theorem dX9_back_17 : decode cX9_back 17 = .ok (.getfield 37, 3) := by decide +kernel
theorem dX9_back_20 : decode cX9_back 20 = .ok (.iload_n 1, 1) := by decide +kernel
theorem dX9_back_21 : decode cX9_back 21 = .ok (.baload, 1) := by decide +kernel
theorem dX9_back_22 : decode cX9_back 22 = .ok (.ifCond .ne 6, 3) := by decide +kernel
theorem dX9_back_25 : decode cX9_back 25 = .ok (.bipush (-2), 2) := by decide +kernel
theorem dX9_back_27 : decode cX9_back 27 = .ok (.ireturn, 1) := by decide +kernel
theorem dX9_back_28 : decode cX9_back 28 = .ok (.iconst 0, 1) := by decide +kernel
theorem dX9_back_29 : decode cX9_back 29 = .ok (.istore_n 2, 1) := by decide +kernel
theorem dX9_back_30 : decode cX9_back 30 = .ok (.iload_n 2, 1) := by decide +kernel
theorem dX9_back_31 : decode cX9_back 31 = .ok (.bipush 25, 2) := by decide +kernel
theorem dX9_back_33 : decode cX9_back 33 = .ok (.if_icmp .ge 26, 3) := by decide +kernel
theorem dX9_back_36 : decode cX9_back 36 = .ok (.aload_n 0, 1) := by decide +kernel
theorem dX9_back_37 : decode cX9_back 37 = .ok (.getfield 28, 3) := by decide +kernel
theorem dX9_back_40 : decode cX9_back 40 = .ok (.iload_n 2, 1) := by decide +kernel
theorem dX9_back_41 : decode cX9_back 41 = .ok (.aload_n 0, 1) := by decide +kernel
theorem dX9_back_42 : decode cX9_back 42 = .ok (.getfield 34, 3) := by decide +kernel
theorem dX9_back_45 : decode cX9_back 45 = .ok (.bipush 25, 2) := by decide +kernel
theorem dX9_back_47 : decode cX9_back 47 = .ok (.iload_n 1, 1) := by decide +kernel
theorem dX9_back_48 : decode cX9_back 48 = .ok (.imul, 1) := by decide +kernel
theorem dX9_back_49 : decode cX9_back 49 = .ok (.iload_n 2, 1) := by decide +kernel
theorem dX9_back_50 : decode cX9_back 50 = .ok (.iadd, 1) := by decide +kernel
theorem dX9_back_51 : decode cX9_back 51 = .ok (.iaload, 1) := by decide +kernel
theorem dX9_back_52 : decode cX9_back 52 = .ok (.iastore, 1) := by decide +kernel
theorem dX9_back_53 : decode cX9_back 53 = .ok (.iinc 2 1, 3) := by decide +kernel
theorem dX9_back_56 : decode cX9_back 56 = .ok (.goto (-26), 3) := by decide +kernel
theorem dX9_back_59 : decode cX9_back 59 = .ok (.aload_n 0, 1) := by decide +kernel
theorem dX9_back_60 : decode cX9_back 60 = .ok (.iconst 0, 1) := by decide +kernel
theorem dX9_back_61 : decode cX9_back 61 = .ok (.putfield 128, 3) := by decide +kernel
theorem dX9_back_64 : decode cX9_back 64 = .ok (.aload_n 0, 1) := by decide +kernel
theorem dX9_back_65 : decode cX9_back 65 = .ok (.getfield 28, 3) := by decide +kernel
theorem dX9_back_68 : decode cX9_back 68 = .ok (.bipush 24, 2) := by decide +kernel
theorem dX9_back_70 : decode cX9_back 70 = .ok (.iaload, 1) := by decide +kernel
theorem dX9_back_71 : decode cX9_back 71 = .ok (.ireturn, 1) := by decide +kernel
theorem dX9_count_0 : decode cX9_count 0 = .ok (.aload_n 0, 1) := by decide +kernel
theorem dX9_count_1 : decode cX9_count 1 = .ok (.iconst 0, 1) := by decide +kernel
theorem dX9_count_2 : decode cX9_count 2 = .ok (.putfield 62, 3) := by decide +kernel
theorem dX9_count_5 : decode cX9_count 5 = .ok (.iload_n 1, 1) := by decide +kernel
theorem dX9_count_6 : decode cX9_count 6 = .ok (.iconst 0, 1) := by decide +kernel
theorem dX9_count_7 : decode cX9_count 7 = .ok (.iconst 1, 1) := by decide +kernel
theorem dX9_count_8 : decode cX9_count 8 = .ok (.invokestatic 66, 3) := by decide +kernel
theorem dX9_count_11 : decode cX9_count 11 = .ok (.ifCond .eq 12, 3) := by decide +kernel
theorem dX9_count_14 : decode cX9_count 14 = .ok (.aload_n 0, 1) := by decide +kernel
theorem dX9_count_15 : decode cX9_count 15 = .ok (.getfield 13, 3) := by decide +kernel
theorem dX9_count_18 : decode cX9_count 18 = .ok (.iload_n 1, 1) := by decide +kernel
theorem dX9_count_19 : decode cX9_count 19 = .ok (.iaload, 1) := by decide +kernel
theorem dX9_count_20 : decode cX9_count 20 = .ok (.goto 40, 3) := by decide +kernel
theorem dX9_count_23 : decode cX9_count 23 = .ok (.iload_n 1, 1) := by decide +kernel
theorem dX9_count_24 : decode cX9_count 24 = .ok (.iconst 2, 1) := by decide +kernel
theorem dX9_count_25 : decode cX9_count 25 = .ok (.if_icmp .ne 10, 3) := by decide +kernel
theorem dX9_count_28 : decode cX9_count 28 = .ok (.aload_n 0, 1) := by decide +kernel
theorem dX9_count_29 : decode cX9_count 29 = .ok (.getfield 122, 3) := by decide +kernel
theorem dX9_count_32 : decode cX9_count 32 = .ok (.goto 28, 3) := by decide +kernel
theorem dX9_count_35 : decode cX9_count 35 = .ok (.iload_n 1, 1) := by decide +kernel
theorem dX9_count_36 : decode cX9_count 36 = .ok (.iconst 3, 1) := by decide +kernel
theorem dX9_count_37 : decode cX9_count 37 = .ok (.if_icmp .ne 10, 3) := by decide +kernel
theorem dX9_count_40 : decode cX9_count 40 = .ok (.aload_n 0, 1) := by decide +kernel
theorem dX9_count_41 : decode cX9_count 41 = .ok (.getfield 125, 3) := by decide +kernel
theorem dX9_count_44 : decode cX9_count 44 = .ok (.goto 16, 3) := by decide +kernel
theorem dX9_count_47 : decode cX9_count 47 = .ok (.iload_n 1, 1) := by decide +kernel
theorem dX9_count_48 : decode cX9_count 48 = .ok (.iconst 4, 1) := by decide +kernel
theorem dX9_count_49 : decode cX9_count 49 = .ok (.if_icmp .ne 10, 3) := by decide +kernel
theorem dX9_count_52 : decode cX9_count 52 = .ok (.aload_n 0, 1) := by decide +kernel
theorem dX9_count_53 : decode cX9_count 53 = .ok (.getfield 70, 3) := by decide +kernel
theorem dX9_count_56 : decode cX9_count 56 = .ok (.goto 4, 3) := by decide +kernel
theorem dX9_count_59 : decode cX9_count 59 = .ok (.iconst (-1), 1) := by decide +kernel
theorem dX9_count_60 : decode cX9_count 60 = .ok (.ireturn, 1) := by decide +kernel
theorem dX9_trace_0 : decode cX9_trace 0 = .ok (.aload_n 0, 1) := by decide +kernel
theorem dX9_trace_1 : decode cX9_trace 1 = .ok (.iconst 0, 1) := by decide +kernel
theorem dX9_trace_2 : decode cX9_trace 2 = .ok (.putfield 62, 3) := by decide +kernel
theorem dX9_trace_5 : decode cX9_trace 5 = .ok (.aload_n 0, 1) := by decide +kernel
theorem dX9_trace_6 : decode cX9_trace 6 = .ok (.getfield 232, 3) := by decide +kernel
theorem dX9_trace_9 : decode cX9_trace 9 = .ok (.lreturn, 1) := by decide +kernel
