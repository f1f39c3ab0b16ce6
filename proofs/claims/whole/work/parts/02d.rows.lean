theorem dX8_init_0 : decode cX8_init 0 = .ok (.aload_n 0, 1) := by decide +kernel
theorem dX8_init_1 : decode cX8_init 1 = .ok (.invokespecial 1, 3) := by decide +kernel
theorem dX8_init_4 : decode cX8_init 4 = .ok (.aload_n 0, 1) := by decide +kernel
theorem dX8_init_5 : decode cX8_init 5 = .ok (.new 7, 3) := by decide +kernel
theorem dX8_init_8 : decode cX8_init 8 = .ok (.dup, 1) := by decide +kernel
theorem dX8_init_9 : decode cX8_init 9 = .ok (.invokespecial 9, 3) := by decide +kernel
theorem dX8_init_12 : decode cX8_init 12 = .ok (.putfield 10, 3) := by decide +kernel
theorem dX8_init_15 : decode cX8_init 15 = .ok (.aload_n 0, 1) := by decide +kernel
theorem dX8_init_16 : decode cX8_init 16 = .ok (.new 16, 3) := by decide +kernel
theorem dX8_init_19 : decode cX8_init 19 = .ok (.dup, 1) := by decide +kernel
theorem dX8_init_20 : decode cX8_init 20 = .ok (.invokespecial 18, 3) := by decide +kernel
theorem dX8_init_23 : decode cX8_init 23 = .ok (.putfield 19, 3) := by decide +kernel
theorem dX8_init_26 : decode cX8_init 26 = .ok (.aload_n 0, 1) := by decide +kernel
theorem dX8_init_27 : decode cX8_init 27 = .ok (.new 23, 3) := by decide +kernel
theorem dX8_init_30 : decode cX8_init 30 = .ok (.dup, 1) := by decide +kernel
theorem dX8_init_31 : decode cX8_init 31 = .ok (.invokespecial 25, 3) := by decide +kernel
theorem dX8_init_34 : decode cX8_init 34 = .ok (.putfield 26, 3) := by decide +kernel
theorem dX8_init_37 : decode cX8_init 37 = .ok (.aload_n 0, 1) := by decide +kernel
theorem dX8_init_38 : decode cX8_init 38 = .ok (.new 30, 3) := by decide +kernel
theorem dX8_init_41 : decode cX8_init 41 = .ok (.dup, 1) := by decide +kernel
theorem dX8_init_42 : decode cX8_init 42 = .ok (.invokespecial 32, 3) := by decide +kernel
theorem dX8_init_45 : decode cX8_init 45 = .ok (.putfield 33, 3) := by decide +kernel
theorem dX8_init_48 : decode cX8_init 48 = .ok (.aload_n 0, 1) := by decide +kernel
theorem dX8_init_49 : decode cX8_init 49 = .ok (.new 37, 3) := by decide +kernel
theorem dX8_init_52 : decode cX8_init 52 = .ok (.dup, 1) := by decide +kernel
theorem dX8_init_53 : decode cX8_init 53 = .ok (.invokespecial 39, 3) := by decide +kernel
theorem dX8_init_56 : decode cX8_init 56 = .ok (.putfield 40, 3) := by decide +kernel
theorem dX8_init_59 : decode cX8_init 59 = .ok (.aload_n 0, 1) := by decide +kernel
theorem dX8_init_60 : decode cX8_init 60 = .ok (.new 37, 3) := by decide +kernel
theorem dX8_init_63 : decode cX8_init 63 = .ok (.dup, 1) := by decide +kernel
theorem dX8_init_64 : decode cX8_init 64 = .ok (.invokespecial 39, 3) := by decide +kernel
theorem dX8_init_67 : decode cX8_init 67 = .ok (.putfield 44, 3) := by decide +kernel
theorem dX8_init_70 : decode cX8_init 70 = .ok (.aload_n 0, 1) := by decide +kernel
theorem dX8_init_71 : decode cX8_init 71 = .ok (.new 47, 3) := by decide +kernel
theorem dX8_init_74 : decode cX8_init 74 = .ok (.dup, 1) := by decide +kernel
theorem dX8_init_75 : decode cX8_init 75 = .ok (.invokespecial 49, 3) := by decide +kernel
theorem dX8_init_78 : decode cX8_init 78 = .ok (.putfield 50, 3) := by decide +kernel
theorem dX8_init_81 : decode cX8_init 81 = .ok (.aload_n 0, 1) := by decide +kernel
theorem dX8_init_82 : decode cX8_init 82 = .ok (.new 54, 3) := by decide +kernel
theorem dX8_init_85 : decode cX8_init 85 = .ok (.dup, 1) := by decide +kernel
theorem dX8_init_86 : decode cX8_init 86 = .ok (.invokespecial 56, 3) := by decide +kernel
theorem dX8_init_89 : decode cX8_init 89 = .ok (.putfield 57, 3) := by decide +kernel
theorem dX8_init_92 : decode cX8_init 92 = .ok (.aload_n 0, 1) := by decide +kernel
theorem dX8_init_93 : decode cX8_init 93 = .ok (.iconst 2, 1) := by decide +kernel
theorem dX8_init_94 : decode cX8_init 94 = .ok (.anewarray 61, 3) := by decide +kernel
theorem dX8_init_97 : decode cX8_init 97 = .ok (.putfield 63, 3) := by decide +kernel
theorem dX8_init_100 : decode cX8_init 100 = .ok (.aload_n 0, 1) := by decide +kernel
theorem dX8_init_101 : decode cX8_init 101 = .ok (.iconst 2, 1) := by decide +kernel
theorem dX8_init_102 : decode cX8_init 102 = .ok (.newarray .boolean, 2) := by decide +kernel
theorem dX8_init_104 : decode cX8_init 104 = .ok (.putfield 67, 3) := by decide +kernel
theorem dX8_init_107 : decode cX8_init 107 = .ok (.aload_n 0, 1) := by decide +kernel
theorem dX8_init_108 : decode cX8_init 108 = .ok (.lconst 0, 1) := by decide +kernel
theorem dX8_init_109 : decode cX8_init 109 = .ok (.putfield 71, 3) := by decide +kernel
theorem dX8_init_112 : decode cX8_init 112 = .ok (.iconst 0, 1) := by decide +kernel
theorem dX8_init_113 : decode cX8_init 113 = .ok (.istore_n 1, 1) := by decide +kernel
theorem dX8_init_114 : decode cX8_init 114 = .ok (.iload_n 1, 1) := by decide +kernel
theorem dX8_init_115 : decode cX8_init 115 = .ok (.iconst 2, 1) := by decide +kernel
theorem dX8_init_116 : decode cX8_init 116 = .ok (.if_icmp .ge 22, 3) := by decide +kernel
theorem dX8_init_119 : decode cX8_init 119 = .ok (.aload_n 0, 1) := by decide +kernel
theorem dX8_init_120 : decode cX8_init 120 = .ok (.getfield 63, 3) := by decide +kernel
theorem dX8_init_123 : decode cX8_init 123 = .ok (.iload_n 1, 1) := by decide +kernel
theorem dX8_init_124 : decode cX8_init 124 = .ok (.new 61, 3) := by decide +kernel
theorem dX8_init_127 : decode cX8_init 127 = .ok (.dup, 1) := by decide +kernel
theorem dX8_init_128 : decode cX8_init 128 = .ok (.invokespecial 75, 3) := by decide +kernel
theorem dX8_init_131 : decode cX8_init 131 = .ok (.aastore, 1) := by decide +kernel
theorem dX8_init_132 : decode cX8_init 132 = .ok (.iinc 1 1, 3) := by decide +kernel
theorem dX8_init_135 : decode cX8_init 135 = .ok (.goto (-21), 3) := by decide +kernel
theorem dX8_init_138 : decode cX8_init 138 = .ok (.return_, 1) := by decide +kernel
theorem dX8_type_0 : decode cX8_type 0 = .ok (.iload_n 1, 1) := by decide +kernel
theorem dX8_type_1 : decode cX8_type 1 = .ok (.iconst 0, 1) := by decide +kernel
theorem dX8_type_2 : decode cX8_type 2 = .ok (.sipush 255, 3) := by decide +kernel
theorem dX8_type_5 : decode cX8_type 5 = .ok (.invokestatic 76, 3) := by decide +kernel
theorem dX8_type_8 : decode cX8_type 8 = .ok (.ifCond .ne 5, 3) := by decide +kernel
theorem dX8_type_11 : decode cX8_type 11 = .ok (.iconst (-1), 1) := by decide +kernel
theorem dX8_type_12 : decode cX8_type 12 = .ok (.ireturn, 1) := by decide +kernel
theorem dX8_type_13 : decode cX8_type 13 = .ok (.aload_n 0, 1) := by decide +kernel
theorem dX8_type_14 : decode cX8_type 14 = .ok (.getfield 10, 3) := by decide +kernel
theorem dX8_type_17 : decode cX8_type 17 = .ok (.getfield 80, 3) := by decide +kernel
theorem dX8_type_20 : decode cX8_type 20 = .ok (.sipush 200, 3) := by decide +kernel
theorem dX8_type_23 : decode cX8_type 23 = .ok (.if_icmp .lt 6, 3) := by decide +kernel
theorem dX8_type_26 : decode cX8_type 26 = .ok (.bipush (-3), 2) := by decide +kernel
theorem dX8_type_28 : decode cX8_type 28 = .ok (.ireturn, 1) := by decide +kernel
theorem dX8_type_29 : decode cX8_type 29 = .ok (.aload_n 0, 1) := by decide +kernel
theorem dX8_type_30 : decode cX8_type 30 = .ok (.getfield 10, 3) := by decide +kernel
theorem dX8_type_33 : decode cX8_type 33 = .ok (.getfield 84, 3) := by decide +kernel
theorem dX8_type_36 : decode cX8_type 36 = .ok (.aload_n 0, 1) := by decide +kernel
theorem dX8_type_37 : decode cX8_type 37 = .ok (.getfield 10, 3) := by decide +kernel
theorem dX8_type_40 : decode cX8_type 40 = .ok (.getfield 80, 3) := by decide +kernel
theorem dX8_type_43 : decode cX8_type 43 = .ok (.iload_n 1, 1) := by decide +kernel
theorem dX8_type_44 : decode cX8_type 44 = .ok (.iastore, 1) := by decide +kernel
theorem dX8_type_45 : decode cX8_type 45 = .ok (.aload_n 0, 1) := by decide +kernel
theorem dX8_type_46 : decode cX8_type 46 = .ok (.getfield 10, 3) := by decide +kernel
theorem dX8_type_49 : decode cX8_type 49 = .ok (.dup, 1) := by decide +kernel
theorem dX8_type_50 : decode cX8_type 50 = .ok (.getfield 80, 3) := by decide +kernel
theorem dX8_type_53 : decode cX8_type 53 = .ok (.iconst 1, 1) := by decide +kernel
theorem dX8_type_54 : decode cX8_type 54 = .ok (.iadd, 1) := by decide +kernel
theorem dX8_type_55 : decode cX8_type 55 = .ok (.putfield 80, 3) := by decide +kernel
theorem dX8_type_58 : decode cX8_type 58 = .ok (.aload_n 0, 1) := by decide +kernel
theorem dX8_type_59 : decode cX8_type 59 = .ok (.getfield 10, 3) := by decide +kernel
theorem dX8_type_62 : decode cX8_type 62 = .ok (.getfield 80, 3) := by decide +kernel
theorem dX8_type_65 : decode cX8_type 65 = .ok (.ireturn, 1) := by decide +kernel
theorem dX8_clear_0 : decode cX8_clear 0 = .ok (.aload_n 0, 1) := by decide +kernel
theorem dX8_clear_1 : decode cX8_clear 1 = .ok (.getfield 10, 3) := by decide +kernel
theorem dX8_clear_4 : decode cX8_clear 4 = .ok (.getfield 80, 3) := by decide +kernel
theorem dX8_clear_7 : decode cX8_clear 7 = .ok (.istore_n 1, 1) := by decide +kernel
theorem dX8_clear_8 : decode cX8_clear 8 = .ok (.aload_n 0, 1) := by decide +kernel
theorem dX8_clear_9 : decode cX8_clear 9 = .ok (.getfield 10, 3) := by decide +kernel
theorem dX8_clear_12 : decode cX8_clear 12 = .ok (.iconst 0, 1) := by decide +kernel
theorem dX8_clear_13 : decode cX8_clear 13 = .ok (.putfield 80, 3) := by decide +kernel
theorem dX8_clear_16 : decode cX8_clear 16 = .ok (.iload_n 1, 1) := by decide +kernel
theorem dX8_clear_17 : decode cX8_clear 17 = .ok (.ireturn, 1) := by decide +kernel
theorem dX8_republic_0 : decode cX8_republic 0 = .ok (.aload_n 0, 1) := by decide +kernel
theorem dX8_republic_1 : decode cX8_republic 1 = .ok (.getfield 19, 3) := by decide +kernel
theorem dX8_republic_4 : decode cX8_republic 4 = .ok (.aload_n 0, 1) := by decide +kernel
theorem dX8_republic_5 : decode cX8_republic 5 = .ok (.getfield 10, 3) := by decide +kernel
theorem dX8_republic_8 : decode cX8_republic 8 = .ok (.invokevirtual 88, 3) := by decide +kernel
theorem dX8_republic_11 : decode cX8_republic 11 = .ok (.istore_n 1, 1) := by decide +kernel
theorem dX8_republic_12 : decode cX8_republic 12 = .ok (.iload_n 1, 1) := by decide +kernel
theorem dX8_republic_13 : decode cX8_republic 13 = .ok (.ifCond .ge 5, 3) := by decide +kernel
theorem dX8_republic_16 : decode cX8_republic 16 = .ok (.iload_n 1, 1) := by decide +kernel
theorem dX8_republic_17 : decode cX8_republic 17 = .ok (.ireturn, 1) := by decide +kernel
theorem dX8_republic_18 : decode cX8_republic 18 = .ok (.aload_n 0, 1) := by decide +kernel
theorem dX8_republic_19 : decode cX8_republic 19 = .ok (.getfield 26, 3) := by decide +kernel
theorem dX8_republic_22 : decode cX8_republic 22 = .ok (.aload_n 0, 1) := by decide +kernel
theorem dX8_republic_23 : decode cX8_republic 23 = .ok (.getfield 19, 3) := by decide +kernel
theorem dX8_republic_26 : decode cX8_republic 26 = .ok (.getfield 92, 3) := by decide +kernel
theorem dX8_republic_29 : decode cX8_republic 29 = .ok (.invokevirtual 95, 3) := by decide +kernel
theorem dX8_republic_32 : decode cX8_republic 32 = .ok (.aload_n 0, 1) := by decide +kernel
theorem dX8_republic_33 : decode cX8_republic 33 = .ok (.getfield 33, 3) := by decide +kernel
theorem dX8_republic_36 : decode cX8_republic 36 = .ok (.iconst 0, 1) := by decide +kernel
theorem dX8_republic_37 : decode cX8_republic 37 = .ok (.putfield 99, 3) := by decide +kernel
theorem dX8_republic_40 : decode cX8_republic 40 = .ok (.aload_n 0, 1) := by decide +kernel
theorem dX8_republic_41 : decode cX8_republic 41 = .ok (.getfield 40, 3) := by decide +kernel
theorem dX8_republic_44 : decode cX8_republic 44 = .ok (.iconst 0, 1) := by decide +kernel
theorem dX8_republic_45 : decode cX8_republic 45 = .ok (.putfield 102, 3) := by decide +kernel
theorem dX8_republic_48 : decode cX8_republic 48 = .ok (.aload_n 0, 1) := by decide +kernel
theorem dX8_republic_49 : decode cX8_republic 49 = .ok (.getfield 44, 3) := by decide +kernel
theorem dX8_republic_52 : decode cX8_republic 52 = .ok (.iconst 0, 1) := by decide +kernel
theorem dX8_republic_53 : decode cX8_republic 53 = .ok (.putfield 102, 3) := by decide +kernel
theorem dX8_republic_56 : decode cX8_republic 56 = .ok (.iconst 0, 1) := by decide +kernel
theorem dX8_republic_57 : decode cX8_republic 57 = .ok (.istore_n 2, 1) := by decide +kernel
theorem dX8_republic_58 : decode cX8_republic 58 = .ok (.iload_n 2, 1) := by decide +kernel
theorem dX8_republic_59 : decode cX8_republic 59 = .ok (.iconst 2, 1) := by decide +kernel
theorem dX8_republic_60 : decode cX8_republic 60 = .ok (.if_icmp .ge 16, 3) := by decide +kernel
theorem dX8_republic_63 : decode cX8_republic 63 = .ok (.aload_n 0, 1) := by decide +kernel
theorem dX8_republic_64 : decode cX8_republic 64 = .ok (.getfield 67, 3) := by decide +kernel
theorem dX8_republic_67 : decode cX8_republic 67 = .ok (.iload_n 2, 1) := by decide +kernel
theorem dX8_republic_68 : decode cX8_republic 68 = .ok (.iconst 0, 1) := by decide +kernel
theorem dX8_republic_69 : decode cX8_republic 69 = .ok (.bastore, 1) := by decide +kernel
theorem dX8_republic_70 : decode cX8_republic 70 = .ok (.iinc 2 1, 3) := by decide +kernel
theorem dX8_republic_73 : decode cX8_republic 73 = .ok (.goto (-15), 3) := by decide +kernel
theorem dX8_republic_76 : decode cX8_republic 76 = .ok (.aload_n 0, 1) := by decide +kernel
theorem dX8_republic_77 : decode cX8_republic 77 = .ok (.getfield 10, 3) := by decide +kernel
theorem dX8_republic_80 : decode cX8_republic 80 = .ok (.iconst 0, 1) := by decide +kernel
theorem dX8_republic_81 : decode cX8_republic 81 = .ok (.putfield 80, 3) := by decide +kernel
theorem dX8_republic_84 : decode cX8_republic 84 = .ok (.iload_n 1, 1) := by decide +kernel
theorem dX8_republic_85 : decode cX8_republic 85 = .ok (.ireturn, 1) := by decide +kernel
theorem dX8_person_0 : decode cX8_person 0 = .ok (.aload_n 0, 1) := by decide +kernel
theorem dX8_person_1 : decode cX8_person 1 = .ok (.getfield 26, 3) := by decide +kernel
theorem dX8_person_4 : decode cX8_person 4 = .ok (.iload_n 1, 1) := by decide +kernel
theorem dX8_person_5 : decode cX8_person 5 = .ok (.invokevirtual 103, 3) := by decide +kernel
theorem dX8_person_8 : decode cX8_person 8 = .ok (.ifCond .ne 5, 3) := by decide +kernel
theorem dX8_person_11 : decode cX8_person 11 = .ok (.iconst (-1), 1) := by decide +kernel
theorem dX8_person_12 : decode cX8_person 12 = .ok (.ireturn, 1) := by decide +kernel
theorem dX8_person_13 : decode cX8_person 13 = .ok (.iload_n 2, 1) := by decide +kernel
theorem dX8_person_14 : decode cX8_person 14 = .ok (.tableswitch 140 0 7 #[46, 59, 72, 82, 97, 109, 122, 131], 46) := by decide +kernel
theorem dX8_person_60 : decode cX8_person 60 = .ok (.aload_n 0, 1) := by decide +kernel
theorem dX8_person_61 : decode cX8_person 61 = .ok (.getfield 26, 3) := by decide +kernel
theorem dX8_person_64 : decode cX8_person 64 = .ok (.getfield 107, 3) := by decide +kernel
theorem dX8_person_67 : decode cX8_person 67 = .ok (.getfield 111, 3) := by decide +kernel
theorem dX8_person_70 : decode cX8_person 70 = .ok (.iload_n 1, 1) := by decide +kernel
theorem dX8_person_71 : decode cX8_person 71 = .ok (.iaload, 1) := by decide +kernel
theorem dX8_person_72 : decode cX8_person 72 = .ok (.ireturn, 1) := by decide +kernel
theorem dX8_person_73 : decode cX8_person 73 = .ok (.aload_n 0, 1) := by decide +kernel
theorem dX8_person_74 : decode cX8_person 74 = .ok (.getfield 26, 3) := by decide +kernel
theorem dX8_person_77 : decode cX8_person 77 = .ok (.getfield 107, 3) := by decide +kernel
theorem dX8_person_80 : decode cX8_person 80 = .ok (.getfield 114, 3) := by decide +kernel
theorem dX8_person_83 : decode cX8_person 83 = .ok (.iload_n 1, 1) := by decide +kernel
theorem dX8_person_84 : decode cX8_person 84 = .ok (.iaload, 1) := by decide +kernel
theorem dX8_person_85 : decode cX8_person 85 = .ok (.ireturn, 1) := by decide +kernel
theorem dX8_person_86 : decode cX8_person 86 = .ok (.aload_n 0, 1) := by decide +kernel
theorem dX8_person_87 : decode cX8_person 87 = .ok (.getfield 26, 3) := by decide +kernel
theorem dX8_person_90 : decode cX8_person 90 = .ok (.getfield 117, 3) := by decide +kernel
theorem dX8_person_93 : decode cX8_person 93 = .ok (.iload_n 1, 1) := by decide +kernel
theorem dX8_person_94 : decode cX8_person 94 = .ok (.iaload, 1) := by decide +kernel
theorem dX8_person_95 : decode cX8_person 95 = .ok (.ireturn, 1) := by decide +kernel
theorem dX8_person_96 : decode cX8_person 96 = .ok (.aload_n 0, 1) := by decide +kernel
theorem dX8_person_97 : decode cX8_person 97 = .ok (.getfield 26, 3) := by decide +kernel
theorem dX8_person_100 : decode cX8_person 100 = .ok (.getfield 107, 3) := by decide +kernel
theorem dX8_person_103 : decode cX8_person 103 = .ok (.getfield 120, 3) := by decide +kernel
theorem dX8_person_106 : decode cX8_person 106 = .ok (.iload_n 1, 1) := by decide +kernel
theorem dX8_person_107 : decode cX8_person 107 = .ok (.invokestatic 123, 3) := by decide +kernel
theorem dX8_person_110 : decode cX8_person 110 = .ok (.ireturn, 1) := by decide +kernel
theorem dX8_person_111 : decode cX8_person 111 = .ok (.aload_n 0, 1) := by decide +kernel
theorem dX8_person_112 : decode cX8_person 112 = .ok (.getfield 26, 3) := by decide +kernel
theorem dX8_person_115 : decode cX8_person 115 = .ok (.invokevirtual 127, 3) := by decide +kernel
theorem dX8_person_118 : decode cX8_person 118 = .ok (.iload_n 1, 1) := by decide +kernel
theorem dX8_person_119 : decode cX8_person 119 = .ok (.invokestatic 123, 3) := by decide +kernel
theorem dX8_person_122 : decode cX8_person 122 = .ok (.ireturn, 1) := by decide +kernel
theorem dX8_person_123 : decode cX8_person 123 = .ok (.aload_n 0, 1) := by decide +kernel
theorem dX8_person_124 : decode cX8_person 124 = .ok (.getfield 26, 3) := by decide +kernel
theorem dX8_person_127 : decode cX8_person 127 = .ok (.getfield 107, 3) := by decide +kernel
theorem dX8_person_130 : decode cX8_person 130 = .ok (.getfield 131, 3) := by decide +kernel
theorem dX8_person_133 : decode cX8_person 133 = .ok (.iload_n 1, 1) := by decide +kernel
theorem dX8_person_134 : decode cX8_person 134 = .ok (.iaload, 1) := by decide +kernel
theorem dX8_person_135 : decode cX8_person 135 = .ok (.ireturn, 1) := by decide +kernel
theorem dX8_person_136 : decode cX8_person 136 = .ok (.aload_n 0, 1) := by decide +kernel
theorem dX8_person_137 : decode cX8_person 137 = .ok (.getfield 26, 3) := by decide +kernel
theorem dX8_person_140 : decode cX8_person 140 = .ok (.iload_n 1, 1) := by decide +kernel
theorem dX8_person_141 : decode cX8_person 141 = .ok (.invokevirtual 134, 3) := by decide +kernel
theorem dX8_person_144 : decode cX8_person 144 = .ok (.ireturn, 1) := by decide +kernel
theorem dX8_person_145 : decode cX8_person 145 = .ok (.aload_n 0, 1) := by decide +kernel
theorem dX8_person_146 : decode cX8_person 146 = .ok (.getfield 26, 3) := by decide +kernel
theorem dX8_person_149 : decode cX8_person 149 = .ok (.iload_n 1, 1) := by decide +kernel
theorem dX8_person_150 : decode cX8_person 150 = .ok (.invokevirtual 138, 3) := by decide +kernel
theorem dX8_person_153 : decode cX8_person 153 = .ok (.ireturn, 1) := by decide +kernel
theorem dX8_person_154 : decode cX8_person 154 = .ok (.iconst (-1), 1) := by decide +kernel
theorem dX8_person_155 : decode cX8_person 155 = .ok (.ireturn, 1) := by decide +kernel
theorem dX8_quarrels_0 : decode cX8_quarrels 0 = .ok (.aload_n 0, 1) := by decide +kernel
theorem dX8_quarrels_1 : decode cX8_quarrels 1 = .ok (.getfield 26, 3) := by decide +kernel
theorem dX8_quarrels_4 : decode cX8_quarrels 4 = .ok (.iload_n 1, 1) := by decide +kernel
theorem dX8_quarrels_5 : decode cX8_quarrels 5 = .ok (.invokevirtual 103, 3) := by decide +kernel
theorem dX8_quarrels_8 : decode cX8_quarrels 8 = .ok (.ifCond .eq 15, 3) := by decide +kernel
theorem dX8_quarrels_11 : decode cX8_quarrels 11 = .ok (.aload_n 0, 1) := by decide +kernel
theorem dX8_quarrels_12 : decode cX8_quarrels 12 = .ok (.getfield 26, 3) := by decide +kernel
theorem dX8_quarrels_15 : decode cX8_quarrels 15 = .ok (.getfield 141, 3) := by decide +kernel
theorem dX8_quarrels_18 : decode cX8_quarrels 18 = .ok (.iload_n 1, 1) := by decide +kernel
theorem dX8_quarrels_19 : decode cX8_quarrels 19 = .ok (.iaload, 1) := by decide +kernel
theorem dX8_quarrels_20 : decode cX8_quarrels 20 = .ok (.goto 4, 3) := by decide +kernel
theorem dX8_quarrels_23 : decode cX8_quarrels 23 = .ok (.iconst (-1), 1) := by decide +kernel
theorem dX8_quarrels_24 : decode cX8_quarrels 24 = .ok (.ireturn, 1) := by decide +kernel
theorem dX8_name_0 : decode cX8_name 0 = .ok (.aload_n 0, 1) := by decide +kernel
theorem dX8_name_1 : decode cX8_name 1 = .ok (.getfield 26, 3) := by decide +kernel
theorem dX8_name_4 : decode cX8_name 4 = .ok (.iload_n 1, 1) := by decide +kernel
theorem dX8_name_5 : decode cX8_name 5 = .ok (.invokevirtual 144, 3) := by decide +kernel
theorem dX8_name_8 : decode cX8_name 8 = .ok (.ifCond .ne 5, 3) := by decide +kernel
theorem dX8_name_11 : decode cX8_name 11 = .ok (.iconst (-1), 1) := by decide +kernel
theorem dX8_name_12 : decode cX8_name 12 = .ok (.ireturn, 1) := by decide +kernel
theorem dX8_name_13 : decode cX8_name 13 = .ok (.aload_n 0, 1) := by decide +kernel
theorem dX8_name_14 : decode cX8_name 14 = .ok (.getfield 26, 3) := by decide +kernel
theorem dX8_name_17 : decode cX8_name 17 = .ok (.iload_n 1, 1) := by decide +kernel
theorem dX8_name_18 : decode cX8_name 18 = .ok (.invokevirtual 147, 3) := by decide +kernel
theorem dX8_name_21 : decode cX8_name 21 = .ok (.istore_n 3, 1) := by decide +kernel
theorem dX8_name_22 : decode cX8_name 22 = .ok (.iconst 1, 1) := by decide +kernel
theorem dX8_name_23 : decode cX8_name 23 = .ok (.iload_n 3, 1) := by decide +kernel
theorem dX8_name_24 : decode cX8_name 24 = .ok (.invokestatic 150, 3) := by decide +kernel
theorem dX8_name_27 : decode cX8_name 27 = .ok (.invokestatic 155, 3) := by decide +kernel
theorem dX8_name_30 : decode cX8_name 30 = .ok (.istore 4, 2) := by decide +kernel
theorem dX8_name_32 : decode cX8_name 32 = .ok (.iload_n 2, 1) := by decide +kernel
theorem dX8_name_33 : decode cX8_name 33 = .ok (.tableswitch 57 0 2 #[27, 29, 43], 27) := by decide +kernel
theorem dX8_name_60 : decode cX8_name 60 = .ok (.iload_n 3, 1) := by decide +kernel
theorem dX8_name_61 : decode cX8_name 61 = .ok (.ireturn, 1) := by decide +kernel
theorem dX8_name_62 : decode cX8_name 62 = .ok (.aload_n 0, 1) := by decide +kernel
theorem dX8_name_63 : decode cX8_name 63 = .ok (.getfield 26, 3) := by decide +kernel
theorem dX8_name_66 : decode cX8_name 66 = .ok (.iload_n 3, 1) := by decide +kernel
theorem dX8_name_67 : decode cX8_name 67 = .ok (.invokevirtual 160, 3) := by decide +kernel
theorem dX8_name_70 : decode cX8_name 70 = .ok (.iload 4, 2) := by decide +kernel
theorem dX8_name_72 : decode cX8_name 72 = .ok (.invokestatic 163, 3) := by decide +kernel
theorem dX8_name_75 : decode cX8_name 75 = .ok (.ireturn, 1) := by decide +kernel
theorem dX8_name_76 : decode cX8_name 76 = .ok (.iload 4, 2) := by decide +kernel
theorem dX8_name_78 : decode cX8_name 78 = .ok (.aload_n 0, 1) := by decide +kernel
theorem dX8_name_79 : decode cX8_name 79 = .ok (.getfield 26, 3) := by decide +kernel
theorem dX8_name_82 : decode cX8_name 82 = .ok (.iload_n 3, 1) := by decide +kernel
theorem dX8_name_83 : decode cX8_name 83 = .ok (.invokevirtual 160, 3) := by decide +kernel
theorem dX8_name_86 : decode cX8_name 86 = .ok (.invokestatic 163, 3) := by decide +kernel
theorem dX8_name_89 : decode cX8_name 89 = .ok (.ireturn, 1) := by decide +kernel
theorem dX8_name_90 : decode cX8_name 90 = .ok (.iconst (-1), 1) := by decide +kernel
theorem dX8_name_91 : decode cX8_name 91 = .ok (.ireturn, 1) := by decide +kernel
theorem dX8_bill_0 : decode cX8_bill 0 = .ok (.iload_n 1, 1) := by decide +kernel
theorem dX8_bill_1 : decode cX8_bill 1 = .ok (.iconst 0, 1) := by decide +kernel
theorem dX8_bill_2 : decode cX8_bill 2 = .ok (.iconst 4, 1) := by decide +kernel
theorem dX8_bill_3 : decode cX8_bill 3 = .ok (.invokestatic 76, 3) := by decide +kernel
theorem dX8_bill_6 : decode cX8_bill 6 = .ok (.ifCond .ne 5, 3) := by decide +kernel
theorem dX8_bill_9 : decode cX8_bill 9 = .ok (.iconst (-1), 1) := by decide +kernel
theorem dX8_bill_10 : decode cX8_bill 10 = .ok (.ireturn, 1) := by decide +kernel
theorem dX8_bill_11 : decode cX8_bill 11 = .ok (.aload_n 0, 1) := by decide +kernel
theorem dX8_bill_12 : decode cX8_bill 12 = .ok (.getfield 26, 3) := by decide +kernel
theorem dX8_bill_15 : decode cX8_bill 15 = .ok (.getfield 107, 3) := by decide +kernel
theorem dX8_bill_18 : decode cX8_bill 18 = .ok (.getfield 166, 3) := by decide +kernel
theorem dX8_bill_21 : decode cX8_bill 21 = .ok (.istore_n 3, 1) := by decide +kernel
theorem dX8_bill_22 : decode cX8_bill 22 = .ok (.iload_n 2, 1) := by decide +kernel
theorem dX8_bill_23 : decode cX8_bill 23 = .ok (.tableswitch 82 0 3 #[29, 41, 53, 73], 29) := by decide +kernel
theorem dX8_bill_52 : decode cX8_bill 52 = .ok (.aload_n 0, 1) := by decide +kernel
theorem dX8_bill_53 : decode cX8_bill 53 = .ok (.getfield 26, 3) := by decide +kernel
theorem dX8_bill_56 : decode cX8_bill 56 = .ok (.iload_n 1, 1) := by decide +kernel
theorem dX8_bill_57 : decode cX8_bill 57 = .ok (.iload_n 3, 1) := by decide +kernel
theorem dX8_bill_58 : decode cX8_bill 58 = .ok (.bipush (-9), 2) := by decide +kernel
theorem dX8_bill_60 : decode cX8_bill 60 = .ok (.invokevirtual 169, 3) := by decide +kernel
theorem dX8_bill_63 : decode cX8_bill 63 = .ok (.ireturn, 1) := by decide +kernel
theorem dX8_bill_64 : decode cX8_bill 64 = .ok (.aload_n 0, 1) := by decide +kernel
theorem dX8_bill_65 : decode cX8_bill 65 = .ok (.getfield 26, 3) := by decide +kernel
theorem dX8_bill_68 : decode cX8_bill 68 = .ok (.iload_n 1, 1) := by decide +kernel
theorem dX8_bill_69 : decode cX8_bill 69 = .ok (.iload_n 3, 1) := by decide +kernel
theorem dX8_bill_70 : decode cX8_bill 70 = .ok (.bipush (-9), 2) := by decide +kernel
theorem dX8_bill_72 : decode cX8_bill 72 = .ok (.invokevirtual 173, 3) := by decide +kernel
theorem dX8_bill_75 : decode cX8_bill 75 = .ok (.ireturn, 1) := by decide +kernel
theorem dX8_bill_76 : decode cX8_bill 76 = .ok (.aload_n 0, 1) := by decide +kernel
theorem dX8_bill_77 : decode cX8_bill 77 = .ok (.getfield 26, 3) := by decide +kernel
theorem dX8_bill_80 : decode cX8_bill 80 = .ok (.iload_n 1, 1) := by decide +kernel
theorem dX8_bill_81 : decode cX8_bill 81 = .ok (.iload_n 3, 1) := by decide +kernel
theorem dX8_bill_82 : decode cX8_bill 82 = .ok (.bipush (-9), 2) := by decide +kernel
theorem dX8_bill_84 : decode cX8_bill 84 = .ok (.invokevirtual 176, 3) := by decide +kernel
theorem dX8_bill_87 : decode cX8_bill 87 = .ok (.ifCond .eq 7, 3) := by decide +kernel
theorem dX8_bill_90 : decode cX8_bill 90 = .ok (.iconst 1, 1) := by decide +kernel
theorem dX8_bill_91 : decode cX8_bill 91 = .ok (.goto 4, 3) := by decide +kernel
theorem dX8_bill_94 : decode cX8_bill 94 = .ok (.iconst 0, 1) := by decide +kernel
theorem dX8_bill_95 : decode cX8_bill 95 = .ok (.ireturn, 1) := by decide +kernel
theorem dX8_bill_96 : decode cX8_bill 96 = .ok (.aload_n 0, 1) := by decide +kernel
theorem dX8_bill_97 : decode cX8_bill 97 = .ok (.getfield 26, 3) := by decide +kernel
theorem dX8_bill_100 : decode cX8_bill 100 = .ok (.iload_n 1, 1) := by decide +kernel
theorem dX8_bill_101 : decode cX8_bill 101 = .ok (.invokevirtual 179, 3) := by decide +kernel
theorem dX8_bill_104 : decode cX8_bill 104 = .ok (.ireturn, 1) := by decide +kernel
theorem dX8_bill_105 : decode cX8_bill 105 = .ok (.iconst (-1), 1) := by decide +kernel
theorem dX8_bill_106 : decode cX8_bill 106 = .ok (.ireturn, 1) := by decide +kernel
theorem dX8_now_0 : decode cX8_now 0 = .ok (.iload_n 1, 1) := by decide +kernel
theorem dX8_now_1 : decode cX8_now 1 = .ok (.tableswitch 120 0 7 #[47, 58, 69, 80, 88, 96, 104, 112], 47) := by decide +kernel
theorem dX8_now_48 : decode cX8_now 48 = .ok (.aload_n 0, 1) := by decide +kernel
theorem dX8_now_49 : decode cX8_now 49 = .ok (.getfield 26, 3) := by decide +kernel
theorem dX8_now_52 : decode cX8_now 52 = .ok (.getfield 107, 3) := by decide +kernel
theorem dX8_now_55 : decode cX8_now 55 = .ok (.getfield 182, 3) := by decide +kernel
theorem dX8_now_58 : decode cX8_now 58 = .ok (.ireturn, 1) := by decide +kernel
theorem dX8_now_59 : decode cX8_now 59 = .ok (.aload_n 0, 1) := by decide +kernel
theorem dX8_now_60 : decode cX8_now 60 = .ok (.getfield 26, 3) := by decide +kernel
theorem dX8_now_63 : decode cX8_now 63 = .ok (.getfield 107, 3) := by decide +kernel
theorem dX8_now_66 : decode cX8_now 66 = .ok (.getfield 185, 3) := by decide +kernel
theorem dX8_now_69 : decode cX8_now 69 = .ok (.ireturn, 1) := by decide +kernel
theorem dX8_now_70 : decode cX8_now 70 = .ok (.aload_n 0, 1) := by decide +kernel
theorem dX8_now_71 : decode cX8_now 71 = .ok (.getfield 26, 3) := by decide +kernel
theorem dX8_now_74 : decode cX8_now 74 = .ok (.getfield 107, 3) := by decide +kernel
theorem dX8_now_77 : decode cX8_now 77 = .ok (.getfield 166, 3) := by decide +kernel
theorem dX8_now_80 : decode cX8_now 80 = .ok (.ireturn, 1) := by decide +kernel
theorem dX8_now_81 : decode cX8_now 81 = .ok (.aload_n 0, 1) := by decide +kernel
theorem dX8_now_82 : decode cX8_now 82 = .ok (.getfield 26, 3) := by decide +kernel
theorem dX8_now_85 : decode cX8_now 85 = .ok (.invokevirtual 127, 3) := by decide +kernel
theorem dX8_now_88 : decode cX8_now 88 = .ok (.ireturn, 1) := by decide +kernel
theorem dX8_now_89 : decode cX8_now 89 = .ok (.aload_n 0, 1) := by decide +kernel
theorem dX8_now_90 : decode cX8_now 90 = .ok (.getfield 26, 3) := by decide +kernel
theorem dX8_now_93 : decode cX8_now 93 = .ok (.invokevirtual 188, 3) := by decide +kernel
theorem dX8_now_96 : decode cX8_now 96 = .ok (.ireturn, 1) := by decide +kernel
theorem dX8_now_97 : decode cX8_now 97 = .ok (.aload_n 0, 1) := by decide +kernel
theorem dX8_now_98 : decode cX8_now 98 = .ok (.getfield 26, 3) := by decide +kernel
theorem dX8_now_101 : decode cX8_now 101 = .ok (.invokevirtual 191, 3) := by decide +kernel
theorem dX8_now_104 : decode cX8_now 104 = .ok (.ireturn, 1) := by decide +kernel
theorem dX8_now_105 : decode cX8_now 105 = .ok (.aload_n 0, 1) := by decide +kernel
theorem dX8_now_106 : decode cX8_now 106 = .ok (.getfield 26, 3) := by decide +kernel
theorem dX8_now_109 : decode cX8_now 109 = .ok (.invokevirtual 194, 3) := by decide +kernel
theorem dX8_now_112 : decode cX8_now 112 = .ok (.ireturn, 1) := by decide +kernel
theorem dX8_now_113 : decode cX8_now 113 = .ok (.aload_n 0, 1) := by decide +kernel
theorem dX8_now_114 : decode cX8_now 114 = .ok (.getfield 33, 3) := by decide +kernel
theorem dX8_now_117 : decode cX8_now 117 = .ok (.getfield 99, 3) := by decide +kernel
theorem dX8_now_120 : decode cX8_now 120 = .ok (.ireturn, 1) := by decide +kernel
theorem dX8_now_121 : decode cX8_now 121 = .ok (.iconst (-1), 1) := by decide +kernel
theorem dX8_now_122 : decode cX8_now 122 = .ok (.ireturn, 1) := by decide +kernel
theorem dX8_hurts_0 : decode cX8_hurts 0 = .ok (.aload_n 0, 1) := by decide +kernel
theorem dX8_hurts_1 : decode cX8_hurts 1 = .ok (.getfield 26, 3) := by decide +kernel
theorem dX8_hurts_4 : decode cX8_hurts 4 = .ok (.iload_n 1, 1) := by decide +kernel
theorem dX8_hurts_5 : decode cX8_hurts 5 = .ok (.invokevirtual 103, 3) := by decide +kernel
theorem dX8_hurts_8 : decode cX8_hurts 8 = .ok (.ifCond .eq 12, 3) := by decide +kernel
theorem dX8_hurts_11 : decode cX8_hurts 11 = .ok (.iload_n 2, 1) := by decide +kernel
theorem dX8_hurts_12 : decode cX8_hurts 12 = .ok (.iconst 0, 1) := by decide +kernel
theorem dX8_hurts_13 : decode cX8_hurts 13 = .ok (.iconst 1, 1) := by decide +kernel
theorem dX8_hurts_14 : decode cX8_hurts 14 = .ok (.invokestatic 76, 3) := by decide +kernel
theorem dX8_hurts_17 : decode cX8_hurts 17 = .ok (.ifCond .ne 5, 3) := by decide +kernel
theorem dX8_hurts_20 : decode cX8_hurts 20 = .ok (.iconst (-1), 1) := by decide +kernel
theorem dX8_hurts_21 : decode cX8_hurts 21 = .ok (.ireturn, 1) := by decide +kernel
theorem dX8_hurts_22 : decode cX8_hurts 22 = .ok (.aload_n 0, 1) := by decide +kernel
theorem dX8_hurts_23 : decode cX8_hurts 23 = .ok (.getfield 33, 3) := by decide +kernel
theorem dX8_hurts_26 : decode cX8_hurts 26 = .ok (.aload_n 0, 1) := by decide +kernel
theorem dX8_hurts_27 : decode cX8_hurts 27 = .ok (.getfield 26, 3) := by decide +kernel
theorem dX8_hurts_30 : decode cX8_hurts 30 = .ok (.getfield 107, 3) := by decide +kernel
theorem dX8_hurts_33 : decode cX8_hurts 33 = .ok (.invokevirtual 197, 3) := by decide +kernel
theorem dX8_hurts_36 : decode cX8_hurts 36 = .ok (.aload_n 0, 1) := by decide +kernel
theorem dX8_hurts_37 : decode cX8_hurts 37 = .ok (.getfield 26, 3) := by decide +kernel
theorem dX8_hurts_40 : decode cX8_hurts 40 = .ok (.getfield 107, 3) := by decide +kernel
theorem dX8_hurts_43 : decode cX8_hurts 43 = .ok (.getfield 120, 3) := by decide +kernel
theorem dX8_hurts_46 : decode cX8_hurts 46 = .ok (.iload_n 1, 1) := by decide +kernel
theorem dX8_hurts_47 : decode cX8_hurts 47 = .ok (.invokestatic 123, 3) := by decide +kernel
theorem dX8_hurts_50 : decode cX8_hurts 50 = .ok (.istore_n 3, 1) := by decide +kernel
theorem dX8_hurts_51 : decode cX8_hurts 51 = .ok (.aload_n 0, 1) := by decide +kernel
theorem dX8_hurts_52 : decode cX8_hurts 52 = .ok (.getfield 26, 3) := by decide +kernel
theorem dX8_hurts_55 : decode cX8_hurts 55 = .ok (.getfield 107, 3) := by decide +kernel
theorem dX8_hurts_58 : decode cX8_hurts 58 = .ok (.aload_n 0, 1) := by decide +kernel
theorem dX8_hurts_59 : decode cX8_hurts 59 = .ok (.getfield 26, 3) := by decide +kernel
theorem dX8_hurts_62 : decode cX8_hurts 62 = .ok (.getfield 107, 3) := by decide +kernel
theorem dX8_hurts_65 : decode cX8_hurts 65 = .ok (.getfield 120, 3) := by decide +kernel
theorem dX8_hurts_68 : decode cX8_hurts 68 = .ok (.iconst 1, 1) := by decide +kernel
theorem dX8_hurts_69 : decode cX8_hurts 69 = .ok (.iload_n 1, 1) := by decide +kernel
theorem dX8_hurts_70 : decode cX8_hurts 70 = .ok (.ishl, 1) := by decide +kernel
theorem dX8_hurts_71 : decode cX8_hurts 71 = .ok (.iconst (-1), 1) := by decide +kernel
theorem dX8_hurts_72 : decode cX8_hurts 72 = .ok (.ixor, 1) := by decide +kernel
theorem dX8_hurts_73 : decode cX8_hurts 73 = .ok (.iand, 1) := by decide +kernel
theorem dX8_hurts_74 : decode cX8_hurts 74 = .ok (.iload_n 2, 1) := by decide +kernel
theorem dX8_hurts_75 : decode cX8_hurts 75 = .ok (.iload_n 1, 1) := by decide +kernel
theorem dX8_hurts_76 : decode cX8_hurts 76 = .ok (.ishl, 1) := by decide +kernel
theorem dX8_hurts_77 : decode cX8_hurts 77 = .ok (.ior, 1) := by decide +kernel
theorem dX8_hurts_78 : decode cX8_hurts 78 = .ok (.putfield 120, 3) := by decide +kernel
theorem dX8_hurts_81 : decode cX8_hurts 81 = .ok (.iload_n 3, 1) := by decide +kernel
theorem dX8_hurts_82 : decode cX8_hurts 82 = .ok (.ireturn, 1) := by decide +kernel
theorem dX8_deeds_0 : decode cX8_deeds 0 = .ok (.aload_n 0, 1) := by decide +kernel
theorem dX8_deeds_1 : decode cX8_deeds 1 = .ok (.getfield 26, 3) := by decide +kernel
theorem dX8_deeds_4 : decode cX8_deeds 4 = .ok (.iload_n 1, 1) := by decide +kernel
theorem dX8_deeds_5 : decode cX8_deeds 5 = .ok (.invokevirtual 103, 3) := by decide +kernel
theorem dX8_deeds_8 : decode cX8_deeds 8 = .ok (.ifCond .ne 5, 3) := by decide +kernel
theorem dX8_deeds_11 : decode cX8_deeds 11 = .ok (.iconst (-1), 1) := by decide +kernel
theorem dX8_deeds_12 : decode cX8_deeds 12 = .ok (.ireturn, 1) := by decide +kernel
theorem dX8_deeds_13 : decode cX8_deeds 13 = .ok (.aload_n 0, 1) := by decide +kernel
theorem dX8_deeds_14 : decode cX8_deeds 14 = .ok (.getfield 26, 3) := by decide +kernel
theorem dX8_deeds_17 : decode cX8_deeds 17 = .ok (.getfield 107, 3) := by decide +kernel
theorem dX8_deeds_20 : decode cX8_deeds 20 = .ok (.getfield 131, 3) := by decide +kernel
theorem dX8_deeds_23 : decode cX8_deeds 23 = .ok (.iload_n 1, 1) := by decide +kernel
theorem dX8_deeds_24 : decode cX8_deeds 24 = .ok (.iaload, 1) := by decide +kernel
theorem dX8_deeds_25 : decode cX8_deeds 25 = .ok (.bipush 99, 2) := by decide +kernel
theorem dX8_deeds_27 : decode cX8_deeds 27 = .ok (.if_icmp .lt 6, 3) := by decide +kernel
theorem dX8_deeds_30 : decode cX8_deeds 30 = .ok (.bipush (-2), 2) := by decide +kernel
theorem dX8_deeds_32 : decode cX8_deeds 32 = .ok (.ireturn, 1) := by decide +kernel
theorem dX8_deeds_33 : decode cX8_deeds 33 = .ok (.aload_n 0, 1) := by decide +kernel
theorem dX8_deeds_34 : decode cX8_deeds 34 = .ok (.getfield 33, 3) := by decide +kernel
theorem dX8_deeds_37 : decode cX8_deeds 37 = .ok (.aload_n 0, 1) := by decide +kernel
theorem dX8_deeds_38 : decode cX8_deeds 38 = .ok (.getfield 26, 3) := by decide +kernel
theorem dX8_deeds_41 : decode cX8_deeds 41 = .ok (.getfield 107, 3) := by decide +kernel
theorem dX8_deeds_44 : decode cX8_deeds 44 = .ok (.invokevirtual 197, 3) := by decide +kernel
theorem dX8_deeds_47 : decode cX8_deeds 47 = .ok (.aload_n 0, 1) := by decide +kernel
theorem dX8_deeds_48 : decode cX8_deeds 48 = .ok (.getfield 26, 3) := by decide +kernel
theorem dX8_deeds_51 : decode cX8_deeds 51 = .ok (.getfield 107, 3) := by decide +kernel
theorem dX8_deeds_54 : decode cX8_deeds 54 = .ok (.getfield 131, 3) := by decide +kernel
theorem dX8_deeds_57 : decode cX8_deeds 57 = .ok (.iload_n 1, 1) := by decide +kernel
theorem dX8_deeds_58 : decode cX8_deeds 58 = .ok (.dup2, 1) := by decide +kernel
theorem dX8_deeds_59 : decode cX8_deeds 59 = .ok (.iaload, 1) := by decide +kernel
theorem dX8_deeds_60 : decode cX8_deeds 60 = .ok (.iconst 1, 1) := by decide +kernel
theorem dX8_deeds_61 : decode cX8_deeds 61 = .ok (.iadd, 1) := by decide +kernel
theorem dX8_deeds_62 : decode cX8_deeds 62 = .ok (.iastore, 1) := by decide +kernel
theorem dX8_deeds_63 : decode cX8_deeds 63 = .ok (.aload_n 0, 1) := by decide +kernel
theorem dX8_deeds_64 : decode cX8_deeds 64 = .ok (.getfield 26, 3) := by decide +kernel
theorem dX8_deeds_67 : decode cX8_deeds 67 = .ok (.iload_n 1, 1) := by decide +kernel
theorem dX8_deeds_68 : decode cX8_deeds 68 = .ok (.invokevirtual 134, 3) := by decide +kernel
theorem dX8_deeds_71 : decode cX8_deeds 71 = .ok (.ireturn, 1) := by decide +kernel
theorem dX8_earns_0 : decode cX8_earns 0 = .ok (.aload_n 0, 1) := by decide +kernel
theorem dX8_earns_1 : decode cX8_earns 1 = .ok (.getfield 26, 3) := by decide +kernel
theorem dX8_earns_4 : decode cX8_earns 4 = .ok (.iload_n 1, 1) := by decide +kernel
theorem dX8_earns_5 : decode cX8_earns 5 = .ok (.invokevirtual 103, 3) := by decide +kernel
theorem dX8_earns_8 : decode cX8_earns 8 = .ok (.ifCond .eq 14, 3) := by decide +kernel
theorem dX8_earns_11 : decode cX8_earns 11 = .ok (.iload_n 2, 1) := by decide +kernel
theorem dX8_earns_12 : decode cX8_earns 12 = .ok (.bipush (-99), 2) := by decide +kernel
theorem dX8_earns_14 : decode cX8_earns 14 = .ok (.bipush 99, 2) := by decide +kernel
theorem dX8_earns_16 : decode cX8_earns 16 = .ok (.invokestatic 76, 3) := by decide +kernel
theorem dX8_earns_19 : decode cX8_earns 19 = .ok (.ifCond .ne 5, 3) := by decide +kernel
theorem dX8_earns_22 : decode cX8_earns 22 = .ok (.iconst (-1), 1) := by decide +kernel
theorem dX8_earns_23 : decode cX8_earns 23 = .ok (.ireturn, 1) := by decide +kernel
theorem dX8_earns_24 : decode cX8_earns 24 = .ok (.aload_n 0, 1) := by decide +kernel
theorem dX8_earns_25 : decode cX8_earns 25 = .ok (.getfield 33, 3) := by decide +kernel
theorem dX8_earns_28 : decode cX8_earns 28 = .ok (.aload_n 0, 1) := by decide +kernel
theorem dX8_earns_29 : decode cX8_earns 29 = .ok (.getfield 26, 3) := by decide +kernel
theorem dX8_earns_32 : decode cX8_earns 32 = .ok (.getfield 107, 3) := by decide +kernel
theorem dX8_earns_35 : decode cX8_earns 35 = .ok (.invokevirtual 197, 3) := by decide +kernel
theorem dX8_earns_38 : decode cX8_earns 38 = .ok (.aload_n 0, 1) := by decide +kernel
theorem dX8_earns_39 : decode cX8_earns 39 = .ok (.getfield 26, 3) := by decide +kernel
theorem dX8_earns_42 : decode cX8_earns 42 = .ok (.getfield 107, 3) := by decide +kernel
theorem dX8_earns_45 : decode cX8_earns 45 = .ok (.getfield 114, 3) := by decide +kernel
theorem dX8_earns_48 : decode cX8_earns 48 = .ok (.iload_n 1, 1) := by decide +kernel
theorem dX8_earns_49 : decode cX8_earns 49 = .ok (.iconst 0, 1) := by decide +kernel
theorem dX8_earns_50 : decode cX8_earns 50 = .ok (.sipush 999, 3) := by decide +kernel
theorem dX8_earns_53 : decode cX8_earns 53 = .ok (.aload_n 0, 1) := by decide +kernel
theorem dX8_earns_54 : decode cX8_earns 54 = .ok (.getfield 26, 3) := by decide +kernel
theorem dX8_earns_57 : decode cX8_earns 57 = .ok (.getfield 107, 3) := by decide +kernel
theorem dX8_earns_60 : decode cX8_earns 60 = .ok (.getfield 114, 3) := by decide +kernel
theorem dX8_earns_63 : decode cX8_earns 63 = .ok (.iload_n 1, 1) := by decide +kernel
theorem dX8_earns_64 : decode cX8_earns 64 = .ok (.iaload, 1) := by decide +kernel
theorem dX8_earns_65 : decode cX8_earns 65 = .ok (.iload_n 2, 1) := by decide +kernel
theorem dX8_earns_66 : decode cX8_earns 66 = .ok (.iadd, 1) := by decide +kernel
theorem dX8_earns_67 : decode cX8_earns 67 = .ok (.invokestatic 201, 3) := by decide +kernel
theorem dX8_earns_70 : decode cX8_earns 70 = .ok (.invokestatic 155, 3) := by decide +kernel
theorem dX8_earns_73 : decode cX8_earns 73 = .ok (.iastore, 1) := by decide +kernel
theorem dX8_earns_74 : decode cX8_earns 74 = .ok (.aload_n 0, 1) := by decide +kernel
theorem dX8_earns_75 : decode cX8_earns 75 = .ok (.getfield 26, 3) := by decide +kernel
theorem dX8_earns_78 : decode cX8_earns 78 = .ok (.getfield 107, 3) := by decide +kernel
theorem dX8_earns_81 : decode cX8_earns 81 = .ok (.getfield 114, 3) := by decide +kernel
theorem dX8_earns_84 : decode cX8_earns 84 = .ok (.iload_n 1, 1) := by decide +kernel
theorem dX8_earns_85 : decode cX8_earns 85 = .ok (.iaload, 1) := by decide +kernel
theorem dX8_earns_86 : decode cX8_earns 86 = .ok (.ireturn, 1) := by decide +kernel
theorem dX8_names_0 : decode cX8_names 0 = .ok (.aload_n 0, 1) := by decide +kernel
theorem dX8_names_1 : decode cX8_names 1 = .ok (.getfield 26, 3) := by decide +kernel
theorem dX8_names_4 : decode cX8_names 4 = .ok (.iload_n 1, 1) := by decide +kernel
theorem dX8_names_5 : decode cX8_names 5 = .ok (.invokevirtual 103, 3) := by decide +kernel
theorem dX8_names_8 : decode cX8_names 8 = .ok (.ifCond .eq 14, 3) := by decide +kernel
theorem dX8_names_11 : decode cX8_names 11 = .ok (.aload_n 0, 1) := by decide +kernel
theorem dX8_names_12 : decode cX8_names 12 = .ok (.getfield 26, 3) := by decide +kernel
theorem dX8_names_15 : decode cX8_names 15 = .ok (.iload_n 2, 1) := by decide +kernel
theorem dX8_names_16 : decode cX8_names 16 = .ok (.invokevirtual 144, 3) := by decide +kernel
theorem dX8_names_19 : decode cX8_names 19 = .ok (.ifCond .ne 5, 3) := by decide +kernel
theorem dX8_names_22 : decode cX8_names 22 = .ok (.iconst (-1), 1) := by decide +kernel
theorem dX8_names_23 : decode cX8_names 23 = .ok (.ireturn, 1) := by decide +kernel
theorem dX8_names_24 : decode cX8_names 24 = .ok (.aload_n 0, 1) := by decide +kernel
theorem dX8_names_25 : decode cX8_names 25 = .ok (.getfield 33, 3) := by decide +kernel
theorem dX8_names_28 : decode cX8_names 28 = .ok (.aload_n 0, 1) := by decide +kernel
theorem dX8_names_29 : decode cX8_names 29 = .ok (.getfield 26, 3) := by decide +kernel
theorem dX8_names_32 : decode cX8_names 32 = .ok (.getfield 107, 3) := by decide +kernel
theorem dX8_names_35 : decode cX8_names 35 = .ok (.invokevirtual 197, 3) := by decide +kernel
theorem dX8_names_38 : decode cX8_names 38 = .ok (.aload_n 0, 1) := by decide +kernel
theorem dX8_names_39 : decode cX8_names 39 = .ok (.getfield 26, 3) := by decide +kernel
theorem dX8_names_42 : decode cX8_names 42 = .ok (.getfield 107, 3) := by decide +kernel
theorem dX8_names_45 : decode cX8_names 45 = .ok (.getfield 111, 3) := by decide +kernel
theorem dX8_names_48 : decode cX8_names 48 = .ok (.iload_n 1, 1) := by decide +kernel
theorem dX8_names_49 : decode cX8_names 49 = .ok (.iaload, 1) := by decide +kernel
theorem dX8_names_50 : decode cX8_names 50 = .ok (.istore_n 3, 1) := by decide +kernel
theorem dX8_names_51 : decode cX8_names 51 = .ok (.aload_n 0, 1) := by decide +kernel
theorem dX8_names_52 : decode cX8_names 52 = .ok (.getfield 26, 3) := by decide +kernel
theorem dX8_names_55 : decode cX8_names 55 = .ok (.getfield 107, 3) := by decide +kernel
theorem dX8_names_58 : decode cX8_names 58 = .ok (.getfield 111, 3) := by decide +kernel
theorem dX8_names_61 : decode cX8_names 61 = .ok (.iload_n 1, 1) := by decide +kernel
theorem dX8_names_62 : decode cX8_names 62 = .ok (.iload_n 2, 1) := by decide +kernel
theorem dX8_names_63 : decode cX8_names 63 = .ok (.iastore, 1) := by decide +kernel
theorem dX8_names_64 : decode cX8_names 64 = .ok (.iload_n 3, 1) := by decide +kernel
theorem dX8_names_65 : decode cX8_names 65 = .ok (.ireturn, 1) := by decide +kernel
theorem dX8_laws_0 : decode cX8_laws 0 = .ok (.iload_n 1, 1) := by decide +kernel
theorem dX8_laws_1 : decode cX8_laws 1 = .ok (.iconst 0, 1) := by decide +kernel
theorem dX8_laws_2 : decode cX8_laws 2 = .ok (.bipush 15, 2) := by decide +kernel
theorem dX8_laws_4 : decode cX8_laws 4 = .ok (.invokestatic 76, 3) := by decide +kernel
theorem dX8_laws_7 : decode cX8_laws 7 = .ok (.ifCond .ne 5, 3) := by decide +kernel
theorem dX8_laws_10 : decode cX8_laws 10 = .ok (.iconst (-1), 1) := by decide +kernel
theorem dX8_laws_11 : decode cX8_laws 11 = .ok (.ireturn, 1) := by decide +kernel
theorem dX8_laws_12 : decode cX8_laws 12 = .ok (.aload_n 0, 1) := by decide +kernel
theorem dX8_laws_13 : decode cX8_laws 13 = .ok (.getfield 33, 3) := by decide +kernel
theorem dX8_laws_16 : decode cX8_laws 16 = .ok (.aload_n 0, 1) := by decide +kernel
theorem dX8_laws_17 : decode cX8_laws 17 = .ok (.getfield 26, 3) := by decide +kernel
theorem dX8_laws_20 : decode cX8_laws 20 = .ok (.getfield 107, 3) := by decide +kernel
theorem dX8_laws_23 : decode cX8_laws 23 = .ok (.invokevirtual 197, 3) := by decide +kernel
theorem dX8_laws_26 : decode cX8_laws 26 = .ok (.aload_n 0, 1) := by decide +kernel
theorem dX8_laws_27 : decode cX8_laws 27 = .ok (.getfield 26, 3) := by decide +kernel
theorem dX8_laws_30 : decode cX8_laws 30 = .ok (.getfield 107, 3) := by decide +kernel
theorem dX8_laws_33 : decode cX8_laws 33 = .ok (.getfield 166, 3) := by decide +kernel
theorem dX8_laws_36 : decode cX8_laws 36 = .ok (.istore_n 2, 1) := by decide +kernel
theorem dX8_laws_37 : decode cX8_laws 37 = .ok (.aload_n 0, 1) := by decide +kernel
theorem dX8_laws_38 : decode cX8_laws 38 = .ok (.getfield 26, 3) := by decide +kernel
theorem dX8_laws_41 : decode cX8_laws 41 = .ok (.getfield 107, 3) := by decide +kernel
theorem dX8_laws_44 : decode cX8_laws 44 = .ok (.iload_n 1, 1) := by decide +kernel
theorem dX8_laws_45 : decode cX8_laws 45 = .ok (.putfield 166, 3) := by decide +kernel
theorem dX8_laws_48 : decode cX8_laws 48 = .ok (.iload_n 2, 1) := by decide +kernel
theorem dX8_laws_49 : decode cX8_laws 49 = .ok (.ireturn, 1) := by decide +kernel
theorem dX8_year_0 : decode cX8_year 0 = .ok (.aload_n 0, 1) := by decide +kernel
theorem dX8_year_1 : decode cX8_year 1 = .ok (.getfield 26, 3) := by decide +kernel
theorem dX8_year_4 : decode cX8_year 4 = .ok (.getfield 107, 3) := by decide +kernel
theorem dX8_year_7 : decode cX8_year 7 = .ok (.getfield 182, 3) := by decide +kernel
theorem dX8_year_10 : decode cX8_year 10 = .ok (.sipush 999, 3) := by decide +kernel
theorem dX8_year_13 : decode cX8_year 13 = .ok (.if_icmp .lt 6, 3) := by decide +kernel
theorem dX8_year_16 : decode cX8_year 16 = .ok (.bipush (-2), 2) := by decide +kernel
theorem dX8_year_18 : decode cX8_year 18 = .ok (.ireturn, 1) := by decide +kernel
theorem dX8_year_19 : decode cX8_year 19 = .ok (.aload_n 0, 1) := by decide +kernel
theorem dX8_year_20 : decode cX8_year 20 = .ok (.getfield 33, 3) := by decide +kernel
theorem dX8_year_23 : decode cX8_year 23 = .ok (.aload_n 0, 1) := by decide +kernel
theorem dX8_year_24 : decode cX8_year 24 = .ok (.getfield 26, 3) := by decide +kernel
theorem dX8_year_27 : decode cX8_year 27 = .ok (.getfield 107, 3) := by decide +kernel
theorem dX8_year_30 : decode cX8_year 30 = .ok (.invokevirtual 197, 3) := by decide +kernel
theorem dX8_year_33 : decode cX8_year 33 = .ok (.aload_n 0, 1) := by decide +kernel
theorem dX8_year_34 : decode cX8_year 34 = .ok (.getfield 26, 3) := by decide +kernel
theorem dX8_year_37 : decode cX8_year 37 = .ok (.invokevirtual 204, 3) := by decide +kernel
theorem dX8_year_40 : decode cX8_year 40 = .ok (.ireturn, 1) := by decide +kernel
theorem dX8_undo_0 : decode cX8_undo 0 = .ok (.aload_n 0, 1) := by decide +kernel
theorem dX8_undo_1 : decode cX8_undo 1 = .ok (.getfield 33, 3) := by decide +kernel
theorem dX8_undo_4 : decode cX8_undo 4 = .ok (.getfield 99, 3) := by decide +kernel
theorem dX8_undo_7 : decode cX8_undo 7 = .ok (.ifCond .gt 6, 3) := by decide +kernel
theorem dX8_undo_10 : decode cX8_undo 10 = .ok (.bipush (-2), 2) := by decide +kernel
theorem dX8_undo_12 : decode cX8_undo 12 = .ok (.ireturn, 1) := by decide +kernel
theorem dX8_undo_13 : decode cX8_undo 13 = .ok (.aload_n 0, 1) := by decide +kernel
theorem dX8_undo_14 : decode cX8_undo 14 = .ok (.getfield 33, 3) := by decide +kernel
theorem dX8_undo_17 : decode cX8_undo 17 = .ok (.aload_n 0, 1) := by decide +kernel
theorem dX8_undo_18 : decode cX8_undo 18 = .ok (.getfield 26, 3) := by decide +kernel
theorem dX8_undo_21 : decode cX8_undo 21 = .ok (.getfield 107, 3) := by decide +kernel
theorem dX8_undo_24 : decode cX8_undo 24 = .ok (.invokevirtual 207, 3) := by decide +kernel
theorem dX8_undo_27 : decode cX8_undo 27 = .ok (.aload_n 0, 1) := by decide +kernel
theorem dX8_undo_28 : decode cX8_undo 28 = .ok (.getfield 33, 3) := by decide +kernel
theorem dX8_undo_31 : decode cX8_undo 31 = .ok (.getfield 99, 3) := by decide +kernel
theorem dX8_undo_34 : decode cX8_undo 34 = .ok (.ireturn, 1) := by decide +kernel
theorem dX8_apart_0 : decode cX8_apart 0 = .ok (.iload_n 1, 1) := by decide +kernel
theorem dX8_apart_1 : decode cX8_apart 1 = .ok (.iconst (-1), 1) := by decide +kernel
theorem dX8_apart_2 : decode cX8_apart 2 = .ok (.if_icmp .eq 16, 3) := by decide +kernel
theorem dX8_apart_5 : decode cX8_apart 5 = .ok (.aload_n 0, 1) := by decide +kernel
theorem dX8_apart_6 : decode cX8_apart 6 = .ok (.getfield 26, 3) := by decide +kernel
theorem dX8_apart_9 : decode cX8_apart 9 = .ok (.iload_n 1, 1) := by decide +kernel
theorem dX8_apart_10 : decode cX8_apart 10 = .ok (.invokevirtual 103, 3) := by decide +kernel
theorem dX8_apart_13 : decode cX8_apart 13 = .ok (.ifCond .ne 5, 3) := by decide +kernel
theorem dX8_apart_16 : decode cX8_apart 16 = .ok (.iconst (-1), 1) := by decide +kernel
theorem dX8_apart_17 : decode cX8_apart 17 = .ok (.ireturn, 1) := by decide +kernel
theorem dX8_apart_18 : decode cX8_apart 18 = .ok (.aload_n 0, 1) := by decide +kernel
theorem dX8_apart_19 : decode cX8_apart 19 = .ok (.getfield 50, 3) := by decide +kernel
theorem dX8_apart_22 : decode cX8_apart 22 = .ok (.aload_n 0, 1) := by decide +kernel
theorem dX8_apart_23 : decode cX8_apart 23 = .ok (.getfield 26, 3) := by decide +kernel
theorem dX8_apart_26 : decode cX8_apart 26 = .ok (.invokevirtual 210, 3) := by decide +kernel
theorem dX8_apart_29 : decode cX8_apart 29 = .ok (.aload_n 0, 1) := by decide +kernel
theorem dX8_apart_30 : decode cX8_apart 30 = .ok (.getfield 50, 3) := by decide +kernel
theorem dX8_apart_33 : decode cX8_apart 33 = .ok (.invokevirtual 213, 3) := by decide +kernel
theorem dX8_apart_36 : decode cX8_apart 36 = .ok (.ifCond .ne 6, 3) := by decide +kernel
theorem dX8_apart_39 : decode cX8_apart 39 = .ok (.bipush (-9), 2) := by decide +kernel
theorem dX8_apart_41 : decode cX8_apart 41 = .ok (.ireturn, 1) := by decide +kernel
theorem dX8_apart_42 : decode cX8_apart 42 = .ok (.iload_n 1, 1) := by decide +kernel
theorem dX8_apart_43 : decode cX8_apart 43 = .ok (.iconst (-1), 1) := by decide +kernel
theorem dX8_apart_44 : decode cX8_apart 44 = .ok (.if_icmp .ne 13, 3) := by decide +kernel
theorem dX8_apart_47 : decode cX8_apart 47 = .ok (.aload_n 0, 1) := by decide +kernel
theorem dX8_apart_48 : decode cX8_apart 48 = .ok (.getfield 50, 3) := by decide +kernel
theorem dX8_apart_51 : decode cX8_apart 51 = .ok (.getfield 217, 3) := by decide +kernel
theorem dX8_apart_54 : decode cX8_apart 54 = .ok (.goto 12, 3) := by decide +kernel
theorem dX8_apart_57 : decode cX8_apart 57 = .ok (.aload_n 0, 1) := by decide +kernel
theorem dX8_apart_58 : decode cX8_apart 58 = .ok (.getfield 50, 3) := by decide +kernel
theorem dX8_apart_61 : decode cX8_apart 61 = .ok (.getfield 220, 3) := by decide +kernel
theorem dX8_apart_64 : decode cX8_apart 64 = .ok (.iload_n 1, 1) := by decide +kernel
theorem dX8_apart_65 : decode cX8_apart 65 = .ok (.iaload, 1) := by decide +kernel
theorem dX8_apart_66 : decode cX8_apart 66 = .ok (.ireturn, 1) := by decide +kernel
theorem dX8_cheapest_0 : decode cX8_cheapest 0 = .ok (.aload_n 0, 1) := by decide +kernel
theorem dX8_cheapest_1 : decode cX8_cheapest 1 = .ok (.getfield 26, 3) := by decide +kernel
theorem dX8_cheapest_4 : decode cX8_cheapest 4 = .ok (.iload_n 1, 1) := by decide +kernel
theorem dX8_cheapest_5 : decode cX8_cheapest 5 = .ok (.invokevirtual 103, 3) := by decide +kernel
theorem dX8_cheapest_8 : decode cX8_cheapest 8 = .ok (.ifCond .eq 14, 3) := by decide +kernel
theorem dX8_cheapest_11 : decode cX8_cheapest 11 = .ok (.aload_n 0, 1) := by decide +kernel
theorem dX8_cheapest_12 : decode cX8_cheapest 12 = .ok (.getfield 26, 3) := by decide +kernel
theorem dX8_cheapest_15 : decode cX8_cheapest 15 = .ok (.iload_n 1, 1) := by decide +kernel
theorem dX8_cheapest_16 : decode cX8_cheapest 16 = .ok (.invokevirtual 223, 3) := by decide +kernel
theorem dX8_cheapest_19 : decode cX8_cheapest 19 = .ok (.goto 4, 3) := by decide +kernel
theorem dX8_cheapest_22 : decode cX8_cheapest 22 = .ok (.iconst (-1), 1) := by decide +kernel
theorem dX8_cheapest_23 : decode cX8_cheapest 23 = .ok (.ireturn, 1) := by decide +kernel
theorem dX8_tells_0 : decode cX8_tells 0 = .ok (.aload_n 0, 1) := by decide +kernel
theorem dX8_tells_1 : decode cX8_tells 1 = .ok (.getfield 26, 3) := by decide +kernel
theorem dX8_tells_4 : decode cX8_tells 4 = .ok (.iload_n 1, 1) := by decide +kernel
theorem dX8_tells_5 : decode cX8_tells 5 = .ok (.invokevirtual 103, 3) := by decide +kernel
theorem dX8_tells_8 : decode cX8_tells 8 = .ok (.ifCond .eq 12, 3) := by decide +kernel
theorem dX8_tells_11 : decode cX8_tells 11 = .ok (.iload_n 2, 1) := by decide +kernel
theorem dX8_tells_12 : decode cX8_tells 12 = .ok (.iconst 0, 1) := by decide +kernel
theorem dX8_tells_13 : decode cX8_tells 13 = .ok (.iconst 1, 1) := by decide +kernel
theorem dX8_tells_14 : decode cX8_tells 14 = .ok (.invokestatic 76, 3) := by decide +kernel
theorem dX8_tells_17 : decode cX8_tells 17 = .ok (.ifCond .ne 5, 3) := by decide +kernel
theorem dX8_tells_20 : decode cX8_tells 20 = .ok (.iconst (-1), 1) := by decide +kernel
theorem dX8_tells_21 : decode cX8_tells 21 = .ok (.ireturn, 1) := by decide +kernel
theorem dX8_tells_22 : decode cX8_tells 22 = .ok (.aload_n 0, 1) := by decide +kernel
theorem dX8_tells_23 : decode cX8_tells 23 = .ok (.getfield 40, 3) := by decide +kernel
theorem dX8_tells_26 : decode cX8_tells 26 = .ok (.iload_n 1, 1) := by decide +kernel
theorem dX8_tells_27 : decode cX8_tells 27 = .ok (.iload_n 2, 1) := by decide +kernel
theorem dX8_tells_28 : decode cX8_tells 28 = .ok (.invokevirtual 226, 3) := by decide +kernel
theorem dX8_tells_31 : decode cX8_tells 31 = .ok (.ireturn, 1) := by decide +kernel
theorem dX8_record_0 : decode cX8_record 0 = .ok (.iload_n 1, 1) := by decide +kernel
theorem dX8_record_1 : decode cX8_record 1 = .ok (.iconst 0, 1) := by decide +kernel
theorem dX8_record_2 : decode cX8_record 2 = .ok (.iconst 4, 1) := by decide +kernel
theorem dX8_record_3 : decode cX8_record 3 = .ok (.invokestatic 76, 3) := by decide +kernel
theorem dX8_record_6 : decode cX8_record 6 = .ok (.ifCond .eq 12, 3) := by decide +kernel
theorem dX8_record_9 : decode cX8_record 9 = .ok (.iload_n 2, 1) := by decide +kernel
theorem dX8_record_10 : decode cX8_record 10 = .ok (.iconst 0, 1) := by decide +kernel
theorem dX8_record_11 : decode cX8_record 11 = .ok (.iconst 1, 1) := by decide +kernel
theorem dX8_record_12 : decode cX8_record 12 = .ok (.invokestatic 76, 3) := by decide +kernel
theorem dX8_record_15 : decode cX8_record 15 = .ok (.ifCond .ne 5, 3) := by decide +kernel
theorem dX8_record_18 : decode cX8_record 18 = .ok (.iconst (-1), 1) := by decide +kernel
theorem dX8_record_19 : decode cX8_record 19 = .ok (.ireturn, 1) := by decide +kernel
theorem dX8_record_20 : decode cX8_record 20 = .ok (.aload_n 0, 1) := by decide +kernel
theorem dX8_record_21 : decode cX8_record 21 = .ok (.getfield 44, 3) := by decide +kernel
theorem dX8_record_24 : decode cX8_record 24 = .ok (.iload_n 1, 1) := by decide +kernel
theorem dX8_record_25 : decode cX8_record 25 = .ok (.iload_n 2, 1) := by decide +kernel
theorem dX8_record_26 : decode cX8_record 26 = .ok (.invokevirtual 226, 3) := by decide +kernel
theorem dX8_record_29 : decode cX8_record 29 = .ok (.ireturn, 1) := by decide +kernel
theorem dX8_forget_0 : decode cX8_forget 0 = .ok (.aload_n 0, 1) := by decide +kernel
theorem dX8_forget_1 : decode cX8_forget 1 = .ok (.getfield 40, 3) := by decide +kernel
theorem dX8_forget_4 : decode cX8_forget 4 = .ok (.getfield 102, 3) := by decide +kernel
theorem dX8_forget_7 : decode cX8_forget 7 = .ok (.aload_n 0, 1) := by decide +kernel
theorem dX8_forget_8 : decode cX8_forget 8 = .ok (.getfield 44, 3) := by decide +kernel
theorem dX8_forget_11 : decode cX8_forget 11 = .ok (.getfield 102, 3) := by decide +kernel
theorem dX8_forget_14 : decode cX8_forget 14 = .ok (.iadd, 1) := by decide +kernel
theorem dX8_forget_15 : decode cX8_forget 15 = .ok (.istore_n 1, 1) := by decide +kernel
theorem dX8_forget_16 : decode cX8_forget 16 = .ok (.aload_n 0, 1) := by decide +kernel
theorem dX8_forget_17 : decode cX8_forget 17 = .ok (.getfield 40, 3) := by decide +kernel
theorem dX8_forget_20 : decode cX8_forget 20 = .ok (.iconst 0, 1) := by decide +kernel
theorem dX8_forget_21 : decode cX8_forget 21 = .ok (.putfield 102, 3) := by decide +kernel
theorem dX8_forget_24 : decode cX8_forget 24 = .ok (.aload_n 0, 1) := by decide +kernel
theorem dX8_forget_25 : decode cX8_forget 25 = .ok (.getfield 44, 3) := by decide +kernel
theorem dX8_forget_28 : decode cX8_forget 28 = .ok (.iconst 0, 1) := by decide +kernel
theorem dX8_forget_29 : decode cX8_forget 29 = .ok (.putfield 102, 3) := by decide +kernel
theorem dX8_forget_32 : decode cX8_forget 32 = .ok (.iload_n 1, 1) := by decide +kernel
theorem dX8_forget_33 : decode cX8_forget 33 = .ok (.ireturn, 1) := by decide +kernel
theorem dX8_who_0 : decode cX8_who 0 = .ok (.aload_n 0, 1) := by decide +kernel
theorem dX8_who_1 : decode cX8_who 1 = .ok (.getfield 26, 3) := by decide +kernel
theorem dX8_who_4 : decode cX8_who 4 = .ok (.getfield 107, 3) := by decide +kernel
theorem dX8_who_7 : decode cX8_who 7 = .ok (.getfield 166, 3) := by decide +kernel
theorem dX8_who_10 : decode cX8_who 10 = .ok (.istore_n 1, 1) := by decide +kernel
theorem dX8_who_11 : decode cX8_who 11 = .ok (.aload_n 0, 1) := by decide +kernel
theorem dX8_who_12 : decode cX8_who 12 = .ok (.getfield 40, 3) := by decide +kernel
theorem dX8_who_15 : decode cX8_who 15 = .ok (.aload_n 0, 1) := by decide +kernel
theorem dX8_who_16 : decode cX8_who 16 = .ok (.getfield 26, 3) := by decide +kernel
theorem dX8_who_19 : decode cX8_who 19 = .ok (.iconst 0, 1) := by decide +kernel
theorem dX8_who_20 : decode cX8_who 20 = .ok (.iload_n 1, 1) := by decide +kernel
theorem dX8_who_21 : decode cX8_who 21 = .ok (.invokevirtual 229, 3) := by decide +kernel
theorem dX8_who_24 : decode cX8_who 24 = .ok (.invokevirtual 232, 3) := by decide +kernel
theorem dX8_who_27 : decode cX8_who 27 = .ok (.ifCond .eq 9, 3) := by decide +kernel
theorem dX8_who_30 : decode cX8_who 30 = .ok (.sipush 128, 3) := by decide +kernel
theorem dX8_who_33 : decode cX8_who 33 = .ok (.goto 4, 3) := by decide +kernel
theorem dX8_who_36 : decode cX8_who 36 = .ok (.iconst 0, 1) := by decide +kernel
theorem dX8_who_37 : decode cX8_who 37 = .ok (.istore_n 2, 1) := by decide +kernel
theorem dX8_who_38 : decode cX8_who 38 = .ok (.iconst 0, 1) := by decide +kernel
theorem dX8_who_39 : decode cX8_who 39 = .ok (.istore_n 3, 1) := by decide +kernel
theorem dX8_who_40 : decode cX8_who 40 = .ok (.iload_n 3, 1) := by decide +kernel
theorem dX8_who_41 : decode cX8_who 41 = .ok (.aload_n 0, 1) := by decide +kernel
theorem dX8_who_42 : decode cX8_who 42 = .ok (.getfield 26, 3) := by decide +kernel
theorem dX8_who_45 : decode cX8_who 45 = .ok (.getfield 235, 3) := by decide +kernel
theorem dX8_who_48 : decode cX8_who 48 = .ok (.if_icmp .ge 36, 3) := by decide +kernel
theorem dX8_who_51 : decode cX8_who 51 = .ok (.aload_n 0, 1) := by decide +kernel
theorem dX8_who_52 : decode cX8_who 52 = .ok (.getfield 40, 3) := by decide +kernel
theorem dX8_who_55 : decode cX8_who 55 = .ok (.aload_n 0, 1) := by decide +kernel
theorem dX8_who_56 : decode cX8_who 56 = .ok (.getfield 26, 3) := by decide +kernel
theorem dX8_who_59 : decode cX8_who 59 = .ok (.iconst 1, 1) := by decide +kernel
theorem dX8_who_60 : decode cX8_who 60 = .ok (.iload_n 3, 1) := by decide +kernel
theorem dX8_who_61 : decode cX8_who 61 = .ok (.ishl, 1) := by decide +kernel
theorem dX8_who_62 : decode cX8_who 62 = .ok (.iload_n 1, 1) := by decide +kernel
theorem dX8_who_63 : decode cX8_who 63 = .ok (.invokevirtual 229, 3) := by decide +kernel
theorem dX8_who_66 : decode cX8_who 66 = .ok (.invokevirtual 232, 3) := by decide +kernel
theorem dX8_who_69 : decode cX8_who 69 = .ok (.ifCond .eq 9, 3) := by decide +kernel
theorem dX8_who_72 : decode cX8_who 72 = .ok (.iload_n 2, 1) := by decide +kernel
theorem dX8_who_73 : decode cX8_who 73 = .ok (.iconst 1, 1) := by decide +kernel
theorem dX8_who_74 : decode cX8_who 74 = .ok (.iload_n 3, 1) := by decide +kernel
theorem dX8_who_75 : decode cX8_who 75 = .ok (.ishl, 1) := by decide +kernel
theorem dX8_who_76 : decode cX8_who 76 = .ok (.ior, 1) := by decide +kernel
theorem dX8_who_77 : decode cX8_who 77 = .ok (.istore_n 2, 1) := by decide +kernel
theorem dX8_who_78 : decode cX8_who 78 = .ok (.iinc 3 1, 3) := by decide +kernel
theorem dX8_who_81 : decode cX8_who 81 = .ok (.goto (-41), 3) := by decide +kernel
theorem dX8_who_84 : decode cX8_who 84 = .ok (.iload_n 2, 1) := by decide +kernel
theorem dX8_who_85 : decode cX8_who 85 = .ok (.ireturn, 1) := by decide +kernel
theorem dX8_which_0 : decode cX8_which 0 = .ok (.iload_n 1, 1) := by decide +kernel
theorem dX8_which_1 : decode cX8_which 1 = .ok (.iconst 0, 1) := by decide +kernel
theorem dX8_which_2 : decode cX8_which 2 = .ok (.iconst 2, 1) := by decide +kernel
theorem dX8_which_3 : decode cX8_which 3 = .ok (.invokestatic 76, 3) := by decide +kernel
theorem dX8_which_6 : decode cX8_which 6 = .ok (.ifCond .ne 5, 3) := by decide +kernel
theorem dX8_which_9 : decode cX8_which 9 = .ok (.iconst (-1), 1) := by decide +kernel
theorem dX8_which_10 : decode cX8_which 10 = .ok (.ireturn, 1) := by decide +kernel
theorem dX8_which_11 : decode cX8_which 11 = .ok (.iconst 0, 1) := by decide +kernel
theorem dX8_which_12 : decode cX8_which 12 = .ok (.istore_n 2, 1) := by decide +kernel
theorem dX8_which_13 : decode cX8_which 13 = .ok (.bipush (-9), 2) := by decide +kernel
theorem dX8_which_15 : decode cX8_which 15 = .ok (.istore_n 3, 1) := by decide +kernel
theorem dX8_which_16 : decode cX8_which 16 = .ok (.bipush 15, 2) := by decide +kernel
theorem dX8_which_18 : decode cX8_which 18 = .ok (.istore 4, 2) := by decide +kernel
theorem dX8_which_20 : decode cX8_which 20 = .ok (.bipush 15, 2) := by decide +kernel
theorem dX8_which_22 : decode cX8_which 22 = .ok (.istore 5, 2) := by decide +kernel
theorem dX8_which_24 : decode cX8_which 24 = .ok (.iload 5, 2) := by decide +kernel
theorem dX8_which_26 : decode cX8_which 26 = .ok (.ifCond .lt 31, 3) := by decide +kernel
theorem dX8_which_29 : decode cX8_which 29 = .ok (.aload_n 0, 1) := by decide +kernel
theorem dX8_which_30 : decode cX8_which 30 = .ok (.iload 5, 2) := by decide +kernel
theorem dX8_which_32 : decode cX8_which 32 = .ok (.invokevirtual 238, 3) := by decide +kernel
theorem dX8_which_35 : decode cX8_which 35 = .ok (.ifCond .eq 16, 3) := by decide +kernel
theorem dX8_which_38 : decode cX8_which 38 = .ok (.iinc 2 1, 3) := by decide +kernel
theorem dX8_which_41 : decode cX8_which 41 = .ok (.iload 5, 2) := by decide +kernel
theorem dX8_which_43 : decode cX8_which 43 = .ok (.istore_n 3, 1) := by decide +kernel
theorem dX8_which_44 : decode cX8_which 44 = .ok (.iload 4, 2) := by decide +kernel
theorem dX8_which_46 : decode cX8_which 46 = .ok (.iload 5, 2) := by decide +kernel
theorem dX8_which_48 : decode cX8_which 48 = .ok (.iand, 1) := by decide +kernel
theorem dX8_which_49 : decode cX8_which 49 = .ok (.istore 4, 2) := by decide +kernel
theorem dX8_which_51 : decode cX8_which 51 = .ok (.iinc 5 (-1), 3) := by decide +kernel
theorem dX8_which_54 : decode cX8_which 54 = .ok (.goto (-30), 3) := by decide +kernel
theorem dX8_which_57 : decode cX8_which 57 = .ok (.iload_n 1, 1) := by decide +kernel
theorem dX8_which_58 : decode cX8_which 58 = .ok (.ifCond .ne 5, 3) := by decide +kernel
theorem dX8_which_61 : decode cX8_which 61 = .ok (.iload_n 2, 1) := by decide +kernel
theorem dX8_which_62 : decode cX8_which 62 = .ok (.ireturn, 1) := by decide +kernel
theorem dX8_which_63 : decode cX8_which 63 = .ok (.iload_n 2, 1) := by decide +kernel
theorem dX8_which_64 : decode cX8_which 64 = .ok (.ifCond .ne 6, 3) := by decide +kernel
theorem dX8_which_67 : decode cX8_which 67 = .ok (.bipush (-9), 2) := by decide +kernel
theorem dX8_which_69 : decode cX8_which 69 = .ok (.ireturn, 1) := by decide +kernel
theorem dX8_which_70 : decode cX8_which 70 = .ok (.iload_n 1, 1) := by decide +kernel
theorem dX8_which_71 : decode cX8_which 71 = .ok (.iconst 1, 1) := by decide +kernel
theorem dX8_which_72 : decode cX8_which 72 = .ok (.if_icmp .ne 7, 3) := by decide +kernel
theorem dX8_which_75 : decode cX8_which 75 = .ok (.iload_n 3, 1) := by decide +kernel
theorem dX8_which_76 : decode cX8_which 76 = .ok (.goto 5, 3) := by decide +kernel
theorem dX8_which_79 : decode cX8_which 79 = .ok (.iload 4, 2) := by decide +kernel
theorem dX8_which_81 : decode cX8_which 81 = .ok (.ireturn, 1) := by decide +kernel
theorem dX8_allIsSo_0 : decode cX8_allIsSo 0 = .ok (.aload_n 0, 1) := by decide +kernel
theorem dX8_allIsSo_1 : decode cX8_allIsSo 1 = .ok (.getfield 40, 3) := by decide +kernel
theorem dX8_allIsSo_4 : decode cX8_allIsSo 4 = .ok (.aload_n 0, 1) := by decide +kernel
theorem dX8_allIsSo_5 : decode cX8_allIsSo 5 = .ok (.getfield 26, 3) := by decide +kernel
theorem dX8_allIsSo_8 : decode cX8_allIsSo 8 = .ok (.aload_n 0, 1) := by decide +kernel
theorem dX8_allIsSo_9 : decode cX8_allIsSo 9 = .ok (.getfield 26, 3) := by decide +kernel
theorem dX8_allIsSo_12 : decode cX8_allIsSo 12 = .ok (.getfield 107, 3) := by decide +kernel
theorem dX8_allIsSo_15 : decode cX8_allIsSo 15 = .ok (.getfield 120, 3) := by decide +kernel
theorem dX8_allIsSo_18 : decode cX8_allIsSo 18 = .ok (.iload_n 1, 1) := by decide +kernel
theorem dX8_allIsSo_19 : decode cX8_allIsSo 19 = .ok (.invokevirtual 229, 3) := by decide +kernel
theorem dX8_allIsSo_22 : decode cX8_allIsSo 22 = .ok (.invokevirtual 232, 3) := by decide +kernel
theorem dX8_allIsSo_25 : decode cX8_allIsSo 25 = .ok (.ifCond .eq 25, 3) := by decide +kernel
theorem dX8_allIsSo_28 : decode cX8_allIsSo 28 = .ok (.aload_n 0, 1) := by decide +kernel
theorem dX8_allIsSo_29 : decode cX8_allIsSo 29 = .ok (.getfield 44, 3) := by decide +kernel
theorem dX8_allIsSo_32 : decode cX8_allIsSo 32 = .ok (.aload_n 0, 1) := by decide +kernel
theorem dX8_allIsSo_33 : decode cX8_allIsSo 33 = .ok (.getfield 26, 3) := by decide +kernel
theorem dX8_allIsSo_36 : decode cX8_allIsSo 36 = .ok (.iload_n 1, 1) := by decide +kernel
theorem dX8_allIsSo_37 : decode cX8_allIsSo 37 = .ok (.invokevirtual 241, 3) := by decide +kernel
theorem dX8_allIsSo_40 : decode cX8_allIsSo 40 = .ok (.invokevirtual 232, 3) := by decide +kernel
theorem dX8_allIsSo_43 : decode cX8_allIsSo 43 = .ok (.ifCond .eq 7, 3) := by decide +kernel
theorem dX8_allIsSo_46 : decode cX8_allIsSo 46 = .ok (.iconst 1, 1) := by decide +kernel
theorem dX8_allIsSo_47 : decode cX8_allIsSo 47 = .ok (.goto 4, 3) := by decide +kernel
theorem dX8_allIsSo_50 : decode cX8_allIsSo 50 = .ok (.iconst 0, 1) := by decide +kernel
theorem dX8_allIsSo_51 : decode cX8_allIsSo 51 = .ok (.ireturn, 1) := by decide +kernel
theorem dX8_married_0 : decode cX8_married 0 = .ok (.iload_n 1, 1) := by decide +kernel
theorem dX8_married_1 : decode cX8_married 1 = .ok (.iconst (-1), 1) := by decide +kernel
theorem dX8_married_2 : decode cX8_married 2 = .ok (.if_icmp .eq 16, 3) := by decide +kernel
theorem dX8_married_5 : decode cX8_married 5 = .ok (.aload_n 0, 1) := by decide +kernel
theorem dX8_married_6 : decode cX8_married 6 = .ok (.getfield 26, 3) := by decide +kernel
theorem dX8_married_9 : decode cX8_married 9 = .ok (.iload_n 1, 1) := by decide +kernel
theorem dX8_married_10 : decode cX8_married 10 = .ok (.invokevirtual 103, 3) := by decide +kernel
theorem dX8_married_13 : decode cX8_married 13 = .ok (.ifCond .ne 5, 3) := by decide +kernel
theorem dX8_married_16 : decode cX8_married 16 = .ok (.iconst (-1), 1) := by decide +kernel
theorem dX8_married_17 : decode cX8_married 17 = .ok (.ireturn, 1) := by decide +kernel
theorem dX8_married_18 : decode cX8_married 18 = .ok (.aload_n 0, 1) := by decide +kernel
theorem dX8_married_19 : decode cX8_married 19 = .ok (.getfield 57, 3) := by decide +kernel
theorem dX8_married_22 : decode cX8_married 22 = .ok (.aload_n 0, 1) := by decide +kernel
theorem dX8_married_23 : decode cX8_married 23 = .ok (.getfield 26, 3) := by decide +kernel
theorem dX8_married_26 : decode cX8_married 26 = .ok (.invokevirtual 244, 3) := by decide +kernel
theorem dX8_married_29 : decode cX8_married 29 = .ok (.iload_n 1, 1) := by decide +kernel
theorem dX8_married_30 : decode cX8_married 30 = .ok (.iconst (-1), 1) := by decide +kernel
theorem dX8_married_31 : decode cX8_married 31 = .ok (.if_icmp .ne 13, 3) := by decide +kernel
theorem dX8_married_34 : decode cX8_married 34 = .ok (.aload_n 0, 1) := by decide +kernel
theorem dX8_married_35 : decode cX8_married 35 = .ok (.getfield 57, 3) := by decide +kernel
theorem dX8_married_38 : decode cX8_married 38 = .ok (.getfield 245, 3) := by decide +kernel
theorem dX8_married_41 : decode cX8_married 41 = .ok (.goto 12, 3) := by decide +kernel
theorem dX8_married_44 : decode cX8_married 44 = .ok (.aload_n 0, 1) := by decide +kernel
theorem dX8_married_45 : decode cX8_married 45 = .ok (.getfield 57, 3) := by decide +kernel
theorem dX8_married_48 : decode cX8_married 48 = .ok (.getfield 248, 3) := by decide +kernel
theorem dX8_married_51 : decode cX8_married 51 = .ok (.iload_n 1, 1) := by decide +kernel
theorem dX8_married_52 : decode cX8_married 52 = .ok (.iaload, 1) := by decide +kernel
theorem dX8_married_53 : decode cX8_married 53 = .ok (.ireturn, 1) := by decide +kernel
theorem dX8_odds_0 : decode cX8_odds 0 = .ok (.aload_n 0, 1) := by decide +kernel
theorem dX8_odds_1 : decode cX8_odds 1 = .ok (.getfield 26, 3) := by decide +kernel
theorem dX8_odds_4 : decode cX8_odds 4 = .ok (.iload_n 1, 1) := by decide +kernel
theorem dX8_odds_5 : decode cX8_odds 5 = .ok (.invokevirtual 144, 3) := by decide +kernel
theorem dX8_odds_8 : decode cX8_odds 8 = .ok (.ifCond .eq 13, 3) := by decide +kernel
theorem dX8_odds_11 : decode cX8_odds 11 = .ok (.iload_n 2, 1) := by decide +kernel
theorem dX8_odds_12 : decode cX8_odds 12 = .ok (.iconst 0, 1) := by decide +kernel
theorem dX8_odds_13 : decode cX8_odds 13 = .ok (.bipush 6, 2) := by decide +kernel
theorem dX8_odds_15 : decode cX8_odds 15 = .ok (.invokestatic 76, 3) := by decide +kernel
theorem dX8_odds_18 : decode cX8_odds 18 = .ok (.ifCond .ne 5, 3) := by decide +kernel
theorem dX8_odds_21 : decode cX8_odds 21 = .ok (.iconst (-1), 1) := by decide +kernel
theorem dX8_odds_22 : decode cX8_odds 22 = .ok (.ireturn, 1) := by decide +kernel
theorem dX8_odds_23 : decode cX8_odds 23 = .ok (.iload_n 3, 1) := by decide +kernel
theorem dX8_odds_24 : decode cX8_odds 24 = .ok (.iconst 0, 1) := by decide +kernel
theorem dX8_odds_25 : decode cX8_odds 25 = .ok (.bipush 20, 2) := by decide +kernel
theorem dX8_odds_27 : decode cX8_odds 27 = .ok (.invokestatic 76, 3) := by decide +kernel
theorem dX8_odds_30 : decode cX8_odds 30 = .ok (.ifCond .eq 13, 3) := by decide +kernel
theorem dX8_odds_33 : decode cX8_odds 33 = .ok (.iload 4, 2) := by decide +kernel
theorem dX8_odds_35 : decode cX8_odds 35 = .ok (.iconst 0, 1) := by decide +kernel
theorem dX8_odds_36 : decode cX8_odds 36 = .ok (.iconst 1, 1) := by decide +kernel
theorem dX8_odds_37 : decode cX8_odds 37 = .ok (.invokestatic 76, 3) := by decide +kernel
theorem dX8_odds_40 : decode cX8_odds 40 = .ok (.ifCond .ne 5, 3) := by decide +kernel
theorem dX8_odds_43 : decode cX8_odds 43 = .ok (.iconst (-1), 1) := by decide +kernel
theorem dX8_odds_44 : decode cX8_odds 44 = .ok (.ireturn, 1) := by decide +kernel
theorem dX8_odds_45 : decode cX8_odds 45 = .ok (.iload_n 3, 1) := by decide +kernel
theorem dX8_odds_46 : decode cX8_odds 46 = .ok (.aload_n 0, 1) := by decide +kernel
theorem dX8_odds_47 : decode cX8_odds 47 = .ok (.getfield 26, 3) := by decide +kernel
theorem dX8_odds_50 : decode cX8_odds 50 = .ok (.iload_n 1, 1) := by decide +kernel
theorem dX8_odds_51 : decode cX8_odds 51 = .ok (.invokevirtual 147, 3) := by decide +kernel
theorem dX8_odds_54 : decode cX8_odds 54 = .ok (.invokestatic 150, 3) := by decide +kernel
theorem dX8_odds_57 : decode cX8_odds 57 = .ok (.isub, 1) := by decide +kernel
theorem dX8_odds_58 : decode cX8_odds 58 = .ok (.istore 5, 2) := by decide +kernel
theorem dX8_odds_60 : decode cX8_odds 60 = .ok (.aload_n 0, 1) := by decide +kernel
theorem dX8_odds_61 : decode cX8_odds 61 = .ok (.iload_n 2, 1) := by decide +kernel
theorem dX8_odds_62 : decode cX8_odds 62 = .ok (.iconst 0, 1) := by decide +kernel
theorem dX8_odds_63 : decode cX8_odds 63 = .ok (.iload 5, 2) := by decide +kernel
theorem dX8_odds_65 : decode cX8_odds 65 = .ok (.invokestatic 155, 3) := by decide +kernel
theorem dX8_odds_68 : decode cX8_odds 68 = .ok (.invokevirtual 249, 3) := by decide +kernel
theorem dX8_odds_71 : decode cX8_odds 71 = .ok (.istore 6, 2) := by decide +kernel
theorem dX8_odds_73 : decode cX8_odds 73 = .ok (.aload_n 0, 1) := by decide +kernel
theorem dX8_odds_74 : decode cX8_odds 74 = .ok (.getfield 26, 3) := by decide +kernel
theorem dX8_odds_77 : decode cX8_odds 77 = .ok (.getfield 252, 3) := by decide +kernel
theorem dX8_odds_80 : decode cX8_odds 80 = .ok (.iload_n 2, 1) := by decide +kernel
theorem dX8_odds_81 : decode cX8_odds 81 = .ok (.invokestatic 255, 3) := by decide +kernel
theorem dX8_odds_84 : decode cX8_odds 84 = .ok (.istore 7, 2) := by decide +kernel
theorem dX8_odds_86 : decode cX8_odds 86 = .ok (.iload 4, 2) := by decide +kernel
theorem dX8_odds_88 : decode cX8_odds 88 = .ok (.ifCond .ne 13, 3) := by decide +kernel
theorem dX8_odds_91 : decode cX8_odds 91 = .ok (.iload 6, 2) := by decide +kernel
theorem dX8_odds_93 : decode cX8_odds 93 = .ok (.iload 7, 2) := by decide +kernel
theorem dX8_odds_95 : decode cX8_odds 95 = .ok (.invokestatic 163, 3) := by decide +kernel
theorem dX8_odds_98 : decode cX8_odds 98 = .ok (.goto 10, 3) := by decide +kernel
theorem dX8_odds_101 : decode cX8_odds 101 = .ok (.iload 7, 2) := by decide +kernel
theorem dX8_odds_103 : decode cX8_odds 103 = .ok (.iload 6, 2) := by decide +kernel
theorem dX8_odds_105 : decode cX8_odds 105 = .ok (.invokestatic 163, 3) := by decide +kernel
theorem dX8_odds_108 : decode cX8_odds 108 = .ok (.ireturn, 1) := by decide +kernel
theorem dX8_christenings_0 : decode cX8_christenings 0 = .ok (.iconst 0, 1) := by decide +kernel
theorem dX8_christenings_1 : decode cX8_christenings 1 = .ok (.istore_n 3, 1) := by decide +kernel
theorem dX8_christenings_2 : decode cX8_christenings 2 = .ok (.iload_n 2, 1) := by decide +kernel
theorem dX8_christenings_3 : decode cX8_christenings 3 = .ok (.istore 4, 2) := by decide +kernel
theorem dX8_christenings_5 : decode cX8_christenings 5 = .ok (.iload 4, 2) := by decide +kernel
theorem dX8_christenings_7 : decode cX8_christenings 7 = .ok (.iload_n 1, 1) := by decide +kernel
theorem dX8_christenings_8 : decode cX8_christenings 8 = .ok (.if_icmp .gt 35, 3) := by decide +kernel
theorem dX8_christenings_11 : decode cX8_christenings 11 = .ok (.iload_n 3, 1) := by decide +kernel
theorem dX8_christenings_12 : decode cX8_christenings 12 = .ok (.iload_n 1, 1) := by decide +kernel
theorem dX8_christenings_13 : decode cX8_christenings 13 = .ok (.iload 4, 2) := by decide +kernel
theorem dX8_christenings_15 : decode cX8_christenings 15 = .ok (.invokestatic 258, 3) := by decide +kernel
theorem dX8_christenings_18 : decode cX8_christenings 18 = .ok (.aload_n 0, 1) := by decide +kernel
theorem dX8_christenings_19 : decode cX8_christenings 19 = .ok (.getfield 26, 3) := by decide +kernel
theorem dX8_christenings_22 : decode cX8_christenings 22 = .ok (.getfield 252, 3) := by decide +kernel
theorem dX8_christenings_25 : decode cX8_christenings 25 = .ok (.iconst 1, 1) := by decide +kernel
theorem dX8_christenings_26 : decode cX8_christenings 26 = .ok (.isub, 1) := by decide +kernel
theorem dX8_christenings_27 : decode cX8_christenings 27 = .ok (.iload_n 1, 1) := by decide +kernel
theorem dX8_christenings_28 : decode cX8_christenings 28 = .ok (.iload 4, 2) := by decide +kernel
theorem dX8_christenings_30 : decode cX8_christenings 30 = .ok (.isub, 1) := by decide +kernel
theorem dX8_christenings_31 : decode cX8_christenings 31 = .ok (.invokestatic 255, 3) := by decide +kernel
theorem dX8_christenings_34 : decode cX8_christenings 34 = .ok (.imul, 1) := by decide +kernel
theorem dX8_christenings_35 : decode cX8_christenings 35 = .ok (.iadd, 1) := by decide +kernel
theorem dX8_christenings_36 : decode cX8_christenings 36 = .ok (.istore_n 3, 1) := by decide +kernel
theorem dX8_christenings_37 : decode cX8_christenings 37 = .ok (.iinc 4 1, 3) := by decide +kernel
theorem dX8_christenings_40 : decode cX8_christenings 40 = .ok (.goto (-35), 3) := by decide +kernel
theorem dX8_christenings_43 : decode cX8_christenings 43 = .ok (.iload_n 3, 1) := by decide +kernel
theorem dX8_christenings_44 : decode cX8_christenings 44 = .ok (.ireturn, 1) := by decide +kernel
theorem dX8_rate_0 : decode cX8_rate 0 = .ok (.iload_n 1, 1) := by decide +kernel
theorem dX8_rate_1 : decode cX8_rate 1 = .ok (.iconst 0, 1) := by decide +kernel
theorem dX8_rate_2 : decode cX8_rate 2 = .ok (.iconst 5, 1) := by decide +kernel
theorem dX8_rate_3 : decode cX8_rate 3 = .ok (.invokestatic 76, 3) := by decide +kernel
theorem dX8_rate_6 : decode cX8_rate 6 = .ok (.ifCond .eq 14, 3) := by decide +kernel
theorem dX8_rate_9 : decode cX8_rate 9 = .ok (.aload_n 0, 1) := by decide +kernel
theorem dX8_rate_10 : decode cX8_rate 10 = .ok (.getfield 26, 3) := by decide +kernel
theorem dX8_rate_13 : decode cX8_rate 13 = .ok (.iload_n 2, 1) := by decide +kernel
theorem dX8_rate_14 : decode cX8_rate 14 = .ok (.invokevirtual 103, 3) := by decide +kernel
theorem dX8_rate_17 : decode cX8_rate 17 = .ok (.ifCond .ne 7, 3) := by decide +kernel
theorem dX8_rate_20 : decode cX8_rate 20 = .ok (.ldc_w 261, 3) := by decide +kernel
theorem dX8_rate_23 : decode cX8_rate 23 = .ok (.ireturn, 1) := by decide +kernel
theorem dX8_rate_24 : decode cX8_rate 24 = .ok (.aload_n 0, 1) := by decide +kernel
theorem dX8_rate_25 : decode cX8_rate 25 = .ok (.iload_n 1, 1) := by decide +kernel
theorem dX8_rate_26 : decode cX8_rate 26 = .ok (.iload_n 2, 1) := by decide +kernel
theorem dX8_rate_27 : decode cX8_rate 27 = .ok (.invokevirtual 262, 3) := by decide +kernel
theorem dX8_rate_30 : decode cX8_rate 30 = .ok (.ireturn, 1) := by decide +kernel
theorem dX8_rateAs_0 : decode cX8_rateAs 0 = .ok (.aload_n 0, 1) := by decide +kernel
theorem dX8_rateAs_1 : decode cX8_rateAs 1 = .ok (.dup, 1) := by decide +kernel
theorem dX8_rateAs_2 : decode cX8_rateAs 2 = .ok (.getfield 71, 3) := by decide +kernel
theorem dX8_rateAs_5 : decode cX8_rateAs 5 = .ok (.getstatic 265, 3) := by decide +kernel
theorem dX8_rateAs_8 : decode cX8_rateAs 8 = .ok (.iload_n 1, 1) := by decide +kernel
theorem dX8_rateAs_9 : decode cX8_rateAs 9 = .ok (.iaload, 1) := by decide +kernel
theorem dX8_rateAs_10 : decode cX8_rateAs 10 = .ok (.i2l, 1) := by decide +kernel
theorem dX8_rateAs_11 : decode cX8_rateAs 11 = .ok (.ladd, 1) := by decide +kernel
theorem dX8_rateAs_12 : decode cX8_rateAs 12 = .ok (.putfield 71, 3) := by decide +kernel
theorem dX8_rateAs_15 : decode cX8_rateAs 15 = .ok (.iload_n 1, 1) := by decide +kernel
theorem dX8_rateAs_16 : decode cX8_rateAs 16 = .ok (.tableswitch 104 1 5 #[36, 52, 68, 77, 86], 36) := by decide +kernel
theorem dX8_rateAs_52 : decode cX8_rateAs 52 = .ok (.aload_n 0, 1) := by decide +kernel
theorem dX8_rateAs_53 : decode cX8_rateAs 53 = .ok (.iconst 0, 1) := by decide +kernel
theorem dX8_rateAs_54 : decode cX8_rateAs 54 = .ok (.iload_n 2, 1) := by decide +kernel
theorem dX8_rateAs_55 : decode cX8_rateAs 55 = .ok (.invokevirtual 262, 3) := by decide +kernel
theorem dX8_rateAs_58 : decode cX8_rateAs 58 = .ok (.aload_n 0, 1) := by decide +kernel
theorem dX8_rateAs_59 : decode cX8_rateAs 59 = .ok (.getfield 26, 3) := by decide +kernel
theorem dX8_rateAs_62 : decode cX8_rateAs 62 = .ok (.iload_n 2, 1) := by decide +kernel
theorem dX8_rateAs_63 : decode cX8_rateAs 63 = .ok (.invokevirtual 134, 3) := by decide +kernel
theorem dX8_rateAs_66 : decode cX8_rateAs 66 = .ok (.iadd, 1) := by decide +kernel
theorem dX8_rateAs_67 : decode cX8_rateAs 67 = .ok (.ireturn, 1) := by decide +kernel
theorem dX8_rateAs_68 : decode cX8_rateAs 68 = .ok (.aload_n 0, 1) := by decide +kernel
theorem dX8_rateAs_69 : decode cX8_rateAs 69 = .ok (.iconst 0, 1) := by decide +kernel
theorem dX8_rateAs_70 : decode cX8_rateAs 70 = .ok (.iload_n 2, 1) := by decide +kernel
theorem dX8_rateAs_71 : decode cX8_rateAs 71 = .ok (.invokevirtual 262, 3) := by decide +kernel
theorem dX8_rateAs_74 : decode cX8_rateAs 74 = .ok (.aload_n 0, 1) := by decide +kernel
theorem dX8_rateAs_75 : decode cX8_rateAs 75 = .ok (.getfield 26, 3) := by decide +kernel
theorem dX8_rateAs_78 : decode cX8_rateAs 78 = .ok (.iload_n 2, 1) := by decide +kernel
theorem dX8_rateAs_79 : decode cX8_rateAs 79 = .ok (.invokevirtual 138, 3) := by decide +kernel
theorem dX8_rateAs_82 : decode cX8_rateAs 82 = .ok (.isub, 1) := by decide +kernel
theorem dX8_rateAs_83 : decode cX8_rateAs 83 = .ok (.ireturn, 1) := by decide +kernel
theorem dX8_rateAs_84 : decode cX8_rateAs 84 = .ok (.iconst 2, 1) := by decide +kernel
theorem dX8_rateAs_85 : decode cX8_rateAs 85 = .ok (.aload_n 0, 1) := by decide +kernel
theorem dX8_rateAs_86 : decode cX8_rateAs 86 = .ok (.iconst 1, 1) := by decide +kernel
theorem dX8_rateAs_87 : decode cX8_rateAs 87 = .ok (.iload_n 2, 1) := by decide +kernel
theorem dX8_rateAs_88 : decode cX8_rateAs 88 = .ok (.invokevirtual 262, 3) := by decide +kernel
theorem dX8_rateAs_91 : decode cX8_rateAs 91 = .ok (.imul, 1) := by decide +kernel
theorem dX8_rateAs_92 : decode cX8_rateAs 92 = .ok (.ireturn, 1) := by decide +kernel
theorem dX8_rateAs_93 : decode cX8_rateAs 93 = .ok (.aload_n 0, 1) := by decide +kernel
theorem dX8_rateAs_94 : decode cX8_rateAs 94 = .ok (.iconst 2, 1) := by decide +kernel
theorem dX8_rateAs_95 : decode cX8_rateAs 95 = .ok (.iload_n 2, 1) := by decide +kernel
theorem dX8_rateAs_96 : decode cX8_rateAs 96 = .ok (.invokevirtual 262, 3) := by decide +kernel
theorem dX8_rateAs_99 : decode cX8_rateAs 99 = .ok (.iload_n 2, 1) := by decide +kernel
theorem dX8_rateAs_100 : decode cX8_rateAs 100 = .ok (.iadd, 1) := by decide +kernel
theorem dX8_rateAs_101 : decode cX8_rateAs 101 = .ok (.ireturn, 1) := by decide +kernel
theorem dX8_rateAs_102 : decode cX8_rateAs 102 = .ok (.aload_n 0, 1) := by decide +kernel
theorem dX8_rateAs_103 : decode cX8_rateAs 103 = .ok (.iconst 0, 1) := by decide +kernel
theorem dX8_rateAs_104 : decode cX8_rateAs 104 = .ok (.iload_n 2, 1) := by decide +kernel
theorem dX8_rateAs_105 : decode cX8_rateAs 105 = .ok (.invokevirtual 262, 3) := by decide +kernel
theorem dX8_rateAs_108 : decode cX8_rateAs 108 = .ok (.aload_n 0, 1) := by decide +kernel
theorem dX8_rateAs_109 : decode cX8_rateAs 109 = .ok (.getfield 26, 3) := by decide +kernel
theorem dX8_rateAs_112 : decode cX8_rateAs 112 = .ok (.getfield 107, 3) := by decide +kernel
theorem dX8_rateAs_115 : decode cX8_rateAs 115 = .ok (.getfield 182, 3) := by decide +kernel
theorem dX8_rateAs_118 : decode cX8_rateAs 118 = .ok (.iadd, 1) := by decide +kernel
theorem dX8_rateAs_119 : decode cX8_rateAs 119 = .ok (.ireturn, 1) := by decide +kernel
theorem dX8_rateAs_120 : decode cX8_rateAs 120 = .ok (.aload_n 0, 1) := by decide +kernel
theorem dX8_rateAs_121 : decode cX8_rateAs 121 = .ok (.getfield 26, 3) := by decide +kernel
theorem dX8_rateAs_124 : decode cX8_rateAs 124 = .ok (.getfield 107, 3) := by decide +kernel
theorem dX8_rateAs_127 : decode cX8_rateAs 127 = .ok (.getfield 114, 3) := by decide +kernel
theorem dX8_rateAs_130 : decode cX8_rateAs 130 = .ok (.iload_n 2, 1) := by decide +kernel
theorem dX8_rateAs_131 : decode cX8_rateAs 131 = .ok (.iaload, 1) := by decide +kernel
theorem dX8_rateAs_132 : decode cX8_rateAs 132 = .ok (.ireturn, 1) := by decide +kernel
theorem dX8_keep_0 : decode cX8_keep 0 = .ok (.iload_n 1, 1) := by decide +kernel
theorem dX8_keep_1 : decode cX8_keep 1 = .ok (.iconst 0, 1) := by decide +kernel
theorem dX8_keep_2 : decode cX8_keep 2 = .ok (.iconst 1, 1) := by decide +kernel
theorem dX8_keep_3 : decode cX8_keep 3 = .ok (.invokestatic 76, 3) := by decide +kernel
theorem dX8_keep_6 : decode cX8_keep 6 = .ok (.ifCond .ne 5, 3) := by decide +kernel
theorem dX8_keep_9 : decode cX8_keep 9 = .ok (.iconst (-1), 1) := by decide +kernel
theorem dX8_keep_10 : decode cX8_keep 10 = .ok (.ireturn, 1) := by decide +kernel
theorem dX8_keep_11 : decode cX8_keep 11 = .ok (.aload_n 0, 1) := by decide +kernel
theorem dX8_keep_12 : decode cX8_keep 12 = .ok (.getfield 63, 3) := by decide +kernel
theorem dX8_keep_15 : decode cX8_keep 15 = .ok (.iload_n 1, 1) := by decide +kernel
theorem dX8_keep_16 : decode cX8_keep 16 = .ok (.aaload, 1) := by decide +kernel
theorem dX8_keep_17 : decode cX8_keep 17 = .ok (.aload_n 0, 1) := by decide +kernel
theorem dX8_keep_18 : decode cX8_keep 18 = .ok (.getfield 26, 3) := by decide +kernel
theorem dX8_keep_21 : decode cX8_keep 21 = .ok (.getfield 107, 3) := by decide +kernel
theorem dX8_keep_24 : decode cX8_keep 24 = .ok (.invokevirtual 268, 3) := by decide +kernel
theorem dX8_keep_27 : decode cX8_keep 27 = .ok (.aload_n 0, 1) := by decide +kernel
theorem dX8_keep_28 : decode cX8_keep 28 = .ok (.getfield 67, 3) := by decide +kernel
theorem dX8_keep_31 : decode cX8_keep 31 = .ok (.iload_n 1, 1) := by decide +kernel
theorem dX8_keep_32 : decode cX8_keep 32 = .ok (.iconst 1, 1) := by decide +kernel
theorem dX8_keep_33 : decode cX8_keep 33 = .ok (.bastore, 1) := by decide +kernel
theorem dX8_keep_34 : decode cX8_keep 34 = .ok (.aload_n 0, 1) := by decide +kernel
theorem dX8_keep_35 : decode cX8_keep 35 = .ok (.getfield 26, 3) := by decide +kernel
theorem dX8_keep_38 : decode cX8_keep 38 = .ok (.getfield 107, 3) := by decide +kernel
theorem dX8_keep_41 : decode cX8_keep 41 = .ok (.getfield 182, 3) := by decide +kernel
theorem dX8_keep_44 : decode cX8_keep 44 = .ok (.ireturn, 1) := by decide +kernel
theorem dX8_back_0 : decode cX8_back 0 = .ok (.iload_n 1, 1) := by decide +kernel
theorem dX8_back_1 : decode cX8_back 1 = .ok (.iconst 0, 1) := by decide +kernel
theorem dX8_back_2 : decode cX8_back 2 = .ok (.iconst 1, 1) := by decide +kernel
theorem dX8_back_3 : decode cX8_back 3 = .ok (.invokestatic 76, 3) := by decide +kernel
theorem dX8_back_6 : decode cX8_back 6 = .ok (.ifCond .ne 5, 3) := by decide +kernel
theorem dX8_back_9 : decode cX8_back 9 = .ok (.iconst (-1), 1) := by decide +kernel
theorem dX8_back_10 : decode cX8_back 10 = .ok (.ireturn, 1) := by decide +kernel
theorem dX8_back_11 : decode cX8_back 11 = .ok (.aload_n 0, 1) := by decide +kernel
theorem dX8_back_12 : decode cX8_back 12 = .ok (.getfield 67, 3) := by decide +kernel
theorem dX8_back_15 : decode cX8_back 15 = .ok (.iload_n 1, 1) := by decide +kernel
theorem dX8_back_16 : decode cX8_back 16 = .ok (.baload, 1) := by decide +kernel
theorem dX8_back_17 : decode cX8_back 17 = .ok (.ifCond .ne 6, 3) := by decide +kernel
theorem dX8_back_20 : decode cX8_back 20 = .ok (.bipush (-2), 2) := by decide +kernel
theorem dX8_back_22 : decode cX8_back 22 = .ok (.ireturn, 1) := by decide +kernel
theorem dX8_back_23 : decode cX8_back 23 = .ok (.aload_n 0, 1) := by decide +kernel
theorem dX8_back_24 : decode cX8_back 24 = .ok (.getfield 26, 3) := by decide +kernel
theorem dX8_back_27 : decode cX8_back 27 = .ok (.getfield 107, 3) := by decide +kernel
theorem dX8_back_30 : decode cX8_back 30 = .ok (.aload_n 0, 1) := by decide +kernel
theorem dX8_back_31 : decode cX8_back 31 = .ok (.getfield 63, 3) := by decide +kernel
theorem dX8_back_34 : decode cX8_back 34 = .ok (.iload_n 1, 1) := by decide +kernel
theorem dX8_back_35 : decode cX8_back 35 = .ok (.aaload, 1) := by decide +kernel
theorem dX8_back_36 : decode cX8_back 36 = .ok (.invokevirtual 268, 3) := by decide +kernel
theorem dX8_back_39 : decode cX8_back 39 = .ok (.aload_n 0, 1) := by decide +kernel
theorem dX8_back_40 : decode cX8_back 40 = .ok (.getfield 33, 3) := by decide +kernel
theorem dX8_back_43 : decode cX8_back 43 = .ok (.iconst 0, 1) := by decide +kernel
theorem dX8_back_44 : decode cX8_back 44 = .ok (.putfield 99, 3) := by decide +kernel
theorem dX8_back_47 : decode cX8_back 47 = .ok (.aload_n 0, 1) := by decide +kernel
theorem dX8_back_48 : decode cX8_back 48 = .ok (.getfield 26, 3) := by decide +kernel
theorem dX8_back_51 : decode cX8_back 51 = .ok (.getfield 107, 3) := by decide +kernel
theorem dX8_back_54 : decode cX8_back 54 = .ok (.getfield 182, 3) := by decide +kernel
theorem dX8_back_57 : decode cX8_back 57 = .ok (.ireturn, 1) := by decide +kernel
theorem dX8_count_0 : decode cX8_count 0 = .ok (.iload_n 1, 1) := by decide +kernel
theorem dX8_count_1 : decode cX8_count 1 = .ok (.tableswitch 75 0 4 #[35, 43, 51, 59, 67], 35) := by decide +kernel
theorem dX8_count_36 : decode cX8_count 36 = .ok (.aload_n 0, 1) := by decide +kernel
theorem dX8_count_37 : decode cX8_count 37 = .ok (.getfield 26, 3) := by decide +kernel
theorem dX8_count_40 : decode cX8_count 40 = .ok (.getfield 252, 3) := by decide +kernel
theorem dX8_count_43 : decode cX8_count 43 = .ok (.ireturn, 1) := by decide +kernel
theorem dX8_count_44 : decode cX8_count 44 = .ok (.aload_n 0, 1) := by decide +kernel
theorem dX8_count_45 : decode cX8_count 45 = .ok (.getfield 26, 3) := by decide +kernel
theorem dX8_count_48 : decode cX8_count 48 = .ok (.getfield 235, 3) := by decide +kernel
theorem dX8_count_51 : decode cX8_count 51 = .ok (.ireturn, 1) := by decide +kernel
theorem dX8_count_52 : decode cX8_count 52 = .ok (.aload_n 0, 1) := by decide +kernel
theorem dX8_count_53 : decode cX8_count 53 = .ok (.getfield 40, 3) := by decide +kernel
theorem dX8_count_56 : decode cX8_count 56 = .ok (.getfield 102, 3) := by decide +kernel
theorem dX8_count_59 : decode cX8_count 59 = .ok (.ireturn, 1) := by decide +kernel
theorem dX8_count_60 : decode cX8_count 60 = .ok (.aload_n 0, 1) := by decide +kernel
theorem dX8_count_61 : decode cX8_count 61 = .ok (.getfield 44, 3) := by decide +kernel
theorem dX8_count_64 : decode cX8_count 64 = .ok (.getfield 102, 3) := by decide +kernel
theorem dX8_count_67 : decode cX8_count 67 = .ok (.ireturn, 1) := by decide +kernel
theorem dX8_count_68 : decode cX8_count 68 = .ok (.aload_n 0, 1) := by decide +kernel
theorem dX8_count_69 : decode cX8_count 69 = .ok (.getfield 10, 3) := by decide +kernel
theorem dX8_count_72 : decode cX8_count 72 = .ok (.getfield 80, 3) := by decide +kernel
theorem dX8_count_75 : decode cX8_count 75 = .ok (.ireturn, 1) := by decide +kernel
theorem dX8_count_76 : decode cX8_count 76 = .ok (.iconst (-1), 1) := by decide +kernel
theorem dX8_count_77 : decode cX8_count 77 = .ok (.ireturn, 1) := by decide +kernel
theorem dX8_trace_0 : decode cX8_trace 0 = .ok (.aload_n 0, 1) := by decide +kernel
theorem dX8_trace_1 : decode cX8_trace 1 = .ok (.getfield 71, 3) := by decide +kernel
theorem dX8_trace_4 : decode cX8_trace 4 = .ok (.lreturn, 1) := by decide +kernel
theorem dX8_within_0 : decode cX8_within 0 = .ok (.iload_n 0, 1) := by decide +kernel
theorem dX8_within_1 : decode cX8_within 1 = .ok (.iload_n 1, 1) := by decide +kernel
theorem dX8_within_2 : decode cX8_within 2 = .ok (.if_icmp .lt 12, 3) := by decide +kernel
theorem dX8_within_5 : decode cX8_within 5 = .ok (.iload_n 0, 1) := by decide +kernel
theorem dX8_within_6 : decode cX8_within 6 = .ok (.iload_n 2, 1) := by decide +kernel
theorem dX8_within_7 : decode cX8_within 7 = .ok (.if_icmp .gt 7, 3) := by decide +kernel
theorem dX8_within_10 : decode cX8_within 10 = .ok (.iconst 1, 1) := by decide +kernel
theorem dX8_within_11 : decode cX8_within 11 = .ok (.goto 4, 3) := by decide +kernel
theorem dX8_within_14 : decode cX8_within 14 = .ok (.iconst 0, 1) := by decide +kernel
theorem dX8_within_15 : decode cX8_within 15 = .ok (.ireturn, 1) := by decide +kernel
theorem dX8_bit_0 : decode cX8_bit 0 = .ok (.iload_n 0, 1) := by decide +kernel
theorem dX8_bit_1 : decode cX8_bit 1 = .ok (.iload_n 1, 1) := by decide +kernel
theorem dX8_bit_2 : decode cX8_bit 2 = .ok (.ishr, 1) := by decide +kernel
theorem dX8_bit_3 : decode cX8_bit 3 = .ok (.iconst 1, 1) := by decide +kernel
theorem dX8_bit_4 : decode cX8_bit 4 = .ok (.iand, 1) := by decide +kernel
theorem dX8_bit_5 : decode cX8_bit 5 = .ok (.ireturn, 1) := by decide +kernel
theorem dX8_inLeastTerms_0 : decode cX8_inLeastTerms 0 = .ok (.iload_n 0, 1) := by decide +kernel
theorem dX8_inLeastTerms_1 : decode cX8_inLeastTerms 1 = .ok (.iload_n 1, 1) := by decide +kernel
theorem dX8_inLeastTerms_2 : decode cX8_inLeastTerms 2 = .ok (.invokestatic 270, 3) := by decide +kernel
theorem dX8_inLeastTerms_5 : decode cX8_inLeastTerms 5 = .ok (.istore_n 2, 1) := by decide +kernel
theorem dX8_inLeastTerms_6 : decode cX8_inLeastTerms 6 = .ok (.iload_n 2, 1) := by decide +kernel
theorem dX8_inLeastTerms_7 : decode cX8_inLeastTerms 7 = .ok (.iconst 1, 1) := by decide +kernel
theorem dX8_inLeastTerms_8 : decode cX8_inLeastTerms 8 = .ok (.if_icmp .ge 7, 3) := by decide +kernel
theorem dX8_inLeastTerms_11 : decode cX8_inLeastTerms 11 = .ok (.iload_n 0, 1) := by decide +kernel
theorem dX8_inLeastTerms_12 : decode cX8_inLeastTerms 12 = .ok (.goto 6, 3) := by decide +kernel
theorem dX8_inLeastTerms_15 : decode cX8_inLeastTerms 15 = .ok (.iload_n 0, 1) := by decide +kernel
theorem dX8_inLeastTerms_16 : decode cX8_inLeastTerms 16 = .ok (.iload_n 2, 1) := by decide +kernel
theorem dX8_inLeastTerms_17 : decode cX8_inLeastTerms 17 = .ok (.idiv, 1) := by decide +kernel
theorem dX8_inLeastTerms_18 : decode cX8_inLeastTerms 18 = .ok (.ireturn, 1) := by decide +kernel
theorem dX8_commonDivisor_0 : decode cX8_commonDivisor 0 = .ok (.iload_n 0, 1) := by decide +kernel
theorem dX8_commonDivisor_1 : decode cX8_commonDivisor 1 = .ok (.istore_n 2, 1) := by decide +kernel
theorem dX8_commonDivisor_2 : decode cX8_commonDivisor 2 = .ok (.iload_n 1, 1) := by decide +kernel
theorem dX8_commonDivisor_3 : decode cX8_commonDivisor 3 = .ok (.istore_n 3, 1) := by decide +kernel
theorem dX8_commonDivisor_4 : decode cX8_commonDivisor 4 = .ok (.iconst 0, 1) := by decide +kernel
theorem dX8_commonDivisor_5 : decode cX8_commonDivisor 5 = .ok (.istore 4, 2) := by decide +kernel
theorem dX8_commonDivisor_7 : decode cX8_commonDivisor 7 = .ok (.iload 4, 2) := by decide +kernel
theorem dX8_commonDivisor_9 : decode cX8_commonDivisor 9 = .ok (.bipush 64, 2) := by decide +kernel
theorem dX8_commonDivisor_11 : decode cX8_commonDivisor 11 = .ok (.if_icmp .ge 23, 3) := by decide +kernel
theorem dX8_commonDivisor_14 : decode cX8_commonDivisor 14 = .ok (.iload_n 3, 1) := by decide +kernel
theorem dX8_commonDivisor_15 : decode cX8_commonDivisor 15 = .ok (.ifCond .eq 19, 3) := by decide +kernel
theorem dX8_commonDivisor_18 : decode cX8_commonDivisor 18 = .ok (.iload_n 2, 1) := by decide +kernel
theorem dX8_commonDivisor_19 : decode cX8_commonDivisor 19 = .ok (.iload_n 3, 1) := by decide +kernel
theorem dX8_commonDivisor_20 : decode cX8_commonDivisor 20 = .ok (.irem, 1) := by decide +kernel
theorem dX8_commonDivisor_21 : decode cX8_commonDivisor 21 = .ok (.istore 5, 2) := by decide +kernel
theorem dX8_commonDivisor_23 : decode cX8_commonDivisor 23 = .ok (.iload_n 3, 1) := by decide +kernel
theorem dX8_commonDivisor_24 : decode cX8_commonDivisor 24 = .ok (.istore_n 2, 1) := by decide +kernel
theorem dX8_commonDivisor_25 : decode cX8_commonDivisor 25 = .ok (.iload 5, 2) := by decide +kernel
theorem dX8_commonDivisor_27 : decode cX8_commonDivisor 27 = .ok (.istore_n 3, 1) := by decide +kernel
theorem dX8_commonDivisor_28 : decode cX8_commonDivisor 28 = .ok (.iinc 4 1, 3) := by decide +kernel
theorem dX8_commonDivisor_31 : decode cX8_commonDivisor 31 = .ok (.goto (-24), 3) := by decide +kernel
theorem dX8_commonDivisor_34 : decode cX8_commonDivisor 34 = .ok (.iload_n 2, 1) := by decide +kernel
theorem dX8_commonDivisor_35 : decode cX8_commonDivisor 35 = .ok (.ireturn, 1) := by decide +kernel
theorem dX8_power_0 : decode cX8_power 0 = .ok (.iconst 1, 1) := by decide +kernel
theorem dX8_power_1 : decode cX8_power 1 = .ok (.istore_n 2, 1) := by decide +kernel
theorem dX8_power_2 : decode cX8_power 2 = .ok (.iconst 0, 1) := by decide +kernel
theorem dX8_power_3 : decode cX8_power 3 = .ok (.istore_n 3, 1) := by decide +kernel
theorem dX8_power_4 : decode cX8_power 4 = .ok (.iload_n 3, 1) := by decide +kernel
theorem dX8_power_5 : decode cX8_power 5 = .ok (.iload_n 1, 1) := by decide +kernel
theorem dX8_power_6 : decode cX8_power 6 = .ok (.if_icmp .ge 13, 3) := by decide +kernel
theorem dX8_power_9 : decode cX8_power 9 = .ok (.iload_n 2, 1) := by decide +kernel
theorem dX8_power_10 : decode cX8_power 10 = .ok (.iload_n 0, 1) := by decide +kernel
theorem dX8_power_11 : decode cX8_power 11 = .ok (.imul, 1) := by decide +kernel
theorem dX8_power_12 : decode cX8_power 12 = .ok (.istore_n 2, 1) := by decide +kernel
theorem dX8_power_13 : decode cX8_power 13 = .ok (.iinc 3 1, 3) := by decide +kernel
theorem dX8_power_16 : decode cX8_power 16 = .ok (.goto (-12), 3) := by decide +kernel
theorem dX8_power_19 : decode cX8_power 19 = .ok (.iload_n 2, 1) := by decide +kernel
theorem dX8_power_20 : decode cX8_power 20 = .ok (.ireturn, 1) := by decide +kernel
theorem dX8_choices_0 : decode cX8_choices 0 = .ok (.iconst 1, 1) := by decide +kernel
theorem dX8_choices_1 : decode cX8_choices 1 = .ok (.istore_n 2, 1) := by decide +kernel
theorem dX8_choices_2 : decode cX8_choices 2 = .ok (.iconst 1, 1) := by decide +kernel
theorem dX8_choices_3 : decode cX8_choices 3 = .ok (.istore_n 3, 1) := by decide +kernel
theorem dX8_choices_4 : decode cX8_choices 4 = .ok (.iload_n 3, 1) := by decide +kernel
theorem dX8_choices_5 : decode cX8_choices 5 = .ok (.iload_n 1, 1) := by decide +kernel
theorem dX8_choices_6 : decode cX8_choices 6 = .ok (.if_icmp .gt 19, 3) := by decide +kernel
theorem dX8_choices_9 : decode cX8_choices 9 = .ok (.iload_n 2, 1) := by decide +kernel
theorem dX8_choices_10 : decode cX8_choices 10 = .ok (.iload_n 0, 1) := by decide +kernel
theorem dX8_choices_11 : decode cX8_choices 11 = .ok (.iload_n 1, 1) := by decide +kernel
theorem dX8_choices_12 : decode cX8_choices 12 = .ok (.isub, 1) := by decide +kernel
theorem dX8_choices_13 : decode cX8_choices 13 = .ok (.iload_n 3, 1) := by decide +kernel
theorem dX8_choices_14 : decode cX8_choices 14 = .ok (.iadd, 1) := by decide +kernel
theorem dX8_choices_15 : decode cX8_choices 15 = .ok (.imul, 1) := by decide +kernel
theorem dX8_choices_16 : decode cX8_choices 16 = .ok (.iload_n 3, 1) := by decide +kernel
theorem dX8_choices_17 : decode cX8_choices 17 = .ok (.idiv, 1) := by decide +kernel
theorem dX8_choices_18 : decode cX8_choices 18 = .ok (.istore_n 2, 1) := by decide +kernel
theorem dX8_choices_19 : decode cX8_choices 19 = .ok (.iinc 3 1, 3) := by decide +kernel
theorem dX8_choices_22 : decode cX8_choices 22 = .ok (.goto (-18), 3) := by decide +kernel
theorem dX8_choices_25 : decode cX8_choices 25 = .ok (.iload_n 2, 1) := by decide +kernel
theorem dX8_choices_26 : decode cX8_choices 26 = .ok (.ireturn, 1) := by decide +kernel
