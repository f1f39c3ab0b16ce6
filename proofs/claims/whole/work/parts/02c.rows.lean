theorem dX0_init_0 : decode cX0_init 0 = .ok (.aload_n 0, 1) := by decide +kernel
theorem dX0_init_1 : decode cX0_init 1 = .ok (.invokespecial 3, 3) := by decide +kernel
theorem dX0_init_4 : decode cX0_init 4 = .ok (.aload_n 0, 1) := by decide +kernel
theorem dX0_init_5 : decode cX0_init 5 = .ok (.bipush 6, 2) := by decide +kernel
theorem dX0_init_7 : decode cX0_init 7 = .ok (.newarray .int, 2) := by decide +kernel
theorem dX0_init_9 : decode cX0_init 9 = .ok (.putfield 9, 3) := by decide +kernel
theorem dX0_init_12 : decode cX0_init 12 = .ok (.aload_n 0, 1) := by decide +kernel
theorem dX0_init_13 : decode cX0_init 13 = .ok (.bipush 6, 2) := by decide +kernel
theorem dX0_init_15 : decode cX0_init 15 = .ok (.newarray .int, 2) := by decide +kernel
theorem dX0_init_17 : decode cX0_init 17 = .ok (.putfield 15, 3) := by decide +kernel
theorem dX0_init_20 : decode cX0_init 20 = .ok (.aload_n 0, 1) := by decide +kernel
theorem dX0_init_21 : decode cX0_init 21 = .ok (.iconst 0, 1) := by decide +kernel
theorem dX0_init_22 : decode cX0_init 22 = .ok (.putfield 18, 3) := by decide +kernel
theorem dX0_init_25 : decode cX0_init 25 = .ok (.return_, 1) := by decide +kernel
theorem dX0_add_0 : decode cX0_add 0 = .ok (.aload_n 0, 1) := by decide +kernel
theorem dX0_add_1 : decode cX0_add 1 = .ok (.getfield 18, 3) := by decide +kernel
theorem dX0_add_4 : decode cX0_add 4 = .ok (.bipush 6, 2) := by decide +kernel
theorem dX0_add_6 : decode cX0_add 6 = .ok (.if_icmp .lt 6, 3) := by decide +kernel
theorem dX0_add_9 : decode cX0_add 9 = .ok (.bipush (-3), 2) := by decide +kernel
theorem dX0_add_11 : decode cX0_add 11 = .ok (.ireturn, 1) := by decide +kernel
theorem dX0_add_12 : decode cX0_add 12 = .ok (.aload_n 0, 1) := by decide +kernel
theorem dX0_add_13 : decode cX0_add 13 = .ok (.getfield 9, 3) := by decide +kernel
theorem dX0_add_16 : decode cX0_add 16 = .ok (.aload_n 0, 1) := by decide +kernel
theorem dX0_add_17 : decode cX0_add 17 = .ok (.getfield 18, 3) := by decide +kernel
theorem dX0_add_20 : decode cX0_add 20 = .ok (.iload_n 1, 1) := by decide +kernel
theorem dX0_add_21 : decode cX0_add 21 = .ok (.iastore, 1) := by decide +kernel
theorem dX0_add_22 : decode cX0_add 22 = .ok (.aload_n 0, 1) := by decide +kernel
theorem dX0_add_23 : decode cX0_add 23 = .ok (.getfield 15, 3) := by decide +kernel
theorem dX0_add_26 : decode cX0_add 26 = .ok (.aload_n 0, 1) := by decide +kernel
theorem dX0_add_27 : decode cX0_add 27 = .ok (.getfield 18, 3) := by decide +kernel
theorem dX0_add_30 : decode cX0_add 30 = .ok (.iload_n 2, 1) := by decide +kernel
theorem dX0_add_31 : decode cX0_add 31 = .ok (.iastore, 1) := by decide +kernel
theorem dX0_add_32 : decode cX0_add 32 = .ok (.aload_n 0, 1) := by decide +kernel
theorem dX0_add_33 : decode cX0_add 33 = .ok (.dup, 1) := by decide +kernel
theorem dX0_add_34 : decode cX0_add 34 = .ok (.getfield 18, 3) := by decide +kernel
theorem dX0_add_37 : decode cX0_add 37 = .ok (.iconst 1, 1) := by decide +kernel
theorem dX0_add_38 : decode cX0_add 38 = .ok (.iadd, 1) := by decide +kernel
theorem dX0_add_39 : decode cX0_add 39 = .ok (.putfield 18, 3) := by decide +kernel
theorem dX0_add_42 : decode cX0_add 42 = .ok (.aload_n 0, 1) := by decide +kernel
theorem dX0_add_43 : decode cX0_add 43 = .ok (.getfield 18, 3) := by decide +kernel
theorem dX0_add_46 : decode cX0_add 46 = .ok (.ireturn, 1) := by decide +kernel
theorem dX0_agree_0 : decode cX0_agree 0 = .ok (.iconst 0, 1) := by decide +kernel
theorem dX0_agree_1 : decode cX0_agree 1 = .ok (.istore_n 2, 1) := by decide +kernel
theorem dX0_agree_2 : decode cX0_agree 2 = .ok (.iload_n 2, 1) := by decide +kernel
theorem dX0_agree_3 : decode cX0_agree 3 = .ok (.aload_n 0, 1) := by decide +kernel
theorem dX0_agree_4 : decode cX0_agree 4 = .ok (.getfield 18, 3) := by decide +kernel
theorem dX0_agree_7 : decode cX0_agree 7 = .ok (.if_icmp .ge 30, 3) := by decide +kernel
theorem dX0_agree_10 : decode cX0_agree 10 = .ok (.iload_n 1, 1) := by decide +kernel
theorem dX0_agree_11 : decode cX0_agree 11 = .ok (.aload_n 0, 1) := by decide +kernel
theorem dX0_agree_12 : decode cX0_agree 12 = .ok (.getfield 9, 3) := by decide +kernel
theorem dX0_agree_15 : decode cX0_agree 15 = .ok (.iload_n 2, 1) := by decide +kernel
theorem dX0_agree_16 : decode cX0_agree 16 = .ok (.iaload, 1) := by decide +kernel
theorem dX0_agree_17 : decode cX0_agree 17 = .ok (.invokestatic 22, 3) := by decide +kernel
theorem dX0_agree_20 : decode cX0_agree 20 = .ok (.aload_n 0, 1) := by decide +kernel
theorem dX0_agree_21 : decode cX0_agree 21 = .ok (.getfield 15, 3) := by decide +kernel
theorem dX0_agree_24 : decode cX0_agree 24 = .ok (.iload_n 2, 1) := by decide +kernel
theorem dX0_agree_25 : decode cX0_agree 25 = .ok (.iaload, 1) := by decide +kernel
theorem dX0_agree_26 : decode cX0_agree 26 = .ok (.if_icmp .eq 5, 3) := by decide +kernel
theorem dX0_agree_29 : decode cX0_agree 29 = .ok (.iconst 0, 1) := by decide +kernel
theorem dX0_agree_30 : decode cX0_agree 30 = .ok (.ireturn, 1) := by decide +kernel
theorem dX0_agree_31 : decode cX0_agree 31 = .ok (.iinc 2 1, 3) := by decide +kernel
theorem dX0_agree_34 : decode cX0_agree 34 = .ok (.goto (-32), 3) := by decide +kernel
theorem dX0_agree_37 : decode cX0_agree 37 = .ok (.iconst 1, 1) := by decide +kernel
theorem dX0_agree_38 : decode cX0_agree 38 = .ok (.ireturn, 1) := by decide +kernel
theorem dX1_init_0 : decode cX1_init 0 = .ok (.aload_n 0, 1) := by decide +kernel
theorem dX1_init_1 : decode cX1_init 1 = .ok (.invokespecial 3, 3) := by decide +kernel
theorem dX1_init_4 : decode cX1_init 4 = .ok (.aload_n 0, 1) := by decide +kernel
theorem dX1_init_5 : decode cX1_init 5 = .ok (.bipush 7, 2) := by decide +kernel
theorem dX1_init_7 : decode cX1_init 7 = .ok (.newarray .int, 2) := by decide +kernel
theorem dX1_init_9 : decode cX1_init 9 = .ok (.putfield 9, 3) := by decide +kernel
theorem dX1_init_12 : decode cX1_init 12 = .ok (.aload_n 0, 1) := by decide +kernel
theorem dX1_init_13 : decode cX1_init 13 = .ok (.bipush 7, 2) := by decide +kernel
theorem dX1_init_15 : decode cX1_init 15 = .ok (.newarray .int, 2) := by decide +kernel
theorem dX1_init_17 : decode cX1_init 17 = .ok (.putfield 15, 3) := by decide +kernel
theorem dX1_init_20 : decode cX1_init 20 = .ok (.aload_n 0, 1) := by decide +kernel
theorem dX1_init_21 : decode cX1_init 21 = .ok (.bipush 7, 2) := by decide +kernel
theorem dX1_init_23 : decode cX1_init 23 = .ok (.newarray .int, 2) := by decide +kernel
theorem dX1_init_25 : decode cX1_init 25 = .ok (.putfield 18, 3) := by decide +kernel
theorem dX1_init_28 : decode cX1_init 28 = .ok (.aload_n 0, 1) := by decide +kernel
theorem dX1_init_29 : decode cX1_init 29 = .ok (.new 21, 3) := by decide +kernel
theorem dX1_init_32 : decode cX1_init 32 = .ok (.dup, 1) := by decide +kernel
theorem dX1_init_33 : decode cX1_init 33 = .ok (.invokespecial 23, 3) := by decide +kernel
theorem dX1_init_36 : decode cX1_init 36 = .ok (.putfield 24, 3) := by decide +kernel
theorem dX1_init_39 : decode cX1_init 39 = .ok (.aload_n 0, 1) := by decide +kernel
theorem dX1_init_40 : decode cX1_init 40 = .ok (.iconst 4, 1) := by decide +kernel
theorem dX1_init_41 : decode cX1_init 41 = .ok (.putfield 28, 3) := by decide +kernel
theorem dX1_init_44 : decode cX1_init 44 = .ok (.aload_n 0, 1) := by decide +kernel
theorem dX1_init_45 : decode cX1_init 45 = .ok (.iconst 0, 1) := by decide +kernel
theorem dX1_init_46 : decode cX1_init 46 = .ok (.putfield 32, 3) := by decide +kernel
theorem dX1_init_49 : decode cX1_init 49 = .ok (.return_, 1) := by decide +kernel
theorem dX1_empty_0 : decode cX1_empty 0 = .ok (.aload_n 0, 1) := by decide +kernel
theorem dX1_empty_1 : decode cX1_empty 1 = .ok (.iconst 4, 1) := by decide +kernel
theorem dX1_empty_2 : decode cX1_empty 2 = .ok (.putfield 28, 3) := by decide +kernel
theorem dX1_empty_5 : decode cX1_empty 5 = .ok (.aload_n 0, 1) := by decide +kernel
theorem dX1_empty_6 : decode cX1_empty 6 = .ok (.iconst 0, 1) := by decide +kernel
theorem dX1_empty_7 : decode cX1_empty 7 = .ok (.putfield 32, 3) := by decide +kernel
theorem dX1_empty_10 : decode cX1_empty 10 = .ok (.aload_n 0, 1) := by decide +kernel
theorem dX1_empty_11 : decode cX1_empty 11 = .ok (.getfield 24, 3) := by decide +kernel
theorem dX1_empty_14 : decode cX1_empty 14 = .ok (.iconst 0, 1) := by decide +kernel
theorem dX1_empty_15 : decode cX1_empty 15 = .ok (.putfield 35, 3) := by decide +kernel
theorem dX1_empty_18 : decode cX1_empty 18 = .ok (.aload_n 0, 1) := by decide +kernel
theorem dX1_empty_19 : decode cX1_empty 19 = .ok (.getfield 24, 3) := by decide +kernel
theorem dX1_empty_22 : decode cX1_empty 22 = .ok (.bipush 15, 2) := by decide +kernel
theorem dX1_empty_24 : decode cX1_empty 24 = .ok (.putfield 38, 3) := by decide +kernel
theorem dX1_empty_27 : decode cX1_empty 27 = .ok (.aload_n 0, 1) := by decide +kernel
theorem dX1_empty_28 : decode cX1_empty 28 = .ok (.getfield 24, 3) := by decide +kernel
theorem dX1_empty_31 : decode cX1_empty 31 = .ok (.iconst 0, 1) := by decide +kernel
theorem dX1_empty_32 : decode cX1_empty 32 = .ok (.putfield 41, 3) := by decide +kernel
theorem dX1_empty_35 : decode cX1_empty 35 = .ok (.aload_n 0, 1) := by decide +kernel
theorem dX1_empty_36 : decode cX1_empty 36 = .ok (.getfield 24, 3) := by decide +kernel
theorem dX1_empty_39 : decode cX1_empty 39 = .ok (.iconst 0, 1) := by decide +kernel
theorem dX1_empty_40 : decode cX1_empty 40 = .ok (.putfield 44, 3) := by decide +kernel
theorem dX1_empty_43 : decode cX1_empty 43 = .ok (.return_, 1) := by decide +kernel
theorem dX1_take_0 : decode cX1_take 0 = .ok (.aload_n 1, 1) := by decide +kernel
theorem dX1_take_1 : decode cX1_take 1 = .ok (.getfield 9, 3) := by decide +kernel
theorem dX1_take_4 : decode cX1_take 4 = .ok (.iconst 0, 1) := by decide +kernel
theorem dX1_take_5 : decode cX1_take 5 = .ok (.aload_n 0, 1) := by decide +kernel
theorem dX1_take_6 : decode cX1_take 6 = .ok (.getfield 9, 3) := by decide +kernel
theorem dX1_take_9 : decode cX1_take 9 = .ok (.iconst 0, 1) := by decide +kernel
theorem dX1_take_10 : decode cX1_take 10 = .ok (.bipush 7, 2) := by decide +kernel
theorem dX1_take_12 : decode cX1_take 12 = .ok (.invokestatic 47, 3) := by decide +kernel
theorem dX1_take_15 : decode cX1_take 15 = .ok (.aload_n 1, 1) := by decide +kernel
theorem dX1_take_16 : decode cX1_take 16 = .ok (.getfield 15, 3) := by decide +kernel
theorem dX1_take_19 : decode cX1_take 19 = .ok (.iconst 0, 1) := by decide +kernel
theorem dX1_take_20 : decode cX1_take 20 = .ok (.aload_n 0, 1) := by decide +kernel
theorem dX1_take_21 : decode cX1_take 21 = .ok (.getfield 15, 3) := by decide +kernel
theorem dX1_take_24 : decode cX1_take 24 = .ok (.iconst 0, 1) := by decide +kernel
theorem dX1_take_25 : decode cX1_take 25 = .ok (.bipush 7, 2) := by decide +kernel
theorem dX1_take_27 : decode cX1_take 27 = .ok (.invokestatic 47, 3) := by decide +kernel
theorem dX1_take_30 : decode cX1_take 30 = .ok (.aload_n 0, 1) := by decide +kernel
theorem dX1_take_31 : decode cX1_take 31 = .ok (.getfield 24, 3) := by decide +kernel
theorem dX1_take_34 : decode cX1_take 34 = .ok (.aload_n 1, 1) := by decide +kernel
theorem dX1_take_35 : decode cX1_take 35 = .ok (.getfield 24, 3) := by decide +kernel
theorem dX1_take_38 : decode cX1_take 38 = .ok (.invokevirtual 53, 3) := by decide +kernel
theorem dX1_take_41 : decode cX1_take 41 = .ok (.aload_n 0, 1) := by decide +kernel
theorem dX1_take_42 : decode cX1_take 42 = .ok (.aload_n 1, 1) := by decide +kernel
theorem dX1_take_43 : decode cX1_take 43 = .ok (.getfield 28, 3) := by decide +kernel
theorem dX1_take_46 : decode cX1_take 46 = .ok (.putfield 28, 3) := by decide +kernel
theorem dX1_take_49 : decode cX1_take 49 = .ok (.aload_n 0, 1) := by decide +kernel
theorem dX1_take_50 : decode cX1_take 50 = .ok (.aload_n 1, 1) := by decide +kernel
theorem dX1_take_51 : decode cX1_take 51 = .ok (.getfield 32, 3) := by decide +kernel
theorem dX1_take_54 : decode cX1_take 54 = .ok (.putfield 32, 3) := by decide +kernel
theorem dX1_take_57 : decode cX1_take 57 = .ok (.return_, 1) := by decide +kernel
theorem dX1_addPerson_0 : decode cX1_addPerson 0 = .ok (.aload_n 0, 1) := by decide +kernel
theorem dX1_addPerson_1 : decode cX1_addPerson 1 = .ok (.getfield 32, 3) := by decide +kernel
theorem dX1_addPerson_4 : decode cX1_addPerson 4 = .ok (.bipush 7, 2) := by decide +kernel
theorem dX1_addPerson_6 : decode cX1_addPerson 6 = .ok (.if_icmp .lt 4, 3) := by decide +kernel
theorem dX1_addPerson_9 : decode cX1_addPerson 9 = .ok (.return_, 1) := by decide +kernel
theorem dX1_addPerson_10 : decode cX1_addPerson 10 = .ok (.aload_n 0, 1) := by decide +kernel
theorem dX1_addPerson_11 : decode cX1_addPerson 11 = .ok (.getfield 24, 3) := by decide +kernel
theorem dX1_addPerson_14 : decode cX1_addPerson 14 = .ok (.getfield 57, 3) := by decide +kernel
theorem dX1_addPerson_17 : decode cX1_addPerson 17 = .ok (.aload_n 0, 1) := by decide +kernel
theorem dX1_addPerson_18 : decode cX1_addPerson 18 = .ok (.getfield 32, 3) := by decide +kernel
theorem dX1_addPerson_21 : decode cX1_addPerson 21 = .ok (.iload_n 1, 1) := by decide +kernel
theorem dX1_addPerson_22 : decode cX1_addPerson 22 = .ok (.iastore, 1) := by decide +kernel
theorem dX1_addPerson_23 : decode cX1_addPerson 23 = .ok (.aload_n 0, 1) := by decide +kernel
theorem dX1_addPerson_24 : decode cX1_addPerson 24 = .ok (.getfield 24, 3) := by decide +kernel
theorem dX1_addPerson_27 : decode cX1_addPerson 27 = .ok (.getfield 60, 3) := by decide +kernel
theorem dX1_addPerson_30 : decode cX1_addPerson 30 = .ok (.aload_n 0, 1) := by decide +kernel
theorem dX1_addPerson_31 : decode cX1_addPerson 31 = .ok (.getfield 32, 3) := by decide +kernel
theorem dX1_addPerson_34 : decode cX1_addPerson 34 = .ok (.iload_n 2, 1) := by decide +kernel
theorem dX1_addPerson_35 : decode cX1_addPerson 35 = .ok (.iastore, 1) := by decide +kernel
theorem dX1_addPerson_36 : decode cX1_addPerson 36 = .ok (.aload_n 0, 1) := by decide +kernel
theorem dX1_addPerson_37 : decode cX1_addPerson 37 = .ok (.getfield 24, 3) := by decide +kernel
theorem dX1_addPerson_40 : decode cX1_addPerson 40 = .ok (.getfield 63, 3) := by decide +kernel
theorem dX1_addPerson_43 : decode cX1_addPerson 43 = .ok (.aload_n 0, 1) := by decide +kernel
theorem dX1_addPerson_44 : decode cX1_addPerson 44 = .ok (.getfield 32, 3) := by decide +kernel
theorem dX1_addPerson_47 : decode cX1_addPerson 47 = .ok (.iconst 0, 1) := by decide +kernel
theorem dX1_addPerson_48 : decode cX1_addPerson 48 = .ok (.iastore, 1) := by decide +kernel
theorem dX1_addPerson_49 : decode cX1_addPerson 49 = .ok (.aload_n 0, 1) := by decide +kernel
theorem dX1_addPerson_50 : decode cX1_addPerson 50 = .ok (.getfield 9, 3) := by decide +kernel
theorem dX1_addPerson_53 : decode cX1_addPerson 53 = .ok (.aload_n 0, 1) := by decide +kernel
theorem dX1_addPerson_54 : decode cX1_addPerson 54 = .ok (.getfield 32, 3) := by decide +kernel
theorem dX1_addPerson_57 : decode cX1_addPerson 57 = .ok (.iload_n 3, 1) := by decide +kernel
theorem dX1_addPerson_58 : decode cX1_addPerson 58 = .ok (.iastore, 1) := by decide +kernel
theorem dX1_addPerson_59 : decode cX1_addPerson 59 = .ok (.aload_n 0, 1) := by decide +kernel
theorem dX1_addPerson_60 : decode cX1_addPerson 60 = .ok (.getfield 15, 3) := by decide +kernel
theorem dX1_addPerson_63 : decode cX1_addPerson 63 = .ok (.aload_n 0, 1) := by decide +kernel
theorem dX1_addPerson_64 : decode cX1_addPerson 64 = .ok (.getfield 32, 3) := by decide +kernel
theorem dX1_addPerson_67 : decode cX1_addPerson 67 = .ok (.iconst 0, 1) := by decide +kernel
theorem dX1_addPerson_68 : decode cX1_addPerson 68 = .ok (.iastore, 1) := by decide +kernel
theorem dX1_addPerson_69 : decode cX1_addPerson 69 = .ok (.aload_n 0, 1) := by decide +kernel
theorem dX1_addPerson_70 : decode cX1_addPerson 70 = .ok (.dup, 1) := by decide +kernel
theorem dX1_addPerson_71 : decode cX1_addPerson 71 = .ok (.getfield 32, 3) := by decide +kernel
theorem dX1_addPerson_74 : decode cX1_addPerson 74 = .ok (.iconst 1, 1) := by decide +kernel
theorem dX1_addPerson_75 : decode cX1_addPerson 75 = .ok (.iadd, 1) := by decide +kernel
theorem dX1_addPerson_76 : decode cX1_addPerson 76 = .ok (.putfield 32, 3) := by decide +kernel
theorem dX1_addPerson_79 : decode cX1_addPerson 79 = .ok (.return_, 1) := by decide +kernel
theorem dX1_hasPerson_0 : decode cX1_hasPerson 0 = .ok (.iload_n 1, 1) := by decide +kernel
theorem dX1_hasPerson_1 : decode cX1_hasPerson 1 = .ok (.iconst 0, 1) := by decide +kernel
theorem dX1_hasPerson_2 : decode cX1_hasPerson 2 = .ok (.aload_n 0, 1) := by decide +kernel
theorem dX1_hasPerson_3 : decode cX1_hasPerson 3 = .ok (.getfield 32, 3) := by decide +kernel
theorem dX1_hasPerson_6 : decode cX1_hasPerson 6 = .ok (.iconst 1, 1) := by decide +kernel
theorem dX1_hasPerson_7 : decode cX1_hasPerson 7 = .ok (.isub, 1) := by decide +kernel
theorem dX1_hasPerson_8 : decode cX1_hasPerson 8 = .ok (.invokestatic 66, 3) := by decide +kernel
theorem dX1_hasPerson_11 : decode cX1_hasPerson 11 = .ok (.ireturn, 1) := by decide +kernel
theorem dX1_hasName_0 : decode cX1_hasName 0 = .ok (.iload_n 1, 1) := by decide +kernel
theorem dX1_hasName_1 : decode cX1_hasName 1 = .ok (.iconst 0, 1) := by decide +kernel
theorem dX1_hasName_2 : decode cX1_hasName 2 = .ok (.aload_n 0, 1) := by decide +kernel
theorem dX1_hasName_3 : decode cX1_hasName 3 = .ok (.getfield 28, 3) := by decide +kernel
theorem dX1_hasName_6 : decode cX1_hasName 6 = .ok (.iconst 1, 1) := by decide +kernel
theorem dX1_hasName_7 : decode cX1_hasName 7 = .ok (.isub, 1) := by decide +kernel
theorem dX1_hasName_8 : decode cX1_hasName 8 = .ok (.invokestatic 66, 3) := by decide +kernel
theorem dX1_hasName_11 : decode cX1_hasName 11 = .ok (.ireturn, 1) := by decide +kernel
theorem dX1_quarrel_0 : decode cX1_quarrel 0 = .ok (.aload_n 0, 1) := by decide +kernel
theorem dX1_quarrel_1 : decode cX1_quarrel 1 = .ok (.getfield 15, 3) := by decide +kernel
theorem dX1_quarrel_4 : decode cX1_quarrel 4 = .ok (.iload_n 1, 1) := by decide +kernel
theorem dX1_quarrel_5 : decode cX1_quarrel 5 = .ok (.iaload, 1) := by decide +kernel
theorem dX1_quarrel_6 : decode cX1_quarrel 6 = .ok (.iload_n 2, 1) := by decide +kernel
theorem dX1_quarrel_7 : decode cX1_quarrel 7 = .ok (.invokestatic 70, 3) := by decide +kernel
theorem dX1_quarrel_10 : decode cX1_quarrel 10 = .ok (.iconst 1, 1) := by decide +kernel
theorem dX1_quarrel_11 : decode cX1_quarrel 11 = .ok (.if_icmp .ne 7, 3) := by decide +kernel
theorem dX1_quarrel_14 : decode cX1_quarrel 14 = .ok (.iconst 1, 1) := by decide +kernel
theorem dX1_quarrel_15 : decode cX1_quarrel 15 = .ok (.goto 4, 3) := by decide +kernel
theorem dX1_quarrel_18 : decode cX1_quarrel 18 = .ok (.iconst 0, 1) := by decide +kernel
theorem dX1_quarrel_19 : decode cX1_quarrel 19 = .ok (.ireturn, 1) := by decide +kernel
theorem dX1_bearers_0 : decode cX1_bearers 0 = .ok (.iconst 0, 1) := by decide +kernel
theorem dX1_bearers_1 : decode cX1_bearers 1 = .ok (.istore_n 2, 1) := by decide +kernel
theorem dX1_bearers_2 : decode cX1_bearers 2 = .ok (.iconst 0, 1) := by decide +kernel
theorem dX1_bearers_3 : decode cX1_bearers 3 = .ok (.istore_n 3, 1) := by decide +kernel
theorem dX1_bearers_4 : decode cX1_bearers 4 = .ok (.iload_n 3, 1) := by decide +kernel
theorem dX1_bearers_5 : decode cX1_bearers 5 = .ok (.aload_n 0, 1) := by decide +kernel
theorem dX1_bearers_6 : decode cX1_bearers 6 = .ok (.getfield 32, 3) := by decide +kernel
theorem dX1_bearers_9 : decode cX1_bearers 9 = .ok (.if_icmp .ge 28, 3) := by decide +kernel
theorem dX1_bearers_12 : decode cX1_bearers 12 = .ok (.aload_n 0, 1) := by decide +kernel
theorem dX1_bearers_13 : decode cX1_bearers 13 = .ok (.getfield 24, 3) := by decide +kernel
theorem dX1_bearers_16 : decode cX1_bearers 16 = .ok (.getfield 57, 3) := by decide +kernel
theorem dX1_bearers_19 : decode cX1_bearers 19 = .ok (.iload_n 3, 1) := by decide +kernel
theorem dX1_bearers_20 : decode cX1_bearers 20 = .ok (.iaload, 1) := by decide +kernel
theorem dX1_bearers_21 : decode cX1_bearers 21 = .ok (.iload_n 1, 1) := by decide +kernel
theorem dX1_bearers_22 : decode cX1_bearers 22 = .ok (.if_icmp .ne 9, 3) := by decide +kernel
theorem dX1_bearers_25 : decode cX1_bearers 25 = .ok (.iload_n 2, 1) := by decide +kernel
theorem dX1_bearers_26 : decode cX1_bearers 26 = .ok (.iconst 1, 1) := by decide +kernel
theorem dX1_bearers_27 : decode cX1_bearers 27 = .ok (.iload_n 3, 1) := by decide +kernel
theorem dX1_bearers_28 : decode cX1_bearers 28 = .ok (.ishl, 1) := by decide +kernel
theorem dX1_bearers_29 : decode cX1_bearers 29 = .ok (.ior, 1) := by decide +kernel
theorem dX1_bearers_30 : decode cX1_bearers 30 = .ok (.istore_n 2, 1) := by decide +kernel
theorem dX1_bearers_31 : decode cX1_bearers 31 = .ok (.iinc 3 1, 3) := by decide +kernel
theorem dX1_bearers_34 : decode cX1_bearers 34 = .ok (.goto (-30), 3) := by decide +kernel
theorem dX1_bearers_37 : decode cX1_bearers 37 = .ok (.iload_n 2, 1) := by decide +kernel
theorem dX1_bearers_38 : decode cX1_bearers 38 = .ok (.ireturn, 1) := by decide +kernel
theorem dX1_wealthOf_0 : decode cX1_wealthOf 0 = .ok (.iconst 0, 1) := by decide +kernel
theorem dX1_wealthOf_1 : decode cX1_wealthOf 1 = .ok (.istore_n 2, 1) := by decide +kernel
theorem dX1_wealthOf_2 : decode cX1_wealthOf 2 = .ok (.iconst 0, 1) := by decide +kernel
theorem dX1_wealthOf_3 : decode cX1_wealthOf 3 = .ok (.istore_n 3, 1) := by decide +kernel
theorem dX1_wealthOf_4 : decode cX1_wealthOf 4 = .ok (.iload_n 3, 1) := by decide +kernel
theorem dX1_wealthOf_5 : decode cX1_wealthOf 5 = .ok (.aload_n 0, 1) := by decide +kernel
theorem dX1_wealthOf_6 : decode cX1_wealthOf 6 = .ok (.getfield 32, 3) := by decide +kernel
theorem dX1_wealthOf_9 : decode cX1_wealthOf 9 = .ok (.if_icmp .ge 27, 3) := by decide +kernel
theorem dX1_wealthOf_12 : decode cX1_wealthOf 12 = .ok (.iload_n 2, 1) := by decide +kernel
theorem dX1_wealthOf_13 : decode cX1_wealthOf 13 = .ok (.iload_n 1, 1) := by decide +kernel
theorem dX1_wealthOf_14 : decode cX1_wealthOf 14 = .ok (.iload_n 3, 1) := by decide +kernel
theorem dX1_wealthOf_15 : decode cX1_wealthOf 15 = .ok (.invokestatic 70, 3) := by decide +kernel
theorem dX1_wealthOf_18 : decode cX1_wealthOf 18 = .ok (.aload_n 0, 1) := by decide +kernel
theorem dX1_wealthOf_19 : decode cX1_wealthOf 19 = .ok (.getfield 24, 3) := by decide +kernel
theorem dX1_wealthOf_22 : decode cX1_wealthOf 22 = .ok (.getfield 60, 3) := by decide +kernel
theorem dX1_wealthOf_25 : decode cX1_wealthOf 25 = .ok (.iload_n 3, 1) := by decide +kernel
theorem dX1_wealthOf_26 : decode cX1_wealthOf 26 = .ok (.iaload, 1) := by decide +kernel
theorem dX1_wealthOf_27 : decode cX1_wealthOf 27 = .ok (.imul, 1) := by decide +kernel
theorem dX1_wealthOf_28 : decode cX1_wealthOf 28 = .ok (.iadd, 1) := by decide +kernel
theorem dX1_wealthOf_29 : decode cX1_wealthOf 29 = .ok (.istore_n 2, 1) := by decide +kernel
theorem dX1_wealthOf_30 : decode cX1_wealthOf 30 = .ok (.iinc 3 1, 3) := by decide +kernel
theorem dX1_wealthOf_33 : decode cX1_wealthOf 33 = .ok (.goto (-29), 3) := by decide +kernel
theorem dX1_wealthOf_36 : decode cX1_wealthOf 36 = .ok (.iload_n 2, 1) := by decide +kernel
theorem dX1_wealthOf_37 : decode cX1_wealthOf 37 = .ok (.ireturn, 1) := by decide +kernel
theorem dX1_limping_0 : decode cX1_limping 0 = .ok (.aload_n 0, 1) := by decide +kernel
theorem dX1_limping_1 : decode cX1_limping 1 = .ok (.aload_n 0, 1) := by decide +kernel
theorem dX1_limping_2 : decode cX1_limping 2 = .ok (.getfield 24, 3) := by decide +kernel
theorem dX1_limping_5 : decode cX1_limping 5 = .ok (.getfield 35, 3) := by decide +kernel
theorem dX1_limping_8 : decode cX1_limping 8 = .ok (.aload_n 0, 1) := by decide +kernel
theorem dX1_limping_9 : decode cX1_limping 9 = .ok (.getfield 24, 3) := by decide +kernel
theorem dX1_limping_12 : decode cX1_limping 12 = .ok (.getfield 38, 3) := by decide +kernel
theorem dX1_limping_15 : decode cX1_limping 15 = .ok (.invokevirtual 74, 3) := by decide +kernel
theorem dX1_limping_18 : decode cX1_limping 18 = .ok (.ireturn, 1) := by decide +kernel
theorem dX1_limpingIf_0 : decode cX1_limpingIf 0 = .ok (.iload_n 2, 1) := by decide +kernel
theorem dX1_limpingIf_1 : decode cX1_limpingIf 1 = .ok (.iconst 1, 1) := by decide +kernel
theorem dX1_limpingIf_2 : decode cX1_limpingIf 2 = .ok (.iand, 1) := by decide +kernel
theorem dX1_limpingIf_3 : decode cX1_limpingIf 3 = .ok (.ifCond .ne 5, 3) := by decide +kernel
theorem dX1_limpingIf_6 : decode cX1_limpingIf 6 = .ok (.iload_n 1, 1) := by decide +kernel
theorem dX1_limpingIf_7 : decode cX1_limpingIf 7 = .ok (.ireturn, 1) := by decide +kernel
theorem dX1_limpingIf_8 : decode cX1_limpingIf 8 = .ok (.iconst 0, 1) := by decide +kernel
theorem dX1_limpingIf_9 : decode cX1_limpingIf 9 = .ok (.istore_n 3, 1) := by decide +kernel
theorem dX1_limpingIf_10 : decode cX1_limpingIf 10 = .ok (.iconst 0, 1) := by decide +kernel
theorem dX1_limpingIf_11 : decode cX1_limpingIf 11 = .ok (.istore 4, 2) := by decide +kernel
theorem dX1_limpingIf_13 : decode cX1_limpingIf 13 = .ok (.iload 4, 2) := by decide +kernel
theorem dX1_limpingIf_15 : decode cX1_limpingIf 15 = .ok (.aload_n 0, 1) := by decide +kernel
theorem dX1_limpingIf_16 : decode cX1_limpingIf 16 = .ok (.getfield 28, 3) := by decide +kernel
theorem dX1_limpingIf_19 : decode cX1_limpingIf 19 = .ok (.if_icmp .ge 29, 3) := by decide +kernel
theorem dX1_limpingIf_22 : decode cX1_limpingIf 22 = .ok (.aload_n 0, 1) := by decide +kernel
theorem dX1_limpingIf_23 : decode cX1_limpingIf 23 = .ok (.iload 4, 2) := by decide +kernel
theorem dX1_limpingIf_25 : decode cX1_limpingIf 25 = .ok (.invokevirtual 77, 3) := by decide +kernel
theorem dX1_limpingIf_28 : decode cX1_limpingIf 28 = .ok (.istore 5, 2) := by decide +kernel
theorem dX1_limpingIf_30 : decode cX1_limpingIf 30 = .ok (.iload 5, 2) := by decide +kernel
theorem dX1_limpingIf_32 : decode cX1_limpingIf 32 = .ok (.iload_n 1, 1) := by decide +kernel
theorem dX1_limpingIf_33 : decode cX1_limpingIf 33 = .ok (.iand, 1) := by decide +kernel
theorem dX1_limpingIf_34 : decode cX1_limpingIf 34 = .ok (.ifCond .eq 8, 3) := by decide +kernel
theorem dX1_limpingIf_37 : decode cX1_limpingIf 37 = .ok (.iload_n 3, 1) := by decide +kernel
theorem dX1_limpingIf_38 : decode cX1_limpingIf 38 = .ok (.iload 5, 2) := by decide +kernel
theorem dX1_limpingIf_40 : decode cX1_limpingIf 40 = .ok (.ior, 1) := by decide +kernel
theorem dX1_limpingIf_41 : decode cX1_limpingIf 41 = .ok (.istore_n 3, 1) := by decide +kernel
theorem dX1_limpingIf_42 : decode cX1_limpingIf 42 = .ok (.iinc 4 1, 3) := by decide +kernel
theorem dX1_limpingIf_45 : decode cX1_limpingIf 45 = .ok (.goto (-32), 3) := by decide +kernel
theorem dX1_limpingIf_48 : decode cX1_limpingIf 48 = .ok (.iload_n 3, 1) := by decide +kernel
theorem dX1_limpingIf_49 : decode cX1_limpingIf 49 = .ok (.ireturn, 1) := by decide +kernel
theorem dX1_fame_0 : decode cX1_fame 0 = .ok (.aload_n 0, 1) := by decide +kernel
theorem dX1_fame_1 : decode cX1_fame 1 = .ok (.getfield 24, 3) := by decide +kernel
theorem dX1_fame_4 : decode cX1_fame 4 = .ok (.getfield 38, 3) := by decide +kernel
theorem dX1_fame_7 : decode cX1_fame 7 = .ok (.bipush 8, 2) := by decide +kernel
theorem dX1_fame_9 : decode cX1_fame 9 = .ok (.iand, 1) := by decide +kernel
theorem dX1_fame_10 : decode cX1_fame 10 = .ok (.ifCond .ne 13, 3) := by decide +kernel
theorem dX1_fame_13 : decode cX1_fame 13 = .ok (.aload_n 0, 1) := by decide +kernel
theorem dX1_fame_14 : decode cX1_fame 14 = .ok (.getfield 24, 3) := by decide +kernel
theorem dX1_fame_17 : decode cX1_fame 17 = .ok (.getfield 63, 3) := by decide +kernel
theorem dX1_fame_20 : decode cX1_fame 20 = .ok (.iload_n 1, 1) := by decide +kernel
theorem dX1_fame_21 : decode cX1_fame 21 = .ok (.iaload, 1) := by decide +kernel
theorem dX1_fame_22 : decode cX1_fame 22 = .ok (.ireturn, 1) := by decide +kernel
theorem dX1_fame_23 : decode cX1_fame 23 = .ok (.iconst 0, 1) := by decide +kernel
theorem dX1_fame_24 : decode cX1_fame 24 = .ok (.istore_n 2, 1) := by decide +kernel
theorem dX1_fame_25 : decode cX1_fame 25 = .ok (.iconst 0, 1) := by decide +kernel
theorem dX1_fame_26 : decode cX1_fame 26 = .ok (.istore_n 3, 1) := by decide +kernel
theorem dX1_fame_27 : decode cX1_fame 27 = .ok (.iload_n 3, 1) := by decide +kernel
theorem dX1_fame_28 : decode cX1_fame 28 = .ok (.aload_n 0, 1) := by decide +kernel
theorem dX1_fame_29 : decode cX1_fame 29 = .ok (.getfield 32, 3) := by decide +kernel
theorem dX1_fame_32 : decode cX1_fame 32 = .ok (.if_icmp .ge 42, 3) := by decide +kernel
theorem dX1_fame_35 : decode cX1_fame 35 = .ok (.aload_n 0, 1) := by decide +kernel
theorem dX1_fame_36 : decode cX1_fame 36 = .ok (.getfield 24, 3) := by decide +kernel
theorem dX1_fame_39 : decode cX1_fame 39 = .ok (.getfield 57, 3) := by decide +kernel
theorem dX1_fame_42 : decode cX1_fame 42 = .ok (.iload_n 3, 1) := by decide +kernel
theorem dX1_fame_43 : decode cX1_fame 43 = .ok (.iaload, 1) := by decide +kernel
theorem dX1_fame_44 : decode cX1_fame 44 = .ok (.aload_n 0, 1) := by decide +kernel
theorem dX1_fame_45 : decode cX1_fame 45 = .ok (.getfield 24, 3) := by decide +kernel
theorem dX1_fame_48 : decode cX1_fame 48 = .ok (.getfield 57, 3) := by decide +kernel
theorem dX1_fame_51 : decode cX1_fame 51 = .ok (.iload_n 1, 1) := by decide +kernel
theorem dX1_fame_52 : decode cX1_fame 52 = .ok (.iaload, 1) := by decide +kernel
theorem dX1_fame_53 : decode cX1_fame 53 = .ok (.if_icmp .ne 15, 3) := by decide +kernel
theorem dX1_fame_56 : decode cX1_fame 56 = .ok (.iload_n 2, 1) := by decide +kernel
theorem dX1_fame_57 : decode cX1_fame 57 = .ok (.aload_n 0, 1) := by decide +kernel
theorem dX1_fame_58 : decode cX1_fame 58 = .ok (.getfield 24, 3) := by decide +kernel
theorem dX1_fame_61 : decode cX1_fame 61 = .ok (.getfield 63, 3) := by decide +kernel
theorem dX1_fame_64 : decode cX1_fame 64 = .ok (.iload_n 3, 1) := by decide +kernel
theorem dX1_fame_65 : decode cX1_fame 65 = .ok (.iaload, 1) := by decide +kernel
theorem dX1_fame_66 : decode cX1_fame 66 = .ok (.iadd, 1) := by decide +kernel
theorem dX1_fame_67 : decode cX1_fame 67 = .ok (.istore_n 2, 1) := by decide +kernel
theorem dX1_fame_68 : decode cX1_fame 68 = .ok (.iinc 3 1, 3) := by decide +kernel
theorem dX1_fame_71 : decode cX1_fame 71 = .ok (.goto (-44), 3) := by decide +kernel
theorem dX1_fame_74 : decode cX1_fame 74 = .ok (.iload_n 2, 1) := by decide +kernel
theorem dX1_fame_75 : decode cX1_fame 75 = .ok (.ireturn, 1) := by decide +kernel
theorem dX1_tax_0 : decode cX1_tax 0 = .ok (.aload_n 0, 1) := by decide +kernel
theorem dX1_tax_1 : decode cX1_tax 1 = .ok (.iload_n 1, 1) := by decide +kernel
theorem dX1_tax_2 : decode cX1_tax 2 = .ok (.aload_n 0, 1) := by decide +kernel
theorem dX1_tax_3 : decode cX1_tax 3 = .ok (.getfield 24, 3) := by decide +kernel
theorem dX1_tax_6 : decode cX1_tax 6 = .ok (.getfield 57, 3) := by decide +kernel
theorem dX1_tax_9 : decode cX1_tax 9 = .ok (.iload_n 1, 1) := by decide +kernel
theorem dX1_tax_10 : decode cX1_tax 10 = .ok (.iaload, 1) := by decide +kernel
theorem dX1_tax_11 : decode cX1_tax 11 = .ok (.invokevirtual 81, 3) := by decide +kernel
theorem dX1_tax_14 : decode cX1_tax 14 = .ok (.ireturn, 1) := by decide +kernel
theorem dX1_taxIfNamed_0 : decode cX1_taxIfNamed 0 = .ok (.aload_n 0, 1) := by decide +kernel
theorem dX1_taxIfNamed_1 : decode cX1_taxIfNamed 1 = .ok (.getfield 24, 3) := by decide +kernel
theorem dX1_taxIfNamed_4 : decode cX1_taxIfNamed 4 = .ok (.getfield 38, 3) := by decide +kernel
theorem dX1_taxIfNamed_7 : decode cX1_taxIfNamed 7 = .ok (.iconst 4, 1) := by decide +kernel
theorem dX1_taxIfNamed_8 : decode cX1_taxIfNamed 8 = .ok (.iand, 1) := by decide +kernel
theorem dX1_taxIfNamed_9 : decode cX1_taxIfNamed 9 = .ok (.ifCond .ne 16, 3) := by decide +kernel
theorem dX1_taxIfNamed_12 : decode cX1_taxIfNamed 12 = .ok (.aload_n 0, 1) := by decide +kernel
theorem dX1_taxIfNamed_13 : decode cX1_taxIfNamed 13 = .ok (.getfield 24, 3) := by decide +kernel
theorem dX1_taxIfNamed_16 : decode cX1_taxIfNamed 16 = .ok (.getfield 60, 3) := by decide +kernel
theorem dX1_taxIfNamed_19 : decode cX1_taxIfNamed 19 = .ok (.iload_n 1, 1) := by decide +kernel
theorem dX1_taxIfNamed_20 : decode cX1_taxIfNamed 20 = .ok (.iaload, 1) := by decide +kernel
theorem dX1_taxIfNamed_21 : decode cX1_taxIfNamed 21 = .ok (.bipush 10, 2) := by decide +kernel
theorem dX1_taxIfNamed_23 : decode cX1_taxIfNamed 23 = .ok (.idiv, 1) := by decide +kernel
theorem dX1_taxIfNamed_24 : decode cX1_taxIfNamed 24 = .ok (.ireturn, 1) := by decide +kernel
theorem dX1_taxIfNamed_25 : decode cX1_taxIfNamed 25 = .ok (.aload_n 0, 1) := by decide +kernel
theorem dX1_taxIfNamed_26 : decode cX1_taxIfNamed 26 = .ok (.iload_n 2, 1) := by decide +kernel
theorem dX1_taxIfNamed_27 : decode cX1_taxIfNamed 27 = .ok (.invokevirtual 77, 3) := by decide +kernel
theorem dX1_taxIfNamed_30 : decode cX1_taxIfNamed 30 = .ok (.iconst 1, 1) := by decide +kernel
theorem dX1_taxIfNamed_31 : decode cX1_taxIfNamed 31 = .ok (.iload_n 1, 1) := by decide +kernel
theorem dX1_taxIfNamed_32 : decode cX1_taxIfNamed 32 = .ok (.ishl, 1) := by decide +kernel
theorem dX1_taxIfNamed_33 : decode cX1_taxIfNamed 33 = .ok (.ior, 1) := by decide +kernel
theorem dX1_taxIfNamed_34 : decode cX1_taxIfNamed 34 = .ok (.istore_n 3, 1) := by decide +kernel
theorem dX1_taxIfNamed_35 : decode cX1_taxIfNamed 35 = .ok (.iconst 1, 1) := by decide +kernel
theorem dX1_taxIfNamed_36 : decode cX1_taxIfNamed 36 = .ok (.iload_n 3, 1) := by decide +kernel
theorem dX1_taxIfNamed_37 : decode cX1_taxIfNamed 37 = .ok (.invokestatic 84, 3) := by decide +kernel
theorem dX1_taxIfNamed_40 : decode cX1_taxIfNamed 40 = .ok (.invokestatic 89, 3) := by decide +kernel
theorem dX1_taxIfNamed_43 : decode cX1_taxIfNamed 43 = .ok (.istore 4, 2) := by decide +kernel
theorem dX1_taxIfNamed_45 : decode cX1_taxIfNamed 45 = .ok (.aload_n 0, 1) := by decide +kernel
theorem dX1_taxIfNamed_46 : decode cX1_taxIfNamed 46 = .ok (.iload_n 3, 1) := by decide +kernel
theorem dX1_taxIfNamed_47 : decode cX1_taxIfNamed 47 = .ok (.invokevirtual 94, 3) := by decide +kernel
theorem dX1_taxIfNamed_50 : decode cX1_taxIfNamed 50 = .ok (.iload 4, 2) := by decide +kernel
theorem dX1_taxIfNamed_52 : decode cX1_taxIfNamed 52 = .ok (.idiv, 1) := by decide +kernel
theorem dX1_taxIfNamed_53 : decode cX1_taxIfNamed 53 = .ok (.bipush 10, 2) := by decide +kernel
theorem dX1_taxIfNamed_55 : decode cX1_taxIfNamed 55 = .ok (.idiv, 1) := by decide +kernel
theorem dX1_taxIfNamed_56 : decode cX1_taxIfNamed 56 = .ok (.ireturn, 1) := by decide +kernel
theorem dX1_payTax_0 : decode cX1_payTax 0 = .ok (.iconst 0, 1) := by decide +kernel
theorem dX1_payTax_1 : decode cX1_payTax 1 = .ok (.istore_n 1, 1) := by decide +kernel
theorem dX1_payTax_2 : decode cX1_payTax 2 = .ok (.iload_n 1, 1) := by decide +kernel
theorem dX1_payTax_3 : decode cX1_payTax 3 = .ok (.aload_n 0, 1) := by decide +kernel
theorem dX1_payTax_4 : decode cX1_payTax 4 = .ok (.getfield 32, 3) := by decide +kernel
theorem dX1_payTax_7 : decode cX1_payTax 7 = .ok (.if_icmp .ge 32, 3) := by decide +kernel
theorem dX1_payTax_10 : decode cX1_payTax 10 = .ok (.aload_n 0, 1) := by decide +kernel
theorem dX1_payTax_11 : decode cX1_payTax 11 = .ok (.getfield 18, 3) := by decide +kernel
theorem dX1_payTax_14 : decode cX1_payTax 14 = .ok (.iload_n 1, 1) := by decide +kernel
theorem dX1_payTax_15 : decode cX1_payTax 15 = .ok (.aload_n 0, 1) := by decide +kernel
theorem dX1_payTax_16 : decode cX1_payTax 16 = .ok (.iload_n 1, 1) := by decide +kernel
theorem dX1_payTax_17 : decode cX1_payTax 17 = .ok (.invokevirtual 97, 3) := by decide +kernel
theorem dX1_payTax_20 : decode cX1_payTax 20 = .ok (.aload_n 0, 1) := by decide +kernel
theorem dX1_payTax_21 : decode cX1_payTax 21 = .ok (.getfield 24, 3) := by decide +kernel
theorem dX1_payTax_24 : decode cX1_payTax 24 = .ok (.getfield 60, 3) := by decide +kernel
theorem dX1_payTax_27 : decode cX1_payTax 27 = .ok (.iload_n 1, 1) := by decide +kernel
theorem dX1_payTax_28 : decode cX1_payTax 28 = .ok (.iaload, 1) := by decide +kernel
theorem dX1_payTax_29 : decode cX1_payTax 29 = .ok (.invokestatic 100, 3) := by decide +kernel
theorem dX1_payTax_32 : decode cX1_payTax 32 = .ok (.iastore, 1) := by decide +kernel
theorem dX1_payTax_33 : decode cX1_payTax 33 = .ok (.iinc 1 1, 3) := by decide +kernel
theorem dX1_payTax_36 : decode cX1_payTax 36 = .ok (.goto (-34), 3) := by decide +kernel
theorem dX1_payTax_39 : decode cX1_payTax 39 = .ok (.iconst 0, 1) := by decide +kernel
theorem dX1_payTax_40 : decode cX1_payTax 40 = .ok (.istore_n 1, 1) := by decide +kernel
theorem dX1_payTax_41 : decode cX1_payTax 41 = .ok (.iconst 0, 1) := by decide +kernel
theorem dX1_payTax_42 : decode cX1_payTax 42 = .ok (.istore_n 2, 1) := by decide +kernel
theorem dX1_payTax_43 : decode cX1_payTax 43 = .ok (.iload_n 2, 1) := by decide +kernel
theorem dX1_payTax_44 : decode cX1_payTax 44 = .ok (.aload_n 0, 1) := by decide +kernel
theorem dX1_payTax_45 : decode cX1_payTax 45 = .ok (.getfield 32, 3) := by decide +kernel
theorem dX1_payTax_48 : decode cX1_payTax 48 = .ok (.if_icmp .ge 36, 3) := by decide +kernel
theorem dX1_payTax_51 : decode cX1_payTax 51 = .ok (.aload_n 0, 1) := by decide +kernel
theorem dX1_payTax_52 : decode cX1_payTax 52 = .ok (.getfield 24, 3) := by decide +kernel
theorem dX1_payTax_55 : decode cX1_payTax 55 = .ok (.getfield 60, 3) := by decide +kernel
theorem dX1_payTax_58 : decode cX1_payTax 58 = .ok (.iload_n 2, 1) := by decide +kernel
theorem dX1_payTax_59 : decode cX1_payTax 59 = .ok (.dup2, 1) := by decide +kernel
theorem dX1_payTax_60 : decode cX1_payTax 60 = .ok (.iaload, 1) := by decide +kernel
theorem dX1_payTax_61 : decode cX1_payTax 61 = .ok (.aload_n 0, 1) := by decide +kernel
theorem dX1_payTax_62 : decode cX1_payTax 62 = .ok (.getfield 18, 3) := by decide +kernel
theorem dX1_payTax_65 : decode cX1_payTax 65 = .ok (.iload_n 2, 1) := by decide +kernel
theorem dX1_payTax_66 : decode cX1_payTax 66 = .ok (.iaload, 1) := by decide +kernel
theorem dX1_payTax_67 : decode cX1_payTax 67 = .ok (.isub, 1) := by decide +kernel
theorem dX1_payTax_68 : decode cX1_payTax 68 = .ok (.iastore, 1) := by decide +kernel
theorem dX1_payTax_69 : decode cX1_payTax 69 = .ok (.iload_n 1, 1) := by decide +kernel
theorem dX1_payTax_70 : decode cX1_payTax 70 = .ok (.aload_n 0, 1) := by decide +kernel
theorem dX1_payTax_71 : decode cX1_payTax 71 = .ok (.getfield 18, 3) := by decide +kernel
theorem dX1_payTax_74 : decode cX1_payTax 74 = .ok (.iload_n 2, 1) := by decide +kernel
theorem dX1_payTax_75 : decode cX1_payTax 75 = .ok (.iaload, 1) := by decide +kernel
theorem dX1_payTax_76 : decode cX1_payTax 76 = .ok (.iadd, 1) := by decide +kernel
theorem dX1_payTax_77 : decode cX1_payTax 77 = .ok (.istore_n 1, 1) := by decide +kernel
theorem dX1_payTax_78 : decode cX1_payTax 78 = .ok (.iinc 2 1, 3) := by decide +kernel
theorem dX1_payTax_81 : decode cX1_payTax 81 = .ok (.goto (-38), 3) := by decide +kernel
theorem dX1_payTax_84 : decode cX1_payTax 84 = .ok (.aload_n 0, 1) := by decide +kernel
theorem dX1_payTax_85 : decode cX1_payTax 85 = .ok (.getfield 24, 3) := by decide +kernel
theorem dX1_payTax_88 : decode cX1_payTax 88 = .ok (.ldc 103, 2) := by decide +kernel
theorem dX1_payTax_90 : decode cX1_payTax 90 = .ok (.aload_n 0, 1) := by decide +kernel
theorem dX1_payTax_91 : decode cX1_payTax 91 = .ok (.getfield 24, 3) := by decide +kernel
theorem dX1_payTax_94 : decode cX1_payTax 94 = .ok (.getfield 41, 3) := by decide +kernel
theorem dX1_payTax_97 : decode cX1_payTax 97 = .ok (.iload_n 1, 1) := by decide +kernel
theorem dX1_payTax_98 : decode cX1_payTax 98 = .ok (.iadd, 1) := by decide +kernel
theorem dX1_payTax_99 : decode cX1_payTax 99 = .ok (.invokestatic 100, 3) := by decide +kernel
theorem dX1_payTax_102 : decode cX1_payTax 102 = .ok (.putfield 41, 3) := by decide +kernel
theorem dX1_payTax_105 : decode cX1_payTax 105 = .ok (.aload_n 0, 1) := by decide +kernel
theorem dX1_payTax_106 : decode cX1_payTax 106 = .ok (.getfield 24, 3) := by decide +kernel
theorem dX1_payTax_109 : decode cX1_payTax 109 = .ok (.dup, 1) := by decide +kernel
theorem dX1_payTax_110 : decode cX1_payTax 110 = .ok (.getfield 44, 3) := by decide +kernel
theorem dX1_payTax_113 : decode cX1_payTax 113 = .ok (.iconst 1, 1) := by decide +kernel
theorem dX1_payTax_114 : decode cX1_payTax 114 = .ok (.iadd, 1) := by decide +kernel
theorem dX1_payTax_115 : decode cX1_payTax 115 = .ok (.putfield 44, 3) := by decide +kernel
theorem dX1_payTax_118 : decode cX1_payTax 118 = .ok (.iload_n 1, 1) := by decide +kernel
theorem dX1_payTax_119 : decode cX1_payTax 119 = .ok (.ireturn, 1) := by decide +kernel
theorem dX1_cheapestName_0 : decode cX1_cheapestName 0 = .ok (.iconst 0, 1) := by decide +kernel
theorem dX1_cheapestName_1 : decode cX1_cheapestName 1 = .ok (.istore_n 2, 1) := by decide +kernel
theorem dX1_cheapestName_2 : decode cX1_cheapestName 2 = .ok (.iconst 1, 1) := by decide +kernel
theorem dX1_cheapestName_3 : decode cX1_cheapestName 3 = .ok (.istore_n 3, 1) := by decide +kernel
theorem dX1_cheapestName_4 : decode cX1_cheapestName 4 = .ok (.iload_n 3, 1) := by decide +kernel
theorem dX1_cheapestName_5 : decode cX1_cheapestName 5 = .ok (.aload_n 0, 1) := by decide +kernel
theorem dX1_cheapestName_6 : decode cX1_cheapestName 6 = .ok (.getfield 28, 3) := by decide +kernel
theorem dX1_cheapestName_9 : decode cX1_cheapestName 9 = .ok (.if_icmp .ge 26, 3) := by decide +kernel
theorem dX1_cheapestName_12 : decode cX1_cheapestName 12 = .ok (.aload_n 0, 1) := by decide +kernel
theorem dX1_cheapestName_13 : decode cX1_cheapestName 13 = .ok (.iload_n 1, 1) := by decide +kernel
theorem dX1_cheapestName_14 : decode cX1_cheapestName 14 = .ok (.iload_n 3, 1) := by decide +kernel
theorem dX1_cheapestName_15 : decode cX1_cheapestName 15 = .ok (.invokevirtual 81, 3) := by decide +kernel
theorem dX1_cheapestName_18 : decode cX1_cheapestName 18 = .ok (.aload_n 0, 1) := by decide +kernel
theorem dX1_cheapestName_19 : decode cX1_cheapestName 19 = .ok (.iload_n 1, 1) := by decide +kernel
theorem dX1_cheapestName_20 : decode cX1_cheapestName 20 = .ok (.iload_n 2, 1) := by decide +kernel
theorem dX1_cheapestName_21 : decode cX1_cheapestName 21 = .ok (.invokevirtual 81, 3) := by decide +kernel
theorem dX1_cheapestName_24 : decode cX1_cheapestName 24 = .ok (.if_icmp .ge 5, 3) := by decide +kernel
theorem dX1_cheapestName_27 : decode cX1_cheapestName 27 = .ok (.iload_n 3, 1) := by decide +kernel
theorem dX1_cheapestName_28 : decode cX1_cheapestName 28 = .ok (.istore_n 2, 1) := by decide +kernel
theorem dX1_cheapestName_29 : decode cX1_cheapestName 29 = .ok (.iinc 3 1, 3) := by decide +kernel
theorem dX1_cheapestName_32 : decode cX1_cheapestName 32 = .ok (.goto (-28), 3) := by decide +kernel
theorem dX1_cheapestName_35 : decode cX1_cheapestName 35 = .ok (.iload_n 2, 1) := by decide +kernel
theorem dX1_cheapestName_36 : decode cX1_cheapestName 36 = .ok (.ireturn, 1) := by decide +kernel
theorem dX1_restless_0 : decode cX1_restless 0 = .ok (.iconst 0, 1) := by decide +kernel
theorem dX1_restless_1 : decode cX1_restless 1 = .ok (.istore_n 1, 1) := by decide +kernel
theorem dX1_restless_2 : decode cX1_restless 2 = .ok (.iconst 0, 1) := by decide +kernel
theorem dX1_restless_3 : decode cX1_restless 3 = .ok (.istore_n 2, 1) := by decide +kernel
theorem dX1_restless_4 : decode cX1_restless 4 = .ok (.iload_n 2, 1) := by decide +kernel
theorem dX1_restless_5 : decode cX1_restless 5 = .ok (.aload_n 0, 1) := by decide +kernel
theorem dX1_restless_6 : decode cX1_restless 6 = .ok (.getfield 32, 3) := by decide +kernel
theorem dX1_restless_9 : decode cX1_restless 9 = .ok (.if_icmp .ge 33, 3) := by decide +kernel
theorem dX1_restless_12 : decode cX1_restless 12 = .ok (.aload_n 0, 1) := by decide +kernel
theorem dX1_restless_13 : decode cX1_restless 13 = .ok (.iload_n 2, 1) := by decide +kernel
theorem dX1_restless_14 : decode cX1_restless 14 = .ok (.aload_n 0, 1) := by decide +kernel
theorem dX1_restless_15 : decode cX1_restless 15 = .ok (.iload_n 2, 1) := by decide +kernel
theorem dX1_restless_16 : decode cX1_restless 16 = .ok (.invokevirtual 104, 3) := by decide +kernel
theorem dX1_restless_19 : decode cX1_restless 19 = .ok (.invokevirtual 81, 3) := by decide +kernel
theorem dX1_restless_22 : decode cX1_restless 22 = .ok (.aload_n 0, 1) := by decide +kernel
theorem dX1_restless_23 : decode cX1_restless 23 = .ok (.iload_n 2, 1) := by decide +kernel
theorem dX1_restless_24 : decode cX1_restless 24 = .ok (.invokevirtual 97, 3) := by decide +kernel
theorem dX1_restless_27 : decode cX1_restless 27 = .ok (.if_icmp .ge 9, 3) := by decide +kernel
theorem dX1_restless_30 : decode cX1_restless 30 = .ok (.iload_n 1, 1) := by decide +kernel
theorem dX1_restless_31 : decode cX1_restless 31 = .ok (.iconst 1, 1) := by decide +kernel
theorem dX1_restless_32 : decode cX1_restless 32 = .ok (.iload_n 2, 1) := by decide +kernel
theorem dX1_restless_33 : decode cX1_restless 33 = .ok (.ishl, 1) := by decide +kernel
theorem dX1_restless_34 : decode cX1_restless 34 = .ok (.ior, 1) := by decide +kernel
theorem dX1_restless_35 : decode cX1_restless 35 = .ok (.istore_n 1, 1) := by decide +kernel
theorem dX1_restless_36 : decode cX1_restless 36 = .ok (.iinc 2 1, 3) := by decide +kernel
theorem dX1_restless_39 : decode cX1_restless 39 = .ok (.goto (-35), 3) := by decide +kernel
theorem dX1_restless_42 : decode cX1_restless 42 = .ok (.iload_n 1, 1) := by decide +kernel
theorem dX1_restless_43 : decode cX1_restless 43 = .ok (.ireturn, 1) := by decide +kernel
theorem dX1_alone_0 : decode cX1_alone 0 = .ok (.iconst 0, 1) := by decide +kernel
theorem dX1_alone_1 : decode cX1_alone 1 = .ok (.istore_n 1, 1) := by decide +kernel
theorem dX1_alone_2 : decode cX1_alone 2 = .ok (.iconst 0, 1) := by decide +kernel
theorem dX1_alone_3 : decode cX1_alone 3 = .ok (.istore_n 2, 1) := by decide +kernel
theorem dX1_alone_4 : decode cX1_alone 4 = .ok (.iload_n 2, 1) := by decide +kernel
theorem dX1_alone_5 : decode cX1_alone 5 = .ok (.aload_n 0, 1) := by decide +kernel
theorem dX1_alone_6 : decode cX1_alone 6 = .ok (.getfield 28, 3) := by decide +kernel
theorem dX1_alone_9 : decode cX1_alone 9 = .ok (.if_icmp .ge 27, 3) := by decide +kernel
theorem dX1_alone_12 : decode cX1_alone 12 = .ok (.aload_n 0, 1) := by decide +kernel
theorem dX1_alone_13 : decode cX1_alone 13 = .ok (.iload_n 2, 1) := by decide +kernel
theorem dX1_alone_14 : decode cX1_alone 14 = .ok (.invokevirtual 77, 3) := by decide +kernel
theorem dX1_alone_17 : decode cX1_alone 17 = .ok (.istore_n 3, 1) := by decide +kernel
theorem dX1_alone_18 : decode cX1_alone 18 = .ok (.iload_n 3, 1) := by decide +kernel
theorem dX1_alone_19 : decode cX1_alone 19 = .ok (.invokestatic 84, 3) := by decide +kernel
theorem dX1_alone_22 : decode cX1_alone 22 = .ok (.iconst 1, 1) := by decide +kernel
theorem dX1_alone_23 : decode cX1_alone 23 = .ok (.if_icmp .ne 7, 3) := by decide +kernel
theorem dX1_alone_26 : decode cX1_alone 26 = .ok (.iload_n 1, 1) := by decide +kernel
theorem dX1_alone_27 : decode cX1_alone 27 = .ok (.iload_n 3, 1) := by decide +kernel
theorem dX1_alone_28 : decode cX1_alone 28 = .ok (.ior, 1) := by decide +kernel
theorem dX1_alone_29 : decode cX1_alone 29 = .ok (.istore_n 1, 1) := by decide +kernel
theorem dX1_alone_30 : decode cX1_alone 30 = .ok (.iinc 2 1, 3) := by decide +kernel
theorem dX1_alone_33 : decode cX1_alone 33 = .ok (.goto (-29), 3) := by decide +kernel
theorem dX1_alone_36 : decode cX1_alone 36 = .ok (.iload_n 1, 1) := by decide +kernel
theorem dX1_alone_37 : decode cX1_alone 37 = .ok (.ireturn, 1) := by decide +kernel
theorem dX1_badOnes_0 : decode cX1_badOnes 0 = .ok (.iconst 0, 1) := by decide +kernel
theorem dX1_badOnes_1 : decode cX1_badOnes 1 = .ok (.istore_n 1, 1) := by decide +kernel
theorem dX1_badOnes_2 : decode cX1_badOnes 2 = .ok (.iconst 0, 1) := by decide +kernel
theorem dX1_badOnes_3 : decode cX1_badOnes 3 = .ok (.istore_n 2, 1) := by decide +kernel
theorem dX1_badOnes_4 : decode cX1_badOnes 4 = .ok (.iload_n 2, 1) := by decide +kernel
theorem dX1_badOnes_5 : decode cX1_badOnes 5 = .ok (.aload_n 0, 1) := by decide +kernel
theorem dX1_badOnes_6 : decode cX1_badOnes 6 = .ok (.getfield 32, 3) := by decide +kernel
theorem dX1_badOnes_9 : decode cX1_badOnes 9 = .ok (.if_icmp .ge 60, 3) := by decide +kernel
theorem dX1_badOnes_12 : decode cX1_badOnes 12 = .ok (.iload_n 2, 1) := by decide +kernel
theorem dX1_badOnes_13 : decode cX1_badOnes 13 = .ok (.iconst 1, 1) := by decide +kernel
theorem dX1_badOnes_14 : decode cX1_badOnes 14 = .ok (.iadd, 1) := by decide +kernel
theorem dX1_badOnes_15 : decode cX1_badOnes 15 = .ok (.istore_n 3, 1) := by decide +kernel
theorem dX1_badOnes_16 : decode cX1_badOnes 16 = .ok (.iload_n 3, 1) := by decide +kernel
theorem dX1_badOnes_17 : decode cX1_badOnes 17 = .ok (.aload_n 0, 1) := by decide +kernel
theorem dX1_badOnes_18 : decode cX1_badOnes 18 = .ok (.getfield 32, 3) := by decide +kernel
theorem dX1_badOnes_21 : decode cX1_badOnes 21 = .ok (.if_icmp .ge 42, 3) := by decide +kernel
theorem dX1_badOnes_24 : decode cX1_badOnes 24 = .ok (.aload_n 0, 1) := by decide +kernel
theorem dX1_badOnes_25 : decode cX1_badOnes 25 = .ok (.iload_n 2, 1) := by decide +kernel
theorem dX1_badOnes_26 : decode cX1_badOnes 26 = .ok (.iload_n 3, 1) := by decide +kernel
theorem dX1_badOnes_27 : decode cX1_badOnes 27 = .ok (.invokevirtual 107, 3) := by decide +kernel
theorem dX1_badOnes_30 : decode cX1_badOnes 30 = .ok (.ifCond .eq 27, 3) := by decide +kernel
theorem dX1_badOnes_33 : decode cX1_badOnes 33 = .ok (.aload_n 0, 1) := by decide +kernel
theorem dX1_badOnes_34 : decode cX1_badOnes 34 = .ok (.getfield 24, 3) := by decide +kernel
theorem dX1_badOnes_37 : decode cX1_badOnes 37 = .ok (.getfield 57, 3) := by decide +kernel
theorem dX1_badOnes_40 : decode cX1_badOnes 40 = .ok (.iload_n 2, 1) := by decide +kernel
theorem dX1_badOnes_41 : decode cX1_badOnes 41 = .ok (.iaload, 1) := by decide +kernel
theorem dX1_badOnes_42 : decode cX1_badOnes 42 = .ok (.aload_n 0, 1) := by decide +kernel
theorem dX1_badOnes_43 : decode cX1_badOnes 43 = .ok (.getfield 24, 3) := by decide +kernel
theorem dX1_badOnes_46 : decode cX1_badOnes 46 = .ok (.getfield 57, 3) := by decide +kernel
theorem dX1_badOnes_49 : decode cX1_badOnes 49 = .ok (.iload_n 3, 1) := by decide +kernel
theorem dX1_badOnes_50 : decode cX1_badOnes 50 = .ok (.iaload, 1) := by decide +kernel
theorem dX1_badOnes_51 : decode cX1_badOnes 51 = .ok (.if_icmp .ne 6, 3) := by decide +kernel
theorem dX1_badOnes_54 : decode cX1_badOnes 54 = .ok (.iinc 1 1, 3) := by decide +kernel
theorem dX1_badOnes_57 : decode cX1_badOnes 57 = .ok (.iinc 3 1, 3) := by decide +kernel
theorem dX1_badOnes_60 : decode cX1_badOnes 60 = .ok (.goto (-44), 3) := by decide +kernel
theorem dX1_badOnes_63 : decode cX1_badOnes 63 = .ok (.iinc 2 1, 3) := by decide +kernel
theorem dX1_badOnes_66 : decode cX1_badOnes 66 = .ok (.goto (-62), 3) := by decide +kernel
theorem dX1_badOnes_69 : decode cX1_badOnes 69 = .ok (.iload_n 1, 1) := by decide +kernel
theorem dX1_badOnes_70 : decode cX1_badOnes 70 = .ok (.ireturn, 1) := by decide +kernel
theorem dX1_sayers_0 : decode cX1_sayers 0 = .ok (.iconst 0, 1) := by decide +kernel
theorem dX1_sayers_1 : decode cX1_sayers 1 = .ok (.istore_n 3, 1) := by decide +kernel
theorem dX1_sayers_2 : decode cX1_sayers 2 = .ok (.iconst 0, 1) := by decide +kernel
theorem dX1_sayers_3 : decode cX1_sayers 3 = .ok (.istore 4, 2) := by decide +kernel
theorem dX1_sayers_5 : decode cX1_sayers 5 = .ok (.iload 4, 2) := by decide +kernel
theorem dX1_sayers_7 : decode cX1_sayers 7 = .ok (.aload_n 0, 1) := by decide +kernel
theorem dX1_sayers_8 : decode cX1_sayers 8 = .ok (.getfield 32, 3) := by decide +kernel
theorem dX1_sayers_11 : decode cX1_sayers 11 = .ok (.if_icmp .ge 31, 3) := by decide +kernel
theorem dX1_sayers_14 : decode cX1_sayers 14 = .ok (.aload_n 0, 1) := by decide +kernel
theorem dX1_sayers_15 : decode cX1_sayers 15 = .ok (.getfield 9, 3) := by decide +kernel
theorem dX1_sayers_18 : decode cX1_sayers 18 = .ok (.iload 4, 2) := by decide +kernel
theorem dX1_sayers_20 : decode cX1_sayers 20 = .ok (.iaload, 1) := by decide +kernel
theorem dX1_sayers_21 : decode cX1_sayers 21 = .ok (.iload_n 1, 1) := by decide +kernel
theorem dX1_sayers_22 : decode cX1_sayers 22 = .ok (.invokestatic 70, 3) := by decide +kernel
theorem dX1_sayers_25 : decode cX1_sayers 25 = .ok (.iload_n 2, 1) := by decide +kernel
theorem dX1_sayers_26 : decode cX1_sayers 26 = .ok (.if_icmp .ne 10, 3) := by decide +kernel
theorem dX1_sayers_29 : decode cX1_sayers 29 = .ok (.iload_n 3, 1) := by decide +kernel
theorem dX1_sayers_30 : decode cX1_sayers 30 = .ok (.iconst 1, 1) := by decide +kernel
theorem dX1_sayers_31 : decode cX1_sayers 31 = .ok (.iload 4, 2) := by decide +kernel
theorem dX1_sayers_33 : decode cX1_sayers 33 = .ok (.ishl, 1) := by decide +kernel
theorem dX1_sayers_34 : decode cX1_sayers 34 = .ok (.ior, 1) := by decide +kernel
theorem dX1_sayers_35 : decode cX1_sayers 35 = .ok (.istore_n 3, 1) := by decide +kernel
theorem dX1_sayers_36 : decode cX1_sayers 36 = .ok (.iinc 4 1, 3) := by decide +kernel
theorem dX1_sayers_39 : decode cX1_sayers 39 = .ok (.goto (-34), 3) := by decide +kernel
theorem dX1_sayers_42 : decode cX1_sayers 42 = .ok (.iload_n 3, 1) := by decide +kernel
theorem dX1_sayers_43 : decode cX1_sayers 43 = .ok (.ireturn, 1) := by decide +kernel
theorem dX1_votes_0 : decode cX1_votes 0 = .ok (.iconst 0, 1) := by decide +kernel
theorem dX1_votes_1 : decode cX1_votes 1 = .ok (.istore 5, 2) := by decide +kernel
theorem dX1_votes_3 : decode cX1_votes 3 = .ok (.iconst 0, 1) := by decide +kernel
theorem dX1_votes_4 : decode cX1_votes 4 = .ok (.istore 6, 2) := by decide +kernel
theorem dX1_votes_6 : decode cX1_votes 6 = .ok (.iload 6, 2) := by decide +kernel
theorem dX1_votes_8 : decode cX1_votes 8 = .ok (.aload_n 0, 1) := by decide +kernel
theorem dX1_votes_9 : decode cX1_votes 9 = .ok (.getfield 28, 3) := by decide +kernel
theorem dX1_votes_12 : decode cX1_votes 12 = .ok (.if_icmp .ge 82, 3) := by decide +kernel
theorem dX1_votes_15 : decode cX1_votes 15 = .ok (.iload 6, 2) := by decide +kernel
theorem dX1_votes_17 : decode cX1_votes 17 = .ok (.iload 4, 2) := by decide +kernel
theorem dX1_votes_19 : decode cX1_votes 19 = .ok (.if_icmp .eq 69, 3) := by decide +kernel
theorem dX1_votes_22 : decode cX1_votes 22 = .ok (.aload_n 0, 1) := by decide +kernel
theorem dX1_votes_23 : decode cX1_votes 23 = .ok (.iload 6, 2) := by decide +kernel
theorem dX1_votes_25 : decode cX1_votes 25 = .ok (.invokevirtual 77, 3) := by decide +kernel
theorem dX1_votes_28 : decode cX1_votes 28 = .ok (.istore 7, 2) := by decide +kernel
theorem dX1_votes_30 : decode cX1_votes 30 = .ok (.iload 7, 2) := by decide +kernel
theorem dX1_votes_32 : decode cX1_votes 32 = .ok (.iload_n 1, 1) := by decide +kernel
theorem dX1_votes_33 : decode cX1_votes 33 = .ok (.iand, 1) := by decide +kernel
theorem dX1_votes_34 : decode cX1_votes 34 = .ok (.invokestatic 84, 3) := by decide +kernel
theorem dX1_votes_37 : decode cX1_votes 37 = .ok (.istore 8, 2) := by decide +kernel
theorem dX1_votes_39 : decode cX1_votes 39 = .ok (.iload 7, 2) := by decide +kernel
theorem dX1_votes_41 : decode cX1_votes 41 = .ok (.iload_n 2, 1) := by decide +kernel
theorem dX1_votes_42 : decode cX1_votes 42 = .ok (.iand, 1) := by decide +kernel
theorem dX1_votes_43 : decode cX1_votes 43 = .ok (.invokestatic 84, 3) := by decide +kernel
theorem dX1_votes_46 : decode cX1_votes 46 = .ok (.istore 9, 2) := by decide +kernel
theorem dX1_votes_48 : decode cX1_votes 48 = .ok (.iload_n 3, 1) := by decide +kernel
theorem dX1_votes_49 : decode cX1_votes 49 = .ok (.iconst 2, 1) := by decide +kernel
theorem dX1_votes_50 : decode cX1_votes 50 = .ok (.iand, 1) := by decide +kernel
theorem dX1_votes_51 : decode cX1_votes 51 = .ok (.ifCond .eq 7, 3) := by decide +kernel
theorem dX1_votes_54 : decode cX1_votes 54 = .ok (.iconst 1, 1) := by decide +kernel
theorem dX1_votes_55 : decode cX1_votes 55 = .ok (.goto 4, 3) := by decide +kernel
theorem dX1_votes_58 : decode cX1_votes 58 = .ok (.iconst 0, 1) := by decide +kernel
theorem dX1_votes_59 : decode cX1_votes 59 = .ok (.istore 10, 2) := by decide +kernel
theorem dX1_votes_61 : decode cX1_votes 61 = .ok (.iload 5, 2) := by decide +kernel
theorem dX1_votes_63 : decode cX1_votes 63 = .ok (.iload 10, 2) := by decide +kernel
theorem dX1_votes_65 : decode cX1_votes 65 = .ok (.ifCond .eq 18, 3) := by decide +kernel
theorem dX1_votes_68 : decode cX1_votes 68 = .ok (.iload 8, 2) := by decide +kernel
theorem dX1_votes_70 : decode cX1_votes 70 = .ok (.iload 9, 2) := by decide +kernel
theorem dX1_votes_72 : decode cX1_votes 72 = .ok (.if_icmp .le 7, 3) := by decide +kernel
theorem dX1_votes_75 : decode cX1_votes 75 = .ok (.iconst 1, 1) := by decide +kernel
theorem dX1_votes_76 : decode cX1_votes 76 = .ok (.goto 9, 3) := by decide +kernel
theorem dX1_votes_79 : decode cX1_votes 79 = .ok (.iconst 0, 1) := by decide +kernel
theorem dX1_votes_80 : decode cX1_votes 80 = .ok (.goto 5, 3) := by decide +kernel
theorem dX1_votes_83 : decode cX1_votes 83 = .ok (.iload 8, 2) := by decide +kernel
theorem dX1_votes_85 : decode cX1_votes 85 = .ok (.iadd, 1) := by decide +kernel
theorem dX1_votes_86 : decode cX1_votes 86 = .ok (.istore 5, 2) := by decide +kernel
theorem dX1_votes_88 : decode cX1_votes 88 = .ok (.iinc 6 1, 3) := by decide +kernel
theorem dX1_votes_91 : decode cX1_votes 91 = .ok (.goto (-85), 3) := by decide +kernel
theorem dX1_votes_94 : decode cX1_votes 94 = .ok (.iload 5, 2) := by decide +kernel
theorem dX1_votes_96 : decode cX1_votes 96 = .ok (.ireturn, 1) := by decide +kernel
theorem dX1_yes_0 : decode cX1_yes 0 = .ok (.aload_n 0, 1) := by decide +kernel
theorem dX1_yes_1 : decode cX1_yes 1 = .ok (.aload_n 0, 1) := by decide +kernel
theorem dX1_yes_2 : decode cX1_yes 2 = .ok (.iload_n 1, 1) := by decide +kernel
theorem dX1_yes_3 : decode cX1_yes 3 = .ok (.iconst 1, 1) := by decide +kernel
theorem dX1_yes_4 : decode cX1_yes 4 = .ok (.invokevirtual 111, 3) := by decide +kernel
theorem dX1_yes_7 : decode cX1_yes 7 = .ok (.aload_n 0, 1) := by decide +kernel
theorem dX1_yes_8 : decode cX1_yes 8 = .ok (.iload_n 1, 1) := by decide +kernel
theorem dX1_yes_9 : decode cX1_yes 9 = .ok (.iconst 0, 1) := by decide +kernel
theorem dX1_yes_10 : decode cX1_yes 10 = .ok (.invokevirtual 111, 3) := by decide +kernel
theorem dX1_yes_13 : decode cX1_yes 13 = .ok (.iload_n 2, 1) := by decide +kernel
theorem dX1_yes_14 : decode cX1_yes 14 = .ok (.iload_n 3, 1) := by decide +kernel
theorem dX1_yes_15 : decode cX1_yes 15 = .ok (.invokevirtual 114, 3) := by decide +kernel
theorem dX1_yes_18 : decode cX1_yes 18 = .ok (.ireturn, 1) := by decide +kernel
theorem dX1_no_0 : decode cX1_no 0 = .ok (.aload_n 0, 1) := by decide +kernel
theorem dX1_no_1 : decode cX1_no 1 = .ok (.aload_n 0, 1) := by decide +kernel
theorem dX1_no_2 : decode cX1_no 2 = .ok (.iload_n 1, 1) := by decide +kernel
theorem dX1_no_3 : decode cX1_no 3 = .ok (.iconst 0, 1) := by decide +kernel
theorem dX1_no_4 : decode cX1_no 4 = .ok (.invokevirtual 111, 3) := by decide +kernel
theorem dX1_no_7 : decode cX1_no 7 = .ok (.aload_n 0, 1) := by decide +kernel
theorem dX1_no_8 : decode cX1_no 8 = .ok (.iload_n 1, 1) := by decide +kernel
theorem dX1_no_9 : decode cX1_no 9 = .ok (.iconst 1, 1) := by decide +kernel
theorem dX1_no_10 : decode cX1_no 10 = .ok (.invokevirtual 111, 3) := by decide +kernel
theorem dX1_no_13 : decode cX1_no 13 = .ok (.iload_n 2, 1) := by decide +kernel
theorem dX1_no_14 : decode cX1_no 14 = .ok (.iload_n 3, 1) := by decide +kernel
theorem dX1_no_15 : decode cX1_no 15 = .ok (.invokevirtual 114, 3) := by decide +kernel
theorem dX1_no_18 : decode cX1_no 18 = .ok (.ireturn, 1) := by decide +kernel
theorem dX1_passes_0 : decode cX1_passes 0 = .ok (.aload_n 0, 1) := by decide +kernel
theorem dX1_passes_1 : decode cX1_passes 1 = .ok (.iload_n 1, 1) := by decide +kernel
theorem dX1_passes_2 : decode cX1_passes 2 = .ok (.iload_n 2, 1) := by decide +kernel
theorem dX1_passes_3 : decode cX1_passes 3 = .ok (.iload_n 3, 1) := by decide +kernel
theorem dX1_passes_4 : decode cX1_passes 4 = .ok (.invokevirtual 118, 3) := by decide +kernel
theorem dX1_passes_7 : decode cX1_passes 7 = .ok (.aload_n 0, 1) := by decide +kernel
theorem dX1_passes_8 : decode cX1_passes 8 = .ok (.iload_n 1, 1) := by decide +kernel
theorem dX1_passes_9 : decode cX1_passes 9 = .ok (.iload_n 2, 1) := by decide +kernel
theorem dX1_passes_10 : decode cX1_passes 10 = .ok (.iload_n 3, 1) := by decide +kernel
theorem dX1_passes_11 : decode cX1_passes 11 = .ok (.invokevirtual 122, 3) := by decide +kernel
theorem dX1_passes_14 : decode cX1_passes 14 = .ok (.if_icmp .le 7, 3) := by decide +kernel
theorem dX1_passes_17 : decode cX1_passes 17 = .ok (.iconst 1, 1) := by decide +kernel
theorem dX1_passes_18 : decode cX1_passes 18 = .ok (.goto 4, 3) := by decide +kernel
theorem dX1_passes_21 : decode cX1_passes 21 = .ok (.iconst 0, 1) := by decide +kernel
theorem dX1_passes_22 : decode cX1_passes 22 = .ok (.ireturn, 1) := by decide +kernel
theorem dX1_passing_0 : decode cX1_passing 0 = .ok (.iconst 0, 1) := by decide +kernel
theorem dX1_passing_1 : decode cX1_passing 1 = .ok (.istore_n 2, 1) := by decide +kernel
theorem dX1_passing_2 : decode cX1_passing 2 = .ok (.iconst 0, 1) := by decide +kernel
theorem dX1_passing_3 : decode cX1_passing 3 = .ok (.istore_n 3, 1) := by decide +kernel
theorem dX1_passing_4 : decode cX1_passing 4 = .ok (.iload_n 3, 1) := by decide +kernel
theorem dX1_passing_5 : decode cX1_passing 5 = .ok (.iconst 5, 1) := by decide +kernel
theorem dX1_passing_6 : decode cX1_passing 6 = .ok (.if_icmp .ge 26, 3) := by decide +kernel
theorem dX1_passing_9 : decode cX1_passing 9 = .ok (.aload_n 0, 1) := by decide +kernel
theorem dX1_passing_10 : decode cX1_passing 10 = .ok (.iload_n 3, 1) := by decide +kernel
theorem dX1_passing_11 : decode cX1_passing 11 = .ok (.iload_n 1, 1) := by decide +kernel
theorem dX1_passing_12 : decode cX1_passing 12 = .ok (.bipush (-9), 2) := by decide +kernel
theorem dX1_passing_14 : decode cX1_passing 14 = .ok (.invokevirtual 125, 3) := by decide +kernel
theorem dX1_passing_17 : decode cX1_passing 17 = .ok (.ifCond .eq 9, 3) := by decide +kernel
theorem dX1_passing_20 : decode cX1_passing 20 = .ok (.iload_n 2, 1) := by decide +kernel
theorem dX1_passing_21 : decode cX1_passing 21 = .ok (.iconst 1, 1) := by decide +kernel
theorem dX1_passing_22 : decode cX1_passing 22 = .ok (.iload_n 3, 1) := by decide +kernel
theorem dX1_passing_23 : decode cX1_passing 23 = .ok (.ishl, 1) := by decide +kernel
theorem dX1_passing_24 : decode cX1_passing 24 = .ok (.ior, 1) := by decide +kernel
theorem dX1_passing_25 : decode cX1_passing 25 = .ok (.istore_n 2, 1) := by decide +kernel
theorem dX1_passing_26 : decode cX1_passing 26 = .ok (.iinc 3 1, 3) := by decide +kernel
theorem dX1_passing_29 : decode cX1_passing 29 = .ok (.goto (-25), 3) := by decide +kernel
theorem dX1_passing_32 : decode cX1_passing 32 = .ok (.iload_n 2, 1) := by decide +kernel
theorem dX1_passing_33 : decode cX1_passing 33 = .ok (.ireturn, 1) := by decide +kernel
theorem dX1_sway_0 : decode cX1_sway 0 = .ok (.aload_n 0, 1) := by decide +kernel
theorem dX1_sway_1 : decode cX1_sway 1 = .ok (.iload_n 1, 1) := by decide +kernel
theorem dX1_sway_2 : decode cX1_sway 2 = .ok (.aload_n 0, 1) := by decide +kernel
theorem dX1_sway_3 : decode cX1_sway 3 = .ok (.getfield 24, 3) := by decide +kernel
theorem dX1_sway_6 : decode cX1_sway 6 = .ok (.getfield 38, 3) := by decide +kernel
theorem dX1_sway_9 : decode cX1_sway 9 = .ok (.bipush (-9), 2) := by decide +kernel
theorem dX1_sway_11 : decode cX1_sway 11 = .ok (.invokevirtual 125, 3) := by decide +kernel
theorem dX1_sway_14 : decode cX1_sway 14 = .ok (.istore_n 2, 1) := by decide +kernel
theorem dX1_sway_15 : decode cX1_sway 15 = .ok (.iconst 0, 1) := by decide +kernel
theorem dX1_sway_16 : decode cX1_sway 16 = .ok (.istore_n 3, 1) := by decide +kernel
theorem dX1_sway_17 : decode cX1_sway 17 = .ok (.iconst 0, 1) := by decide +kernel
theorem dX1_sway_18 : decode cX1_sway 18 = .ok (.istore 4, 2) := by decide +kernel
theorem dX1_sway_20 : decode cX1_sway 20 = .ok (.iload 4, 2) := by decide +kernel
theorem dX1_sway_22 : decode cX1_sway 22 = .ok (.aload_n 0, 1) := by decide +kernel
theorem dX1_sway_23 : decode cX1_sway 23 = .ok (.getfield 28, 3) := by decide +kernel
theorem dX1_sway_26 : decode cX1_sway 26 = .ok (.if_icmp .ge 34, 3) := by decide +kernel
theorem dX1_sway_29 : decode cX1_sway 29 = .ok (.aload_n 0, 1) := by decide +kernel
theorem dX1_sway_30 : decode cX1_sway 30 = .ok (.iload_n 1, 1) := by decide +kernel
theorem dX1_sway_31 : decode cX1_sway 31 = .ok (.aload_n 0, 1) := by decide +kernel
theorem dX1_sway_32 : decode cX1_sway 32 = .ok (.getfield 24, 3) := by decide +kernel
theorem dX1_sway_35 : decode cX1_sway 35 = .ok (.getfield 38, 3) := by decide +kernel
theorem dX1_sway_38 : decode cX1_sway 38 = .ok (.iload 4, 2) := by decide +kernel
theorem dX1_sway_40 : decode cX1_sway 40 = .ok (.invokevirtual 125, 3) := by decide +kernel
theorem dX1_sway_43 : decode cX1_sway 43 = .ok (.iload_n 2, 1) := by decide +kernel
theorem dX1_sway_44 : decode cX1_sway 44 = .ok (.if_icmp .eq 10, 3) := by decide +kernel
theorem dX1_sway_47 : decode cX1_sway 47 = .ok (.iload_n 3, 1) := by decide +kernel
theorem dX1_sway_48 : decode cX1_sway 48 = .ok (.iconst 1, 1) := by decide +kernel
theorem dX1_sway_49 : decode cX1_sway 49 = .ok (.iload 4, 2) := by decide +kernel
theorem dX1_sway_51 : decode cX1_sway 51 = .ok (.ishl, 1) := by decide +kernel
theorem dX1_sway_52 : decode cX1_sway 52 = .ok (.ior, 1) := by decide +kernel
theorem dX1_sway_53 : decode cX1_sway 53 = .ok (.istore_n 3, 1) := by decide +kernel
theorem dX1_sway_54 : decode cX1_sway 54 = .ok (.iinc 4 1, 3) := by decide +kernel
theorem dX1_sway_57 : decode cX1_sway 57 = .ok (.goto (-37), 3) := by decide +kernel
theorem dX1_sway_60 : decode cX1_sway 60 = .ok (.iload_n 3, 1) := by decide +kernel
theorem dX1_sway_61 : decode cX1_sway 61 = .ok (.ireturn, 1) := by decide +kernel
theorem dX2_init_0 : decode cX2_init 0 = .ok (.aload_n 0, 1) := by decide +kernel
theorem dX2_init_1 : decode cX2_init 1 = .ok (.invokespecial 3, 3) := by decide +kernel
theorem dX2_init_4 : decode cX2_init 4 = .ok (.aload_n 0, 1) := by decide +kernel
theorem dX2_init_5 : decode cX2_init 5 = .ok (.bipush 7, 2) := by decide +kernel
theorem dX2_init_7 : decode cX2_init 7 = .ok (.newarray .int, 2) := by decide +kernel
theorem dX2_init_9 : decode cX2_init 9 = .ok (.putfield 9, 3) := by decide +kernel
theorem dX2_init_12 : decode cX2_init 12 = .ok (.aload_n 0, 1) := by decide +kernel
theorem dX2_init_13 : decode cX2_init 13 = .ok (.bipush 7, 2) := by decide +kernel
theorem dX2_init_15 : decode cX2_init 15 = .ok (.newarray .int, 2) := by decide +kernel
theorem dX2_init_17 : decode cX2_init 17 = .ok (.putfield 15, 3) := by decide +kernel
theorem dX2_init_20 : decode cX2_init 20 = .ok (.aload_n 0, 1) := by decide +kernel
theorem dX2_init_21 : decode cX2_init 21 = .ok (.bipush 7, 2) := by decide +kernel
theorem dX2_init_23 : decode cX2_init 23 = .ok (.newarray .int, 2) := by decide +kernel
theorem dX2_init_25 : decode cX2_init 25 = .ok (.putfield 18, 3) := by decide +kernel
theorem dX2_init_28 : decode cX2_init 28 = .ok (.aload_n 0, 1) := by decide +kernel
theorem dX2_init_29 : decode cX2_init 29 = .ok (.iconst 0, 1) := by decide +kernel
theorem dX2_init_30 : decode cX2_init 30 = .ok (.putfield 21, 3) := by decide +kernel
theorem dX2_init_33 : decode cX2_init 33 = .ok (.aload_n 0, 1) := by decide +kernel
theorem dX2_init_34 : decode cX2_init 34 = .ok (.bipush 15, 2) := by decide +kernel
theorem dX2_init_36 : decode cX2_init 36 = .ok (.putfield 25, 3) := by decide +kernel
theorem dX2_init_39 : decode cX2_init 39 = .ok (.aload_n 0, 1) := by decide +kernel
theorem dX2_init_40 : decode cX2_init 40 = .ok (.iconst 0, 1) := by decide +kernel
theorem dX2_init_41 : decode cX2_init 41 = .ok (.putfield 28, 3) := by decide +kernel
theorem dX2_init_44 : decode cX2_init 44 = .ok (.aload_n 0, 1) := by decide +kernel
theorem dX2_init_45 : decode cX2_init 45 = .ok (.iconst 0, 1) := by decide +kernel
theorem dX2_init_46 : decode cX2_init 46 = .ok (.putfield 31, 3) := by decide +kernel
theorem dX2_init_49 : decode cX2_init 49 = .ok (.return_, 1) := by decide +kernel
theorem dX2_take_0 : decode cX2_take 0 = .ok (.aload_n 1, 1) := by decide +kernel
theorem dX2_take_1 : decode cX2_take 1 = .ok (.getfield 9, 3) := by decide +kernel
theorem dX2_take_4 : decode cX2_take 4 = .ok (.iconst 0, 1) := by decide +kernel
theorem dX2_take_5 : decode cX2_take 5 = .ok (.aload_n 0, 1) := by decide +kernel
theorem dX2_take_6 : decode cX2_take 6 = .ok (.getfield 9, 3) := by decide +kernel
theorem dX2_take_9 : decode cX2_take 9 = .ok (.iconst 0, 1) := by decide +kernel
theorem dX2_take_10 : decode cX2_take 10 = .ok (.bipush 7, 2) := by decide +kernel
theorem dX2_take_12 : decode cX2_take 12 = .ok (.invokestatic 34, 3) := by decide +kernel
theorem dX2_take_15 : decode cX2_take 15 = .ok (.aload_n 1, 1) := by decide +kernel
theorem dX2_take_16 : decode cX2_take 16 = .ok (.getfield 15, 3) := by decide +kernel
theorem dX2_take_19 : decode cX2_take 19 = .ok (.iconst 0, 1) := by decide +kernel
theorem dX2_take_20 : decode cX2_take 20 = .ok (.aload_n 0, 1) := by decide +kernel
theorem dX2_take_21 : decode cX2_take 21 = .ok (.getfield 15, 3) := by decide +kernel
theorem dX2_take_24 : decode cX2_take 24 = .ok (.iconst 0, 1) := by decide +kernel
theorem dX2_take_25 : decode cX2_take 25 = .ok (.bipush 7, 2) := by decide +kernel
theorem dX2_take_27 : decode cX2_take 27 = .ok (.invokestatic 34, 3) := by decide +kernel
theorem dX2_take_30 : decode cX2_take 30 = .ok (.aload_n 1, 1) := by decide +kernel
theorem dX2_take_31 : decode cX2_take 31 = .ok (.getfield 18, 3) := by decide +kernel
theorem dX2_take_34 : decode cX2_take 34 = .ok (.iconst 0, 1) := by decide +kernel
theorem dX2_take_35 : decode cX2_take 35 = .ok (.aload_n 0, 1) := by decide +kernel
theorem dX2_take_36 : decode cX2_take 36 = .ok (.getfield 18, 3) := by decide +kernel
theorem dX2_take_39 : decode cX2_take 39 = .ok (.iconst 0, 1) := by decide +kernel
theorem dX2_take_40 : decode cX2_take 40 = .ok (.bipush 7, 2) := by decide +kernel
theorem dX2_take_42 : decode cX2_take 42 = .ok (.invokestatic 34, 3) := by decide +kernel
theorem dX2_take_45 : decode cX2_take 45 = .ok (.aload_n 0, 1) := by decide +kernel
theorem dX2_take_46 : decode cX2_take 46 = .ok (.aload_n 1, 1) := by decide +kernel
theorem dX2_take_47 : decode cX2_take 47 = .ok (.getfield 21, 3) := by decide +kernel
theorem dX2_take_50 : decode cX2_take 50 = .ok (.putfield 21, 3) := by decide +kernel
theorem dX2_take_53 : decode cX2_take 53 = .ok (.aload_n 0, 1) := by decide +kernel
theorem dX2_take_54 : decode cX2_take 54 = .ok (.aload_n 1, 1) := by decide +kernel
theorem dX2_take_55 : decode cX2_take 55 = .ok (.getfield 25, 3) := by decide +kernel
theorem dX2_take_58 : decode cX2_take 58 = .ok (.putfield 25, 3) := by decide +kernel
theorem dX2_take_61 : decode cX2_take 61 = .ok (.aload_n 0, 1) := by decide +kernel
theorem dX2_take_62 : decode cX2_take 62 = .ok (.aload_n 1, 1) := by decide +kernel
theorem dX2_take_63 : decode cX2_take 63 = .ok (.getfield 28, 3) := by decide +kernel
theorem dX2_take_66 : decode cX2_take 66 = .ok (.putfield 28, 3) := by decide +kernel
theorem dX2_take_69 : decode cX2_take 69 = .ok (.aload_n 0, 1) := by decide +kernel
theorem dX2_take_70 : decode cX2_take 70 = .ok (.aload_n 1, 1) := by decide +kernel
theorem dX2_take_71 : decode cX2_take 71 = .ok (.getfield 31, 3) := by decide +kernel
theorem dX2_take_74 : decode cX2_take 74 = .ok (.putfield 31, 3) := by decide +kernel
theorem dX2_take_77 : decode cX2_take 77 = .ok (.return_, 1) := by decide +kernel
theorem dX3_init_0 : decode cX3_init 0 = .ok (.aload_n 0, 1) := by decide +kernel
theorem dX3_init_1 : decode cX3_init 1 = .ok (.invokespecial 3, 3) := by decide +kernel
theorem dX3_init_4 : decode cX3_init 4 = .ok (.aload_n 0, 1) := by decide +kernel
theorem dX3_init_5 : decode cX3_init 5 = .ok (.bipush 10, 2) := by decide +kernel
theorem dX3_init_7 : decode cX3_init 7 = .ok (.anewarray 9, 3) := by decide +kernel
theorem dX3_init_10 : decode cX3_init 10 = .ok (.putfield 11, 3) := by decide +kernel
theorem dX3_init_13 : decode cX3_init 13 = .ok (.aload_n 0, 1) := by decide +kernel
theorem dX3_init_14 : decode cX3_init 14 = .ok (.iconst 0, 1) := by decide +kernel
theorem dX3_init_15 : decode cX3_init 15 = .ok (.putfield 17, 3) := by decide +kernel
theorem dX3_init_18 : decode cX3_init 18 = .ok (.aload_n 0, 1) := by decide +kernel
theorem dX3_init_19 : decode cX3_init 19 = .ok (.iconst 0, 1) := by decide +kernel
theorem dX3_init_20 : decode cX3_init 20 = .ok (.putfield 21, 3) := by decide +kernel
theorem dX3_init_23 : decode cX3_init 23 = .ok (.iconst 0, 1) := by decide +kernel
theorem dX3_init_24 : decode cX3_init 24 = .ok (.istore_n 1, 1) := by decide +kernel
theorem dX3_init_25 : decode cX3_init 25 = .ok (.iload_n 1, 1) := by decide +kernel
theorem dX3_init_26 : decode cX3_init 26 = .ok (.bipush 10, 2) := by decide +kernel
theorem dX3_init_28 : decode cX3_init 28 = .ok (.if_icmp .ge 22, 3) := by decide +kernel
theorem dX3_init_31 : decode cX3_init 31 = .ok (.aload_n 0, 1) := by decide +kernel
theorem dX3_init_32 : decode cX3_init 32 = .ok (.getfield 11, 3) := by decide +kernel
theorem dX3_init_35 : decode cX3_init 35 = .ok (.iload_n 1, 1) := by decide +kernel
theorem dX3_init_36 : decode cX3_init 36 = .ok (.new 9, 3) := by decide +kernel
theorem dX3_init_39 : decode cX3_init 39 = .ok (.dup, 1) := by decide +kernel
theorem dX3_init_40 : decode cX3_init 40 = .ok (.invokespecial 24, 3) := by decide +kernel
theorem dX3_init_43 : decode cX3_init 43 = .ok (.aastore, 1) := by decide +kernel
theorem dX3_init_44 : decode cX3_init 44 = .ok (.iinc 1 1, 3) := by decide +kernel
theorem dX3_init_47 : decode cX3_init 47 = .ok (.goto (-22), 3) := by decide +kernel
theorem dX3_init_50 : decode cX3_init 50 = .ok (.return_, 1) := by decide +kernel
theorem dX3_remember_0 : decode cX3_remember 0 = .ok (.aload_n 0, 1) := by decide +kernel
theorem dX3_remember_1 : decode cX3_remember 1 = .ok (.getfield 11, 3) := by decide +kernel
theorem dX3_remember_4 : decode cX3_remember 4 = .ok (.aload_n 0, 1) := by decide +kernel
theorem dX3_remember_5 : decode cX3_remember 5 = .ok (.getfield 17, 3) := by decide +kernel
theorem dX3_remember_8 : decode cX3_remember 8 = .ok (.aaload, 1) := by decide +kernel
theorem dX3_remember_9 : decode cX3_remember 9 = .ok (.aload_n 1, 1) := by decide +kernel
theorem dX3_remember_10 : decode cX3_remember 10 = .ok (.invokevirtual 25, 3) := by decide +kernel
theorem dX3_remember_13 : decode cX3_remember 13 = .ok (.aload_n 0, 1) := by decide +kernel
theorem dX3_remember_14 : decode cX3_remember 14 = .ok (.aload_n 0, 1) := by decide +kernel
theorem dX3_remember_15 : decode cX3_remember 15 = .ok (.getfield 17, 3) := by decide +kernel
theorem dX3_remember_18 : decode cX3_remember 18 = .ok (.iconst 1, 1) := by decide +kernel
theorem dX3_remember_19 : decode cX3_remember 19 = .ok (.iadd, 1) := by decide +kernel
theorem dX3_remember_20 : decode cX3_remember 20 = .ok (.bipush 10, 2) := by decide +kernel
theorem dX3_remember_22 : decode cX3_remember 22 = .ok (.irem, 1) := by decide +kernel
theorem dX3_remember_23 : decode cX3_remember 23 = .ok (.putfield 17, 3) := by decide +kernel
theorem dX3_remember_26 : decode cX3_remember 26 = .ok (.aload_n 0, 1) := by decide +kernel
theorem dX3_remember_27 : decode cX3_remember 27 = .ok (.bipush 10, 2) := by decide +kernel
theorem dX3_remember_29 : decode cX3_remember 29 = .ok (.aload_n 0, 1) := by decide +kernel
theorem dX3_remember_30 : decode cX3_remember 30 = .ok (.getfield 21, 3) := by decide +kernel
theorem dX3_remember_33 : decode cX3_remember 33 = .ok (.iconst 1, 1) := by decide +kernel
theorem dX3_remember_34 : decode cX3_remember 34 = .ok (.iadd, 1) := by decide +kernel
theorem dX3_remember_35 : decode cX3_remember 35 = .ok (.invokestatic 29, 3) := by decide +kernel
theorem dX3_remember_38 : decode cX3_remember 38 = .ok (.putfield 21, 3) := by decide +kernel
theorem dX3_remember_41 : decode cX3_remember 41 = .ok (.return_, 1) := by decide +kernel
theorem dX3_recall_0 : decode cX3_recall 0 = .ok (.aload_n 0, 1) := by decide +kernel
theorem dX3_recall_1 : decode cX3_recall 1 = .ok (.aload_n 0, 1) := by decide +kernel
theorem dX3_recall_2 : decode cX3_recall 2 = .ok (.getfield 17, 3) := by decide +kernel
theorem dX3_recall_5 : decode cX3_recall 5 = .ok (.bipush 10, 2) := by decide +kernel
theorem dX3_recall_7 : decode cX3_recall 7 = .ok (.iadd, 1) := by decide +kernel
theorem dX3_recall_8 : decode cX3_recall 8 = .ok (.iconst 1, 1) := by decide +kernel
theorem dX3_recall_9 : decode cX3_recall 9 = .ok (.isub, 1) := by decide +kernel
theorem dX3_recall_10 : decode cX3_recall 10 = .ok (.bipush 10, 2) := by decide +kernel
theorem dX3_recall_12 : decode cX3_recall 12 = .ok (.irem, 1) := by decide +kernel
theorem dX3_recall_13 : decode cX3_recall 13 = .ok (.putfield 17, 3) := by decide +kernel
theorem dX3_recall_16 : decode cX3_recall 16 = .ok (.aload_n 1, 1) := by decide +kernel
theorem dX3_recall_17 : decode cX3_recall 17 = .ok (.aload_n 0, 1) := by decide +kernel
theorem dX3_recall_18 : decode cX3_recall 18 = .ok (.getfield 11, 3) := by decide +kernel
theorem dX3_recall_21 : decode cX3_recall 21 = .ok (.aload_n 0, 1) := by decide +kernel
theorem dX3_recall_22 : decode cX3_recall 22 = .ok (.getfield 17, 3) := by decide +kernel
theorem dX3_recall_25 : decode cX3_recall 25 = .ok (.aaload, 1) := by decide +kernel
theorem dX3_recall_26 : decode cX3_recall 26 = .ok (.invokevirtual 25, 3) := by decide +kernel
theorem dX3_recall_29 : decode cX3_recall 29 = .ok (.aload_n 0, 1) := by decide +kernel
theorem dX3_recall_30 : decode cX3_recall 30 = .ok (.dup, 1) := by decide +kernel
theorem dX3_recall_31 : decode cX3_recall 31 = .ok (.getfield 21, 3) := by decide +kernel
theorem dX3_recall_34 : decode cX3_recall 34 = .ok (.iconst 1, 1) := by decide +kernel
theorem dX3_recall_35 : decode cX3_recall 35 = .ok (.isub, 1) := by decide +kernel
theorem dX3_recall_36 : decode cX3_recall 36 = .ok (.putfield 21, 3) := by decide +kernel
theorem dX3_recall_39 : decode cX3_recall 39 = .ok (.return_, 1) := by decide +kernel
theorem dX4_init_0 : decode cX4_init 0 = .ok (.aload_n 0, 1) := by decide +kernel
theorem dX4_init_1 : decode cX4_init 1 = .ok (.invokespecial 3, 3) := by decide +kernel
theorem dX4_init_4 : decode cX4_init 4 = .ok (.aload_n 0, 1) := by decide +kernel
theorem dX4_init_5 : decode cX4_init 5 = .ok (.new 9, 3) := by decide +kernel
theorem dX4_init_8 : decode cX4_init 8 = .ok (.dup, 1) := by decide +kernel
theorem dX4_init_9 : decode cX4_init 9 = .ok (.invokespecial 11, 3) := by decide +kernel
theorem dX4_init_12 : decode cX4_init 12 = .ok (.putfield 12, 3) := by decide +kernel
theorem dX4_init_15 : decode cX4_init 15 = .ok (.aload_n 0, 1) := by decide +kernel
theorem dX4_init_16 : decode cX4_init 16 = .ok (.iconst 0, 1) := by decide +kernel
theorem dX4_init_17 : decode cX4_init 17 = .ok (.putfield 18, 3) := by decide +kernel
theorem dX4_init_20 : decode cX4_init 20 = .ok (.aload_n 0, 1) := by decide +kernel
theorem dX4_init_21 : decode cX4_init 21 = .ok (.iconst 0, 1) := by decide +kernel
theorem dX4_init_22 : decode cX4_init 22 = .ok (.putfield 22, 3) := by decide +kernel
theorem dX4_init_25 : decode cX4_init 25 = .ok (.aload_n 0, 1) := by decide +kernel
theorem dX4_init_26 : decode cX4_init 26 = .ok (.sipush 257, 3) := by decide +kernel
theorem dX4_init_29 : decode cX4_init 29 = .ok (.putfield 25, 3) := by decide +kernel
theorem dX4_init_32 : decode cX4_init 32 = .ok (.aload_n 0, 1) := by decide +kernel
theorem dX4_init_33 : decode cX4_init 33 = .ok (.iconst 0, 1) := by decide +kernel
theorem dX4_init_34 : decode cX4_init 34 = .ok (.putfield 28, 3) := by decide +kernel
theorem dX4_init_37 : decode cX4_init 37 = .ok (.aload_n 0, 1) := by decide +kernel
theorem dX4_init_38 : decode cX4_init 38 = .ok (.iconst 0, 1) := by decide +kernel
theorem dX4_init_39 : decode cX4_init 39 = .ok (.putfield 31, 3) := by decide +kernel
theorem dX4_init_42 : decode cX4_init 42 = .ok (.return_, 1) := by decide +kernel
theorem dX4_read_0 : decode cX4_read 0 = .ok (.aload_n 0, 1) := by decide +kernel
theorem dX4_read_1 : decode cX4_read 1 = .ok (.getfield 12, 3) := by decide +kernel
theorem dX4_read_4 : decode cX4_read 4 = .ok (.invokevirtual 35, 3) := by decide +kernel
theorem dX4_read_7 : decode cX4_read 7 = .ok (.aload_n 0, 1) := by decide +kernel
theorem dX4_read_8 : decode cX4_read 8 = .ok (.iconst 0, 1) := by decide +kernel
theorem dX4_read_9 : decode cX4_read 9 = .ok (.putfield 18, 3) := by decide +kernel
theorem dX4_read_12 : decode cX4_read 12 = .ok (.aload_n 0, 1) := by decide +kernel
theorem dX4_read_13 : decode cX4_read 13 = .ok (.iconst 0, 1) := by decide +kernel
theorem dX4_read_14 : decode cX4_read 14 = .ok (.putfield 31, 3) := by decide +kernel
theorem dX4_read_17 : decode cX4_read 17 = .ok (.iconst 0, 1) := by decide +kernel
theorem dX4_read_18 : decode cX4_read 18 = .ok (.istore_n 2, 1) := by decide +kernel
theorem dX4_read_19 : decode cX4_read 19 = .ok (.aload_n 0, 1) := by decide +kernel
theorem dX4_read_20 : decode cX4_read 20 = .ok (.aload_n 1, 1) := by decide +kernel
theorem dX4_read_21 : decode cX4_read 21 = .ok (.invokevirtual 38, 3) := by decide +kernel
theorem dX4_read_24 : decode cX4_read 24 = .ok (.aload_n 0, 1) := by decide +kernel
theorem dX4_read_25 : decode cX4_read 25 = .ok (.getfield 25, 3) := by decide +kernel
theorem dX4_read_28 : decode cX4_read 28 = .ok (.sipush 257, 3) := by decide +kernel
theorem dX4_read_31 : decode cX4_read 31 = .ok (.if_icmp .eq 38, 3) := by decide +kernel
theorem dX4_read_34 : decode cX4_read 34 = .ok (.iload_n 2, 1) := by decide +kernel
theorem dX4_read_35 : decode cX4_read 35 = .ok (.sipush 200, 3) := by decide +kernel
theorem dX4_read_38 : decode cX4_read 38 = .ok (.if_icmp .ge 31, 3) := by decide +kernel
theorem dX4_read_41 : decode cX4_read 41 = .ok (.aload_n 0, 1) := by decide +kernel
theorem dX4_read_42 : decode cX4_read 42 = .ok (.aload_n 1, 1) := by decide +kernel
theorem dX4_read_43 : decode cX4_read 43 = .ok (.iload_n 2, 1) := by decide +kernel
theorem dX4_read_44 : decode cX4_read 44 = .ok (.invokevirtual 42, 3) := by decide +kernel
theorem dX4_read_47 : decode cX4_read 47 = .ok (.ifCond .ne 11, 3) := by decide +kernel
theorem dX4_read_50 : decode cX4_read 50 = .ok (.bipush (-10), 2) := by decide +kernel
theorem dX4_read_52 : decode cX4_read 52 = .ok (.aload_n 0, 1) := by decide +kernel
theorem dX4_read_53 : decode cX4_read 53 = .ok (.getfield 22, 3) := by decide +kernel
theorem dX4_read_56 : decode cX4_read 56 = .ok (.isub, 1) := by decide +kernel
theorem dX4_read_57 : decode cX4_read 57 = .ok (.ireturn, 1) := by decide +kernel
theorem dX4_read_58 : decode cX4_read 58 = .ok (.iinc 2 1, 3) := by decide +kernel
theorem dX4_read_61 : decode cX4_read 61 = .ok (.aload_n 0, 1) := by decide +kernel
theorem dX4_read_62 : decode cX4_read 62 = .ok (.aload_n 1, 1) := by decide +kernel
theorem dX4_read_63 : decode cX4_read 63 = .ok (.invokevirtual 38, 3) := by decide +kernel
theorem dX4_read_66 : decode cX4_read 66 = .ok (.goto (-42), 3) := by decide +kernel
theorem dX4_read_69 : decode cX4_read 69 = .ok (.iload_n 2, 1) := by decide +kernel
theorem dX4_read_70 : decode cX4_read 70 = .ok (.ireturn, 1) := by decide +kernel
theorem dX4_readItem_0 : decode cX4_readItem 0 = .ok (.aload_n 0, 1) := by decide +kernel
theorem dX4_readItem_1 : decode cX4_readItem 1 = .ok (.getfield 25, 3) := by decide +kernel
theorem dX4_readItem_4 : decode cX4_readItem 4 = .ok (.tableswitch 151 108 113 #[122, 151, 40, 151, 66, 100], 40) := by decide +kernel
theorem dX4_readItem_44 : decode cX4_readItem 44 = .ok (.iload_n 2, 1) := by decide +kernel
theorem dX4_readItem_45 : decode cX4_readItem 45 = .ok (.ifCond .ne 23, 3) := by decide +kernel
theorem dX4_readItem_48 : decode cX4_readItem 48 = .ok (.aload_n 0, 1) := by decide +kernel
theorem dX4_readItem_49 : decode cX4_readItem 49 = .ok (.aload_n 1, 1) := by decide +kernel
theorem dX4_readItem_50 : decode cX4_readItem 50 = .ok (.invokevirtual 46, 3) := by decide +kernel
theorem dX4_readItem_53 : decode cX4_readItem 53 = .ok (.ifCond .eq 15, 3) := by decide +kernel
theorem dX4_readItem_56 : decode cX4_readItem 56 = .ok (.aload_n 0, 1) := by decide +kernel
theorem dX4_readItem_57 : decode cX4_readItem 57 = .ok (.aload_n 1, 1) := by decide +kernel
theorem dX4_readItem_58 : decode cX4_readItem 58 = .ok (.invokevirtual 50, 3) := by decide +kernel
theorem dX4_readItem_61 : decode cX4_readItem 61 = .ok (.ifCond .eq 7, 3) := by decide +kernel
theorem dX4_readItem_64 : decode cX4_readItem 64 = .ok (.iconst 1, 1) := by decide +kernel
theorem dX4_readItem_65 : decode cX4_readItem 65 = .ok (.goto 4, 3) := by decide +kernel
theorem dX4_readItem_68 : decode cX4_readItem 68 = .ok (.iconst 0, 1) := by decide +kernel
theorem dX4_readItem_69 : decode cX4_readItem 69 = .ok (.ireturn, 1) := by decide +kernel
theorem dX4_readItem_70 : decode cX4_readItem 70 = .ok (.aload_n 0, 1) := by decide +kernel
theorem dX4_readItem_71 : decode cX4_readItem 71 = .ok (.getfield 12, 3) := by decide +kernel
theorem dX4_readItem_74 : decode cX4_readItem 74 = .ok (.getfield 53, 3) := by decide +kernel
theorem dX4_readItem_77 : decode cX4_readItem 77 = .ok (.bipush 7, 2) := by decide +kernel
theorem dX4_readItem_79 : decode cX4_readItem 79 = .ok (.if_icmp .ge 23, 3) := by decide +kernel
theorem dX4_readItem_82 : decode cX4_readItem 82 = .ok (.aload_n 0, 1) := by decide +kernel
theorem dX4_readItem_83 : decode cX4_readItem 83 = .ok (.aload_n 1, 1) := by decide +kernel
theorem dX4_readItem_84 : decode cX4_readItem 84 = .ok (.invokevirtual 56, 3) := by decide +kernel
theorem dX4_readItem_87 : decode cX4_readItem 87 = .ok (.ifCond .eq 15, 3) := by decide +kernel
theorem dX4_readItem_90 : decode cX4_readItem 90 = .ok (.aload_n 0, 1) := by decide +kernel
theorem dX4_readItem_91 : decode cX4_readItem 91 = .ok (.aload_n 1, 1) := by decide +kernel
theorem dX4_readItem_92 : decode cX4_readItem 92 = .ok (.invokevirtual 50, 3) := by decide +kernel
theorem dX4_readItem_95 : decode cX4_readItem 95 = .ok (.ifCond .eq 7, 3) := by decide +kernel
theorem dX4_readItem_98 : decode cX4_readItem 98 = .ok (.iconst 1, 1) := by decide +kernel
theorem dX4_readItem_99 : decode cX4_readItem 99 = .ok (.goto 4, 3) := by decide +kernel
theorem dX4_readItem_102 : decode cX4_readItem 102 = .ok (.iconst 0, 1) := by decide +kernel
theorem dX4_readItem_103 : decode cX4_readItem 103 = .ok (.ireturn, 1) := by decide +kernel
theorem dX4_readItem_104 : decode cX4_readItem 104 = .ok (.aload_n 0, 1) := by decide +kernel
theorem dX4_readItem_105 : decode cX4_readItem 105 = .ok (.aload_n 1, 1) := by decide +kernel
theorem dX4_readItem_106 : decode cX4_readItem 106 = .ok (.invokevirtual 59, 3) := by decide +kernel
theorem dX4_readItem_109 : decode cX4_readItem 109 = .ok (.ifCond .eq 15, 3) := by decide +kernel
theorem dX4_readItem_112 : decode cX4_readItem 112 = .ok (.aload_n 0, 1) := by decide +kernel
theorem dX4_readItem_113 : decode cX4_readItem 113 = .ok (.aload_n 1, 1) := by decide +kernel
theorem dX4_readItem_114 : decode cX4_readItem 114 = .ok (.invokevirtual 50, 3) := by decide +kernel
theorem dX4_readItem_117 : decode cX4_readItem 117 = .ok (.ifCond .eq 7, 3) := by decide +kernel
theorem dX4_readItem_120 : decode cX4_readItem 120 = .ok (.iconst 1, 1) := by decide +kernel
theorem dX4_readItem_121 : decode cX4_readItem 121 = .ok (.goto 4, 3) := by decide +kernel
theorem dX4_readItem_124 : decode cX4_readItem 124 = .ok (.iconst 0, 1) := by decide +kernel
theorem dX4_readItem_125 : decode cX4_readItem 125 = .ok (.ireturn, 1) := by decide +kernel
theorem dX4_readItem_126 : decode cX4_readItem 126 = .ok (.aload_n 0, 1) := by decide +kernel
theorem dX4_readItem_127 : decode cX4_readItem 127 = .ok (.getfield 31, 3) := by decide +kernel
theorem dX4_readItem_130 : decode cX4_readItem 130 = .ok (.ifCond .ne 23, 3) := by decide +kernel
theorem dX4_readItem_133 : decode cX4_readItem 133 = .ok (.aload_n 0, 1) := by decide +kernel
theorem dX4_readItem_134 : decode cX4_readItem 134 = .ok (.aload_n 1, 1) := by decide +kernel
theorem dX4_readItem_135 : decode cX4_readItem 135 = .ok (.invokevirtual 62, 3) := by decide +kernel
theorem dX4_readItem_138 : decode cX4_readItem 138 = .ok (.ifCond .eq 15, 3) := by decide +kernel
theorem dX4_readItem_141 : decode cX4_readItem 141 = .ok (.aload_n 0, 1) := by decide +kernel
theorem dX4_readItem_142 : decode cX4_readItem 142 = .ok (.aload_n 1, 1) := by decide +kernel
theorem dX4_readItem_143 : decode cX4_readItem 143 = .ok (.invokevirtual 50, 3) := by decide +kernel
theorem dX4_readItem_146 : decode cX4_readItem 146 = .ok (.ifCond .eq 7, 3) := by decide +kernel
theorem dX4_readItem_149 : decode cX4_readItem 149 = .ok (.iconst 1, 1) := by decide +kernel
theorem dX4_readItem_150 : decode cX4_readItem 150 = .ok (.goto 4, 3) := by decide +kernel
theorem dX4_readItem_153 : decode cX4_readItem 153 = .ok (.iconst 0, 1) := by decide +kernel
theorem dX4_readItem_154 : decode cX4_readItem 154 = .ok (.ireturn, 1) := by decide +kernel
theorem dX4_readItem_155 : decode cX4_readItem 155 = .ok (.iconst 0, 1) := by decide +kernel
theorem dX4_readItem_156 : decode cX4_readItem 156 = .ok (.ireturn, 1) := by decide +kernel
theorem dX4_readNames_0 : decode cX4_readNames 0 = .ok (.aload_n 0, 1) := by decide +kernel
theorem dX4_readNames_1 : decode cX4_readNames 1 = .ok (.aload_n 1, 1) := by decide +kernel
theorem dX4_readNames_2 : decode cX4_readNames 2 = .ok (.iconst 1, 1) := by decide +kernel
theorem dX4_readNames_3 : decode cX4_readNames 3 = .ok (.iconst 4, 1) := by decide +kernel
theorem dX4_readNames_4 : decode cX4_readNames 4 = .ok (.invokevirtual 65, 3) := by decide +kernel
theorem dX4_readNames_7 : decode cX4_readNames 7 = .ok (.ifCond .ne 5, 3) := by decide +kernel
theorem dX4_readNames_10 : decode cX4_readNames 10 = .ok (.iconst 0, 1) := by decide +kernel
theorem dX4_readNames_11 : decode cX4_readNames 11 = .ok (.ireturn, 1) := by decide +kernel
theorem dX4_readNames_12 : decode cX4_readNames 12 = .ok (.aload_n 0, 1) := by decide +kernel
theorem dX4_readNames_13 : decode cX4_readNames 13 = .ok (.getfield 12, 3) := by decide +kernel
theorem dX4_readNames_16 : decode cX4_readNames 16 = .ok (.aload_n 0, 1) := by decide +kernel
theorem dX4_readNames_17 : decode cX4_readNames 17 = .ok (.getfield 28, 3) := by decide +kernel
theorem dX4_readNames_20 : decode cX4_readNames 20 = .ok (.putfield 69, 3) := by decide +kernel
theorem dX4_readNames_23 : decode cX4_readNames 23 = .ok (.iconst 1, 1) := by decide +kernel
theorem dX4_readNames_24 : decode cX4_readNames 24 = .ok (.ireturn, 1) := by decide +kernel
theorem dX4_readPerson_0 : decode cX4_readPerson 0 = .ok (.aload_n 0, 1) := by decide +kernel
theorem dX4_readPerson_1 : decode cX4_readPerson 1 = .ok (.aload_n 1, 1) := by decide +kernel
theorem dX4_readPerson_2 : decode cX4_readPerson 2 = .ok (.iconst 0, 1) := by decide +kernel
theorem dX4_readPerson_3 : decode cX4_readPerson 3 = .ok (.aload_n 0, 1) := by decide +kernel
theorem dX4_readPerson_4 : decode cX4_readPerson 4 = .ok (.getfield 12, 3) := by decide +kernel
theorem dX4_readPerson_7 : decode cX4_readPerson 7 = .ok (.getfield 69, 3) := by decide +kernel
theorem dX4_readPerson_10 : decode cX4_readPerson 10 = .ok (.iconst 1, 1) := by decide +kernel
theorem dX4_readPerson_11 : decode cX4_readPerson 11 = .ok (.isub, 1) := by decide +kernel
theorem dX4_readPerson_12 : decode cX4_readPerson 12 = .ok (.invokevirtual 65, 3) := by decide +kernel
theorem dX4_readPerson_15 : decode cX4_readPerson 15 = .ok (.ifCond .ne 5, 3) := by decide +kernel
theorem dX4_readPerson_18 : decode cX4_readPerson 18 = .ok (.iconst 0, 1) := by decide +kernel
theorem dX4_readPerson_19 : decode cX4_readPerson 19 = .ok (.ireturn, 1) := by decide +kernel
theorem dX4_readPerson_20 : decode cX4_readPerson 20 = .ok (.aload_n 0, 1) := by decide +kernel
theorem dX4_readPerson_21 : decode cX4_readPerson 21 = .ok (.getfield 28, 3) := by decide +kernel
theorem dX4_readPerson_24 : decode cX4_readPerson 24 = .ok (.istore_n 2, 1) := by decide +kernel
theorem dX4_readPerson_25 : decode cX4_readPerson 25 = .ok (.aload_n 0, 1) := by decide +kernel
theorem dX4_readPerson_26 : decode cX4_readPerson 26 = .ok (.aload_n 1, 1) := by decide +kernel
theorem dX4_readPerson_27 : decode cX4_readPerson 27 = .ok (.iconst 0, 1) := by decide +kernel
theorem dX4_readPerson_28 : decode cX4_readPerson 28 = .ok (.bipush 99, 2) := by decide +kernel
theorem dX4_readPerson_30 : decode cX4_readPerson 30 = .ok (.invokevirtual 65, 3) := by decide +kernel
theorem dX4_readPerson_33 : decode cX4_readPerson 33 = .ok (.ifCond .ne 5, 3) := by decide +kernel
theorem dX4_readPerson_36 : decode cX4_readPerson 36 = .ok (.iconst 0, 1) := by decide +kernel
theorem dX4_readPerson_37 : decode cX4_readPerson 37 = .ok (.ireturn, 1) := by decide +kernel
theorem dX4_readPerson_38 : decode cX4_readPerson 38 = .ok (.aload_n 0, 1) := by decide +kernel
theorem dX4_readPerson_39 : decode cX4_readPerson 39 = .ok (.getfield 28, 3) := by decide +kernel
theorem dX4_readPerson_42 : decode cX4_readPerson 42 = .ok (.istore_n 3, 1) := by decide +kernel
theorem dX4_readPerson_43 : decode cX4_readPerson 43 = .ok (.aload_n 0, 1) := by decide +kernel
theorem dX4_readPerson_44 : decode cX4_readPerson 44 = .ok (.aload_n 1, 1) := by decide +kernel
theorem dX4_readPerson_45 : decode cX4_readPerson 45 = .ok (.iconst 0, 1) := by decide +kernel
theorem dX4_readPerson_46 : decode cX4_readPerson 46 = .ok (.bipush 31, 2) := by decide +kernel
theorem dX4_readPerson_48 : decode cX4_readPerson 48 = .ok (.invokevirtual 65, 3) := by decide +kernel
theorem dX4_readPerson_51 : decode cX4_readPerson 51 = .ok (.ifCond .ne 5, 3) := by decide +kernel
theorem dX4_readPerson_54 : decode cX4_readPerson 54 = .ok (.iconst 0, 1) := by decide +kernel
theorem dX4_readPerson_55 : decode cX4_readPerson 55 = .ok (.ireturn, 1) := by decide +kernel
theorem dX4_readPerson_56 : decode cX4_readPerson 56 = .ok (.aload_n 0, 1) := by decide +kernel
theorem dX4_readPerson_57 : decode cX4_readPerson 57 = .ok (.getfield 12, 3) := by decide +kernel
theorem dX4_readPerson_60 : decode cX4_readPerson 60 = .ok (.iload_n 2, 1) := by decide +kernel
theorem dX4_readPerson_61 : decode cX4_readPerson 61 = .ok (.iload_n 3, 1) := by decide +kernel
theorem dX4_readPerson_62 : decode cX4_readPerson 62 = .ok (.aload_n 0, 1) := by decide +kernel
theorem dX4_readPerson_63 : decode cX4_readPerson 63 = .ok (.getfield 28, 3) := by decide +kernel
theorem dX4_readPerson_66 : decode cX4_readPerson 66 = .ok (.invokevirtual 72, 3) := by decide +kernel
theorem dX4_readPerson_69 : decode cX4_readPerson 69 = .ok (.iconst 1, 1) := by decide +kernel
theorem dX4_readPerson_70 : decode cX4_readPerson 70 = .ok (.ireturn, 1) := by decide +kernel
theorem dX4_readQuarrel_0 : decode cX4_readQuarrel 0 = .ok (.aload_n 0, 1) := by decide +kernel
theorem dX4_readQuarrel_1 : decode cX4_readQuarrel 1 = .ok (.aload_n 1, 1) := by decide +kernel
theorem dX4_readQuarrel_2 : decode cX4_readQuarrel 2 = .ok (.iconst 0, 1) := by decide +kernel
theorem dX4_readQuarrel_3 : decode cX4_readQuarrel 3 = .ok (.aload_n 0, 1) := by decide +kernel
theorem dX4_readQuarrel_4 : decode cX4_readQuarrel 4 = .ok (.getfield 12, 3) := by decide +kernel
theorem dX4_readQuarrel_7 : decode cX4_readQuarrel 7 = .ok (.getfield 53, 3) := by decide +kernel
theorem dX4_readQuarrel_10 : decode cX4_readQuarrel 10 = .ok (.iconst 1, 1) := by decide +kernel
theorem dX4_readQuarrel_11 : decode cX4_readQuarrel 11 = .ok (.isub, 1) := by decide +kernel
theorem dX4_readQuarrel_12 : decode cX4_readQuarrel 12 = .ok (.invokevirtual 65, 3) := by decide +kernel
theorem dX4_readQuarrel_15 : decode cX4_readQuarrel 15 = .ok (.ifCond .ne 5, 3) := by decide +kernel
theorem dX4_readQuarrel_18 : decode cX4_readQuarrel 18 = .ok (.iconst 0, 1) := by decide +kernel
theorem dX4_readQuarrel_19 : decode cX4_readQuarrel 19 = .ok (.ireturn, 1) := by decide +kernel
theorem dX4_readQuarrel_20 : decode cX4_readQuarrel 20 = .ok (.aload_n 0, 1) := by decide +kernel
theorem dX4_readQuarrel_21 : decode cX4_readQuarrel 21 = .ok (.getfield 28, 3) := by decide +kernel
theorem dX4_readQuarrel_24 : decode cX4_readQuarrel 24 = .ok (.istore_n 2, 1) := by decide +kernel
theorem dX4_readQuarrel_25 : decode cX4_readQuarrel 25 = .ok (.aload_n 0, 1) := by decide +kernel
theorem dX4_readQuarrel_26 : decode cX4_readQuarrel 26 = .ok (.aload_n 1, 1) := by decide +kernel
theorem dX4_readQuarrel_27 : decode cX4_readQuarrel 27 = .ok (.iconst 0, 1) := by decide +kernel
theorem dX4_readQuarrel_28 : decode cX4_readQuarrel 28 = .ok (.aload_n 0, 1) := by decide +kernel
theorem dX4_readQuarrel_29 : decode cX4_readQuarrel 29 = .ok (.getfield 12, 3) := by decide +kernel
theorem dX4_readQuarrel_32 : decode cX4_readQuarrel 32 = .ok (.getfield 53, 3) := by decide +kernel
theorem dX4_readQuarrel_35 : decode cX4_readQuarrel 35 = .ok (.iconst 1, 1) := by decide +kernel
theorem dX4_readQuarrel_36 : decode cX4_readQuarrel 36 = .ok (.isub, 1) := by decide +kernel
theorem dX4_readQuarrel_37 : decode cX4_readQuarrel 37 = .ok (.invokevirtual 65, 3) := by decide +kernel
theorem dX4_readQuarrel_40 : decode cX4_readQuarrel 40 = .ok (.ifCond .eq 11, 3) := by decide +kernel
theorem dX4_readQuarrel_43 : decode cX4_readQuarrel 43 = .ok (.aload_n 0, 1) := by decide +kernel
theorem dX4_readQuarrel_44 : decode cX4_readQuarrel 44 = .ok (.getfield 28, 3) := by decide +kernel
theorem dX4_readQuarrel_47 : decode cX4_readQuarrel 47 = .ok (.iload_n 2, 1) := by decide +kernel
theorem dX4_readQuarrel_48 : decode cX4_readQuarrel 48 = .ok (.if_icmp .ne 5, 3) := by decide +kernel
theorem dX4_readQuarrel_51 : decode cX4_readQuarrel 51 = .ok (.iconst 0, 1) := by decide +kernel
theorem dX4_readQuarrel_52 : decode cX4_readQuarrel 52 = .ok (.ireturn, 1) := by decide +kernel
theorem dX4_readQuarrel_53 : decode cX4_readQuarrel 53 = .ok (.aload_n 0, 1) := by decide +kernel
theorem dX4_readQuarrel_54 : decode cX4_readQuarrel 54 = .ok (.getfield 12, 3) := by decide +kernel
theorem dX4_readQuarrel_57 : decode cX4_readQuarrel 57 = .ok (.getfield 76, 3) := by decide +kernel
theorem dX4_readQuarrel_60 : decode cX4_readQuarrel 60 = .ok (.iload_n 2, 1) := by decide +kernel
theorem dX4_readQuarrel_61 : decode cX4_readQuarrel 61 = .ok (.dup2, 1) := by decide +kernel
theorem dX4_readQuarrel_62 : decode cX4_readQuarrel 62 = .ok (.iaload, 1) := by decide +kernel
theorem dX4_readQuarrel_63 : decode cX4_readQuarrel 63 = .ok (.iconst 1, 1) := by decide +kernel
theorem dX4_readQuarrel_64 : decode cX4_readQuarrel 64 = .ok (.aload_n 0, 1) := by decide +kernel
theorem dX4_readQuarrel_65 : decode cX4_readQuarrel 65 = .ok (.getfield 28, 3) := by decide +kernel
theorem dX4_readQuarrel_68 : decode cX4_readQuarrel 68 = .ok (.ishl, 1) := by decide +kernel
theorem dX4_readQuarrel_69 : decode cX4_readQuarrel 69 = .ok (.ior, 1) := by decide +kernel
theorem dX4_readQuarrel_70 : decode cX4_readQuarrel 70 = .ok (.iastore, 1) := by decide +kernel
theorem dX4_readQuarrel_71 : decode cX4_readQuarrel 71 = .ok (.aload_n 0, 1) := by decide +kernel
theorem dX4_readQuarrel_72 : decode cX4_readQuarrel 72 = .ok (.getfield 12, 3) := by decide +kernel
theorem dX4_readQuarrel_75 : decode cX4_readQuarrel 75 = .ok (.getfield 76, 3) := by decide +kernel
theorem dX4_readQuarrel_78 : decode cX4_readQuarrel 78 = .ok (.aload_n 0, 1) := by decide +kernel
theorem dX4_readQuarrel_79 : decode cX4_readQuarrel 79 = .ok (.getfield 28, 3) := by decide +kernel
theorem dX4_readQuarrel_82 : decode cX4_readQuarrel 82 = .ok (.dup2, 1) := by decide +kernel
theorem dX4_readQuarrel_83 : decode cX4_readQuarrel 83 = .ok (.iaload, 1) := by decide +kernel
theorem dX4_readQuarrel_84 : decode cX4_readQuarrel 84 = .ok (.iconst 1, 1) := by decide +kernel
theorem dX4_readQuarrel_85 : decode cX4_readQuarrel 85 = .ok (.iload_n 2, 1) := by decide +kernel
theorem dX4_readQuarrel_86 : decode cX4_readQuarrel 86 = .ok (.ishl, 1) := by decide +kernel
theorem dX4_readQuarrel_87 : decode cX4_readQuarrel 87 = .ok (.ior, 1) := by decide +kernel
theorem dX4_readQuarrel_88 : decode cX4_readQuarrel 88 = .ok (.iastore, 1) := by decide +kernel
theorem dX4_readQuarrel_89 : decode cX4_readQuarrel 89 = .ok (.iconst 1, 1) := by decide +kernel
theorem dX4_readQuarrel_90 : decode cX4_readQuarrel 90 = .ok (.ireturn, 1) := by decide +kernel
theorem dX4_readLaws_0 : decode cX4_readLaws 0 = .ok (.aload_n 0, 1) := by decide +kernel
theorem dX4_readLaws_1 : decode cX4_readLaws 1 = .ok (.aload_n 1, 1) := by decide +kernel
theorem dX4_readLaws_2 : decode cX4_readLaws 2 = .ok (.iconst 0, 1) := by decide +kernel
theorem dX4_readLaws_3 : decode cX4_readLaws 3 = .ok (.bipush 15, 2) := by decide +kernel
theorem dX4_readLaws_5 : decode cX4_readLaws 5 = .ok (.invokevirtual 65, 3) := by decide +kernel
theorem dX4_readLaws_8 : decode cX4_readLaws 8 = .ok (.ifCond .ne 5, 3) := by decide +kernel
theorem dX4_readLaws_11 : decode cX4_readLaws 11 = .ok (.iconst 0, 1) := by decide +kernel
theorem dX4_readLaws_12 : decode cX4_readLaws 12 = .ok (.ireturn, 1) := by decide +kernel
theorem dX4_readLaws_13 : decode cX4_readLaws 13 = .ok (.aload_n 0, 1) := by decide +kernel
theorem dX4_readLaws_14 : decode cX4_readLaws 14 = .ok (.getfield 12, 3) := by decide +kernel
theorem dX4_readLaws_17 : decode cX4_readLaws 17 = .ok (.getfield 80, 3) := by decide +kernel
theorem dX4_readLaws_20 : decode cX4_readLaws 20 = .ok (.aload_n 0, 1) := by decide +kernel
theorem dX4_readLaws_21 : decode cX4_readLaws 21 = .ok (.getfield 28, 3) := by decide +kernel
theorem dX4_readLaws_24 : decode cX4_readLaws 24 = .ok (.putfield 84, 3) := by decide +kernel
theorem dX4_readLaws_27 : decode cX4_readLaws 27 = .ok (.aload_n 0, 1) := by decide +kernel
theorem dX4_readLaws_28 : decode cX4_readLaws 28 = .ok (.iconst 1, 1) := by decide +kernel
theorem dX4_readLaws_29 : decode cX4_readLaws 29 = .ok (.putfield 31, 3) := by decide +kernel
theorem dX4_readLaws_32 : decode cX4_readLaws 32 = .ok (.iconst 1, 1) := by decide +kernel
theorem dX4_readLaws_33 : decode cX4_readLaws 33 = .ok (.ireturn, 1) := by decide +kernel
theorem dX4_readNumber_0 : decode cX4_readNumber 0 = .ok (.aload_n 0, 1) := by decide +kernel
theorem dX4_readNumber_1 : decode cX4_readNumber 1 = .ok (.aload_n 1, 1) := by decide +kernel
theorem dX4_readNumber_2 : decode cX4_readNumber 2 = .ok (.invokevirtual 38, 3) := by decide +kernel
theorem dX4_readNumber_5 : decode cX4_readNumber 5 = .ok (.aload_n 0, 1) := by decide +kernel
theorem dX4_readNumber_6 : decode cX4_readNumber 6 = .ok (.getfield 25, 3) := by decide +kernel
theorem dX4_readNumber_9 : decode cX4_readNumber 9 = .ok (.sipush 256, 3) := by decide +kernel
theorem dX4_readNumber_12 : decode cX4_readNumber 12 = .ok (.if_icmp .ne 19, 3) := by decide +kernel
theorem dX4_readNumber_15 : decode cX4_readNumber 15 = .ok (.aload_n 0, 1) := by decide +kernel
theorem dX4_readNumber_16 : decode cX4_readNumber 16 = .ok (.getfield 28, 3) := by decide +kernel
theorem dX4_readNumber_19 : decode cX4_readNumber 19 = .ok (.iload_n 2, 1) := by decide +kernel
theorem dX4_readNumber_20 : decode cX4_readNumber 20 = .ok (.iload_n 3, 1) := by decide +kernel
theorem dX4_readNumber_21 : decode cX4_readNumber 21 = .ok (.invokestatic 89, 3) := by decide +kernel
theorem dX4_readNumber_24 : decode cX4_readNumber 24 = .ok (.ifCond .eq 7, 3) := by decide +kernel
theorem dX4_readNumber_27 : decode cX4_readNumber 27 = .ok (.iconst 1, 1) := by decide +kernel
theorem dX4_readNumber_28 : decode cX4_readNumber 28 = .ok (.goto 4, 3) := by decide +kernel
theorem dX4_readNumber_31 : decode cX4_readNumber 31 = .ok (.iconst 0, 1) := by decide +kernel
theorem dX4_readNumber_32 : decode cX4_readNumber 32 = .ok (.ireturn, 1) := by decide +kernel
theorem dX4_isEnded_0 : decode cX4_isEnded 0 = .ok (.aload_n 0, 1) := by decide +kernel
theorem dX4_isEnded_1 : decode cX4_isEnded 1 = .ok (.aload_n 1, 1) := by decide +kernel
theorem dX4_isEnded_2 : decode cX4_isEnded 2 = .ok (.invokevirtual 38, 3) := by decide +kernel
theorem dX4_isEnded_5 : decode cX4_isEnded 5 = .ok (.aload_n 0, 1) := by decide +kernel
theorem dX4_isEnded_6 : decode cX4_isEnded 6 = .ok (.getfield 25, 3) := by decide +kernel
theorem dX4_isEnded_9 : decode cX4_isEnded 9 = .ok (.bipush 59, 2) := by decide +kernel
theorem dX4_isEnded_11 : decode cX4_isEnded 11 = .ok (.if_icmp .ne 7, 3) := by decide +kernel
theorem dX4_isEnded_14 : decode cX4_isEnded 14 = .ok (.iconst 1, 1) := by decide +kernel
theorem dX4_isEnded_15 : decode cX4_isEnded 15 = .ok (.goto 4, 3) := by decide +kernel
theorem dX4_isEnded_18 : decode cX4_isEnded 18 = .ok (.iconst 0, 1) := by decide +kernel
theorem dX4_isEnded_19 : decode cX4_isEnded 19 = .ok (.ireturn, 1) := by decide +kernel
theorem dX4_nextToken_0 : decode cX4_nextToken 0 = .ok (.aload_n 0, 1) := by decide +kernel
theorem dX4_nextToken_1 : decode cX4_nextToken 1 = .ok (.getfield 18, 3) := by decide +kernel
theorem dX4_nextToken_4 : decode cX4_nextToken 4 = .ok (.aload_n 1, 1) := by decide +kernel
theorem dX4_nextToken_5 : decode cX4_nextToken 5 = .ok (.getfield 93, 3) := by decide +kernel
theorem dX4_nextToken_8 : decode cX4_nextToken 8 = .ok (.if_icmp .ge 30, 3) := by decide +kernel
theorem dX4_nextToken_11 : decode cX4_nextToken 11 = .ok (.aload_n 1, 1) := by decide +kernel
theorem dX4_nextToken_12 : decode cX4_nextToken 12 = .ok (.getfield 98, 3) := by decide +kernel
theorem dX4_nextToken_15 : decode cX4_nextToken 15 = .ok (.aload_n 0, 1) := by decide +kernel
theorem dX4_nextToken_16 : decode cX4_nextToken 16 = .ok (.getfield 18, 3) := by decide +kernel
theorem dX4_nextToken_19 : decode cX4_nextToken 19 = .ok (.iaload, 1) := by decide +kernel
theorem dX4_nextToken_20 : decode cX4_nextToken 20 = .ok (.bipush 32, 2) := by decide +kernel
theorem dX4_nextToken_22 : decode cX4_nextToken 22 = .ok (.if_icmp .ne 16, 3) := by decide +kernel
theorem dX4_nextToken_25 : decode cX4_nextToken 25 = .ok (.aload_n 0, 1) := by decide +kernel
theorem dX4_nextToken_26 : decode cX4_nextToken 26 = .ok (.dup, 1) := by decide +kernel
theorem dX4_nextToken_27 : decode cX4_nextToken 27 = .ok (.getfield 18, 3) := by decide +kernel
theorem dX4_nextToken_30 : decode cX4_nextToken 30 = .ok (.iconst 1, 1) := by decide +kernel
theorem dX4_nextToken_31 : decode cX4_nextToken 31 = .ok (.iadd, 1) := by decide +kernel
theorem dX4_nextToken_32 : decode cX4_nextToken 32 = .ok (.putfield 18, 3) := by decide +kernel
theorem dX4_nextToken_35 : decode cX4_nextToken 35 = .ok (.goto (-35), 3) := by decide +kernel
theorem dX4_nextToken_38 : decode cX4_nextToken 38 = .ok (.aload_n 0, 1) := by decide +kernel
theorem dX4_nextToken_39 : decode cX4_nextToken 39 = .ok (.aload_n 0, 1) := by decide +kernel
theorem dX4_nextToken_40 : decode cX4_nextToken 40 = .ok (.getfield 18, 3) := by decide +kernel
theorem dX4_nextToken_43 : decode cX4_nextToken 43 = .ok (.putfield 22, 3) := by decide +kernel
theorem dX4_nextToken_46 : decode cX4_nextToken 46 = .ok (.aload_n 0, 1) := by decide +kernel
theorem dX4_nextToken_47 : decode cX4_nextToken 47 = .ok (.getfield 18, 3) := by decide +kernel
theorem dX4_nextToken_50 : decode cX4_nextToken 50 = .ok (.aload_n 1, 1) := by decide +kernel
theorem dX4_nextToken_51 : decode cX4_nextToken 51 = .ok (.getfield 93, 3) := by decide +kernel
theorem dX4_nextToken_54 : decode cX4_nextToken 54 = .ok (.if_icmp .lt 13, 3) := by decide +kernel
theorem dX4_nextToken_57 : decode cX4_nextToken 57 = .ok (.aload_n 0, 1) := by decide +kernel
theorem dX4_nextToken_58 : decode cX4_nextToken 58 = .ok (.sipush 257, 3) := by decide +kernel
theorem dX4_nextToken_61 : decode cX4_nextToken 61 = .ok (.putfield 25, 3) := by decide +kernel
theorem dX4_nextToken_64 : decode cX4_nextToken 64 = .ok (.goto 49, 3) := by decide +kernel
theorem dX4_nextToken_67 : decode cX4_nextToken 67 = .ok (.aload_n 1, 1) := by decide +kernel
theorem dX4_nextToken_68 : decode cX4_nextToken 68 = .ok (.getfield 98, 3) := by decide +kernel
theorem dX4_nextToken_71 : decode cX4_nextToken 71 = .ok (.aload_n 0, 1) := by decide +kernel
theorem dX4_nextToken_72 : decode cX4_nextToken 72 = .ok (.getfield 18, 3) := by decide +kernel
theorem dX4_nextToken_75 : decode cX4_nextToken 75 = .ok (.iaload, 1) := by decide +kernel
theorem dX4_nextToken_76 : decode cX4_nextToken 76 = .ok (.invokestatic 101, 3) := by decide +kernel
theorem dX4_nextToken_79 : decode cX4_nextToken 79 = .ok (.ifCond .eq 11, 3) := by decide +kernel
theorem dX4_nextToken_82 : decode cX4_nextToken 82 = .ok (.aload_n 0, 1) := by decide +kernel
theorem dX4_nextToken_83 : decode cX4_nextToken 83 = .ok (.aload_n 1, 1) := by decide +kernel
theorem dX4_nextToken_84 : decode cX4_nextToken 84 = .ok (.invokevirtual 105, 3) := by decide +kernel
theorem dX4_nextToken_87 : decode cX4_nextToken 87 = .ok (.goto 26, 3) := by decide +kernel
theorem dX4_nextToken_90 : decode cX4_nextToken 90 = .ok (.aload_n 0, 1) := by decide +kernel
theorem dX4_nextToken_91 : decode cX4_nextToken 91 = .ok (.aload_n 1, 1) := by decide +kernel
theorem dX4_nextToken_92 : decode cX4_nextToken 92 = .ok (.getfield 98, 3) := by decide +kernel
theorem dX4_nextToken_95 : decode cX4_nextToken 95 = .ok (.aload_n 0, 1) := by decide +kernel
theorem dX4_nextToken_96 : decode cX4_nextToken 96 = .ok (.getfield 18, 3) := by decide +kernel
theorem dX4_nextToken_99 : decode cX4_nextToken 99 = .ok (.iaload, 1) := by decide +kernel
theorem dX4_nextToken_100 : decode cX4_nextToken 100 = .ok (.putfield 25, 3) := by decide +kernel
theorem dX4_nextToken_103 : decode cX4_nextToken 103 = .ok (.aload_n 0, 1) := by decide +kernel
theorem dX4_nextToken_104 : decode cX4_nextToken 104 = .ok (.dup, 1) := by decide +kernel
theorem dX4_nextToken_105 : decode cX4_nextToken 105 = .ok (.getfield 18, 3) := by decide +kernel
theorem dX4_nextToken_108 : decode cX4_nextToken 108 = .ok (.iconst 1, 1) := by decide +kernel
theorem dX4_nextToken_109 : decode cX4_nextToken 109 = .ok (.iadd, 1) := by decide +kernel
theorem dX4_nextToken_110 : decode cX4_nextToken 110 = .ok (.putfield 18, 3) := by decide +kernel
theorem dX4_nextToken_113 : decode cX4_nextToken 113 = .ok (.return_, 1) := by decide +kernel
theorem dX4_takeNumber_0 : decode cX4_takeNumber 0 = .ok (.aload_n 0, 1) := by decide +kernel
theorem dX4_takeNumber_1 : decode cX4_takeNumber 1 = .ok (.iconst 0, 1) := by decide +kernel
theorem dX4_takeNumber_2 : decode cX4_takeNumber 2 = .ok (.putfield 28, 3) := by decide +kernel
theorem dX4_takeNumber_5 : decode cX4_takeNumber 5 = .ok (.aload_n 0, 1) := by decide +kernel
theorem dX4_takeNumber_6 : decode cX4_takeNumber 6 = .ok (.getfield 18, 3) := by decide +kernel
theorem dX4_takeNumber_9 : decode cX4_takeNumber 9 = .ok (.aload_n 1, 1) := by decide +kernel
theorem dX4_takeNumber_10 : decode cX4_takeNumber 10 = .ok (.getfield 93, 3) := by decide +kernel
theorem dX4_takeNumber_13 : decode cX4_takeNumber 13 = .ok (.if_icmp .ge 55, 3) := by decide +kernel
theorem dX4_takeNumber_16 : decode cX4_takeNumber 16 = .ok (.aload_n 1, 1) := by decide +kernel
theorem dX4_takeNumber_17 : decode cX4_takeNumber 17 = .ok (.getfield 98, 3) := by decide +kernel
theorem dX4_takeNumber_20 : decode cX4_takeNumber 20 = .ok (.aload_n 0, 1) := by decide +kernel
theorem dX4_takeNumber_21 : decode cX4_takeNumber 21 = .ok (.getfield 18, 3) := by decide +kernel
theorem dX4_takeNumber_24 : decode cX4_takeNumber 24 = .ok (.iaload, 1) := by decide +kernel
theorem dX4_takeNumber_25 : decode cX4_takeNumber 25 = .ok (.invokestatic 101, 3) := by decide +kernel
theorem dX4_takeNumber_28 : decode cX4_takeNumber 28 = .ok (.ifCond .eq 40, 3) := by decide +kernel
theorem dX4_takeNumber_31 : decode cX4_takeNumber 31 = .ok (.aload_n 0, 1) := by decide +kernel
theorem dX4_takeNumber_32 : decode cX4_takeNumber 32 = .ok (.aload_n 0, 1) := by decide +kernel
theorem dX4_takeNumber_33 : decode cX4_takeNumber 33 = .ok (.getfield 28, 3) := by decide +kernel
theorem dX4_takeNumber_36 : decode cX4_takeNumber 36 = .ok (.bipush 10, 2) := by decide +kernel
theorem dX4_takeNumber_38 : decode cX4_takeNumber 38 = .ok (.imul, 1) := by decide +kernel
theorem dX4_takeNumber_39 : decode cX4_takeNumber 39 = .ok (.aload_n 1, 1) := by decide +kernel
theorem dX4_takeNumber_40 : decode cX4_takeNumber 40 = .ok (.getfield 98, 3) := by decide +kernel
theorem dX4_takeNumber_43 : decode cX4_takeNumber 43 = .ok (.aload_n 0, 1) := by decide +kernel
theorem dX4_takeNumber_44 : decode cX4_takeNumber 44 = .ok (.getfield 18, 3) := by decide +kernel
theorem dX4_takeNumber_47 : decode cX4_takeNumber 47 = .ok (.iaload, 1) := by decide +kernel
theorem dX4_takeNumber_48 : decode cX4_takeNumber 48 = .ok (.iadd, 1) := by decide +kernel
theorem dX4_takeNumber_49 : decode cX4_takeNumber 49 = .ok (.bipush 48, 2) := by decide +kernel
theorem dX4_takeNumber_51 : decode cX4_takeNumber 51 = .ok (.isub, 1) := by decide +kernel
theorem dX4_takeNumber_52 : decode cX4_takeNumber 52 = .ok (.putfield 28, 3) := by decide +kernel
theorem dX4_takeNumber_55 : decode cX4_takeNumber 55 = .ok (.aload_n 0, 1) := by decide +kernel
theorem dX4_takeNumber_56 : decode cX4_takeNumber 56 = .ok (.dup, 1) := by decide +kernel
theorem dX4_takeNumber_57 : decode cX4_takeNumber 57 = .ok (.getfield 18, 3) := by decide +kernel
theorem dX4_takeNumber_60 : decode cX4_takeNumber 60 = .ok (.iconst 1, 1) := by decide +kernel
theorem dX4_takeNumber_61 : decode cX4_takeNumber 61 = .ok (.iadd, 1) := by decide +kernel
theorem dX4_takeNumber_62 : decode cX4_takeNumber 62 = .ok (.putfield 18, 3) := by decide +kernel
theorem dX4_takeNumber_65 : decode cX4_takeNumber 65 = .ok (.goto (-60), 3) := by decide +kernel
theorem dX4_takeNumber_68 : decode cX4_takeNumber 68 = .ok (.aload_n 0, 1) := by decide +kernel
theorem dX4_takeNumber_69 : decode cX4_takeNumber 69 = .ok (.getfield 18, 3) := by decide +kernel
theorem dX4_takeNumber_72 : decode cX4_takeNumber 72 = .ok (.aload_n 0, 1) := by decide +kernel
theorem dX4_takeNumber_73 : decode cX4_takeNumber 73 = .ok (.getfield 22, 3) := by decide +kernel
theorem dX4_takeNumber_76 : decode cX4_takeNumber 76 = .ok (.isub, 1) := by decide +kernel
theorem dX4_takeNumber_77 : decode cX4_takeNumber 77 = .ok (.istore_n 2, 1) := by decide +kernel
theorem dX4_takeNumber_78 : decode cX4_takeNumber 78 = .ok (.iload_n 2, 1) := by decide +kernel
theorem dX4_takeNumber_79 : decode cX4_takeNumber 79 = .ok (.iconst 1, 1) := by decide +kernel
theorem dX4_takeNumber_80 : decode cX4_takeNumber 80 = .ok (.if_icmp .le 21, 3) := by decide +kernel
theorem dX4_takeNumber_83 : decode cX4_takeNumber 83 = .ok (.aload_n 1, 1) := by decide +kernel
theorem dX4_takeNumber_84 : decode cX4_takeNumber 84 = .ok (.getfield 98, 3) := by decide +kernel
theorem dX4_takeNumber_87 : decode cX4_takeNumber 87 = .ok (.aload_n 0, 1) := by decide +kernel
theorem dX4_takeNumber_88 : decode cX4_takeNumber 88 = .ok (.getfield 22, 3) := by decide +kernel
theorem dX4_takeNumber_91 : decode cX4_takeNumber 91 = .ok (.iaload, 1) := by decide +kernel
theorem dX4_takeNumber_92 : decode cX4_takeNumber 92 = .ok (.bipush 48, 2) := by decide +kernel
theorem dX4_takeNumber_94 : decode cX4_takeNumber 94 = .ok (.if_icmp .ne 7, 3) := by decide +kernel
theorem dX4_takeNumber_97 : decode cX4_takeNumber 97 = .ok (.iconst 1, 1) := by decide +kernel
theorem dX4_takeNumber_98 : decode cX4_takeNumber 98 = .ok (.goto 4, 3) := by decide +kernel
theorem dX4_takeNumber_101 : decode cX4_takeNumber 101 = .ok (.iconst 0, 1) := by decide +kernel
theorem dX4_takeNumber_102 : decode cX4_takeNumber 102 = .ok (.istore_n 3, 1) := by decide +kernel
theorem dX4_takeNumber_103 : decode cX4_takeNumber 103 = .ok (.aload_n 0, 1) := by decide +kernel
theorem dX4_takeNumber_104 : decode cX4_takeNumber 104 = .ok (.iload_n 2, 1) := by decide +kernel
theorem dX4_takeNumber_105 : decode cX4_takeNumber 105 = .ok (.iconst 2, 1) := by decide +kernel
theorem dX4_takeNumber_106 : decode cX4_takeNumber 106 = .ok (.if_icmp .gt 7, 3) := by decide +kernel
theorem dX4_takeNumber_109 : decode cX4_takeNumber 109 = .ok (.iload_n 3, 1) := by decide +kernel
theorem dX4_takeNumber_110 : decode cX4_takeNumber 110 = .ok (.ifCond .eq 9, 3) := by decide +kernel
theorem dX4_takeNumber_113 : decode cX4_takeNumber 113 = .ok (.sipush 258, 3) := by decide +kernel
theorem dX4_takeNumber_116 : decode cX4_takeNumber 116 = .ok (.goto 6, 3) := by decide +kernel
theorem dX4_takeNumber_119 : decode cX4_takeNumber 119 = .ok (.sipush 256, 3) := by decide +kernel
theorem dX4_takeNumber_122 : decode cX4_takeNumber 122 = .ok (.putfield 25, 3) := by decide +kernel
theorem dX4_takeNumber_125 : decode cX4_takeNumber 125 = .ok (.return_, 1) := by decide +kernel
theorem dX4_isDigit_0 : decode cX4_isDigit 0 = .ok (.iload_n 0, 1) := by decide +kernel
theorem dX4_isDigit_1 : decode cX4_isDigit 1 = .ok (.bipush 48, 2) := by decide +kernel
theorem dX4_isDigit_3 : decode cX4_isDigit 3 = .ok (.if_icmp .lt 13, 3) := by decide +kernel
theorem dX4_isDigit_6 : decode cX4_isDigit 6 = .ok (.iload_n 0, 1) := by decide +kernel
theorem dX4_isDigit_7 : decode cX4_isDigit 7 = .ok (.bipush 57, 2) := by decide +kernel
theorem dX4_isDigit_9 : decode cX4_isDigit 9 = .ok (.if_icmp .gt 7, 3) := by decide +kernel
theorem dX4_isDigit_12 : decode cX4_isDigit 12 = .ok (.iconst 1, 1) := by decide +kernel
theorem dX4_isDigit_13 : decode cX4_isDigit 13 = .ok (.goto 4, 3) := by decide +kernel
theorem dX4_isDigit_16 : decode cX4_isDigit 16 = .ok (.iconst 0, 1) := by decide +kernel
theorem dX4_isDigit_17 : decode cX4_isDigit 17 = .ok (.ireturn, 1) := by decide +kernel
theorem dX5_init_0 : decode cX5_init 0 = .ok (.aload_n 0, 1) := by decide +kernel
theorem dX5_init_1 : decode cX5_init 1 = .ok (.invokespecial 3, 3) := by decide +kernel
theorem dX5_init_4 : decode cX5_init 4 = .ok (.aload_n 0, 1) := by decide +kernel
theorem dX5_init_5 : decode cX5_init 5 = .ok (.bipush 7, 2) := by decide +kernel
theorem dX5_init_7 : decode cX5_init 7 = .ok (.newarray .int, 2) := by decide +kernel
theorem dX5_init_9 : decode cX5_init 9 = .ok (.putfield 9, 3) := by decide +kernel
theorem dX5_init_12 : decode cX5_init 12 = .ok (.aload_n 0, 1) := by decide +kernel
theorem dX5_init_13 : decode cX5_init 13 = .ok (.bipush 7, 2) := by decide +kernel
theorem dX5_init_15 : decode cX5_init 15 = .ok (.newarray .int, 2) := by decide +kernel
theorem dX5_init_17 : decode cX5_init 17 = .ok (.putfield 15, 3) := by decide +kernel
theorem dX5_init_20 : decode cX5_init 20 = .ok (.aload_n 0, 1) := by decide +kernel
theorem dX5_init_21 : decode cX5_init 21 = .ok (.iconst 0, 1) := by decide +kernel
theorem dX5_init_22 : decode cX5_init 22 = .ok (.putfield 18, 3) := by decide +kernel
theorem dX5_init_25 : decode cX5_init 25 = .ok (.return_, 1) := by decide +kernel
theorem dX5_search_0 : decode cX5_search 0 = .ok (.aload_n 0, 1) := by decide +kernel
theorem dX5_search_1 : decode cX5_search 1 = .ok (.bipush 8, 2) := by decide +kernel
theorem dX5_search_3 : decode cX5_search 3 = .ok (.putfield 18, 3) := by decide +kernel
theorem dX5_search_6 : decode cX5_search 6 = .ok (.aload_n 0, 1) := by decide +kernel
theorem dX5_search_7 : decode cX5_search 7 = .ok (.aload_n 1, 1) := by decide +kernel
theorem dX5_search_8 : decode cX5_search 8 = .ok (.iconst 0, 1) := by decide +kernel
theorem dX5_search_9 : decode cX5_search 9 = .ok (.iconst 0, 1) := by decide +kernel
theorem dX5_search_10 : decode cX5_search 10 = .ok (.invokevirtual 22, 3) := by decide +kernel
theorem dX5_search_13 : decode cX5_search 13 = .ok (.return_, 1) := by decide +kernel
theorem dX5_found_0 : decode cX5_found 0 = .ok (.aload_n 0, 1) := by decide +kernel
theorem dX5_found_1 : decode cX5_found 1 = .ok (.getfield 18, 3) := by decide +kernel
theorem dX5_found_4 : decode cX5_found 4 = .ok (.bipush 7, 2) := by decide +kernel
theorem dX5_found_6 : decode cX5_found 6 = .ok (.if_icmp .gt 7, 3) := by decide +kernel
theorem dX5_found_9 : decode cX5_found 9 = .ok (.iconst 1, 1) := by decide +kernel
theorem dX5_found_10 : decode cX5_found 10 = .ok (.goto 4, 3) := by decide +kernel
theorem dX5_found_13 : decode cX5_found 13 = .ok (.iconst 0, 1) := by decide +kernel
theorem dX5_found_14 : decode cX5_found 14 = .ok (.ireturn, 1) := by decide +kernel
theorem dX5_nameFrom_0 : decode cX5_nameFrom 0 = .ok (.iload_n 3, 1) := by decide +kernel
theorem dX5_nameFrom_1 : decode cX5_nameFrom 1 = .ok (.aload_n 0, 1) := by decide +kernel
theorem dX5_nameFrom_2 : decode cX5_nameFrom 2 = .ok (.getfield 18, 3) := by decide +kernel
theorem dX5_nameFrom_5 : decode cX5_nameFrom 5 = .ok (.if_icmp .lt 4, 3) := by decide +kernel
theorem dX5_nameFrom_8 : decode cX5_nameFrom 8 = .ok (.return_, 1) := by decide +kernel
theorem dX5_nameFrom_9 : decode cX5_nameFrom 9 = .ok (.iload_n 2, 1) := by decide +kernel
theorem dX5_nameFrom_10 : decode cX5_nameFrom 10 = .ok (.aload_n 1, 1) := by decide +kernel
theorem dX5_nameFrom_11 : decode cX5_nameFrom 11 = .ok (.getfield 26, 3) := by decide +kernel
theorem dX5_nameFrom_14 : decode cX5_nameFrom 14 = .ok (.if_icmp .lt 24, 3) := by decide +kernel
theorem dX5_nameFrom_17 : decode cX5_nameFrom 17 = .ok (.aload_n 0, 1) := by decide +kernel
theorem dX5_nameFrom_18 : decode cX5_nameFrom 18 = .ok (.iload_n 3, 1) := by decide +kernel
theorem dX5_nameFrom_19 : decode cX5_nameFrom 19 = .ok (.putfield 18, 3) := by decide +kernel
theorem dX5_nameFrom_22 : decode cX5_nameFrom 22 = .ok (.aload_n 0, 1) := by decide +kernel
theorem dX5_nameFrom_23 : decode cX5_nameFrom 23 = .ok (.getfield 9, 3) := by decide +kernel
theorem dX5_nameFrom_26 : decode cX5_nameFrom 26 = .ok (.iconst 0, 1) := by decide +kernel
theorem dX5_nameFrom_27 : decode cX5_nameFrom 27 = .ok (.aload_n 0, 1) := by decide +kernel
theorem dX5_nameFrom_28 : decode cX5_nameFrom 28 = .ok (.getfield 15, 3) := by decide +kernel
theorem dX5_nameFrom_31 : decode cX5_nameFrom 31 = .ok (.iconst 0, 1) := by decide +kernel
theorem dX5_nameFrom_32 : decode cX5_nameFrom 32 = .ok (.bipush 7, 2) := by decide +kernel
theorem dX5_nameFrom_34 : decode cX5_nameFrom 34 = .ok (.invokestatic 31, 3) := by decide +kernel
theorem dX5_nameFrom_37 : decode cX5_nameFrom 37 = .ok (.return_, 1) := by decide +kernel
theorem dX5_nameFrom_38 : decode cX5_nameFrom 38 = .ok (.iconst 0, 1) := by decide +kernel
theorem dX5_nameFrom_39 : decode cX5_nameFrom 39 = .ok (.istore 4, 2) := by decide +kernel
theorem dX5_nameFrom_41 : decode cX5_nameFrom 41 = .ok (.iload 4, 2) := by decide +kernel
theorem dX5_nameFrom_43 : decode cX5_nameFrom 43 = .ok (.aload_n 1, 1) := by decide +kernel
theorem dX5_nameFrom_44 : decode cX5_nameFrom 44 = .ok (.getfield 37, 3) := by decide +kernel
theorem dX5_nameFrom_47 : decode cX5_nameFrom 47 = .ok (.if_icmp .ge 57, 3) := by decide +kernel
theorem dX5_nameFrom_50 : decode cX5_nameFrom 50 = .ok (.aload_n 0, 1) := by decide +kernel
theorem dX5_nameFrom_51 : decode cX5_nameFrom 51 = .ok (.aload_n 1, 1) := by decide +kernel
theorem dX5_nameFrom_52 : decode cX5_nameFrom 52 = .ok (.iload_n 2, 1) := by decide +kernel
theorem dX5_nameFrom_53 : decode cX5_nameFrom 53 = .ok (.iload 4, 2) := by decide +kernel
theorem dX5_nameFrom_55 : decode cX5_nameFrom 55 = .ok (.invokevirtual 40, 3) := by decide +kernel
theorem dX5_nameFrom_58 : decode cX5_nameFrom 58 = .ok (.ifCond .eq 40, 3) := by decide +kernel
theorem dX5_nameFrom_61 : decode cX5_nameFrom 61 = .ok (.aload_n 0, 1) := by decide +kernel
theorem dX5_nameFrom_62 : decode cX5_nameFrom 62 = .ok (.getfield 9, 3) := by decide +kernel
theorem dX5_nameFrom_65 : decode cX5_nameFrom 65 = .ok (.iload_n 2, 1) := by decide +kernel
theorem dX5_nameFrom_66 : decode cX5_nameFrom 66 = .ok (.iload 4, 2) := by decide +kernel
theorem dX5_nameFrom_68 : decode cX5_nameFrom 68 = .ok (.iastore, 1) := by decide +kernel
theorem dX5_nameFrom_69 : decode cX5_nameFrom 69 = .ok (.aload_n 0, 1) := by decide +kernel
theorem dX5_nameFrom_70 : decode cX5_nameFrom 70 = .ok (.aload_n 1, 1) := by decide +kernel
theorem dX5_nameFrom_71 : decode cX5_nameFrom 71 = .ok (.iload_n 2, 1) := by decide +kernel
theorem dX5_nameFrom_72 : decode cX5_nameFrom 72 = .ok (.iconst 1, 1) := by decide +kernel
theorem dX5_nameFrom_73 : decode cX5_nameFrom 73 = .ok (.iadd, 1) := by decide +kernel
theorem dX5_nameFrom_74 : decode cX5_nameFrom 74 = .ok (.iload 4, 2) := by decide +kernel
theorem dX5_nameFrom_76 : decode cX5_nameFrom 76 = .ok (.aload_n 1, 1) := by decide +kernel
theorem dX5_nameFrom_77 : decode cX5_nameFrom 77 = .ok (.getfield 44, 3) := by decide +kernel
theorem dX5_nameFrom_80 : decode cX5_nameFrom 80 = .ok (.getfield 48, 3) := by decide +kernel
theorem dX5_nameFrom_83 : decode cX5_nameFrom 83 = .ok (.iload_n 2, 1) := by decide +kernel
theorem dX5_nameFrom_84 : decode cX5_nameFrom 84 = .ok (.iaload, 1) := by decide +kernel
theorem dX5_nameFrom_85 : decode cX5_nameFrom 85 = .ok (.if_icmp .ne 7, 3) := by decide +kernel
theorem dX5_nameFrom_88 : decode cX5_nameFrom 88 = .ok (.iload_n 3, 1) := by decide +kernel
theorem dX5_nameFrom_89 : decode cX5_nameFrom 89 = .ok (.goto 6, 3) := by decide +kernel
theorem dX5_nameFrom_92 : decode cX5_nameFrom 92 = .ok (.iload_n 3, 1) := by decide +kernel
theorem dX5_nameFrom_93 : decode cX5_nameFrom 93 = .ok (.iconst 1, 1) := by decide +kernel
theorem dX5_nameFrom_94 : decode cX5_nameFrom 94 = .ok (.iadd, 1) := by decide +kernel
theorem dX5_nameFrom_95 : decode cX5_nameFrom 95 = .ok (.invokevirtual 22, 3) := by decide +kernel
theorem dX5_nameFrom_98 : decode cX5_nameFrom 98 = .ok (.iinc 4 1, 3) := by decide +kernel
theorem dX5_nameFrom_101 : decode cX5_nameFrom 101 = .ok (.goto (-60), 3) := by decide +kernel
theorem dX5_nameFrom_104 : decode cX5_nameFrom 104 = .ok (.return_, 1) := by decide +kernel
theorem dX5_isFree_0 : decode cX5_isFree 0 = .ok (.iconst 0, 1) := by decide +kernel
theorem dX5_isFree_1 : decode cX5_isFree 1 = .ok (.istore 4, 2) := by decide +kernel
theorem dX5_isFree_3 : decode cX5_isFree 3 = .ok (.iload 4, 2) := by decide +kernel
theorem dX5_isFree_5 : decode cX5_isFree 5 = .ok (.iload_n 2, 1) := by decide +kernel
theorem dX5_isFree_6 : decode cX5_isFree 6 = .ok (.if_icmp .ge 32, 3) := by decide +kernel
theorem dX5_isFree_9 : decode cX5_isFree 9 = .ok (.aload_n 0, 1) := by decide +kernel
theorem dX5_isFree_10 : decode cX5_isFree 10 = .ok (.getfield 9, 3) := by decide +kernel
theorem dX5_isFree_13 : decode cX5_isFree 13 = .ok (.iload 4, 2) := by decide +kernel
theorem dX5_isFree_15 : decode cX5_isFree 15 = .ok (.iaload, 1) := by decide +kernel
theorem dX5_isFree_16 : decode cX5_isFree 16 = .ok (.iload_n 3, 1) := by decide +kernel
theorem dX5_isFree_17 : decode cX5_isFree 17 = .ok (.if_icmp .ne 15, 3) := by decide +kernel
theorem dX5_isFree_20 : decode cX5_isFree 20 = .ok (.aload_n 1, 1) := by decide +kernel
theorem dX5_isFree_21 : decode cX5_isFree 21 = .ok (.iload_n 2, 1) := by decide +kernel
theorem dX5_isFree_22 : decode cX5_isFree 22 = .ok (.iload 4, 2) := by decide +kernel
theorem dX5_isFree_24 : decode cX5_isFree 24 = .ok (.invokevirtual 53, 3) := by decide +kernel
theorem dX5_isFree_27 : decode cX5_isFree 27 = .ok (.ifCond .eq 5, 3) := by decide +kernel
theorem dX5_isFree_30 : decode cX5_isFree 30 = .ok (.iconst 0, 1) := by decide +kernel
theorem dX5_isFree_31 : decode cX5_isFree 31 = .ok (.ireturn, 1) := by decide +kernel
theorem dX5_isFree_32 : decode cX5_isFree 32 = .ok (.iinc 4 1, 3) := by decide +kernel
theorem dX5_isFree_35 : decode cX5_isFree 35 = .ok (.goto (-32), 3) := by decide +kernel
theorem dX5_isFree_38 : decode cX5_isFree 38 = .ok (.iconst 1, 1) := by decide +kernel
theorem dX5_isFree_39 : decode cX5_isFree 39 = .ok (.ireturn, 1) := by decide +kernel
theorem dX6_init_0 : decode cX6_init 0 = .ok (.aload_n 0, 1) := by decide +kernel
theorem dX6_init_1 : decode cX6_init 1 = .ok (.invokespecial 3, 3) := by decide +kernel
theorem dX6_init_4 : decode cX6_init 4 = .ok (.aload_n 0, 1) := by decide +kernel
theorem dX6_init_5 : decode cX6_init 5 = .ok (.sipush 200, 3) := by decide +kernel
theorem dX6_init_8 : decode cX6_init 8 = .ok (.newarray .int, 2) := by decide +kernel
theorem dX6_init_10 : decode cX6_init 10 = .ok (.putfield 9, 3) := by decide +kernel
theorem dX6_init_13 : decode cX6_init 13 = .ok (.aload_n 0, 1) := by decide +kernel
theorem dX6_init_14 : decode cX6_init 14 = .ok (.iconst 0, 1) := by decide +kernel
theorem dX6_init_15 : decode cX6_init 15 = .ok (.putfield 15, 3) := by decide +kernel
theorem dX6_init_18 : decode cX6_init 18 = .ok (.return_, 1) := by decide +kernel
theorem dX7_init_0 : decode cX7_init 0 = .ok (.aload_n 0, 1) := by decide +kernel
theorem dX7_init_1 : decode cX7_init 1 = .ok (.invokespecial 3, 3) := by decide +kernel
theorem dX7_init_4 : decode cX7_init 4 = .ok (.aload_n 0, 1) := by decide +kernel
theorem dX7_init_5 : decode cX7_init 5 = .ok (.bipush 7, 2) := by decide +kernel
theorem dX7_init_7 : decode cX7_init 7 = .ok (.newarray .int, 2) := by decide +kernel
theorem dX7_init_9 : decode cX7_init 9 = .ok (.putfield 9, 3) := by decide +kernel
theorem dX7_init_12 : decode cX7_init 12 = .ok (.aload_n 0, 1) := by decide +kernel
theorem dX7_init_13 : decode cX7_init 13 = .ok (.bipush 7, 2) := by decide +kernel
theorem dX7_init_15 : decode cX7_init 15 = .ok (.newarray .int, 2) := by decide +kernel
theorem dX7_init_17 : decode cX7_init 17 = .ok (.putfield 15, 3) := by decide +kernel
theorem dX7_init_20 : decode cX7_init 20 = .ok (.aload_n 0, 1) := by decide +kernel
theorem dX7_init_21 : decode cX7_init 21 = .ok (.iconst 0, 1) := by decide +kernel
theorem dX7_init_22 : decode cX7_init 22 = .ok (.putfield 18, 3) := by decide +kernel
theorem dX7_init_25 : decode cX7_init 25 = .ok (.return_, 1) := by decide +kernel
theorem dX7_search_0 : decode cX7_search 0 = .ok (.iconst 0, 1) := by decide +kernel
theorem dX7_search_1 : decode cX7_search 1 = .ok (.istore_n 2, 1) := by decide +kernel
theorem dX7_search_2 : decode cX7_search 2 = .ok (.iload_n 2, 1) := by decide +kernel
theorem dX7_search_3 : decode cX7_search 3 = .ok (.bipush 7, 2) := by decide +kernel
theorem dX7_search_5 : decode cX7_search 5 = .ok (.if_icmp .ge 17, 3) := by decide +kernel
theorem dX7_search_8 : decode cX7_search 8 = .ok (.aload_n 0, 1) := by decide +kernel
theorem dX7_search_9 : decode cX7_search 9 = .ok (.getfield 9, 3) := by decide +kernel
theorem dX7_search_12 : decode cX7_search 12 = .ok (.iload_n 2, 1) := by decide +kernel
theorem dX7_search_13 : decode cX7_search 13 = .ok (.bipush (-9), 2) := by decide +kernel
theorem dX7_search_15 : decode cX7_search 15 = .ok (.iastore, 1) := by decide +kernel
theorem dX7_search_16 : decode cX7_search 16 = .ok (.iinc 2 1, 3) := by decide +kernel
theorem dX7_search_19 : decode cX7_search 19 = .ok (.goto (-17), 3) := by decide +kernel
theorem dX7_search_22 : decode cX7_search 22 = .ok (.aload_n 0, 1) := by decide +kernel
theorem dX7_search_23 : decode cX7_search 23 = .ok (.iconst (-1), 1) := by decide +kernel
theorem dX7_search_24 : decode cX7_search 24 = .ok (.putfield 18, 3) := by decide +kernel
theorem dX7_search_27 : decode cX7_search 27 = .ok (.aload_n 0, 1) := by decide +kernel
theorem dX7_search_28 : decode cX7_search 28 = .ok (.aload_n 1, 1) := by decide +kernel
theorem dX7_search_29 : decode cX7_search 29 = .ok (.iconst 0, 1) := by decide +kernel
theorem dX7_search_30 : decode cX7_search 30 = .ok (.iconst 0, 1) := by decide +kernel
theorem dX7_search_31 : decode cX7_search 31 = .ok (.invokevirtual 22, 3) := by decide +kernel
theorem dX7_search_34 : decode cX7_search 34 = .ok (.return_, 1) := by decide +kernel
theorem dX7_pairFrom_0 : decode cX7_pairFrom 0 = .ok (.iload_n 3, 1) := by decide +kernel
theorem dX7_pairFrom_1 : decode cX7_pairFrom 1 = .ok (.aload_n 1, 1) := by decide +kernel
theorem dX7_pairFrom_2 : decode cX7_pairFrom 2 = .ok (.getfield 26, 3) := by decide +kernel
theorem dX7_pairFrom_5 : decode cX7_pairFrom 5 = .ok (.iload_n 2, 1) := by decide +kernel
theorem dX7_pairFrom_6 : decode cX7_pairFrom 6 = .ok (.isub, 1) := by decide +kernel
theorem dX7_pairFrom_7 : decode cX7_pairFrom 7 = .ok (.iconst 2, 1) := by decide +kernel
theorem dX7_pairFrom_8 : decode cX7_pairFrom 8 = .ok (.idiv, 1) := by decide +kernel
theorem dX7_pairFrom_9 : decode cX7_pairFrom 9 = .ok (.iadd, 1) := by decide +kernel
theorem dX7_pairFrom_10 : decode cX7_pairFrom 10 = .ok (.aload_n 0, 1) := by decide +kernel
theorem dX7_pairFrom_11 : decode cX7_pairFrom 11 = .ok (.getfield 18, 3) := by decide +kernel
theorem dX7_pairFrom_14 : decode cX7_pairFrom 14 = .ok (.if_icmp .gt 4, 3) := by decide +kernel
theorem dX7_pairFrom_17 : decode cX7_pairFrom 17 = .ok (.return_, 1) := by decide +kernel
theorem dX7_pairFrom_18 : decode cX7_pairFrom 18 = .ok (.iload_n 2, 1) := by decide +kernel
theorem dX7_pairFrom_19 : decode cX7_pairFrom 19 = .ok (.aload_n 1, 1) := by decide +kernel
theorem dX7_pairFrom_20 : decode cX7_pairFrom 20 = .ok (.getfield 26, 3) := by decide +kernel
theorem dX7_pairFrom_23 : decode cX7_pairFrom 23 = .ok (.if_icmp .lt 24, 3) := by decide +kernel
theorem dX7_pairFrom_26 : decode cX7_pairFrom 26 = .ok (.aload_n 0, 1) := by decide +kernel
theorem dX7_pairFrom_27 : decode cX7_pairFrom 27 = .ok (.iload_n 3, 1) := by decide +kernel
theorem dX7_pairFrom_28 : decode cX7_pairFrom 28 = .ok (.putfield 18, 3) := by decide +kernel
theorem dX7_pairFrom_31 : decode cX7_pairFrom 31 = .ok (.aload_n 0, 1) := by decide +kernel
theorem dX7_pairFrom_32 : decode cX7_pairFrom 32 = .ok (.getfield 9, 3) := by decide +kernel
theorem dX7_pairFrom_35 : decode cX7_pairFrom 35 = .ok (.iconst 0, 1) := by decide +kernel
theorem dX7_pairFrom_36 : decode cX7_pairFrom 36 = .ok (.aload_n 0, 1) := by decide +kernel
theorem dX7_pairFrom_37 : decode cX7_pairFrom 37 = .ok (.getfield 15, 3) := by decide +kernel
theorem dX7_pairFrom_40 : decode cX7_pairFrom 40 = .ok (.iconst 0, 1) := by decide +kernel
theorem dX7_pairFrom_41 : decode cX7_pairFrom 41 = .ok (.bipush 7, 2) := by decide +kernel
theorem dX7_pairFrom_43 : decode cX7_pairFrom 43 = .ok (.invokestatic 31, 3) := by decide +kernel
theorem dX7_pairFrom_46 : decode cX7_pairFrom 46 = .ok (.return_, 1) := by decide +kernel
theorem dX7_pairFrom_47 : decode cX7_pairFrom 47 = .ok (.aload_n 0, 1) := by decide +kernel
theorem dX7_pairFrom_48 : decode cX7_pairFrom 48 = .ok (.getfield 9, 3) := by decide +kernel
theorem dX7_pairFrom_51 : decode cX7_pairFrom 51 = .ok (.iload_n 2, 1) := by decide +kernel
theorem dX7_pairFrom_52 : decode cX7_pairFrom 52 = .ok (.iaload, 1) := by decide +kernel
theorem dX7_pairFrom_53 : decode cX7_pairFrom 53 = .ok (.bipush (-9), 2) := by decide +kernel
theorem dX7_pairFrom_55 : decode cX7_pairFrom 55 = .ok (.if_icmp .eq 13, 3) := by decide +kernel
theorem dX7_pairFrom_58 : decode cX7_pairFrom 58 = .ok (.aload_n 0, 1) := by decide +kernel
theorem dX7_pairFrom_59 : decode cX7_pairFrom 59 = .ok (.aload_n 1, 1) := by decide +kernel
theorem dX7_pairFrom_60 : decode cX7_pairFrom 60 = .ok (.iload_n 2, 1) := by decide +kernel
theorem dX7_pairFrom_61 : decode cX7_pairFrom 61 = .ok (.iconst 1, 1) := by decide +kernel
theorem dX7_pairFrom_62 : decode cX7_pairFrom 62 = .ok (.iadd, 1) := by decide +kernel
theorem dX7_pairFrom_63 : decode cX7_pairFrom 63 = .ok (.iload_n 3, 1) := by decide +kernel
theorem dX7_pairFrom_64 : decode cX7_pairFrom 64 = .ok (.invokevirtual 22, 3) := by decide +kernel
theorem dX7_pairFrom_67 : decode cX7_pairFrom 67 = .ok (.return_, 1) := by decide +kernel
theorem dX7_pairFrom_68 : decode cX7_pairFrom 68 = .ok (.iload_n 2, 1) := by decide +kernel
theorem dX7_pairFrom_69 : decode cX7_pairFrom 69 = .ok (.iconst 1, 1) := by decide +kernel
theorem dX7_pairFrom_70 : decode cX7_pairFrom 70 = .ok (.iadd, 1) := by decide +kernel
theorem dX7_pairFrom_71 : decode cX7_pairFrom 71 = .ok (.istore 4, 2) := by decide +kernel
theorem dX7_pairFrom_73 : decode cX7_pairFrom 73 = .ok (.iload 4, 2) := by decide +kernel
theorem dX7_pairFrom_75 : decode cX7_pairFrom 75 = .ok (.aload_n 1, 1) := by decide +kernel
theorem dX7_pairFrom_76 : decode cX7_pairFrom 76 = .ok (.getfield 26, 3) := by decide +kernel
theorem dX7_pairFrom_79 : decode cX7_pairFrom 79 = .ok (.if_icmp .ge 75, 3) := by decide +kernel
theorem dX7_pairFrom_82 : decode cX7_pairFrom 82 = .ok (.aload_n 0, 1) := by decide +kernel
theorem dX7_pairFrom_83 : decode cX7_pairFrom 83 = .ok (.getfield 9, 3) := by decide +kernel
theorem dX7_pairFrom_86 : decode cX7_pairFrom 86 = .ok (.iload 4, 2) := by decide +kernel
theorem dX7_pairFrom_88 : decode cX7_pairFrom 88 = .ok (.iaload, 1) := by decide +kernel
theorem dX7_pairFrom_89 : decode cX7_pairFrom 89 = .ok (.bipush (-9), 2) := by decide +kernel
theorem dX7_pairFrom_91 : decode cX7_pairFrom 91 = .ok (.if_icmp .ne 57, 3) := by decide +kernel
theorem dX7_pairFrom_94 : decode cX7_pairFrom 94 = .ok (.aload_n 1, 1) := by decide +kernel
theorem dX7_pairFrom_95 : decode cX7_pairFrom 95 = .ok (.iload_n 2, 1) := by decide +kernel
theorem dX7_pairFrom_96 : decode cX7_pairFrom 96 = .ok (.iload 4, 2) := by decide +kernel
theorem dX7_pairFrom_98 : decode cX7_pairFrom 98 = .ok (.invokestatic 37, 3) := by decide +kernel
theorem dX7_pairFrom_101 : decode cX7_pairFrom 101 = .ok (.ifCond .eq 47, 3) := by decide +kernel
theorem dX7_pairFrom_104 : decode cX7_pairFrom 104 = .ok (.aload_n 0, 1) := by decide +kernel
theorem dX7_pairFrom_105 : decode cX7_pairFrom 105 = .ok (.getfield 9, 3) := by decide +kernel
theorem dX7_pairFrom_108 : decode cX7_pairFrom 108 = .ok (.iload_n 2, 1) := by decide +kernel
theorem dX7_pairFrom_109 : decode cX7_pairFrom 109 = .ok (.iload 4, 2) := by decide +kernel
theorem dX7_pairFrom_111 : decode cX7_pairFrom 111 = .ok (.iastore, 1) := by decide +kernel
theorem dX7_pairFrom_112 : decode cX7_pairFrom 112 = .ok (.aload_n 0, 1) := by decide +kernel
theorem dX7_pairFrom_113 : decode cX7_pairFrom 113 = .ok (.getfield 9, 3) := by decide +kernel
theorem dX7_pairFrom_116 : decode cX7_pairFrom 116 = .ok (.iload 4, 2) := by decide +kernel
theorem dX7_pairFrom_118 : decode cX7_pairFrom 118 = .ok (.iload_n 2, 1) := by decide +kernel
theorem dX7_pairFrom_119 : decode cX7_pairFrom 119 = .ok (.iastore, 1) := by decide +kernel
theorem dX7_pairFrom_120 : decode cX7_pairFrom 120 = .ok (.aload_n 0, 1) := by decide +kernel
theorem dX7_pairFrom_121 : decode cX7_pairFrom 121 = .ok (.aload_n 1, 1) := by decide +kernel
theorem dX7_pairFrom_122 : decode cX7_pairFrom 122 = .ok (.iload_n 2, 1) := by decide +kernel
theorem dX7_pairFrom_123 : decode cX7_pairFrom 123 = .ok (.iconst 1, 1) := by decide +kernel
theorem dX7_pairFrom_124 : decode cX7_pairFrom 124 = .ok (.iadd, 1) := by decide +kernel
theorem dX7_pairFrom_125 : decode cX7_pairFrom 125 = .ok (.iload_n 3, 1) := by decide +kernel
theorem dX7_pairFrom_126 : decode cX7_pairFrom 126 = .ok (.iconst 1, 1) := by decide +kernel
theorem dX7_pairFrom_127 : decode cX7_pairFrom 127 = .ok (.iadd, 1) := by decide +kernel
theorem dX7_pairFrom_128 : decode cX7_pairFrom 128 = .ok (.invokevirtual 22, 3) := by decide +kernel
theorem dX7_pairFrom_131 : decode cX7_pairFrom 131 = .ok (.aload_n 0, 1) := by decide +kernel
theorem dX7_pairFrom_132 : decode cX7_pairFrom 132 = .ok (.getfield 9, 3) := by decide +kernel
theorem dX7_pairFrom_135 : decode cX7_pairFrom 135 = .ok (.iload_n 2, 1) := by decide +kernel
theorem dX7_pairFrom_136 : decode cX7_pairFrom 136 = .ok (.bipush (-9), 2) := by decide +kernel
theorem dX7_pairFrom_138 : decode cX7_pairFrom 138 = .ok (.iastore, 1) := by decide +kernel
theorem dX7_pairFrom_139 : decode cX7_pairFrom 139 = .ok (.aload_n 0, 1) := by decide +kernel
theorem dX7_pairFrom_140 : decode cX7_pairFrom 140 = .ok (.getfield 9, 3) := by decide +kernel
theorem dX7_pairFrom_143 : decode cX7_pairFrom 143 = .ok (.iload 4, 2) := by decide +kernel
theorem dX7_pairFrom_145 : decode cX7_pairFrom 145 = .ok (.bipush (-9), 2) := by decide +kernel
theorem dX7_pairFrom_147 : decode cX7_pairFrom 147 = .ok (.iastore, 1) := by decide +kernel
theorem dX7_pairFrom_148 : decode cX7_pairFrom 148 = .ok (.iinc 4 1, 3) := by decide +kernel
theorem dX7_pairFrom_151 : decode cX7_pairFrom 151 = .ok (.goto (-78), 3) := by decide +kernel
theorem dX7_pairFrom_154 : decode cX7_pairFrom 154 = .ok (.aload_n 0, 1) := by decide +kernel
theorem dX7_pairFrom_155 : decode cX7_pairFrom 155 = .ok (.aload_n 1, 1) := by decide +kernel
theorem dX7_pairFrom_156 : decode cX7_pairFrom 156 = .ok (.iload_n 2, 1) := by decide +kernel
theorem dX7_pairFrom_157 : decode cX7_pairFrom 157 = .ok (.iconst 1, 1) := by decide +kernel
theorem dX7_pairFrom_158 : decode cX7_pairFrom 158 = .ok (.iadd, 1) := by decide +kernel
theorem dX7_pairFrom_159 : decode cX7_pairFrom 159 = .ok (.iload_n 3, 1) := by decide +kernel
theorem dX7_pairFrom_160 : decode cX7_pairFrom 160 = .ok (.invokevirtual 22, 3) := by decide +kernel
theorem dX7_pairFrom_163 : decode cX7_pairFrom 163 = .ok (.return_, 1) := by decide +kernel
theorem dX7_mayMarry_0 : decode cX7_mayMarry 0 = .ok (.aload_n 0, 1) := by decide +kernel
theorem dX7_mayMarry_1 : decode cX7_mayMarry 1 = .ok (.getfield 41, 3) := by decide +kernel
theorem dX7_mayMarry_4 : decode cX7_mayMarry 4 = .ok (.getfield 45, 3) := by decide +kernel
theorem dX7_mayMarry_7 : decode cX7_mayMarry 7 = .ok (.iload_n 1, 1) := by decide +kernel
theorem dX7_mayMarry_8 : decode cX7_mayMarry 8 = .ok (.iaload, 1) := by decide +kernel
theorem dX7_mayMarry_9 : decode cX7_mayMarry 9 = .ok (.aload_n 0, 1) := by decide +kernel
theorem dX7_mayMarry_10 : decode cX7_mayMarry 10 = .ok (.getfield 41, 3) := by decide +kernel
theorem dX7_mayMarry_13 : decode cX7_mayMarry 13 = .ok (.getfield 45, 3) := by decide +kernel
theorem dX7_mayMarry_16 : decode cX7_mayMarry 16 = .ok (.iload_n 2, 1) := by decide +kernel
theorem dX7_mayMarry_17 : decode cX7_mayMarry 17 = .ok (.iaload, 1) := by decide +kernel
theorem dX7_mayMarry_18 : decode cX7_mayMarry 18 = .ok (.if_icmp .eq 16, 3) := by decide +kernel
theorem dX7_mayMarry_21 : decode cX7_mayMarry 21 = .ok (.aload_n 0, 1) := by decide +kernel
theorem dX7_mayMarry_22 : decode cX7_mayMarry 22 = .ok (.iload_n 1, 1) := by decide +kernel
theorem dX7_mayMarry_23 : decode cX7_mayMarry 23 = .ok (.iload_n 2, 1) := by decide +kernel
theorem dX7_mayMarry_24 : decode cX7_mayMarry 24 = .ok (.invokevirtual 50, 3) := by decide +kernel
theorem dX7_mayMarry_27 : decode cX7_mayMarry 27 = .ok (.ifCond .ne 7, 3) := by decide +kernel
theorem dX7_mayMarry_30 : decode cX7_mayMarry 30 = .ok (.iconst 1, 1) := by decide +kernel
theorem dX7_mayMarry_31 : decode cX7_mayMarry 31 = .ok (.goto 4, 3) := by decide +kernel
theorem dX7_mayMarry_34 : decode cX7_mayMarry 34 = .ok (.iconst 0, 1) := by decide +kernel
theorem dX7_mayMarry_35 : decode cX7_mayMarry 35 = .ok (.ireturn, 1) := by decide +kernel
theorem dJ6_bitCount_0f7a4_0 : decode cJ6_bitCount_0f7a4 0 = .ok (.iload_n 0, 1) := by decide +kernel
theorem dJ6_bitCount_0f7a4_1 : decode cJ6_bitCount_0f7a4 1 = .ok (.iload_n 0, 1) := by decide +kernel
theorem dJ6_bitCount_0f7a4_2 : decode cJ6_bitCount_0f7a4 2 = .ok (.iconst 1, 1) := by decide +kernel
theorem dJ6_bitCount_0f7a4_3 : decode cJ6_bitCount_0f7a4 3 = .ok (.iushr, 1) := by decide +kernel
theorem dJ6_bitCount_0f7a4_4 : decode cJ6_bitCount_0f7a4 4 = .ok (.ldc_w 265, 3) := by decide +kernel
theorem dJ6_bitCount_0f7a4_7 : decode cJ6_bitCount_0f7a4 7 = .ok (.iand, 1) := by decide +kernel
theorem dJ6_bitCount_0f7a4_8 : decode cJ6_bitCount_0f7a4 8 = .ok (.isub, 1) := by decide +kernel
theorem dJ6_bitCount_0f7a4_9 : decode cJ6_bitCount_0f7a4 9 = .ok (.istore_n 0, 1) := by decide +kernel
theorem dJ6_bitCount_0f7a4_10 : decode cJ6_bitCount_0f7a4 10 = .ok (.iload_n 0, 1) := by decide +kernel
theorem dJ6_bitCount_0f7a4_11 : decode cJ6_bitCount_0f7a4 11 = .ok (.ldc_w 266, 3) := by decide +kernel
theorem dJ6_bitCount_0f7a4_14 : decode cJ6_bitCount_0f7a4 14 = .ok (.iand, 1) := by decide +kernel
theorem dJ6_bitCount_0f7a4_15 : decode cJ6_bitCount_0f7a4 15 = .ok (.iload_n 0, 1) := by decide +kernel
theorem dJ6_bitCount_0f7a4_16 : decode cJ6_bitCount_0f7a4 16 = .ok (.iconst 2, 1) := by decide +kernel
theorem dJ6_bitCount_0f7a4_17 : decode cJ6_bitCount_0f7a4 17 = .ok (.iushr, 1) := by decide +kernel
theorem dJ6_bitCount_0f7a4_18 : decode cJ6_bitCount_0f7a4 18 = .ok (.ldc_w 266, 3) := by decide +kernel
theorem dJ6_bitCount_0f7a4_21 : decode cJ6_bitCount_0f7a4 21 = .ok (.iand, 1) := by decide +kernel
theorem dJ6_bitCount_0f7a4_22 : decode cJ6_bitCount_0f7a4 22 = .ok (.iadd, 1) := by decide +kernel
theorem dJ6_bitCount_0f7a4_23 : decode cJ6_bitCount_0f7a4 23 = .ok (.istore_n 0, 1) := by decide +kernel
theorem dJ6_bitCount_0f7a4_24 : decode cJ6_bitCount_0f7a4 24 = .ok (.iload_n 0, 1) := by decide +kernel
theorem dJ6_bitCount_0f7a4_25 : decode cJ6_bitCount_0f7a4 25 = .ok (.iload_n 0, 1) := by decide +kernel
theorem dJ6_bitCount_0f7a4_26 : decode cJ6_bitCount_0f7a4 26 = .ok (.iconst 4, 1) := by decide +kernel
theorem dJ6_bitCount_0f7a4_27 : decode cJ6_bitCount_0f7a4 27 = .ok (.iushr, 1) := by decide +kernel
theorem dJ6_bitCount_0f7a4_28 : decode cJ6_bitCount_0f7a4 28 = .ok (.iadd, 1) := by decide +kernel
theorem dJ6_bitCount_0f7a4_29 : decode cJ6_bitCount_0f7a4 29 = .ok (.ldc_w 267, 3) := by decide +kernel
theorem dJ6_bitCount_0f7a4_32 : decode cJ6_bitCount_0f7a4 32 = .ok (.iand, 1) := by decide +kernel
theorem dJ6_bitCount_0f7a4_33 : decode cJ6_bitCount_0f7a4 33 = .ok (.istore_n 0, 1) := by decide +kernel
theorem dJ6_bitCount_0f7a4_34 : decode cJ6_bitCount_0f7a4 34 = .ok (.iload_n 0, 1) := by decide +kernel
theorem dJ6_bitCount_0f7a4_35 : decode cJ6_bitCount_0f7a4 35 = .ok (.iload_n 0, 1) := by decide +kernel
theorem dJ6_bitCount_0f7a4_36 : decode cJ6_bitCount_0f7a4 36 = .ok (.bipush 8, 2) := by decide +kernel
theorem dJ6_bitCount_0f7a4_38 : decode cJ6_bitCount_0f7a4 38 = .ok (.iushr, 1) := by decide +kernel
theorem dJ6_bitCount_0f7a4_39 : decode cJ6_bitCount_0f7a4 39 = .ok (.iadd, 1) := by decide +kernel
theorem dJ6_bitCount_0f7a4_40 : decode cJ6_bitCount_0f7a4 40 = .ok (.istore_n 0, 1) := by decide +kernel
theorem dJ6_bitCount_0f7a4_41 : decode cJ6_bitCount_0f7a4 41 = .ok (.iload_n 0, 1) := by decide +kernel
theorem dJ6_bitCount_0f7a4_42 : decode cJ6_bitCount_0f7a4 42 = .ok (.iload_n 0, 1) := by decide +kernel
theorem dJ6_bitCount_0f7a4_43 : decode cJ6_bitCount_0f7a4 43 = .ok (.bipush 16, 2) := by decide +kernel
theorem dJ6_bitCount_0f7a4_45 : decode cJ6_bitCount_0f7a4 45 = .ok (.iushr, 1) := by decide +kernel
theorem dJ6_bitCount_0f7a4_46 : decode cJ6_bitCount_0f7a4 46 = .ok (.iadd, 1) := by decide +kernel
theorem dJ6_bitCount_0f7a4_47 : decode cJ6_bitCount_0f7a4 47 = .ok (.istore_n 0, 1) := by decide +kernel
theorem dJ6_bitCount_0f7a4_48 : decode cJ6_bitCount_0f7a4 48 = .ok (.iload_n 0, 1) := by decide +kernel
theorem dJ6_bitCount_0f7a4_49 : decode cJ6_bitCount_0f7a4 49 = .ok (.bipush 63, 2) := by decide +kernel
theorem dJ6_bitCount_0f7a4_51 : decode cJ6_bitCount_0f7a4 51 = .ok (.iand, 1) := by decide +kernel
theorem dJ6_bitCount_0f7a4_52 : decode cJ6_bitCount_0f7a4 52 = .ok (.ireturn, 1) := by decide +kernel
theorem dJ9_max_7cf53_0 : decode cJ9_max_7cf53 0 = .ok (.iload_n 0, 1) := by decide +kernel
theorem dJ9_max_7cf53_1 : decode cJ9_max_7cf53 1 = .ok (.iload_n 1, 1) := by decide +kernel
theorem dJ9_max_7cf53_2 : decode cJ9_max_7cf53 2 = .ok (.if_icmp .lt 7, 3) := by decide +kernel
theorem dJ9_max_7cf53_5 : decode cJ9_max_7cf53 5 = .ok (.iload_n 0, 1) := by decide +kernel
theorem dJ9_max_7cf53_6 : decode cJ9_max_7cf53 6 = .ok (.goto 4, 3) := by decide +kernel
theorem dJ9_max_7cf53_9 : decode cJ9_max_7cf53 9 = .ok (.iload_n 1, 1) := by decide +kernel
theorem dJ9_max_7cf53_10 : decode cJ9_max_7cf53 10 = .ok (.ireturn, 1) := by decide +kernel
theorem dJ9_min_7cf53_0 : decode cJ9_min_7cf53 0 = .ok (.iload_n 0, 1) := by decide +kernel
theorem dJ9_min_7cf53_1 : decode cJ9_min_7cf53 1 = .ok (.iload_n 1, 1) := by decide +kernel
theorem dJ9_min_7cf53_2 : decode cJ9_min_7cf53 2 = .ok (.if_icmp .gt 7, 3) := by decide +kernel
theorem dJ9_min_7cf53_5 : decode cJ9_min_7cf53 5 = .ok (.iload_n 0, 1) := by decide +kernel
theorem dJ9_min_7cf53_6 : decode cJ9_min_7cf53 6 = .ok (.goto 4, 3) := by decide +kernel
theorem dJ9_min_7cf53_9 : decode cJ9_min_7cf53 9 = .ok (.iload_n 1, 1) := by decide +kernel
theorem dJ9_min_7cf53_10 : decode cJ9_min_7cf53 10 = .ok (.ireturn, 1) := by decide +kernel
