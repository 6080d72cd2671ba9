theorem dX4_init_0 : decode cX4_init 0 = .ok (.aload_n 0, 1) := by decide +kernel
theorem dX4_init_1 : decode cX4_init 1 = .ok (.invokespecial 3, 3) := by decide +kernel
theorem dX4_init_4 : decode cX4_init 4 = .ok (.aload_n 0, 1) := by decide +kernel
theorem dX4_init_5 : decode cX4_init 5 = .ok (.iconst 4, 1) := by decide +kernel
theorem dX4_init_6 : decode cX4_init 6 = .ok (.newarray .int, 2) := by decide +kernel
theorem dX4_init_8 : decode cX4_init 8 = .ok (.putfield 9, 3) := by decide +kernel
theorem dX4_init_11 : decode cX4_init 11 = .ok (.aload_n 0, 1) := by decide +kernel
theorem dX4_init_12 : decode cX4_init 12 = .ok (.iconst 4, 1) := by decide +kernel
theorem dX4_init_13 : decode cX4_init 13 = .ok (.newarray .int, 2) := by decide +kernel
theorem dX4_init_15 : decode cX4_init 15 = .ok (.putfield 15, 3) := by decide +kernel
theorem dX4_init_18 : decode cX4_init 18 = .ok (.aload_n 0, 1) := by decide +kernel
theorem dX4_init_19 : decode cX4_init 19 = .ok (.iconst 4, 1) := by decide +kernel
theorem dX4_init_20 : decode cX4_init 20 = .ok (.newarray .int, 2) := by decide +kernel
theorem dX4_init_22 : decode cX4_init 22 = .ok (.putfield 18, 3) := by decide +kernel
theorem dX4_init_25 : decode cX4_init 25 = .ok (.aload_n 0, 1) := by decide +kernel
theorem dX4_init_26 : decode cX4_init 26 = .ok (.iconst 4, 1) := by decide +kernel
theorem dX4_init_27 : decode cX4_init 27 = .ok (.newarray .int, 2) := by decide +kernel
theorem dX4_init_29 : decode cX4_init 29 = .ok (.putfield 21, 3) := by decide +kernel
theorem dX4_init_32 : decode cX4_init 32 = .ok (.aload_n 0, 1) := by decide +kernel
theorem dX4_init_33 : decode cX4_init 33 = .ok (.iconst 2, 1) := by decide +kernel
theorem dX4_init_34 : decode cX4_init 34 = .ok (.newarray .boolean, 2) := by decide +kernel
theorem dX4_init_36 : decode cX4_init 36 = .ok (.putfield 24, 3) := by decide +kernel
theorem dX4_init_39 : decode cX4_init 39 = .ok (.aload_n 0, 1) := by decide +kernel
theorem dX4_init_40 : decode cX4_init 40 = .ok (.bipush 20, 2) := by decide +kernel
theorem dX4_init_42 : decode cX4_init 42 = .ok (.newarray .int, 2) := by decide +kernel
theorem dX4_init_44 : decode cX4_init 44 = .ok (.putfield 28, 3) := by decide +kernel
theorem dX4_init_47 : decode cX4_init 47 = .ok (.return_, 1) := by decide +kernel
theorem dX4_clear_0 : decode cX4_clear 0 = .ok (.aload_n 0, 1) := by decide +kernel
theorem dX4_clear_1 : decode cX4_clear 1 = .ok (.iconst 0, 1) := by decide +kernel
theorem dX4_clear_2 : decode cX4_clear 2 = .ok (.putfield 31, 3) := by decide +kernel
theorem dX4_clear_5 : decode cX4_clear 5 = .ok (.aload_n 0, 1) := by decide +kernel
theorem dX4_clear_6 : decode cX4_clear 6 = .ok (.iconst 0, 1) := by decide +kernel
theorem dX4_clear_7 : decode cX4_clear 7 = .ok (.putfield 35, 3) := by decide +kernel
theorem dX4_clear_10 : decode cX4_clear 10 = .ok (.aload_n 0, 1) := by decide +kernel
theorem dX4_clear_11 : decode cX4_clear 11 = .ok (.iconst 0, 1) := by decide +kernel
theorem dX4_clear_12 : decode cX4_clear 12 = .ok (.putfield 38, 3) := by decide +kernel
theorem dX4_clear_15 : decode cX4_clear 15 = .ok (.iconst 0, 1) := by decide +kernel
theorem dX4_clear_16 : decode cX4_clear 16 = .ok (.istore_n 1, 1) := by decide +kernel
theorem dX4_clear_17 : decode cX4_clear 17 = .ok (.iload_n 1, 1) := by decide +kernel
theorem dX4_clear_18 : decode cX4_clear 18 = .ok (.iconst 4, 1) := by decide +kernel
theorem dX4_clear_19 : decode cX4_clear 19 = .ok (.if_icmp .ge 16, 3) := by decide +kernel
theorem dX4_clear_22 : decode cX4_clear 22 = .ok (.aload_n 0, 1) := by decide +kernel
theorem dX4_clear_23 : decode cX4_clear 23 = .ok (.getfield 21, 3) := by decide +kernel
theorem dX4_clear_26 : decode cX4_clear 26 = .ok (.iload_n 1, 1) := by decide +kernel
theorem dX4_clear_27 : decode cX4_clear 27 = .ok (.iconst (-1), 1) := by decide +kernel
theorem dX4_clear_28 : decode cX4_clear 28 = .ok (.iastore, 1) := by decide +kernel
theorem dX4_clear_29 : decode cX4_clear 29 = .ok (.iinc 1 1, 3) := by decide +kernel
theorem dX4_clear_32 : decode cX4_clear 32 = .ok (.goto (-15), 3) := by decide +kernel
theorem dX4_clear_35 : decode cX4_clear 35 = .ok (.iconst 0, 1) := by decide +kernel
theorem dX4_clear_36 : decode cX4_clear 36 = .ok (.istore_n 1, 1) := by decide +kernel
theorem dX4_clear_37 : decode cX4_clear 37 = .ok (.iload_n 1, 1) := by decide +kernel
theorem dX4_clear_38 : decode cX4_clear 38 = .ok (.iconst 2, 1) := by decide +kernel
theorem dX4_clear_39 : decode cX4_clear 39 = .ok (.if_icmp .ge 16, 3) := by decide +kernel
theorem dX4_clear_42 : decode cX4_clear 42 = .ok (.aload_n 0, 1) := by decide +kernel
theorem dX4_clear_43 : decode cX4_clear 43 = .ok (.getfield 24, 3) := by decide +kernel
theorem dX4_clear_46 : decode cX4_clear 46 = .ok (.iload_n 1, 1) := by decide +kernel
theorem dX4_clear_47 : decode cX4_clear 47 = .ok (.iconst 0, 1) := by decide +kernel
theorem dX4_clear_48 : decode cX4_clear 48 = .ok (.bastore, 1) := by decide +kernel
theorem dX4_clear_49 : decode cX4_clear 49 = .ok (.iinc 1 1, 3) := by decide +kernel
theorem dX4_clear_52 : decode cX4_clear 52 = .ok (.goto (-15), 3) := by decide +kernel
theorem dX4_clear_55 : decode cX4_clear 55 = .ok (.aload_n 0, 1) := by decide +kernel
theorem dX4_clear_56 : decode cX4_clear 56 = .ok (.iconst 0, 1) := by decide +kernel
theorem dX4_clear_57 : decode cX4_clear 57 = .ok (.invokevirtual 41, 3) := by decide +kernel
theorem dX4_clear_60 : decode cX4_clear 60 = .ok (.return_, 1) := by decide +kernel
theorem dX4_fillLikelihoods_0 : decode cX4_fillLikelihoods 0 = .ok (.iconst 0, 1) := by decide +kernel
theorem dX4_fillLikelihoods_1 : decode cX4_fillLikelihoods 1 = .ok (.istore_n 2, 1) := by decide +kernel
theorem dX4_fillLikelihoods_2 : decode cX4_fillLikelihoods 2 = .ok (.iload_n 2, 1) := by decide +kernel
theorem dX4_fillLikelihoods_3 : decode cX4_fillLikelihoods 3 = .ok (.bipush 20, 2) := by decide +kernel
theorem dX4_fillLikelihoods_5 : decode cX4_fillLikelihoods 5 = .ok (.if_icmp .ge 16, 3) := by decide +kernel
theorem dX4_fillLikelihoods_8 : decode cX4_fillLikelihoods 8 = .ok (.aload_n 0, 1) := by decide +kernel
theorem dX4_fillLikelihoods_9 : decode cX4_fillLikelihoods 9 = .ok (.getfield 28, 3) := by decide +kernel
theorem dX4_fillLikelihoods_12 : decode cX4_fillLikelihoods 12 = .ok (.iload_n 2, 1) := by decide +kernel
theorem dX4_fillLikelihoods_13 : decode cX4_fillLikelihoods 13 = .ok (.iload_n 1, 1) := by decide +kernel
theorem dX4_fillLikelihoods_14 : decode cX4_fillLikelihoods 14 = .ok (.iastore, 1) := by decide +kernel
theorem dX4_fillLikelihoods_15 : decode cX4_fillLikelihoods 15 = .ok (.iinc 2 1, 3) := by decide +kernel
theorem dX4_fillLikelihoods_18 : decode cX4_fillLikelihoods 18 = .ok (.goto (-16), 3) := by decide +kernel
theorem dX4_fillLikelihoods_21 : decode cX4_fillLikelihoods 21 = .ok (.return_, 1) := by decide +kernel
theorem dX4_copy_0 : decode cX4_copy 0 = .ok (.aload_n 0, 1) := by decide +kernel
theorem dX4_copy_1 : decode cX4_copy 1 = .ok (.aload_n 1, 1) := by decide +kernel
theorem dX4_copy_2 : decode cX4_copy 2 = .ok (.getfield 31, 3) := by decide +kernel
theorem dX4_copy_5 : decode cX4_copy 5 = .ok (.putfield 31, 3) := by decide +kernel
theorem dX4_copy_8 : decode cX4_copy 8 = .ok (.aload_n 0, 1) := by decide +kernel
theorem dX4_copy_9 : decode cX4_copy 9 = .ok (.aload_n 1, 1) := by decide +kernel
theorem dX4_copy_10 : decode cX4_copy 10 = .ok (.getfield 35, 3) := by decide +kernel
theorem dX4_copy_13 : decode cX4_copy 13 = .ok (.putfield 35, 3) := by decide +kernel
theorem dX4_copy_16 : decode cX4_copy 16 = .ok (.aload_n 0, 1) := by decide +kernel
theorem dX4_copy_17 : decode cX4_copy 17 = .ok (.aload_n 1, 1) := by decide +kernel
theorem dX4_copy_18 : decode cX4_copy 18 = .ok (.getfield 38, 3) := by decide +kernel
theorem dX4_copy_21 : decode cX4_copy 21 = .ok (.putfield 38, 3) := by decide +kernel
theorem dX4_copy_24 : decode cX4_copy 24 = .ok (.aload_n 1, 1) := by decide +kernel
theorem dX4_copy_25 : decode cX4_copy 25 = .ok (.getfield 9, 3) := by decide +kernel
theorem dX4_copy_28 : decode cX4_copy 28 = .ok (.iconst 0, 1) := by decide +kernel
theorem dX4_copy_29 : decode cX4_copy 29 = .ok (.aload_n 0, 1) := by decide +kernel
theorem dX4_copy_30 : decode cX4_copy 30 = .ok (.getfield 9, 3) := by decide +kernel
theorem dX4_copy_33 : decode cX4_copy 33 = .ok (.iconst 0, 1) := by decide +kernel
theorem dX4_copy_34 : decode cX4_copy 34 = .ok (.iconst 4, 1) := by decide +kernel
theorem dX4_copy_35 : decode cX4_copy 35 = .ok (.invokestatic 45, 3) := by decide +kernel
theorem dX4_copy_38 : decode cX4_copy 38 = .ok (.aload_n 1, 1) := by decide +kernel
theorem dX4_copy_39 : decode cX4_copy 39 = .ok (.getfield 15, 3) := by decide +kernel
theorem dX4_copy_42 : decode cX4_copy 42 = .ok (.iconst 0, 1) := by decide +kernel
theorem dX4_copy_43 : decode cX4_copy 43 = .ok (.aload_n 0, 1) := by decide +kernel
theorem dX4_copy_44 : decode cX4_copy 44 = .ok (.getfield 15, 3) := by decide +kernel
theorem dX4_copy_47 : decode cX4_copy 47 = .ok (.iconst 0, 1) := by decide +kernel
theorem dX4_copy_48 : decode cX4_copy 48 = .ok (.iconst 4, 1) := by decide +kernel
theorem dX4_copy_49 : decode cX4_copy 49 = .ok (.invokestatic 45, 3) := by decide +kernel
theorem dX4_copy_52 : decode cX4_copy 52 = .ok (.aload_n 1, 1) := by decide +kernel
theorem dX4_copy_53 : decode cX4_copy 53 = .ok (.getfield 18, 3) := by decide +kernel
theorem dX4_copy_56 : decode cX4_copy 56 = .ok (.iconst 0, 1) := by decide +kernel
theorem dX4_copy_57 : decode cX4_copy 57 = .ok (.aload_n 0, 1) := by decide +kernel
theorem dX4_copy_58 : decode cX4_copy 58 = .ok (.getfield 18, 3) := by decide +kernel
theorem dX4_copy_61 : decode cX4_copy 61 = .ok (.iconst 0, 1) := by decide +kernel
theorem dX4_copy_62 : decode cX4_copy 62 = .ok (.iconst 4, 1) := by decide +kernel
theorem dX4_copy_63 : decode cX4_copy 63 = .ok (.invokestatic 45, 3) := by decide +kernel
theorem dX4_copy_66 : decode cX4_copy 66 = .ok (.aload_n 1, 1) := by decide +kernel
theorem dX4_copy_67 : decode cX4_copy 67 = .ok (.getfield 21, 3) := by decide +kernel
theorem dX4_copy_70 : decode cX4_copy 70 = .ok (.iconst 0, 1) := by decide +kernel
theorem dX4_copy_71 : decode cX4_copy 71 = .ok (.aload_n 0, 1) := by decide +kernel
theorem dX4_copy_72 : decode cX4_copy 72 = .ok (.getfield 21, 3) := by decide +kernel
theorem dX4_copy_75 : decode cX4_copy 75 = .ok (.iconst 0, 1) := by decide +kernel
theorem dX4_copy_76 : decode cX4_copy 76 = .ok (.iconst 4, 1) := by decide +kernel
theorem dX4_copy_77 : decode cX4_copy 77 = .ok (.invokestatic 45, 3) := by decide +kernel
theorem dX4_copy_80 : decode cX4_copy 80 = .ok (.aload_n 1, 1) := by decide +kernel
theorem dX4_copy_81 : decode cX4_copy 81 = .ok (.getfield 28, 3) := by decide +kernel
theorem dX4_copy_84 : decode cX4_copy 84 = .ok (.iconst 0, 1) := by decide +kernel
theorem dX4_copy_85 : decode cX4_copy 85 = .ok (.aload_n 0, 1) := by decide +kernel
theorem dX4_copy_86 : decode cX4_copy 86 = .ok (.getfield 28, 3) := by decide +kernel
theorem dX4_copy_89 : decode cX4_copy 89 = .ok (.iconst 0, 1) := by decide +kernel
theorem dX4_copy_90 : decode cX4_copy 90 = .ok (.bipush 20, 2) := by decide +kernel
theorem dX4_copy_92 : decode cX4_copy 92 = .ok (.invokestatic 45, 3) := by decide +kernel
theorem dX4_copy_95 : decode cX4_copy 95 = .ok (.iconst 0, 1) := by decide +kernel
theorem dX4_copy_96 : decode cX4_copy 96 = .ok (.istore_n 2, 1) := by decide +kernel
theorem dX4_copy_97 : decode cX4_copy 97 = .ok (.iload_n 2, 1) := by decide +kernel
theorem dX4_copy_98 : decode cX4_copy 98 = .ok (.iconst 2, 1) := by decide +kernel
theorem dX4_copy_99 : decode cX4_copy 99 = .ok (.if_icmp .ge 21, 3) := by decide +kernel
theorem dX4_copy_102 : decode cX4_copy 102 = .ok (.aload_n 0, 1) := by decide +kernel
theorem dX4_copy_103 : decode cX4_copy 103 = .ok (.getfield 24, 3) := by decide +kernel
theorem dX4_copy_106 : decode cX4_copy 106 = .ok (.iload_n 2, 1) := by decide +kernel
theorem dX4_copy_107 : decode cX4_copy 107 = .ok (.aload_n 1, 1) := by decide +kernel
theorem dX4_copy_108 : decode cX4_copy 108 = .ok (.getfield 24, 3) := by decide +kernel
theorem dX4_copy_111 : decode cX4_copy 111 = .ok (.iload_n 2, 1) := by decide +kernel
theorem dX4_copy_112 : decode cX4_copy 112 = .ok (.baload, 1) := by decide +kernel
theorem dX4_copy_113 : decode cX4_copy 113 = .ok (.bastore, 1) := by decide +kernel
theorem dX4_copy_114 : decode cX4_copy 114 = .ok (.iinc 2 1, 3) := by decide +kernel
theorem dX4_copy_117 : decode cX4_copy 117 = .ok (.goto (-20), 3) := by decide +kernel
theorem dX4_copy_120 : decode cX4_copy 120 = .ok (.return_, 1) := by decide +kernel
theorem dX4_appendAllele_0 : decode cX4_appendAllele 0 = .ok (.aload_n 0, 1) := by decide +kernel
theorem dX4_appendAllele_1 : decode cX4_appendAllele 1 = .ok (.getfield 38, 3) := by decide +kernel
theorem dX4_appendAllele_4 : decode cX4_appendAllele 4 = .ok (.iconst 4, 1) := by decide +kernel
theorem dX4_appendAllele_5 : decode cX4_appendAllele 5 = .ok (.if_icmp .ge 43, 3) := by decide +kernel
theorem dX4_appendAllele_8 : decode cX4_appendAllele 8 = .ok (.aload_n 0, 1) := by decide +kernel
theorem dX4_appendAllele_9 : decode cX4_appendAllele 9 = .ok (.getfield 9, 3) := by decide +kernel
theorem dX4_appendAllele_12 : decode cX4_appendAllele 12 = .ok (.aload_n 0, 1) := by decide +kernel
theorem dX4_appendAllele_13 : decode cX4_appendAllele 13 = .ok (.getfield 38, 3) := by decide +kernel
theorem dX4_appendAllele_16 : decode cX4_appendAllele 16 = .ok (.iload_n 1, 1) := by decide +kernel
theorem dX4_appendAllele_17 : decode cX4_appendAllele 17 = .ok (.iastore, 1) := by decide +kernel
theorem dX4_appendAllele_18 : decode cX4_appendAllele 18 = .ok (.aload_n 0, 1) := by decide +kernel
theorem dX4_appendAllele_19 : decode cX4_appendAllele 19 = .ok (.getfield 15, 3) := by decide +kernel
theorem dX4_appendAllele_22 : decode cX4_appendAllele 22 = .ok (.aload_n 0, 1) := by decide +kernel
theorem dX4_appendAllele_23 : decode cX4_appendAllele 23 = .ok (.getfield 38, 3) := by decide +kernel
theorem dX4_appendAllele_26 : decode cX4_appendAllele 26 = .ok (.iload_n 2, 1) := by decide +kernel
theorem dX4_appendAllele_27 : decode cX4_appendAllele 27 = .ok (.iastore, 1) := by decide +kernel
theorem dX4_appendAllele_28 : decode cX4_appendAllele 28 = .ok (.aload_n 0, 1) := by decide +kernel
theorem dX4_appendAllele_29 : decode cX4_appendAllele 29 = .ok (.getfield 18, 3) := by decide +kernel
theorem dX4_appendAllele_32 : decode cX4_appendAllele 32 = .ok (.aload_n 0, 1) := by decide +kernel
theorem dX4_appendAllele_33 : decode cX4_appendAllele 33 = .ok (.getfield 38, 3) := by decide +kernel
theorem dX4_appendAllele_36 : decode cX4_appendAllele 36 = .ok (.iconst 0, 1) := by decide +kernel
theorem dX4_appendAllele_37 : decode cX4_appendAllele 37 = .ok (.iastore, 1) := by decide +kernel
theorem dX4_appendAllele_38 : decode cX4_appendAllele 38 = .ok (.aload_n 0, 1) := by decide +kernel
theorem dX4_appendAllele_39 : decode cX4_appendAllele 39 = .ok (.dup, 1) := by decide +kernel
theorem dX4_appendAllele_40 : decode cX4_appendAllele 40 = .ok (.getfield 38, 3) := by decide +kernel
theorem dX4_appendAllele_43 : decode cX4_appendAllele 43 = .ok (.iconst 1, 1) := by decide +kernel
theorem dX4_appendAllele_44 : decode cX4_appendAllele 44 = .ok (.iadd, 1) := by decide +kernel
theorem dX4_appendAllele_45 : decode cX4_appendAllele 45 = .ok (.putfield 38, 3) := by decide +kernel
theorem dX4_appendAllele_48 : decode cX4_appendAllele 48 = .ok (.return_, 1) := by decide +kernel
theorem dX4_find_0 : decode cX4_find 0 = .ok (.iconst 0, 1) := by decide +kernel
theorem dX4_find_1 : decode cX4_find 1 = .ok (.istore_n 3, 1) := by decide +kernel
theorem dX4_find_2 : decode cX4_find 2 = .ok (.iload_n 3, 1) := by decide +kernel
theorem dX4_find_3 : decode cX4_find 3 = .ok (.aload_n 0, 1) := by decide +kernel
theorem dX4_find_4 : decode cX4_find 4 = .ok (.getfield 38, 3) := by decide +kernel
theorem dX4_find_7 : decode cX4_find 7 = .ok (.if_icmp .ge 31, 3) := by decide +kernel
theorem dX4_find_10 : decode cX4_find 10 = .ok (.aload_n 0, 1) := by decide +kernel
theorem dX4_find_11 : decode cX4_find 11 = .ok (.getfield 9, 3) := by decide +kernel
theorem dX4_find_14 : decode cX4_find 14 = .ok (.iload_n 3, 1) := by decide +kernel
theorem dX4_find_15 : decode cX4_find 15 = .ok (.iaload, 1) := by decide +kernel
theorem dX4_find_16 : decode cX4_find 16 = .ok (.iload_n 1, 1) := by decide +kernel
theorem dX4_find_17 : decode cX4_find 17 = .ok (.if_icmp .ne 15, 3) := by decide +kernel
theorem dX4_find_20 : decode cX4_find 20 = .ok (.aload_n 0, 1) := by decide +kernel
theorem dX4_find_21 : decode cX4_find 21 = .ok (.getfield 15, 3) := by decide +kernel
theorem dX4_find_24 : decode cX4_find 24 = .ok (.iload_n 3, 1) := by decide +kernel
theorem dX4_find_25 : decode cX4_find 25 = .ok (.iaload, 1) := by decide +kernel
theorem dX4_find_26 : decode cX4_find 26 = .ok (.iload_n 2, 1) := by decide +kernel
theorem dX4_find_27 : decode cX4_find 27 = .ok (.if_icmp .ne 5, 3) := by decide +kernel
theorem dX4_find_30 : decode cX4_find 30 = .ok (.iload_n 3, 1) := by decide +kernel
theorem dX4_find_31 : decode cX4_find 31 = .ok (.ireturn, 1) := by decide +kernel
theorem dX4_find_32 : decode cX4_find 32 = .ok (.iinc 3 1, 3) := by decide +kernel
theorem dX4_find_35 : decode cX4_find 35 = .ok (.goto (-33), 3) := by decide +kernel
theorem dX4_find_38 : decode cX4_find 38 = .ok (.iconst (-1), 1) := by decide +kernel
theorem dX4_find_39 : decode cX4_find 39 = .ok (.ireturn, 1) := by decide +kernel
theorem dX4_hasAllele_0 : decode cX4_hasAllele 0 = .ok (.iload_n 1, 1) := by decide +kernel
theorem dX4_hasAllele_1 : decode cX4_hasAllele 1 = .ok (.ifCond .lt 15, 3) := by decide +kernel
theorem dX4_hasAllele_4 : decode cX4_hasAllele 4 = .ok (.iload_n 1, 1) := by decide +kernel
theorem dX4_hasAllele_5 : decode cX4_hasAllele 5 = .ok (.aload_n 0, 1) := by decide +kernel
theorem dX4_hasAllele_6 : decode cX4_hasAllele 6 = .ok (.getfield 38, 3) := by decide +kernel
theorem dX4_hasAllele_9 : decode cX4_hasAllele 9 = .ok (.if_icmp .ge 7, 3) := by decide +kernel
theorem dX4_hasAllele_12 : decode cX4_hasAllele 12 = .ok (.iconst 1, 1) := by decide +kernel
theorem dX4_hasAllele_13 : decode cX4_hasAllele 13 = .ok (.goto 4, 3) := by decide +kernel
theorem dX4_hasAllele_16 : decode cX4_hasAllele 16 = .ok (.iconst 0, 1) := by decide +kernel
theorem dX4_hasAllele_17 : decode cX4_hasAllele 17 = .ok (.ireturn, 1) := by decide +kernel
theorem dX4_allowsInGenotype_0 : decode cX4_allowsInGenotype 0 = .ok (.iload_n 1, 1) := by decide +kernel
theorem dX4_allowsInGenotype_1 : decode cX4_allowsInGenotype 1 = .ok (.iconst (-1), 1) := by decide +kernel
theorem dX4_allowsInGenotype_2 : decode cX4_allowsInGenotype 2 = .ok (.if_icmp .eq 11, 3) := by decide +kernel
theorem dX4_allowsInGenotype_5 : decode cX4_allowsInGenotype 5 = .ok (.aload_n 0, 1) := by decide +kernel
theorem dX4_allowsInGenotype_6 : decode cX4_allowsInGenotype 6 = .ok (.iload_n 1, 1) := by decide +kernel
theorem dX4_allowsInGenotype_7 : decode cX4_allowsInGenotype 7 = .ok (.invokevirtual 51, 3) := by decide +kernel
theorem dX4_allowsInGenotype_10 : decode cX4_allowsInGenotype 10 = .ok (.ifCond .eq 7, 3) := by decide +kernel
theorem dX4_allowsInGenotype_13 : decode cX4_allowsInGenotype 13 = .ok (.iconst 1, 1) := by decide +kernel
theorem dX4_allowsInGenotype_14 : decode cX4_allowsInGenotype 14 = .ok (.goto 4, 3) := by decide +kernel
theorem dX4_allowsInGenotype_17 : decode cX4_allowsInGenotype 17 = .ok (.iconst 0, 1) := by decide +kernel
theorem dX4_allowsInGenotype_18 : decode cX4_allowsInGenotype 18 = .ok (.ireturn, 1) := by decide +kernel
theorem dX4_pairs_0 : decode cX4_pairs 0 = .ok (.aload_n 0, 1) := by decide +kernel
theorem dX4_pairs_1 : decode cX4_pairs 1 = .ok (.getfield 38, 3) := by decide +kernel
theorem dX4_pairs_4 : decode cX4_pairs 4 = .ok (.aload_n 0, 1) := by decide +kernel
theorem dX4_pairs_5 : decode cX4_pairs 5 = .ok (.getfield 38, 3) := by decide +kernel
theorem dX4_pairs_8 : decode cX4_pairs 8 = .ok (.iconst 1, 1) := by decide +kernel
theorem dX4_pairs_9 : decode cX4_pairs 9 = .ok (.iadd, 1) := by decide +kernel
theorem dX4_pairs_10 : decode cX4_pairs 10 = .ok (.imul, 1) := by decide +kernel
theorem dX4_pairs_11 : decode cX4_pairs 11 = .ok (.iconst 2, 1) := by decide +kernel
theorem dX4_pairs_12 : decode cX4_pairs 12 = .ok (.idiv, 1) := by decide +kernel
theorem dX4_pairs_13 : decode cX4_pairs 13 = .ok (.ireturn, 1) := by decide +kernel
theorem dX4_lastPlace_0 : decode cX4_lastPlace 0 = .ok (.aload_n 0, 1) := by decide +kernel
theorem dX4_lastPlace_1 : decode cX4_lastPlace 1 = .ok (.getfield 31, 3) := by decide +kernel
theorem dX4_lastPlace_4 : decode cX4_lastPlace 4 = .ok (.aload_n 0, 1) := by decide +kernel
theorem dX4_lastPlace_5 : decode cX4_lastPlace 5 = .ok (.getfield 15, 3) := by decide +kernel
theorem dX4_lastPlace_8 : decode cX4_lastPlace 8 = .ok (.iconst 0, 1) := by decide +kernel
theorem dX4_lastPlace_9 : decode cX4_lastPlace 9 = .ok (.iaload, 1) := by decide +kernel
theorem dX4_lastPlace_10 : decode cX4_lastPlace 10 = .ok (.iadd, 1) := by decide +kernel
theorem dX4_lastPlace_11 : decode cX4_lastPlace 11 = .ok (.iconst 1, 1) := by decide +kernel
theorem dX4_lastPlace_12 : decode cX4_lastPlace 12 = .ok (.isub, 1) := by decide +kernel
theorem dX4_lastPlace_13 : decode cX4_lastPlace 13 = .ok (.ireturn, 1) := by decide +kernel
theorem dX4_spansOneOf_0 : decode cX4_spansOneOf 0 = .ok (.aload_n 0, 1) := by decide +kernel
theorem dX4_spansOneOf_1 : decode cX4_spansOneOf 1 = .ok (.getfield 31, 3) := by decide +kernel
theorem dX4_spansOneOf_4 : decode cX4_spansOneOf 4 = .ok (.iload_n 2, 1) := by decide +kernel
theorem dX4_spansOneOf_5 : decode cX4_spansOneOf 5 = .ok (.if_icmp .gt 15, 3) := by decide +kernel
theorem dX4_spansOneOf_8 : decode cX4_spansOneOf 8 = .ok (.aload_n 0, 1) := by decide +kernel
theorem dX4_spansOneOf_9 : decode cX4_spansOneOf 9 = .ok (.invokevirtual 55, 3) := by decide +kernel
theorem dX4_spansOneOf_12 : decode cX4_spansOneOf 12 = .ok (.iload_n 1, 1) := by decide +kernel
theorem dX4_spansOneOf_13 : decode cX4_spansOneOf 13 = .ok (.if_icmp .lt 7, 3) := by decide +kernel
theorem dX4_spansOneOf_16 : decode cX4_spansOneOf 16 = .ok (.iconst 1, 1) := by decide +kernel
theorem dX4_spansOneOf_17 : decode cX4_spansOneOf 17 = .ok (.goto 4, 3) := by decide +kernel
theorem dX4_spansOneOf_20 : decode cX4_spansOneOf 20 = .ok (.iconst 0, 1) := by decide +kernel
theorem dX4_spansOneOf_21 : decode cX4_spansOneOf 21 = .ok (.ireturn, 1) := by decide +kernel
theorem dX4_bin_0 : decode cX4_bin 0 = .ok (.aload_n 0, 1) := by decide +kernel
theorem dX4_bin_1 : decode cX4_bin 1 = .ok (.invokevirtual 55, 3) := by decide +kernel
theorem dX4_bin_4 : decode cX4_bin 4 = .ok (.istore_n 1, 1) := by decide +kernel
theorem dX4_bin_5 : decode cX4_bin 5 = .ok (.aload_n 0, 1) := by decide +kernel
theorem dX4_bin_6 : decode cX4_bin 6 = .ok (.getfield 31, 3) := by decide +kernel
theorem dX4_bin_9 : decode cX4_bin 9 = .ok (.iconst 3, 1) := by decide +kernel
theorem dX4_bin_10 : decode cX4_bin 10 = .ok (.ishr, 1) := by decide +kernel
theorem dX4_bin_11 : decode cX4_bin 11 = .ok (.iload_n 1, 1) := by decide +kernel
theorem dX4_bin_12 : decode cX4_bin 12 = .ok (.iconst 3, 1) := by decide +kernel
theorem dX4_bin_13 : decode cX4_bin 13 = .ok (.ishr, 1) := by decide +kernel
theorem dX4_bin_14 : decode cX4_bin 14 = .ok (.if_icmp .ne 13, 3) := by decide +kernel
theorem dX4_bin_17 : decode cX4_bin 17 = .ok (.bipush 11, 2) := by decide +kernel
theorem dX4_bin_19 : decode cX4_bin 19 = .ok (.aload_n 0, 1) := by decide +kernel
theorem dX4_bin_20 : decode cX4_bin 20 = .ok (.getfield 31, 3) := by decide +kernel
theorem dX4_bin_23 : decode cX4_bin 23 = .ok (.iconst 3, 1) := by decide +kernel
theorem dX4_bin_24 : decode cX4_bin 24 = .ok (.ishr, 1) := by decide +kernel
theorem dX4_bin_25 : decode cX4_bin 25 = .ok (.iadd, 1) := by decide +kernel
theorem dX4_bin_26 : decode cX4_bin 26 = .ok (.ireturn, 1) := by decide +kernel
theorem dX4_bin_27 : decode cX4_bin 27 = .ok (.aload_n 0, 1) := by decide +kernel
theorem dX4_bin_28 : decode cX4_bin 28 = .ok (.getfield 31, 3) := by decide +kernel
theorem dX4_bin_31 : decode cX4_bin 31 = .ok (.iconst 5, 1) := by decide +kernel
theorem dX4_bin_32 : decode cX4_bin 32 = .ok (.ishr, 1) := by decide +kernel
theorem dX4_bin_33 : decode cX4_bin 33 = .ok (.iload_n 1, 1) := by decide +kernel
theorem dX4_bin_34 : decode cX4_bin 34 = .ok (.iconst 5, 1) := by decide +kernel
theorem dX4_bin_35 : decode cX4_bin 35 = .ok (.ishr, 1) := by decide +kernel
theorem dX4_bin_36 : decode cX4_bin 36 = .ok (.if_icmp .ne 12, 3) := by decide +kernel
theorem dX4_bin_39 : decode cX4_bin 39 = .ok (.iconst 3, 1) := by decide +kernel
theorem dX4_bin_40 : decode cX4_bin 40 = .ok (.aload_n 0, 1) := by decide +kernel
theorem dX4_bin_41 : decode cX4_bin 41 = .ok (.getfield 31, 3) := by decide +kernel
theorem dX4_bin_44 : decode cX4_bin 44 = .ok (.iconst 5, 1) := by decide +kernel
theorem dX4_bin_45 : decode cX4_bin 45 = .ok (.ishr, 1) := by decide +kernel
theorem dX4_bin_46 : decode cX4_bin 46 = .ok (.iadd, 1) := by decide +kernel
theorem dX4_bin_47 : decode cX4_bin 47 = .ok (.ireturn, 1) := by decide +kernel
theorem dX4_bin_48 : decode cX4_bin 48 = .ok (.aload_n 0, 1) := by decide +kernel
theorem dX4_bin_49 : decode cX4_bin 49 = .ok (.getfield 31, 3) := by decide +kernel
theorem dX4_bin_52 : decode cX4_bin 52 = .ok (.bipush 7, 2) := by decide +kernel
theorem dX4_bin_54 : decode cX4_bin 54 = .ok (.ishr, 1) := by decide +kernel
theorem dX4_bin_55 : decode cX4_bin 55 = .ok (.iload_n 1, 1) := by decide +kernel
theorem dX4_bin_56 : decode cX4_bin 56 = .ok (.bipush 7, 2) := by decide +kernel
theorem dX4_bin_58 : decode cX4_bin 58 = .ok (.ishr, 1) := by decide +kernel
theorem dX4_bin_59 : decode cX4_bin 59 = .ok (.if_icmp .ne 13, 3) := by decide +kernel
theorem dX4_bin_62 : decode cX4_bin 62 = .ok (.iconst 1, 1) := by decide +kernel
theorem dX4_bin_63 : decode cX4_bin 63 = .ok (.aload_n 0, 1) := by decide +kernel
theorem dX4_bin_64 : decode cX4_bin 64 = .ok (.getfield 31, 3) := by decide +kernel
theorem dX4_bin_67 : decode cX4_bin 67 = .ok (.bipush 7, 2) := by decide +kernel
theorem dX4_bin_69 : decode cX4_bin 69 = .ok (.ishr, 1) := by decide +kernel
theorem dX4_bin_70 : decode cX4_bin 70 = .ok (.iadd, 1) := by decide +kernel
theorem dX4_bin_71 : decode cX4_bin 71 = .ok (.ireturn, 1) := by decide +kernel
theorem dX4_bin_72 : decode cX4_bin 72 = .ok (.iconst 0, 1) := by decide +kernel
theorem dX4_bin_73 : decode cX4_bin 73 = .ok (.ireturn, 1) := by decide +kernel
theorem dX4_trim_0 : decode cX4_trim 0 = .ok (.iconst 1, 1) := by decide +kernel
theorem dX4_trim_1 : decode cX4_trim 1 = .ok (.istore_n 2, 1) := by decide +kernel
theorem dX4_trim_2 : decode cX4_trim 2 = .ok (.iconst 0, 1) := by decide +kernel
theorem dX4_trim_3 : decode cX4_trim 3 = .ok (.istore_n 3, 1) := by decide +kernel
theorem dX4_trim_4 : decode cX4_trim 4 = .ok (.iload_n 2, 1) := by decide +kernel
theorem dX4_trim_5 : decode cX4_trim 5 = .ok (.ifCond .eq 37, 3) := by decide +kernel
theorem dX4_trim_8 : decode cX4_trim 8 = .ok (.iload_n 3, 1) := by decide +kernel
theorem dX4_trim_9 : decode cX4_trim 9 = .ok (.sipush 1000, 3) := by decide +kernel
theorem dX4_trim_12 : decode cX4_trim 12 = .ok (.if_icmp .ge 30, 3) := by decide +kernel
theorem dX4_trim_15 : decode cX4_trim 15 = .ok (.aload_n 0, 1) := by decide +kernel
theorem dX4_trim_16 : decode cX4_trim 16 = .ok (.aload_n 1, 1) := by decide +kernel
theorem dX4_trim_17 : decode cX4_trim 17 = .ok (.invokevirtual 59, 3) := by decide +kernel
theorem dX4_trim_20 : decode cX4_trim 20 = .ok (.ifCond .ne 10, 3) := by decide +kernel
theorem dX4_trim_23 : decode cX4_trim 23 = .ok (.aload_n 0, 1) := by decide +kernel
theorem dX4_trim_24 : decode cX4_trim 24 = .ok (.invokevirtual 63, 3) := by decide +kernel
theorem dX4_trim_27 : decode cX4_trim 27 = .ok (.ifCond .eq 7, 3) := by decide +kernel
theorem dX4_trim_30 : decode cX4_trim 30 = .ok (.iconst 1, 1) := by decide +kernel
theorem dX4_trim_31 : decode cX4_trim 31 = .ok (.goto 4, 3) := by decide +kernel
theorem dX4_trim_34 : decode cX4_trim 34 = .ok (.iconst 0, 1) := by decide +kernel
theorem dX4_trim_35 : decode cX4_trim 35 = .ok (.istore_n 2, 1) := by decide +kernel
theorem dX4_trim_36 : decode cX4_trim 36 = .ok (.iinc 3 1, 3) := by decide +kernel
theorem dX4_trim_39 : decode cX4_trim 39 = .ok (.goto (-35), 3) := by decide +kernel
theorem dX4_trim_42 : decode cX4_trim 42 = .ok (.return_, 1) := by decide +kernel
theorem dX4_trimEnd_0 : decode cX4_trimEnd 0 = .ok (.aload_n 0, 1) := by decide +kernel
theorem dX4_trimEnd_1 : decode cX4_trimEnd 1 = .ok (.invokevirtual 67, 3) := by decide +kernel
theorem dX4_trimEnd_4 : decode cX4_trimEnd 4 = .ok (.ifCond .eq 19, 3) := by decide +kernel
theorem dX4_trimEnd_7 : decode cX4_trimEnd 7 = .ok (.aload_n 0, 1) := by decide +kernel
theorem dX4_trimEnd_8 : decode cX4_trimEnd 8 = .ok (.getfield 31, 3) := by decide +kernel
theorem dX4_trimEnd_11 : decode cX4_trimEnd 11 = .ok (.iconst 1, 1) := by decide +kernel
theorem dX4_trimEnd_12 : decode cX4_trimEnd 12 = .ok (.if_icmp .ne 13, 3) := by decide +kernel
theorem dX4_trimEnd_15 : decode cX4_trimEnd 15 = .ok (.aload_n 0, 1) := by decide +kernel
theorem dX4_trimEnd_16 : decode cX4_trimEnd 16 = .ok (.invokevirtual 70, 3) := by decide +kernel
theorem dX4_trimEnd_19 : decode cX4_trimEnd 19 = .ok (.iconst 2, 1) := by decide +kernel
theorem dX4_trimEnd_20 : decode cX4_trimEnd 20 = .ok (.if_icmp .ge 5, 3) := by decide +kernel
theorem dX4_trimEnd_23 : decode cX4_trimEnd 23 = .ok (.iconst 0, 1) := by decide +kernel
theorem dX4_trimEnd_24 : decode cX4_trimEnd 24 = .ok (.ireturn, 1) := by decide +kernel
theorem dX4_trimEnd_25 : decode cX4_trimEnd 25 = .ok (.iconst 0, 1) := by decide +kernel
theorem dX4_trimEnd_26 : decode cX4_trimEnd 26 = .ok (.istore_n 2, 1) := by decide +kernel
theorem dX4_trimEnd_27 : decode cX4_trimEnd 27 = .ok (.iload_n 2, 1) := by decide +kernel
theorem dX4_trimEnd_28 : decode cX4_trimEnd 28 = .ok (.aload_n 0, 1) := by decide +kernel
theorem dX4_trimEnd_29 : decode cX4_trimEnd 29 = .ok (.getfield 38, 3) := by decide +kernel
theorem dX4_trimEnd_32 : decode cX4_trimEnd 32 = .ok (.if_icmp .ge 33, 3) := by decide +kernel
theorem dX4_trimEnd_35 : decode cX4_trimEnd 35 = .ok (.aload_n 0, 1) := by decide +kernel
theorem dX4_trimEnd_36 : decode cX4_trimEnd 36 = .ok (.getfield 9, 3) := by decide +kernel
theorem dX4_trimEnd_39 : decode cX4_trimEnd 39 = .ok (.iload_n 2, 1) := by decide +kernel
theorem dX4_trimEnd_40 : decode cX4_trimEnd 40 = .ok (.aload_n 0, 1) := by decide +kernel
theorem dX4_trimEnd_41 : decode cX4_trimEnd 41 = .ok (.getfield 9, 3) := by decide +kernel
theorem dX4_trimEnd_44 : decode cX4_trimEnd 44 = .ok (.iload_n 2, 1) := by decide +kernel
theorem dX4_trimEnd_45 : decode cX4_trimEnd 45 = .ok (.iaload, 1) := by decide +kernel
theorem dX4_trimEnd_46 : decode cX4_trimEnd 46 = .ok (.iconst 2, 1) := by decide +kernel
theorem dX4_trimEnd_47 : decode cX4_trimEnd 47 = .ok (.ishr, 1) := by decide +kernel
theorem dX4_trimEnd_48 : decode cX4_trimEnd 48 = .ok (.iastore, 1) := by decide +kernel
theorem dX4_trimEnd_49 : decode cX4_trimEnd 49 = .ok (.aload_n 0, 1) := by decide +kernel
theorem dX4_trimEnd_50 : decode cX4_trimEnd 50 = .ok (.getfield 15, 3) := by decide +kernel
theorem dX4_trimEnd_53 : decode cX4_trimEnd 53 = .ok (.iload_n 2, 1) := by decide +kernel
theorem dX4_trimEnd_54 : decode cX4_trimEnd 54 = .ok (.dup2, 1) := by decide +kernel
theorem dX4_trimEnd_55 : decode cX4_trimEnd 55 = .ok (.iaload, 1) := by decide +kernel
theorem dX4_trimEnd_56 : decode cX4_trimEnd 56 = .ok (.iconst 1, 1) := by decide +kernel
theorem dX4_trimEnd_57 : decode cX4_trimEnd 57 = .ok (.isub, 1) := by decide +kernel
theorem dX4_trimEnd_58 : decode cX4_trimEnd 58 = .ok (.iastore, 1) := by decide +kernel
theorem dX4_trimEnd_59 : decode cX4_trimEnd 59 = .ok (.iinc 2 1, 3) := by decide +kernel
theorem dX4_trimEnd_62 : decode cX4_trimEnd 62 = .ok (.goto (-35), 3) := by decide +kernel
theorem dX4_trimEnd_65 : decode cX4_trimEnd 65 = .ok (.aload_n 0, 1) := by decide +kernel
theorem dX4_trimEnd_66 : decode cX4_trimEnd 66 = .ok (.invokevirtual 70, 3) := by decide +kernel
theorem dX4_trimEnd_69 : decode cX4_trimEnd 69 = .ok (.ifCond .ne 26, 3) := by decide +kernel
theorem dX4_trimEnd_72 : decode cX4_trimEnd 72 = .ok (.aload_n 0, 1) := by decide +kernel
theorem dX4_trimEnd_73 : decode cX4_trimEnd 73 = .ok (.dup, 1) := by decide +kernel
theorem dX4_trimEnd_74 : decode cX4_trimEnd 74 = .ok (.getfield 31, 3) := by decide +kernel
theorem dX4_trimEnd_77 : decode cX4_trimEnd 77 = .ok (.iconst 1, 1) := by decide +kernel
theorem dX4_trimEnd_78 : decode cX4_trimEnd 78 = .ok (.isub, 1) := by decide +kernel
theorem dX4_trimEnd_79 : decode cX4_trimEnd 79 = .ok (.putfield 31, 3) := by decide +kernel
theorem dX4_trimEnd_82 : decode cX4_trimEnd 82 = .ok (.aload_n 0, 1) := by decide +kernel
theorem dX4_trimEnd_83 : decode cX4_trimEnd 83 = .ok (.aload_n 1, 1) := by decide +kernel
theorem dX4_trimEnd_84 : decode cX4_trimEnd 84 = .ok (.aload_n 0, 1) := by decide +kernel
theorem dX4_trimEnd_85 : decode cX4_trimEnd 85 = .ok (.getfield 31, 3) := by decide +kernel
theorem dX4_trimEnd_88 : decode cX4_trimEnd 88 = .ok (.iconst 1, 1) := by decide +kernel
theorem dX4_trimEnd_89 : decode cX4_trimEnd 89 = .ok (.invokevirtual 73, 3) := by decide +kernel
theorem dX4_trimEnd_92 : decode cX4_trimEnd 92 = .ok (.invokevirtual 78, 3) := by decide +kernel
theorem dX4_trimEnd_95 : decode cX4_trimEnd 95 = .ok (.iconst 1, 1) := by decide +kernel
theorem dX4_trimEnd_96 : decode cX4_trimEnd 96 = .ok (.ireturn, 1) := by decide +kernel
theorem dX4_trimFront_0 : decode cX4_trimFront 0 = .ok (.aload_n 0, 1) := by decide +kernel
theorem dX4_trimFront_1 : decode cX4_trimFront 1 = .ok (.invokevirtual 70, 3) := by decide +kernel
theorem dX4_trimFront_4 : decode cX4_trimFront 4 = .ok (.iconst 2, 1) := by decide +kernel
theorem dX4_trimFront_5 : decode cX4_trimFront 5 = .ok (.if_icmp .lt 10, 3) := by decide +kernel
theorem dX4_trimFront_8 : decode cX4_trimFront 8 = .ok (.aload_n 0, 1) := by decide +kernel
theorem dX4_trimFront_9 : decode cX4_trimFront 9 = .ok (.invokevirtual 81, 3) := by decide +kernel
theorem dX4_trimFront_12 : decode cX4_trimFront 12 = .ok (.ifCond .ne 5, 3) := by decide +kernel
theorem dX4_trimFront_15 : decode cX4_trimFront 15 = .ok (.iconst 0, 1) := by decide +kernel
theorem dX4_trimFront_16 : decode cX4_trimFront 16 = .ok (.ireturn, 1) := by decide +kernel
theorem dX4_trimFront_17 : decode cX4_trimFront 17 = .ok (.iconst 0, 1) := by decide +kernel
theorem dX4_trimFront_18 : decode cX4_trimFront 18 = .ok (.istore_n 1, 1) := by decide +kernel
theorem dX4_trimFront_19 : decode cX4_trimFront 19 = .ok (.iload_n 1, 1) := by decide +kernel
theorem dX4_trimFront_20 : decode cX4_trimFront 20 = .ok (.aload_n 0, 1) := by decide +kernel
theorem dX4_trimFront_21 : decode cX4_trimFront 21 = .ok (.getfield 38, 3) := by decide +kernel
theorem dX4_trimFront_24 : decode cX4_trimFront 24 = .ok (.if_icmp .ge 41, 3) := by decide +kernel
theorem dX4_trimFront_27 : decode cX4_trimFront 27 = .ok (.aload_n 0, 1) := by decide +kernel
theorem dX4_trimFront_28 : decode cX4_trimFront 28 = .ok (.getfield 15, 3) := by decide +kernel
theorem dX4_trimFront_31 : decode cX4_trimFront 31 = .ok (.iload_n 1, 1) := by decide +kernel
theorem dX4_trimFront_32 : decode cX4_trimFront 32 = .ok (.dup2, 1) := by decide +kernel
theorem dX4_trimFront_33 : decode cX4_trimFront 33 = .ok (.iaload, 1) := by decide +kernel
theorem dX4_trimFront_34 : decode cX4_trimFront 34 = .ok (.iconst 1, 1) := by decide +kernel
theorem dX4_trimFront_35 : decode cX4_trimFront 35 = .ok (.isub, 1) := by decide +kernel
theorem dX4_trimFront_36 : decode cX4_trimFront 36 = .ok (.iastore, 1) := by decide +kernel
theorem dX4_trimFront_37 : decode cX4_trimFront 37 = .ok (.aload_n 0, 1) := by decide +kernel
theorem dX4_trimFront_38 : decode cX4_trimFront 38 = .ok (.getfield 9, 3) := by decide +kernel
theorem dX4_trimFront_41 : decode cX4_trimFront 41 = .ok (.iload_n 1, 1) := by decide +kernel
theorem dX4_trimFront_42 : decode cX4_trimFront 42 = .ok (.aload_n 0, 1) := by decide +kernel
theorem dX4_trimFront_43 : decode cX4_trimFront 43 = .ok (.getfield 9, 3) := by decide +kernel
theorem dX4_trimFront_46 : decode cX4_trimFront 46 = .ok (.iload_n 1, 1) := by decide +kernel
theorem dX4_trimFront_47 : decode cX4_trimFront 47 = .ok (.iaload, 1) := by decide +kernel
theorem dX4_trimFront_48 : decode cX4_trimFront 48 = .ok (.aload_n 0, 1) := by decide +kernel
theorem dX4_trimFront_49 : decode cX4_trimFront 49 = .ok (.getfield 15, 3) := by decide +kernel
theorem dX4_trimFront_52 : decode cX4_trimFront 52 = .ok (.iload_n 1, 1) := by decide +kernel
theorem dX4_trimFront_53 : decode cX4_trimFront 53 = .ok (.iaload, 1) := by decide +kernel
theorem dX4_trimFront_54 : decode cX4_trimFront 54 = .ok (.invokestatic 84, 3) := by decide +kernel
theorem dX4_trimFront_57 : decode cX4_trimFront 57 = .ok (.iand, 1) := by decide +kernel
theorem dX4_trimFront_58 : decode cX4_trimFront 58 = .ok (.iastore, 1) := by decide +kernel
theorem dX4_trimFront_59 : decode cX4_trimFront 59 = .ok (.iinc 1 1, 3) := by decide +kernel
theorem dX4_trimFront_62 : decode cX4_trimFront 62 = .ok (.goto (-43), 3) := by decide +kernel
theorem dX4_trimFront_65 : decode cX4_trimFront 65 = .ok (.aload_n 0, 1) := by decide +kernel
theorem dX4_trimFront_66 : decode cX4_trimFront 66 = .ok (.dup, 1) := by decide +kernel
theorem dX4_trimFront_67 : decode cX4_trimFront 67 = .ok (.getfield 31, 3) := by decide +kernel
theorem dX4_trimFront_70 : decode cX4_trimFront 70 = .ok (.iconst 1, 1) := by decide +kernel
theorem dX4_trimFront_71 : decode cX4_trimFront 71 = .ok (.iadd, 1) := by decide +kernel
theorem dX4_trimFront_72 : decode cX4_trimFront 72 = .ok (.putfield 31, 3) := by decide +kernel
theorem dX4_trimFront_75 : decode cX4_trimFront 75 = .ok (.iconst 1, 1) := by decide +kernel
theorem dX4_trimFront_76 : decode cX4_trimFront 76 = .ok (.ireturn, 1) := by decide +kernel
theorem dX4_putInFront_0 : decode cX4_putInFront 0 = .ok (.iconst 0, 1) := by decide +kernel
theorem dX4_putInFront_1 : decode cX4_putInFront 1 = .ok (.istore_n 2, 1) := by decide +kernel
theorem dX4_putInFront_2 : decode cX4_putInFront 2 = .ok (.iload_n 2, 1) := by decide +kernel
theorem dX4_putInFront_3 : decode cX4_putInFront 3 = .ok (.aload_n 0, 1) := by decide +kernel
theorem dX4_putInFront_4 : decode cX4_putInFront 4 = .ok (.getfield 38, 3) := by decide +kernel
theorem dX4_putInFront_7 : decode cX4_putInFront 7 = .ok (.if_icmp .ge 42, 3) := by decide +kernel
theorem dX4_putInFront_10 : decode cX4_putInFront 10 = .ok (.aload_n 0, 1) := by decide +kernel
theorem dX4_putInFront_11 : decode cX4_putInFront 11 = .ok (.getfield 9, 3) := by decide +kernel
theorem dX4_putInFront_14 : decode cX4_putInFront 14 = .ok (.iload_n 2, 1) := by decide +kernel
theorem dX4_putInFront_15 : decode cX4_putInFront 15 = .ok (.aload_n 0, 1) := by decide +kernel
theorem dX4_putInFront_16 : decode cX4_putInFront 16 = .ok (.getfield 9, 3) := by decide +kernel
theorem dX4_putInFront_19 : decode cX4_putInFront 19 = .ok (.iload_n 2, 1) := by decide +kernel
theorem dX4_putInFront_20 : decode cX4_putInFront 20 = .ok (.iaload, 1) := by decide +kernel
theorem dX4_putInFront_21 : decode cX4_putInFront 21 = .ok (.iload_n 1, 1) := by decide +kernel
theorem dX4_putInFront_22 : decode cX4_putInFront 22 = .ok (.iconst 2, 1) := by decide +kernel
theorem dX4_putInFront_23 : decode cX4_putInFront 23 = .ok (.aload_n 0, 1) := by decide +kernel
theorem dX4_putInFront_24 : decode cX4_putInFront 24 = .ok (.getfield 15, 3) := by decide +kernel
theorem dX4_putInFront_27 : decode cX4_putInFront 27 = .ok (.iload_n 2, 1) := by decide +kernel
theorem dX4_putInFront_28 : decode cX4_putInFront 28 = .ok (.iaload, 1) := by decide +kernel
theorem dX4_putInFront_29 : decode cX4_putInFront 29 = .ok (.imul, 1) := by decide +kernel
theorem dX4_putInFront_30 : decode cX4_putInFront 30 = .ok (.ishl, 1) := by decide +kernel
theorem dX4_putInFront_31 : decode cX4_putInFront 31 = .ok (.ior, 1) := by decide +kernel
theorem dX4_putInFront_32 : decode cX4_putInFront 32 = .ok (.iastore, 1) := by decide +kernel
theorem dX4_putInFront_33 : decode cX4_putInFront 33 = .ok (.aload_n 0, 1) := by decide +kernel
theorem dX4_putInFront_34 : decode cX4_putInFront 34 = .ok (.getfield 15, 3) := by decide +kernel
theorem dX4_putInFront_37 : decode cX4_putInFront 37 = .ok (.iload_n 2, 1) := by decide +kernel
theorem dX4_putInFront_38 : decode cX4_putInFront 38 = .ok (.dup2, 1) := by decide +kernel
theorem dX4_putInFront_39 : decode cX4_putInFront 39 = .ok (.iaload, 1) := by decide +kernel
theorem dX4_putInFront_40 : decode cX4_putInFront 40 = .ok (.iconst 1, 1) := by decide +kernel
theorem dX4_putInFront_41 : decode cX4_putInFront 41 = .ok (.iadd, 1) := by decide +kernel
theorem dX4_putInFront_42 : decode cX4_putInFront 42 = .ok (.iastore, 1) := by decide +kernel
theorem dX4_putInFront_43 : decode cX4_putInFront 43 = .ok (.iinc 2 1, 3) := by decide +kernel
theorem dX4_putInFront_46 : decode cX4_putInFront 46 = .ok (.goto (-44), 3) := by decide +kernel
theorem dX4_putInFront_49 : decode cX4_putInFront 49 = .ok (.return_, 1) := by decide +kernel
theorem dX4_shortest_0 : decode cX4_shortest 0 = .ok (.aload_n 0, 1) := by decide +kernel
theorem dX4_shortest_1 : decode cX4_shortest 1 = .ok (.getfield 15, 3) := by decide +kernel
theorem dX4_shortest_4 : decode cX4_shortest 4 = .ok (.iconst 0, 1) := by decide +kernel
theorem dX4_shortest_5 : decode cX4_shortest 5 = .ok (.iaload, 1) := by decide +kernel
theorem dX4_shortest_6 : decode cX4_shortest 6 = .ok (.istore_n 1, 1) := by decide +kernel
theorem dX4_shortest_7 : decode cX4_shortest 7 = .ok (.iconst 1, 1) := by decide +kernel
theorem dX4_shortest_8 : decode cX4_shortest 8 = .ok (.istore_n 2, 1) := by decide +kernel
theorem dX4_shortest_9 : decode cX4_shortest 9 = .ok (.iload_n 2, 1) := by decide +kernel
theorem dX4_shortest_10 : decode cX4_shortest 10 = .ok (.aload_n 0, 1) := by decide +kernel
theorem dX4_shortest_11 : decode cX4_shortest 11 = .ok (.getfield 38, 3) := by decide +kernel
theorem dX4_shortest_14 : decode cX4_shortest 14 = .ok (.if_icmp .ge 20, 3) := by decide +kernel
theorem dX4_shortest_17 : decode cX4_shortest 17 = .ok (.iload_n 1, 1) := by decide +kernel
theorem dX4_shortest_18 : decode cX4_shortest 18 = .ok (.aload_n 0, 1) := by decide +kernel
theorem dX4_shortest_19 : decode cX4_shortest 19 = .ok (.getfield 15, 3) := by decide +kernel
theorem dX4_shortest_22 : decode cX4_shortest 22 = .ok (.iload_n 2, 1) := by decide +kernel
theorem dX4_shortest_23 : decode cX4_shortest 23 = .ok (.iaload, 1) := by decide +kernel
theorem dX4_shortest_24 : decode cX4_shortest 24 = .ok (.invokestatic 88, 3) := by decide +kernel
theorem dX4_shortest_27 : decode cX4_shortest 27 = .ok (.istore_n 1, 1) := by decide +kernel
theorem dX4_shortest_28 : decode cX4_shortest 28 = .ok (.iinc 2 1, 3) := by decide +kernel
theorem dX4_shortest_31 : decode cX4_shortest 31 = .ok (.goto (-22), 3) := by decide +kernel
theorem dX4_shortest_34 : decode cX4_shortest 34 = .ok (.iload_n 1, 1) := by decide +kernel
theorem dX4_shortest_35 : decode cX4_shortest 35 = .ok (.ireturn, 1) := by decide +kernel
theorem dX4_isLastBaseShared_0 : decode cX4_isLastBaseShared 0 = .ok (.iconst 1, 1) := by decide +kernel
theorem dX4_isLastBaseShared_1 : decode cX4_isLastBaseShared 1 = .ok (.istore_n 1, 1) := by decide +kernel
theorem dX4_isLastBaseShared_2 : decode cX4_isLastBaseShared 2 = .ok (.iload_n 1, 1) := by decide +kernel
theorem dX4_isLastBaseShared_3 : decode cX4_isLastBaseShared 3 = .ok (.aload_n 0, 1) := by decide +kernel
theorem dX4_isLastBaseShared_4 : decode cX4_isLastBaseShared 4 = .ok (.getfield 38, 3) := by decide +kernel
theorem dX4_isLastBaseShared_7 : decode cX4_isLastBaseShared 7 = .ok (.if_icmp .ge 30, 3) := by decide +kernel
theorem dX4_isLastBaseShared_10 : decode cX4_isLastBaseShared 10 = .ok (.aload_n 0, 1) := by decide +kernel
theorem dX4_isLastBaseShared_11 : decode cX4_isLastBaseShared 11 = .ok (.getfield 9, 3) := by decide +kernel
theorem dX4_isLastBaseShared_14 : decode cX4_isLastBaseShared 14 = .ok (.iload_n 1, 1) := by decide +kernel
theorem dX4_isLastBaseShared_15 : decode cX4_isLastBaseShared 15 = .ok (.iaload, 1) := by decide +kernel
theorem dX4_isLastBaseShared_16 : decode cX4_isLastBaseShared 16 = .ok (.iconst 3, 1) := by decide +kernel
theorem dX4_isLastBaseShared_17 : decode cX4_isLastBaseShared 17 = .ok (.iand, 1) := by decide +kernel
theorem dX4_isLastBaseShared_18 : decode cX4_isLastBaseShared 18 = .ok (.aload_n 0, 1) := by decide +kernel
theorem dX4_isLastBaseShared_19 : decode cX4_isLastBaseShared 19 = .ok (.getfield 9, 3) := by decide +kernel
theorem dX4_isLastBaseShared_22 : decode cX4_isLastBaseShared 22 = .ok (.iconst 0, 1) := by decide +kernel
theorem dX4_isLastBaseShared_23 : decode cX4_isLastBaseShared 23 = .ok (.iaload, 1) := by decide +kernel
theorem dX4_isLastBaseShared_24 : decode cX4_isLastBaseShared 24 = .ok (.iconst 3, 1) := by decide +kernel
theorem dX4_isLastBaseShared_25 : decode cX4_isLastBaseShared 25 = .ok (.iand, 1) := by decide +kernel
theorem dX4_isLastBaseShared_26 : decode cX4_isLastBaseShared 26 = .ok (.if_icmp .eq 5, 3) := by decide +kernel
theorem dX4_isLastBaseShared_29 : decode cX4_isLastBaseShared 29 = .ok (.iconst 0, 1) := by decide +kernel
theorem dX4_isLastBaseShared_30 : decode cX4_isLastBaseShared 30 = .ok (.ireturn, 1) := by decide +kernel
theorem dX4_isLastBaseShared_31 : decode cX4_isLastBaseShared 31 = .ok (.iinc 1 1, 3) := by decide +kernel
theorem dX4_isLastBaseShared_34 : decode cX4_isLastBaseShared 34 = .ok (.goto (-32), 3) := by decide +kernel
theorem dX4_isLastBaseShared_37 : decode cX4_isLastBaseShared 37 = .ok (.iconst 1, 1) := by decide +kernel
theorem dX4_isLastBaseShared_38 : decode cX4_isLastBaseShared 38 = .ok (.ireturn, 1) := by decide +kernel
theorem dX4_isFirstBaseShared_0 : decode cX4_isFirstBaseShared 0 = .ok (.aload_n 0, 1) := by decide +kernel
theorem dX4_isFirstBaseShared_1 : decode cX4_isFirstBaseShared 1 = .ok (.getfield 9, 3) := by decide +kernel
theorem dX4_isFirstBaseShared_4 : decode cX4_isFirstBaseShared 4 = .ok (.iconst 0, 1) := by decide +kernel
theorem dX4_isFirstBaseShared_5 : decode cX4_isFirstBaseShared 5 = .ok (.iaload, 1) := by decide +kernel
theorem dX4_isFirstBaseShared_6 : decode cX4_isFirstBaseShared 6 = .ok (.i2l, 1) := by decide +kernel
theorem dX4_isFirstBaseShared_7 : decode cX4_isFirstBaseShared 7 = .ok (.aload_n 0, 1) := by decide +kernel
theorem dX4_isFirstBaseShared_8 : decode cX4_isFirstBaseShared 8 = .ok (.getfield 15, 3) := by decide +kernel
theorem dX4_isFirstBaseShared_11 : decode cX4_isFirstBaseShared 11 = .ok (.iconst 0, 1) := by decide +kernel
theorem dX4_isFirstBaseShared_12 : decode cX4_isFirstBaseShared 12 = .ok (.iaload, 1) := by decide +kernel
theorem dX4_isFirstBaseShared_13 : decode cX4_isFirstBaseShared 13 = .ok (.iconst 0, 1) := by decide +kernel
theorem dX4_isFirstBaseShared_14 : decode cX4_isFirstBaseShared 14 = .ok (.invokestatic 93, 3) := by decide +kernel
theorem dX4_isFirstBaseShared_17 : decode cX4_isFirstBaseShared 17 = .ok (.istore_n 1, 1) := by decide +kernel
theorem dX4_isFirstBaseShared_18 : decode cX4_isFirstBaseShared 18 = .ok (.iconst 1, 1) := by decide +kernel
theorem dX4_isFirstBaseShared_19 : decode cX4_isFirstBaseShared 19 = .ok (.istore_n 2, 1) := by decide +kernel
theorem dX4_isFirstBaseShared_20 : decode cX4_isFirstBaseShared 20 = .ok (.iload_n 2, 1) := by decide +kernel
theorem dX4_isFirstBaseShared_21 : decode cX4_isFirstBaseShared 21 = .ok (.aload_n 0, 1) := by decide +kernel
theorem dX4_isFirstBaseShared_22 : decode cX4_isFirstBaseShared 22 = .ok (.getfield 38, 3) := by decide +kernel
theorem dX4_isFirstBaseShared_25 : decode cX4_isFirstBaseShared 25 = .ok (.if_icmp .ge 32, 3) := by decide +kernel
theorem dX4_isFirstBaseShared_28 : decode cX4_isFirstBaseShared 28 = .ok (.aload_n 0, 1) := by decide +kernel
theorem dX4_isFirstBaseShared_29 : decode cX4_isFirstBaseShared 29 = .ok (.getfield 9, 3) := by decide +kernel
theorem dX4_isFirstBaseShared_32 : decode cX4_isFirstBaseShared 32 = .ok (.iload_n 2, 1) := by decide +kernel
theorem dX4_isFirstBaseShared_33 : decode cX4_isFirstBaseShared 33 = .ok (.iaload, 1) := by decide +kernel
theorem dX4_isFirstBaseShared_34 : decode cX4_isFirstBaseShared 34 = .ok (.i2l, 1) := by decide +kernel
theorem dX4_isFirstBaseShared_35 : decode cX4_isFirstBaseShared 35 = .ok (.aload_n 0, 1) := by decide +kernel
theorem dX4_isFirstBaseShared_36 : decode cX4_isFirstBaseShared 36 = .ok (.getfield 15, 3) := by decide +kernel
theorem dX4_isFirstBaseShared_39 : decode cX4_isFirstBaseShared 39 = .ok (.iload_n 2, 1) := by decide +kernel
theorem dX4_isFirstBaseShared_40 : decode cX4_isFirstBaseShared 40 = .ok (.iaload, 1) := by decide +kernel
theorem dX4_isFirstBaseShared_41 : decode cX4_isFirstBaseShared 41 = .ok (.iconst 0, 1) := by decide +kernel
theorem dX4_isFirstBaseShared_42 : decode cX4_isFirstBaseShared 42 = .ok (.invokestatic 93, 3) := by decide +kernel
theorem dX4_isFirstBaseShared_45 : decode cX4_isFirstBaseShared 45 = .ok (.iload_n 1, 1) := by decide +kernel
theorem dX4_isFirstBaseShared_46 : decode cX4_isFirstBaseShared 46 = .ok (.if_icmp .eq 5, 3) := by decide +kernel
theorem dX4_isFirstBaseShared_49 : decode cX4_isFirstBaseShared 49 = .ok (.iconst 0, 1) := by decide +kernel
theorem dX4_isFirstBaseShared_50 : decode cX4_isFirstBaseShared 50 = .ok (.ireturn, 1) := by decide +kernel
theorem dX4_isFirstBaseShared_51 : decode cX4_isFirstBaseShared 51 = .ok (.iinc 2 1, 3) := by decide +kernel
theorem dX4_isFirstBaseShared_54 : decode cX4_isFirstBaseShared 54 = .ok (.goto (-34), 3) := by decide +kernel
theorem dX4_isFirstBaseShared_57 : decode cX4_isFirstBaseShared 57 = .ok (.iconst 1, 1) := by decide +kernel
theorem dX4_isFirstBaseShared_58 : decode cX4_isFirstBaseShared 58 = .ok (.ireturn, 1) := by decide +kernel
theorem dX4_becomePart_0 : decode cX4_becomePart 0 = .ok (.aload_n 0, 1) := by decide +kernel
theorem dX4_becomePart_1 : decode cX4_becomePart 1 = .ok (.invokevirtual 97, 3) := by decide +kernel
theorem dX4_becomePart_4 : decode cX4_becomePart 4 = .ok (.aload_n 0, 1) := by decide +kernel
theorem dX4_becomePart_5 : decode cX4_becomePart 5 = .ok (.aload_n 1, 1) := by decide +kernel
theorem dX4_becomePart_6 : decode cX4_becomePart 6 = .ok (.getfield 31, 3) := by decide +kernel
theorem dX4_becomePart_9 : decode cX4_becomePart 9 = .ok (.putfield 31, 3) := by decide +kernel
theorem dX4_becomePart_12 : decode cX4_becomePart 12 = .ok (.aload_n 0, 1) := by decide +kernel
theorem dX4_becomePart_13 : decode cX4_becomePart 13 = .ok (.aload_n 1, 1) := by decide +kernel
theorem dX4_becomePart_14 : decode cX4_becomePart 14 = .ok (.getfield 35, 3) := by decide +kernel
theorem dX4_becomePart_17 : decode cX4_becomePart 17 = .ok (.putfield 35, 3) := by decide +kernel
theorem dX4_becomePart_20 : decode cX4_becomePart 20 = .ok (.aload_n 0, 1) := by decide +kernel
theorem dX4_becomePart_21 : decode cX4_becomePart 21 = .ok (.aload_n 1, 1) := by decide +kernel
theorem dX4_becomePart_22 : decode cX4_becomePart 22 = .ok (.iconst 0, 1) := by decide +kernel
theorem dX4_becomePart_23 : decode cX4_becomePart 23 = .ok (.invokevirtual 100, 3) := by decide +kernel
theorem dX4_becomePart_26 : decode cX4_becomePart 26 = .ok (.aload_n 0, 1) := by decide +kernel
theorem dX4_becomePart_27 : decode cX4_becomePart 27 = .ok (.aload_n 1, 1) := by decide +kernel
theorem dX4_becomePart_28 : decode cX4_becomePart 28 = .ok (.iload_n 2, 1) := by decide +kernel
theorem dX4_becomePart_29 : decode cX4_becomePart 29 = .ok (.invokevirtual 100, 3) := by decide +kernel
theorem dX4_becomePart_32 : decode cX4_becomePart 32 = .ok (.iconst 0, 1) := by decide +kernel
theorem dX4_becomePart_33 : decode cX4_becomePart 33 = .ok (.istore_n 3, 1) := by decide +kernel
theorem dX4_becomePart_34 : decode cX4_becomePart 34 = .ok (.iload_n 3, 1) := by decide +kernel
theorem dX4_becomePart_35 : decode cX4_becomePart 35 = .ok (.iconst 4, 1) := by decide +kernel
theorem dX4_becomePart_36 : decode cX4_becomePart 36 = .ok (.if_icmp .ge 44, 3) := by decide +kernel
theorem dX4_becomePart_39 : decode cX4_becomePart 39 = .ok (.aload_n 1, 1) := by decide +kernel
theorem dX4_becomePart_40 : decode cX4_becomePart 40 = .ok (.getfield 21, 3) := by decide +kernel
theorem dX4_becomePart_43 : decode cX4_becomePart 43 = .ok (.iload_n 3, 1) := by decide +kernel
theorem dX4_becomePart_44 : decode cX4_becomePart 44 = .ok (.iaload, 1) := by decide +kernel
theorem dX4_becomePart_45 : decode cX4_becomePart 45 = .ok (.istore 4, 2) := by decide +kernel
theorem dX4_becomePart_47 : decode cX4_becomePart 47 = .ok (.aload_n 0, 1) := by decide +kernel
theorem dX4_becomePart_48 : decode cX4_becomePart 48 = .ok (.getfield 21, 3) := by decide +kernel
theorem dX4_becomePart_51 : decode cX4_becomePart 51 = .ok (.iload_n 3, 1) := by decide +kernel
theorem dX4_becomePart_52 : decode cX4_becomePart 52 = .ok (.iload 4, 2) := by decide +kernel
theorem dX4_becomePart_54 : decode cX4_becomePart 54 = .ok (.iconst (-1), 1) := by decide +kernel
theorem dX4_becomePart_55 : decode cX4_becomePart 55 = .ok (.if_icmp .ne 7, 3) := by decide +kernel
theorem dX4_becomePart_58 : decode cX4_becomePart 58 = .ok (.iconst (-1), 1) := by decide +kernel
theorem dX4_becomePart_59 : decode cX4_becomePart 59 = .ok (.goto 14, 3) := by decide +kernel
theorem dX4_becomePart_62 : decode cX4_becomePart 62 = .ok (.iload 4, 2) := by decide +kernel
theorem dX4_becomePart_64 : decode cX4_becomePart 64 = .ok (.iload_n 2, 1) := by decide +kernel
theorem dX4_becomePart_65 : decode cX4_becomePart 65 = .ok (.if_icmp .ne 7, 3) := by decide +kernel
theorem dX4_becomePart_68 : decode cX4_becomePart 68 = .ok (.iconst 1, 1) := by decide +kernel
theorem dX4_becomePart_69 : decode cX4_becomePart 69 = .ok (.goto 4, 3) := by decide +kernel
theorem dX4_becomePart_72 : decode cX4_becomePart 72 = .ok (.iconst 0, 1) := by decide +kernel
theorem dX4_becomePart_73 : decode cX4_becomePart 73 = .ok (.iastore, 1) := by decide +kernel
theorem dX4_becomePart_74 : decode cX4_becomePart 74 = .ok (.iinc 3 1, 3) := by decide +kernel
theorem dX4_becomePart_77 : decode cX4_becomePart 77 = .ok (.goto (-43), 3) := by decide +kernel
theorem dX4_becomePart_80 : decode cX4_becomePart 80 = .ok (.iconst 0, 1) := by decide +kernel
theorem dX4_becomePart_81 : decode cX4_becomePart 81 = .ok (.istore_n 3, 1) := by decide +kernel
theorem dX4_becomePart_82 : decode cX4_becomePart 82 = .ok (.iload_n 3, 1) := by decide +kernel
theorem dX4_becomePart_83 : decode cX4_becomePart 83 = .ok (.iconst 2, 1) := by decide +kernel
theorem dX4_becomePart_84 : decode cX4_becomePart 84 = .ok (.if_icmp .ge 85, 3) := by decide +kernel
theorem dX4_becomePart_87 : decode cX4_becomePart 87 = .ok (.aload_n 0, 1) := by decide +kernel
theorem dX4_becomePart_88 : decode cX4_becomePart 88 = .ok (.getfield 24, 3) := by decide +kernel
theorem dX4_becomePart_91 : decode cX4_becomePart 91 = .ok (.iload_n 3, 1) := by decide +kernel
theorem dX4_becomePart_92 : decode cX4_becomePart 92 = .ok (.aload_n 1, 1) := by decide +kernel
theorem dX4_becomePart_93 : decode cX4_becomePart 93 = .ok (.getfield 24, 3) := by decide +kernel
theorem dX4_becomePart_96 : decode cX4_becomePart 96 = .ok (.iload_n 3, 1) := by decide +kernel
theorem dX4_becomePart_97 : decode cX4_becomePart 97 = .ok (.baload, 1) := by decide +kernel
theorem dX4_becomePart_98 : decode cX4_becomePart 98 = .ok (.bastore, 1) := by decide +kernel
theorem dX4_becomePart_99 : decode cX4_becomePart 99 = .ok (.bipush 10, 2) := by decide +kernel
theorem dX4_becomePart_101 : decode cX4_becomePart 101 = .ok (.iload_n 3, 1) := by decide +kernel
theorem dX4_becomePart_102 : decode cX4_becomePart 102 = .ok (.imul, 1) := by decide +kernel
theorem dX4_becomePart_103 : decode cX4_becomePart 103 = .ok (.istore 4, 2) := by decide +kernel
theorem dX4_becomePart_105 : decode cX4_becomePart 105 = .ok (.aload_n 0, 1) := by decide +kernel
theorem dX4_becomePart_106 : decode cX4_becomePart 106 = .ok (.getfield 28, 3) := by decide +kernel
theorem dX4_becomePart_109 : decode cX4_becomePart 109 = .ok (.iload 4, 2) := by decide +kernel
theorem dX4_becomePart_111 : decode cX4_becomePart 111 = .ok (.aload_n 1, 1) := by decide +kernel
theorem dX4_becomePart_112 : decode cX4_becomePart 112 = .ok (.getfield 28, 3) := by decide +kernel
theorem dX4_becomePart_115 : decode cX4_becomePart 115 = .ok (.iload 4, 2) := by decide +kernel
theorem dX4_becomePart_117 : decode cX4_becomePart 117 = .ok (.iaload, 1) := by decide +kernel
theorem dX4_becomePart_118 : decode cX4_becomePart 118 = .ok (.iastore, 1) := by decide +kernel
theorem dX4_becomePart_119 : decode cX4_becomePart 119 = .ok (.aload_n 0, 1) := by decide +kernel
theorem dX4_becomePart_120 : decode cX4_becomePart 120 = .ok (.getfield 28, 3) := by decide +kernel
theorem dX4_becomePart_123 : decode cX4_becomePart 123 = .ok (.iload 4, 2) := by decide +kernel
theorem dX4_becomePart_125 : decode cX4_becomePart 125 = .ok (.iconst 1, 1) := by decide +kernel
theorem dX4_becomePart_126 : decode cX4_becomePart 126 = .ok (.iadd, 1) := by decide +kernel
theorem dX4_becomePart_127 : decode cX4_becomePart 127 = .ok (.aload_n 1, 1) := by decide +kernel
theorem dX4_becomePart_128 : decode cX4_becomePart 128 = .ok (.getfield 28, 3) := by decide +kernel
theorem dX4_becomePart_131 : decode cX4_becomePart 131 = .ok (.iload 4, 2) := by decide +kernel
theorem dX4_becomePart_133 : decode cX4_becomePart 133 = .ok (.iconst 0, 1) := by decide +kernel
theorem dX4_becomePart_134 : decode cX4_becomePart 134 = .ok (.iload_n 2, 1) := by decide +kernel
theorem dX4_becomePart_135 : decode cX4_becomePart 135 = .ok (.invokestatic 104, 3) := by decide +kernel
theorem dX4_becomePart_138 : decode cX4_becomePart 138 = .ok (.iadd, 1) := by decide +kernel
theorem dX4_becomePart_139 : decode cX4_becomePart 139 = .ok (.iaload, 1) := by decide +kernel
theorem dX4_becomePart_140 : decode cX4_becomePart 140 = .ok (.iastore, 1) := by decide +kernel
theorem dX4_becomePart_141 : decode cX4_becomePart 141 = .ok (.aload_n 0, 1) := by decide +kernel
theorem dX4_becomePart_142 : decode cX4_becomePart 142 = .ok (.getfield 28, 3) := by decide +kernel
theorem dX4_becomePart_145 : decode cX4_becomePart 145 = .ok (.iload 4, 2) := by decide +kernel
theorem dX4_becomePart_147 : decode cX4_becomePart 147 = .ok (.iconst 2, 1) := by decide +kernel
theorem dX4_becomePart_148 : decode cX4_becomePart 148 = .ok (.iadd, 1) := by decide +kernel
theorem dX4_becomePart_149 : decode cX4_becomePart 149 = .ok (.aload_n 1, 1) := by decide +kernel
theorem dX4_becomePart_150 : decode cX4_becomePart 150 = .ok (.getfield 28, 3) := by decide +kernel
theorem dX4_becomePart_153 : decode cX4_becomePart 153 = .ok (.iload 4, 2) := by decide +kernel
theorem dX4_becomePart_155 : decode cX4_becomePart 155 = .ok (.iload_n 2, 1) := by decide +kernel
theorem dX4_becomePart_156 : decode cX4_becomePart 156 = .ok (.iload_n 2, 1) := by decide +kernel
theorem dX4_becomePart_157 : decode cX4_becomePart 157 = .ok (.invokestatic 104, 3) := by decide +kernel
theorem dX4_becomePart_160 : decode cX4_becomePart 160 = .ok (.iadd, 1) := by decide +kernel
theorem dX4_becomePart_161 : decode cX4_becomePart 161 = .ok (.iaload, 1) := by decide +kernel
theorem dX4_becomePart_162 : decode cX4_becomePart 162 = .ok (.iastore, 1) := by decide +kernel
theorem dX4_becomePart_163 : decode cX4_becomePart 163 = .ok (.iinc 3 1, 3) := by decide +kernel
theorem dX4_becomePart_166 : decode cX4_becomePart 166 = .ok (.goto (-84), 3) := by decide +kernel
theorem dX4_becomePart_169 : decode cX4_becomePart 169 = .ok (.return_, 1) := by decide +kernel
theorem dX4_appendAlleleOf_0 : decode cX4_appendAlleleOf 0 = .ok (.aload_n 0, 1) := by decide +kernel
theorem dX4_appendAlleleOf_1 : decode cX4_appendAlleleOf 1 = .ok (.aload_n 1, 1) := by decide +kernel
theorem dX4_appendAlleleOf_2 : decode cX4_appendAlleleOf 2 = .ok (.getfield 9, 3) := by decide +kernel
theorem dX4_appendAlleleOf_5 : decode cX4_appendAlleleOf 5 = .ok (.iload_n 2, 1) := by decide +kernel
theorem dX4_appendAlleleOf_6 : decode cX4_appendAlleleOf 6 = .ok (.iaload, 1) := by decide +kernel
theorem dX4_appendAlleleOf_7 : decode cX4_appendAlleleOf 7 = .ok (.aload_n 1, 1) := by decide +kernel
theorem dX4_appendAlleleOf_8 : decode cX4_appendAlleleOf 8 = .ok (.getfield 15, 3) := by decide +kernel
theorem dX4_appendAlleleOf_11 : decode cX4_appendAlleleOf 11 = .ok (.iload_n 2, 1) := by decide +kernel
theorem dX4_appendAlleleOf_12 : decode cX4_appendAlleleOf 12 = .ok (.iaload, 1) := by decide +kernel
theorem dX4_appendAlleleOf_13 : decode cX4_appendAlleleOf 13 = .ok (.invokevirtual 107, 3) := by decide +kernel
theorem dX4_appendAlleleOf_16 : decode cX4_appendAlleleOf 16 = .ok (.aload_n 0, 1) := by decide +kernel
theorem dX4_appendAlleleOf_17 : decode cX4_appendAlleleOf 17 = .ok (.getfield 18, 3) := by decide +kernel
theorem dX4_appendAlleleOf_20 : decode cX4_appendAlleleOf 20 = .ok (.aload_n 0, 1) := by decide +kernel
theorem dX4_appendAlleleOf_21 : decode cX4_appendAlleleOf 21 = .ok (.getfield 38, 3) := by decide +kernel
theorem dX4_appendAlleleOf_24 : decode cX4_appendAlleleOf 24 = .ok (.iconst 1, 1) := by decide +kernel
theorem dX4_appendAlleleOf_25 : decode cX4_appendAlleleOf 25 = .ok (.isub, 1) := by decide +kernel
theorem dX4_appendAlleleOf_26 : decode cX4_appendAlleleOf 26 = .ok (.aload_n 1, 1) := by decide +kernel
theorem dX4_appendAlleleOf_27 : decode cX4_appendAlleleOf 27 = .ok (.getfield 18, 3) := by decide +kernel
theorem dX4_appendAlleleOf_30 : decode cX4_appendAlleleOf 30 = .ok (.iload_n 2, 1) := by decide +kernel
theorem dX4_appendAlleleOf_31 : decode cX4_appendAlleleOf 31 = .ok (.iaload, 1) := by decide +kernel
theorem dX4_appendAlleleOf_32 : decode cX4_appendAlleleOf 32 = .ok (.iastore, 1) := by decide +kernel
theorem dX4_appendAlleleOf_33 : decode cX4_appendAlleleOf 33 = .ok (.return_, 1) := by decide +kernel
theorem dX4_lengthenLike_0 : decode cX4_lengthenLike 0 = .ok (.aload_n 1, 1) := by decide +kernel
theorem dX4_lengthenLike_1 : decode cX4_lengthenLike 1 = .ok (.getfield 15, 3) := by decide +kernel
theorem dX4_lengthenLike_4 : decode cX4_lengthenLike 4 = .ok (.iconst 0, 1) := by decide +kernel
theorem dX4_lengthenLike_5 : decode cX4_lengthenLike 5 = .ok (.iaload, 1) := by decide +kernel
theorem dX4_lengthenLike_6 : decode cX4_lengthenLike 6 = .ok (.aload_n 0, 1) := by decide +kernel
theorem dX4_lengthenLike_7 : decode cX4_lengthenLike 7 = .ok (.getfield 15, 3) := by decide +kernel
theorem dX4_lengthenLike_10 : decode cX4_lengthenLike 10 = .ok (.iconst 0, 1) := by decide +kernel
theorem dX4_lengthenLike_11 : decode cX4_lengthenLike 11 = .ok (.iaload, 1) := by decide +kernel
theorem dX4_lengthenLike_12 : decode cX4_lengthenLike 12 = .ok (.isub, 1) := by decide +kernel
theorem dX4_lengthenLike_13 : decode cX4_lengthenLike 13 = .ok (.istore_n 2, 1) := by decide +kernel
theorem dX4_lengthenLike_14 : decode cX4_lengthenLike 14 = .ok (.iload_n 2, 1) := by decide +kernel
theorem dX4_lengthenLike_15 : decode cX4_lengthenLike 15 = .ok (.ifCond .gt 4, 3) := by decide +kernel
theorem dX4_lengthenLike_18 : decode cX4_lengthenLike 18 = .ok (.return_, 1) := by decide +kernel
theorem dX4_lengthenLike_19 : decode cX4_lengthenLike 19 = .ok (.aload_n 1, 1) := by decide +kernel
theorem dX4_lengthenLike_20 : decode cX4_lengthenLike 20 = .ok (.getfield 9, 3) := by decide +kernel
theorem dX4_lengthenLike_23 : decode cX4_lengthenLike 23 = .ok (.iconst 0, 1) := by decide +kernel
theorem dX4_lengthenLike_24 : decode cX4_lengthenLike 24 = .ok (.iaload, 1) := by decide +kernel
theorem dX4_lengthenLike_25 : decode cX4_lengthenLike 25 = .ok (.iload_n 2, 1) := by decide +kernel
theorem dX4_lengthenLike_26 : decode cX4_lengthenLike 26 = .ok (.invokestatic 84, 3) := by decide +kernel
theorem dX4_lengthenLike_29 : decode cX4_lengthenLike 29 = .ok (.iand, 1) := by decide +kernel
theorem dX4_lengthenLike_30 : decode cX4_lengthenLike 30 = .ok (.istore_n 3, 1) := by decide +kernel
theorem dX4_lengthenLike_31 : decode cX4_lengthenLike 31 = .ok (.iconst 0, 1) := by decide +kernel
theorem dX4_lengthenLike_32 : decode cX4_lengthenLike 32 = .ok (.istore 4, 2) := by decide +kernel
theorem dX4_lengthenLike_34 : decode cX4_lengthenLike 34 = .ok (.iload 4, 2) := by decide +kernel
theorem dX4_lengthenLike_36 : decode cX4_lengthenLike 36 = .ok (.aload_n 0, 1) := by decide +kernel
theorem dX4_lengthenLike_37 : decode cX4_lengthenLike 37 = .ok (.getfield 38, 3) := by decide +kernel
theorem dX4_lengthenLike_40 : decode cX4_lengthenLike 40 = .ok (.if_icmp .ge 40, 3) := by decide +kernel
theorem dX4_lengthenLike_43 : decode cX4_lengthenLike 43 = .ok (.aload_n 0, 1) := by decide +kernel
theorem dX4_lengthenLike_44 : decode cX4_lengthenLike 44 = .ok (.getfield 9, 3) := by decide +kernel
theorem dX4_lengthenLike_47 : decode cX4_lengthenLike 47 = .ok (.iload 4, 2) := by decide +kernel
theorem dX4_lengthenLike_49 : decode cX4_lengthenLike 49 = .ok (.aload_n 0, 1) := by decide +kernel
theorem dX4_lengthenLike_50 : decode cX4_lengthenLike 50 = .ok (.getfield 9, 3) := by decide +kernel
theorem dX4_lengthenLike_53 : decode cX4_lengthenLike 53 = .ok (.iload 4, 2) := by decide +kernel
theorem dX4_lengthenLike_55 : decode cX4_lengthenLike 55 = .ok (.iaload, 1) := by decide +kernel
theorem dX4_lengthenLike_56 : decode cX4_lengthenLike 56 = .ok (.iconst 2, 1) := by decide +kernel
theorem dX4_lengthenLike_57 : decode cX4_lengthenLike 57 = .ok (.iload_n 2, 1) := by decide +kernel
theorem dX4_lengthenLike_58 : decode cX4_lengthenLike 58 = .ok (.imul, 1) := by decide +kernel
theorem dX4_lengthenLike_59 : decode cX4_lengthenLike 59 = .ok (.ishl, 1) := by decide +kernel
theorem dX4_lengthenLike_60 : decode cX4_lengthenLike 60 = .ok (.iload_n 3, 1) := by decide +kernel
theorem dX4_lengthenLike_61 : decode cX4_lengthenLike 61 = .ok (.ior, 1) := by decide +kernel
theorem dX4_lengthenLike_62 : decode cX4_lengthenLike 62 = .ok (.iastore, 1) := by decide +kernel
theorem dX4_lengthenLike_63 : decode cX4_lengthenLike 63 = .ok (.aload_n 0, 1) := by decide +kernel
theorem dX4_lengthenLike_64 : decode cX4_lengthenLike 64 = .ok (.getfield 15, 3) := by decide +kernel
theorem dX4_lengthenLike_67 : decode cX4_lengthenLike 67 = .ok (.iload 4, 2) := by decide +kernel
theorem dX4_lengthenLike_69 : decode cX4_lengthenLike 69 = .ok (.dup2, 1) := by decide +kernel
theorem dX4_lengthenLike_70 : decode cX4_lengthenLike 70 = .ok (.iaload, 1) := by decide +kernel
theorem dX4_lengthenLike_71 : decode cX4_lengthenLike 71 = .ok (.iload_n 2, 1) := by decide +kernel
theorem dX4_lengthenLike_72 : decode cX4_lengthenLike 72 = .ok (.iadd, 1) := by decide +kernel
theorem dX4_lengthenLike_73 : decode cX4_lengthenLike 73 = .ok (.iastore, 1) := by decide +kernel
theorem dX4_lengthenLike_74 : decode cX4_lengthenLike 74 = .ok (.iinc 4 1, 3) := by decide +kernel
theorem dX4_lengthenLike_77 : decode cX4_lengthenLike 77 = .ok (.goto (-43), 3) := by decide +kernel
theorem dX4_lengthenLike_80 : decode cX4_lengthenLike 80 = .ok (.return_, 1) := by decide +kernel
theorem dX4_hasTooLongAllele_0 : decode cX4_hasTooLongAllele 0 = .ok (.iconst 0, 1) := by decide +kernel
theorem dX4_hasTooLongAllele_1 : decode cX4_hasTooLongAllele 1 = .ok (.istore_n 1, 1) := by decide +kernel
theorem dX4_hasTooLongAllele_2 : decode cX4_hasTooLongAllele 2 = .ok (.iload_n 1, 1) := by decide +kernel
theorem dX4_hasTooLongAllele_3 : decode cX4_hasTooLongAllele 3 = .ok (.aload_n 0, 1) := by decide +kernel
theorem dX4_hasTooLongAllele_4 : decode cX4_hasTooLongAllele 4 = .ok (.getfield 38, 3) := by decide +kernel
theorem dX4_hasTooLongAllele_7 : decode cX4_hasTooLongAllele 7 = .ok (.if_icmp .ge 22, 3) := by decide +kernel
theorem dX4_hasTooLongAllele_10 : decode cX4_hasTooLongAllele 10 = .ok (.aload_n 0, 1) := by decide +kernel
theorem dX4_hasTooLongAllele_11 : decode cX4_hasTooLongAllele 11 = .ok (.getfield 15, 3) := by decide +kernel
theorem dX4_hasTooLongAllele_14 : decode cX4_hasTooLongAllele 14 = .ok (.iload_n 1, 1) := by decide +kernel
theorem dX4_hasTooLongAllele_15 : decode cX4_hasTooLongAllele 15 = .ok (.iaload, 1) := by decide +kernel
theorem dX4_hasTooLongAllele_16 : decode cX4_hasTooLongAllele 16 = .ok (.bipush 8, 2) := by decide +kernel
theorem dX4_hasTooLongAllele_18 : decode cX4_hasTooLongAllele 18 = .ok (.if_icmp .le 5, 3) := by decide +kernel
theorem dX4_hasTooLongAllele_21 : decode cX4_hasTooLongAllele 21 = .ok (.iconst 1, 1) := by decide +kernel
theorem dX4_hasTooLongAllele_22 : decode cX4_hasTooLongAllele 22 = .ok (.ireturn, 1) := by decide +kernel
theorem dX4_hasTooLongAllele_23 : decode cX4_hasTooLongAllele 23 = .ok (.iinc 1 1, 3) := by decide +kernel
theorem dX4_hasTooLongAllele_26 : decode cX4_hasTooLongAllele 26 = .ok (.goto (-24), 3) := by decide +kernel
theorem dX4_hasTooLongAllele_29 : decode cX4_hasTooLongAllele 29 = .ok (.iconst 0, 1) := by decide +kernel
theorem dX4_hasTooLongAllele_30 : decode cX4_hasTooLongAllele 30 = .ok (.ireturn, 1) := by decide +kernel
