theorem dX5_init_0 : decode cX5_init 0 = .ok (.aload_n 0, 1) := by decide +kernel
theorem dX5_init_1 : decode cX5_init 1 = .ok (.invokespecial 1, 3) := by decide +kernel
theorem dX5_init_4 : decode cX5_init 4 = .ok (.aload_n 0, 1) := by decide +kernel
theorem dX5_init_5 : decode cX5_init 5 = .ok (.new 7, 3) := by decide +kernel
theorem dX5_init_8 : decode cX5_init 8 = .ok (.dup, 1) := by decide +kernel
theorem dX5_init_9 : decode cX5_init 9 = .ok (.invokespecial 9, 3) := by decide +kernel
theorem dX5_init_12 : decode cX5_init 12 = .ok (.putfield 10, 3) := by decide +kernel
theorem dX5_init_15 : decode cX5_init 15 = .ok (.aload_n 0, 1) := by decide +kernel
theorem dX5_init_16 : decode cX5_init 16 = .ok (.new 16, 3) := by decide +kernel
theorem dX5_init_19 : decode cX5_init 19 = .ok (.dup, 1) := by decide +kernel
theorem dX5_init_20 : decode cX5_init 20 = .ok (.invokespecial 18, 3) := by decide +kernel
theorem dX5_init_23 : decode cX5_init 23 = .ok (.putfield 19, 3) := by decide +kernel
theorem dX5_init_26 : decode cX5_init 26 = .ok (.aload_n 0, 1) := by decide +kernel
theorem dX5_init_27 : decode cX5_init 27 = .ok (.new 23, 3) := by decide +kernel
theorem dX5_init_30 : decode cX5_init 30 = .ok (.dup, 1) := by decide +kernel
theorem dX5_init_31 : decode cX5_init 31 = .ok (.invokespecial 25, 3) := by decide +kernel
theorem dX5_init_34 : decode cX5_init 34 = .ok (.putfield 26, 3) := by decide +kernel
theorem dX5_init_37 : decode cX5_init 37 = .ok (.aload_n 0, 1) := by decide +kernel
theorem dX5_init_38 : decode cX5_init 38 = .ok (.iconst 0, 1) := by decide +kernel
theorem dX5_init_39 : decode cX5_init 39 = .ok (.putfield 30, 3) := by decide +kernel
theorem dX5_init_42 : decode cX5_init 42 = .ok (.aload_n 0, 1) := by decide +kernel
theorem dX5_init_43 : decode cX5_init 43 = .ok (.new 23, 3) := by decide +kernel
theorem dX5_init_46 : decode cX5_init 46 = .ok (.dup, 1) := by decide +kernel
theorem dX5_init_47 : decode cX5_init 47 = .ok (.invokespecial 25, 3) := by decide +kernel
theorem dX5_init_50 : decode cX5_init 50 = .ok (.putfield 34, 3) := by decide +kernel
theorem dX5_init_53 : decode cX5_init 53 = .ok (.aload_n 0, 1) := by decide +kernel
theorem dX5_init_54 : decode cX5_init 54 = .ok (.new 37, 3) := by decide +kernel
theorem dX5_init_57 : decode cX5_init 57 = .ok (.dup, 1) := by decide +kernel
theorem dX5_init_58 : decode cX5_init 58 = .ok (.invokespecial 39, 3) := by decide +kernel
theorem dX5_init_61 : decode cX5_init 61 = .ok (.putfield 40, 3) := by decide +kernel
theorem dX5_init_64 : decode cX5_init 64 = .ok (.aload_n 0, 1) := by decide +kernel
theorem dX5_init_65 : decode cX5_init 65 = .ok (.new 44, 3) := by decide +kernel
theorem dX5_init_68 : decode cX5_init 68 = .ok (.dup, 1) := by decide +kernel
theorem dX5_init_69 : decode cX5_init 69 = .ok (.invokespecial 46, 3) := by decide +kernel
theorem dX5_init_72 : decode cX5_init 72 = .ok (.putfield 47, 3) := by decide +kernel
theorem dX5_init_75 : decode cX5_init 75 = .ok (.aload_n 0, 1) := by decide +kernel
theorem dX5_init_76 : decode cX5_init 76 = .ok (.new 44, 3) := by decide +kernel
theorem dX5_init_79 : decode cX5_init 79 = .ok (.dup, 1) := by decide +kernel
theorem dX5_init_80 : decode cX5_init 80 = .ok (.invokespecial 46, 3) := by decide +kernel
theorem dX5_init_83 : decode cX5_init 83 = .ok (.putfield 51, 3) := by decide +kernel
theorem dX5_init_86 : decode cX5_init 86 = .ok (.return_, 1) := by decide +kernel
theorem dX5_reference_0 : decode cX5_reference 0 = .ok (.iload_n 3, 1) := by decide +kernel
theorem dX5_reference_1 : decode cX5_reference 1 = .ok (.iconst 1, 1) := by decide +kernel
theorem dX5_reference_2 : decode cX5_reference 2 = .ok (.if_icmp .lt 9, 3) := by decide +kernel
theorem dX5_reference_5 : decode cX5_reference 5 = .ok (.iload_n 3, 1) := by decide +kernel
theorem dX5_reference_6 : decode cX5_reference 6 = .ok (.bipush 16, 2) := by decide +kernel
theorem dX5_reference_8 : decode cX5_reference 8 = .ok (.if_icmp .le 13, 3) := by decide +kernel
theorem dX5_reference_11 : decode cX5_reference 11 = .ok (.new 54, 3) := by decide +kernel
theorem dX5_reference_14 : decode cX5_reference 14 = .ok (.dup, 1) := by decide +kernel
theorem dX5_reference_15 : decode cX5_reference 15 = .ok (.ldc 56, 2) := by decide +kernel
theorem dX5_reference_17 : decode cX5_reference 17 = .ok (.invokespecial 58, 3) := by decide +kernel
theorem dX5_reference_20 : decode cX5_reference 20 = .ok (.athrow, 1) := by decide +kernel
theorem dX5_reference_21 : decode cX5_reference 21 = .ok (.aload_n 0, 1) := by decide +kernel
theorem dX5_reference_22 : decode cX5_reference 22 = .ok (.getfield 30, 3) := by decide +kernel
theorem dX5_reference_25 : decode cX5_reference 25 = .ok (.ifCond .ne 13, 3) := by decide +kernel
theorem dX5_reference_28 : decode cX5_reference 28 = .ok (.aload_n 0, 1) := by decide +kernel
theorem dX5_reference_29 : decode cX5_reference 29 = .ok (.getfield 19, 3) := by decide +kernel
theorem dX5_reference_32 : decode cX5_reference 32 = .ok (.getfield 61, 3) := by decide +kernel
theorem dX5_reference_35 : decode cX5_reference 35 = .ok (.ifCond .le 13, 3) := by decide +kernel
theorem dX5_reference_38 : decode cX5_reference 38 = .ok (.new 65, 3) := by decide +kernel
theorem dX5_reference_41 : decode cX5_reference 41 = .ok (.dup, 1) := by decide +kernel
theorem dX5_reference_42 : decode cX5_reference 42 = .ok (.ldc 67, 2) := by decide +kernel
theorem dX5_reference_44 : decode cX5_reference 44 = .ok (.invokespecial 69, 3) := by decide +kernel
theorem dX5_reference_47 : decode cX5_reference 47 = .ok (.athrow, 1) := by decide +kernel
theorem dX5_reference_48 : decode cX5_reference 48 = .ok (.aload_n 0, 1) := by decide +kernel
theorem dX5_reference_49 : decode cX5_reference 49 = .ok (.getfield 10, 3) := by decide +kernel
theorem dX5_reference_52 : decode cX5_reference 52 = .ok (.getfield 70, 3) := by decide +kernel
theorem dX5_reference_55 : decode cX5_reference 55 = .ok (.iload_n 3, 1) := by decide +kernel
theorem dX5_reference_56 : decode cX5_reference 56 = .ok (.iadd, 1) := by decide +kernel
theorem dX5_reference_57 : decode cX5_reference 57 = .ok (.sipush 160, 3) := by decide +kernel
theorem dX5_reference_60 : decode cX5_reference 60 = .ok (.if_icmp .le 13, 3) := by decide +kernel
theorem dX5_reference_63 : decode cX5_reference 63 = .ok (.new 65, 3) := by decide +kernel
theorem dX5_reference_66 : decode cX5_reference 66 = .ok (.dup, 1) := by decide +kernel
theorem dX5_reference_67 : decode cX5_reference 67 = .ok (.ldc 73, 2) := by decide +kernel
theorem dX5_reference_69 : decode cX5_reference 69 = .ok (.invokespecial 69, 3) := by decide +kernel
theorem dX5_reference_72 : decode cX5_reference 72 = .ok (.athrow, 1) := by decide +kernel
theorem dX5_reference_73 : decode cX5_reference 73 = .ok (.aload_n 0, 1) := by decide +kernel
theorem dX5_reference_74 : decode cX5_reference 74 = .ok (.getfield 10, 3) := by decide +kernel
theorem dX5_reference_77 : decode cX5_reference 77 = .ok (.lload_n 1, 1) := by decide +kernel
theorem dX5_reference_78 : decode cX5_reference 78 = .ok (.iload_n 3, 1) := by decide +kernel
theorem dX5_reference_79 : decode cX5_reference 79 = .ok (.invokevirtual 75, 3) := by decide +kernel
theorem dX5_reference_82 : decode cX5_reference 82 = .ok (.aload_n 0, 1) := by decide +kernel
theorem dX5_reference_83 : decode cX5_reference 83 = .ok (.getfield 10, 3) := by decide +kernel
theorem dX5_reference_86 : decode cX5_reference 86 = .ok (.getfield 70, 3) := by decide +kernel
theorem dX5_reference_89 : decode cX5_reference 89 = .ok (.ireturn, 1) := by decide +kernel
theorem dX5_draft_0 : decode cX5_draft 0 = .ok (.iload_n 2, 1) := by decide +kernel
theorem dX5_draft_1 : decode cX5_draft 1 = .ok (.iconst 1, 1) := by decide +kernel
theorem dX5_draft_2 : decode cX5_draft 2 = .ok (.if_icmp .lt 9, 3) := by decide +kernel
theorem dX5_draft_5 : decode cX5_draft 5 = .ok (.iload_n 2, 1) := by decide +kernel
theorem dX5_draft_6 : decode cX5_draft 6 = .ok (.bipush 8, 2) := by decide +kernel
theorem dX5_draft_8 : decode cX5_draft 8 = .ok (.if_icmp .le 13, 3) := by decide +kernel
theorem dX5_draft_11 : decode cX5_draft 11 = .ok (.new 54, 3) := by decide +kernel
theorem dX5_draft_14 : decode cX5_draft 14 = .ok (.dup, 1) := by decide +kernel
theorem dX5_draft_15 : decode cX5_draft 15 = .ok (.ldc 79, 2) := by decide +kernel
theorem dX5_draft_17 : decode cX5_draft 17 = .ok (.invokespecial 58, 3) := by decide +kernel
theorem dX5_draft_20 : decode cX5_draft 20 = .ok (.athrow, 1) := by decide +kernel
theorem dX5_draft_21 : decode cX5_draft 21 = .ok (.aload_n 0, 1) := by decide +kernel
theorem dX5_draft_22 : decode cX5_draft 22 = .ok (.getfield 10, 3) := by decide +kernel
theorem dX5_draft_25 : decode cX5_draft 25 = .ok (.iload_n 1, 1) := by decide +kernel
theorem dX5_draft_26 : decode cX5_draft 26 = .ok (.iload_n 2, 1) := by decide +kernel
theorem dX5_draft_27 : decode cX5_draft 27 = .ok (.invokevirtual 81, 3) := by decide +kernel
theorem dX5_draft_30 : decode cX5_draft 30 = .ok (.ifCond .ne 13, 3) := by decide +kernel
theorem dX5_draft_33 : decode cX5_draft 33 = .ok (.new 54, 3) := by decide +kernel
theorem dX5_draft_36 : decode cX5_draft 36 = .ok (.dup, 1) := by decide +kernel
theorem dX5_draft_37 : decode cX5_draft 37 = .ok (.ldc 85, 2) := by decide +kernel
theorem dX5_draft_39 : decode cX5_draft 39 = .ok (.invokespecial 58, 3) := by decide +kernel
theorem dX5_draft_42 : decode cX5_draft 42 = .ok (.athrow, 1) := by decide +kernel
theorem dX5_draft_43 : decode cX5_draft 43 = .ok (.aload_n 0, 1) := by decide +kernel
theorem dX5_draft_44 : decode cX5_draft 44 = .ok (.getfield 26, 3) := by decide +kernel
theorem dX5_draft_47 : decode cX5_draft 47 = .ok (.invokevirtual 87, 3) := by decide +kernel
theorem dX5_draft_50 : decode cX5_draft 50 = .ok (.aload_n 0, 1) := by decide +kernel
theorem dX5_draft_51 : decode cX5_draft 51 = .ok (.getfield 26, 3) := by decide +kernel
theorem dX5_draft_54 : decode cX5_draft 54 = .ok (.iload_n 1, 1) := by decide +kernel
theorem dX5_draft_55 : decode cX5_draft 55 = .ok (.putfield 90, 3) := by decide +kernel
theorem dX5_draft_58 : decode cX5_draft 58 = .ok (.aload_n 0, 1) := by decide +kernel
theorem dX5_draft_59 : decode cX5_draft 59 = .ok (.getfield 26, 3) := by decide +kernel
theorem dX5_draft_62 : decode cX5_draft 62 = .ok (.aload_n 0, 1) := by decide +kernel
theorem dX5_draft_63 : decode cX5_draft 63 = .ok (.getfield 10, 3) := by decide +kernel
theorem dX5_draft_66 : decode cX5_draft 66 = .ok (.iload_n 1, 1) := by decide +kernel
theorem dX5_draft_67 : decode cX5_draft 67 = .ok (.iload_n 2, 1) := by decide +kernel
theorem dX5_draft_68 : decode cX5_draft 68 = .ok (.invokevirtual 93, 3) := by decide +kernel
theorem dX5_draft_71 : decode cX5_draft 71 = .ok (.iload_n 2, 1) := by decide +kernel
theorem dX5_draft_72 : decode cX5_draft 72 = .ok (.invokevirtual 97, 3) := by decide +kernel
theorem dX5_draft_75 : decode cX5_draft 75 = .ok (.aload_n 0, 1) := by decide +kernel
theorem dX5_draft_76 : decode cX5_draft 76 = .ok (.iconst 1, 1) := by decide +kernel
theorem dX5_draft_77 : decode cX5_draft 77 = .ok (.putfield 30, 3) := by decide +kernel
theorem dX5_draft_80 : decode cX5_draft 80 = .ok (.return_, 1) := by decide +kernel
theorem dX5_allele_0 : decode cX5_allele 0 = .ok (.iload_n 3, 1) := by decide +kernel
theorem dX5_allele_1 : decode cX5_allele 1 = .ok (.iconst 1, 1) := by decide +kernel
theorem dX5_allele_2 : decode cX5_allele 2 = .ok (.if_icmp .lt 9, 3) := by decide +kernel
theorem dX5_allele_5 : decode cX5_allele 5 = .ok (.iload_n 3, 1) := by decide +kernel
theorem dX5_allele_6 : decode cX5_allele 6 = .ok (.bipush 8, 2) := by decide +kernel
theorem dX5_allele_8 : decode cX5_allele 8 = .ok (.if_icmp .le 13, 3) := by decide +kernel
theorem dX5_allele_11 : decode cX5_allele 11 = .ok (.new 54, 3) := by decide +kernel
theorem dX5_allele_14 : decode cX5_allele 14 = .ok (.dup, 1) := by decide +kernel
theorem dX5_allele_15 : decode cX5_allele 15 = .ok (.ldc 101, 2) := by decide +kernel
theorem dX5_allele_17 : decode cX5_allele 17 = .ok (.invokespecial 58, 3) := by decide +kernel
theorem dX5_allele_20 : decode cX5_allele 20 = .ok (.athrow, 1) := by decide +kernel
theorem dX5_allele_21 : decode cX5_allele 21 = .ok (.aload_n 0, 1) := by decide +kernel
theorem dX5_allele_22 : decode cX5_allele 22 = .ok (.getfield 30, 3) := by decide +kernel
theorem dX5_allele_25 : decode cX5_allele 25 = .ok (.ifCond .ne 13, 3) := by decide +kernel
theorem dX5_allele_28 : decode cX5_allele 28 = .ok (.new 65, 3) := by decide +kernel
theorem dX5_allele_31 : decode cX5_allele 31 = .ok (.dup, 1) := by decide +kernel
theorem dX5_allele_32 : decode cX5_allele 32 = .ok (.ldc 103, 2) := by decide +kernel
theorem dX5_allele_34 : decode cX5_allele 34 = .ok (.invokespecial 69, 3) := by decide +kernel
theorem dX5_allele_37 : decode cX5_allele 37 = .ok (.athrow, 1) := by decide +kernel
theorem dX5_allele_38 : decode cX5_allele 38 = .ok (.aload_n 0, 1) := by decide +kernel
theorem dX5_allele_39 : decode cX5_allele 39 = .ok (.getfield 26, 3) := by decide +kernel
theorem dX5_allele_42 : decode cX5_allele 42 = .ok (.getfield 105, 3) := by decide +kernel
theorem dX5_allele_45 : decode cX5_allele 45 = .ok (.iconst 4, 1) := by decide +kernel
theorem dX5_allele_46 : decode cX5_allele 46 = .ok (.if_icmp .ne 13, 3) := by decide +kernel
theorem dX5_allele_49 : decode cX5_allele 49 = .ok (.new 65, 3) := by decide +kernel
theorem dX5_allele_52 : decode cX5_allele 52 = .ok (.dup, 1) := by decide +kernel
theorem dX5_allele_53 : decode cX5_allele 53 = .ok (.ldc 108, 2) := by decide +kernel
theorem dX5_allele_55 : decode cX5_allele 55 = .ok (.invokespecial 69, 3) := by decide +kernel
theorem dX5_allele_58 : decode cX5_allele 58 = .ok (.athrow, 1) := by decide +kernel
theorem dX5_allele_59 : decode cX5_allele 59 = .ok (.lload_n 1, 1) := by decide +kernel
theorem dX5_allele_60 : decode cX5_allele 60 = .ok (.iload_n 3, 1) := by decide +kernel
theorem dX5_allele_61 : decode cX5_allele 61 = .ok (.invokestatic 110, 3) := by decide +kernel
theorem dX5_allele_64 : decode cX5_allele 64 = .ok (.i2l, 1) := by decide +kernel
theorem dX5_allele_65 : decode cX5_allele 65 = .ok (.land, 1) := by decide +kernel
theorem dX5_allele_66 : decode cX5_allele 66 = .ok (.l2i, 1) := by decide +kernel
theorem dX5_allele_67 : decode cX5_allele 67 = .ok (.istore 4, 2) := by decide +kernel
theorem dX5_allele_69 : decode cX5_allele 69 = .ok (.aload_n 0, 1) := by decide +kernel
theorem dX5_allele_70 : decode cX5_allele 70 = .ok (.getfield 26, 3) := by decide +kernel
theorem dX5_allele_73 : decode cX5_allele 73 = .ok (.iload 4, 2) := by decide +kernel
theorem dX5_allele_75 : decode cX5_allele 75 = .ok (.iload_n 3, 1) := by decide +kernel
theorem dX5_allele_76 : decode cX5_allele 76 = .ok (.invokevirtual 114, 3) := by decide +kernel
theorem dX5_allele_79 : decode cX5_allele 79 = .ok (.ifCond .lt 13, 3) := by decide +kernel
theorem dX5_allele_82 : decode cX5_allele 82 = .ok (.new 65, 3) := by decide +kernel
theorem dX5_allele_85 : decode cX5_allele 85 = .ok (.dup, 1) := by decide +kernel
theorem dX5_allele_86 : decode cX5_allele 86 = .ok (.ldc 117, 2) := by decide +kernel
theorem dX5_allele_88 : decode cX5_allele 88 = .ok (.invokespecial 69, 3) := by decide +kernel
theorem dX5_allele_91 : decode cX5_allele 91 = .ok (.athrow, 1) := by decide +kernel
theorem dX5_allele_92 : decode cX5_allele 92 = .ok (.aload_n 0, 1) := by decide +kernel
theorem dX5_allele_93 : decode cX5_allele 93 = .ok (.getfield 26, 3) := by decide +kernel
theorem dX5_allele_96 : decode cX5_allele 96 = .ok (.iload 4, 2) := by decide +kernel
theorem dX5_allele_98 : decode cX5_allele 98 = .ok (.iload_n 3, 1) := by decide +kernel
theorem dX5_allele_99 : decode cX5_allele 99 = .ok (.invokevirtual 97, 3) := by decide +kernel
theorem dX5_allele_102 : decode cX5_allele 102 = .ok (.aload_n 0, 1) := by decide +kernel
theorem dX5_allele_103 : decode cX5_allele 103 = .ok (.getfield 26, 3) := by decide +kernel
theorem dX5_allele_106 : decode cX5_allele 106 = .ok (.getfield 105, 3) := by decide +kernel
theorem dX5_allele_109 : decode cX5_allele 109 = .ok (.iconst 1, 1) := by decide +kernel
theorem dX5_allele_110 : decode cX5_allele 110 = .ok (.isub, 1) := by decide +kernel
theorem dX5_allele_111 : decode cX5_allele 111 = .ok (.ireturn, 1) := by decide +kernel
theorem dX5_depth_0 : decode cX5_depth 0 = .ok (.aload_n 0, 1) := by decide +kernel
theorem dX5_depth_1 : decode cX5_depth 1 = .ok (.getfield 30, 3) := by decide +kernel
theorem dX5_depth_4 : decode cX5_depth 4 = .ok (.ifCond .eq 14, 3) := by decide +kernel
theorem dX5_depth_7 : decode cX5_depth 7 = .ok (.aload_n 0, 1) := by decide +kernel
theorem dX5_depth_8 : decode cX5_depth 8 = .ok (.getfield 26, 3) := by decide +kernel
theorem dX5_depth_11 : decode cX5_depth 11 = .ok (.iload_n 1, 1) := by decide +kernel
theorem dX5_depth_12 : decode cX5_depth 12 = .ok (.invokevirtual 119, 3) := by decide +kernel
theorem dX5_depth_15 : decode cX5_depth 15 = .ok (.ifCond .ne 13, 3) := by decide +kernel
theorem dX5_depth_18 : decode cX5_depth 18 = .ok (.new 54, 3) := by decide +kernel
theorem dX5_depth_21 : decode cX5_depth 21 = .ok (.dup, 1) := by decide +kernel
theorem dX5_depth_22 : decode cX5_depth 22 = .ok (.ldc 123, 2) := by decide +kernel
theorem dX5_depth_24 : decode cX5_depth 24 = .ok (.invokespecial 58, 3) := by decide +kernel
theorem dX5_depth_27 : decode cX5_depth 27 = .ok (.athrow, 1) := by decide +kernel
theorem dX5_depth_28 : decode cX5_depth 28 = .ok (.iload_n 2, 1) := by decide +kernel
theorem dX5_depth_29 : decode cX5_depth 29 = .ok (.sipush 9999, 3) := by decide +kernel
theorem dX5_depth_32 : decode cX5_depth 32 = .ok (.invokestatic 125, 3) := by decide +kernel
theorem dX5_depth_35 : decode cX5_depth 35 = .ok (.ifCond .eq 13, 3) := by decide +kernel
theorem dX5_depth_38 : decode cX5_depth 38 = .ok (.iload_n 3, 1) := by decide +kernel
theorem dX5_depth_39 : decode cX5_depth 39 = .ok (.sipush 8000, 3) := by decide +kernel
theorem dX5_depth_42 : decode cX5_depth 42 = .ok (.invokestatic 125, 3) := by decide +kernel
theorem dX5_depth_45 : decode cX5_depth 45 = .ok (.ifCond .ne 13, 3) := by decide +kernel
theorem dX5_depth_48 : decode cX5_depth 48 = .ok (.new 54, 3) := by decide +kernel
theorem dX5_depth_51 : decode cX5_depth 51 = .ok (.dup, 1) := by decide +kernel
theorem dX5_depth_52 : decode cX5_depth 52 = .ok (.ldc 128, 2) := by decide +kernel
theorem dX5_depth_54 : decode cX5_depth 54 = .ok (.invokespecial 58, 3) := by decide +kernel
theorem dX5_depth_57 : decode cX5_depth 57 = .ok (.athrow, 1) := by decide +kernel
theorem dX5_depth_58 : decode cX5_depth 58 = .ok (.aload_n 0, 1) := by decide +kernel
theorem dX5_depth_59 : decode cX5_depth 59 = .ok (.getfield 26, 3) := by decide +kernel
theorem dX5_depth_62 : decode cX5_depth 62 = .ok (.getfield 130, 3) := by decide +kernel
theorem dX5_depth_65 : decode cX5_depth 65 = .ok (.iload_n 1, 1) := by decide +kernel
theorem dX5_depth_66 : decode cX5_depth 66 = .ok (.iload_n 2, 1) := by decide +kernel
theorem dX5_depth_67 : decode cX5_depth 67 = .ok (.iastore, 1) := by decide +kernel
theorem dX5_depth_68 : decode cX5_depth 68 = .ok (.aload_n 0, 1) := by decide +kernel
theorem dX5_depth_69 : decode cX5_depth 69 = .ok (.getfield 26, 3) := by decide +kernel
theorem dX5_depth_72 : decode cX5_depth 72 = .ok (.iload_n 3, 1) := by decide +kernel
theorem dX5_depth_73 : decode cX5_depth 73 = .ok (.putfield 134, 3) := by decide +kernel
theorem dX5_depth_76 : decode cX5_depth 76 = .ok (.return_, 1) := by decide +kernel
theorem dX5_genotype_0 : decode cX5_genotype 0 = .ok (.aload_n 0, 1) := by decide +kernel
theorem dX5_genotype_1 : decode cX5_genotype 1 = .ok (.getfield 30, 3) := by decide +kernel
theorem dX5_genotype_4 : decode cX5_genotype 4 = .ok (.ifCond .eq 10, 3) := by decide +kernel
theorem dX5_genotype_7 : decode cX5_genotype 7 = .ok (.iload_n 1, 1) := by decide +kernel
theorem dX5_genotype_8 : decode cX5_genotype 8 = .ok (.invokestatic 137, 3) := by decide +kernel
theorem dX5_genotype_11 : decode cX5_genotype 11 = .ok (.ifCond .ne 13, 3) := by decide +kernel
theorem dX5_genotype_14 : decode cX5_genotype 14 = .ok (.new 54, 3) := by decide +kernel
theorem dX5_genotype_17 : decode cX5_genotype 17 = .ok (.dup, 1) := by decide +kernel
theorem dX5_genotype_18 : decode cX5_genotype 18 = .ok (.ldc 140, 2) := by decide +kernel
theorem dX5_genotype_20 : decode cX5_genotype 20 = .ok (.invokespecial 58, 3) := by decide +kernel
theorem dX5_genotype_23 : decode cX5_genotype 23 = .ok (.athrow, 1) := by decide +kernel
theorem dX5_genotype_24 : decode cX5_genotype 24 = .ok (.aload_n 0, 1) := by decide +kernel
theorem dX5_genotype_25 : decode cX5_genotype 25 = .ok (.getfield 26, 3) := by decide +kernel
theorem dX5_genotype_28 : decode cX5_genotype 28 = .ok (.iload_n 2, 1) := by decide +kernel
theorem dX5_genotype_29 : decode cX5_genotype 29 = .ok (.invokevirtual 142, 3) := by decide +kernel
theorem dX5_genotype_32 : decode cX5_genotype 32 = .ok (.ifCond .eq 14, 3) := by decide +kernel
theorem dX5_genotype_35 : decode cX5_genotype 35 = .ok (.aload_n 0, 1) := by decide +kernel
theorem dX5_genotype_36 : decode cX5_genotype 36 = .ok (.getfield 26, 3) := by decide +kernel
theorem dX5_genotype_39 : decode cX5_genotype 39 = .ok (.iload_n 3, 1) := by decide +kernel
theorem dX5_genotype_40 : decode cX5_genotype 40 = .ok (.invokevirtual 142, 3) := by decide +kernel
theorem dX5_genotype_43 : decode cX5_genotype 43 = .ok (.ifCond .ne 13, 3) := by decide +kernel
theorem dX5_genotype_46 : decode cX5_genotype 46 = .ok (.new 54, 3) := by decide +kernel
theorem dX5_genotype_49 : decode cX5_genotype 49 = .ok (.dup, 1) := by decide +kernel
theorem dX5_genotype_50 : decode cX5_genotype 50 = .ok (.ldc 145, 2) := by decide +kernel
theorem dX5_genotype_52 : decode cX5_genotype 52 = .ok (.invokespecial 58, 3) := by decide +kernel
theorem dX5_genotype_55 : decode cX5_genotype 55 = .ok (.athrow, 1) := by decide +kernel
theorem dX5_genotype_56 : decode cX5_genotype 56 = .ok (.aload_n 0, 1) := by decide +kernel
theorem dX5_genotype_57 : decode cX5_genotype 57 = .ok (.getfield 26, 3) := by decide +kernel
theorem dX5_genotype_60 : decode cX5_genotype 60 = .ok (.getfield 147, 3) := by decide +kernel
theorem dX5_genotype_63 : decode cX5_genotype 63 = .ok (.iconst 2, 1) := by decide +kernel
theorem dX5_genotype_64 : decode cX5_genotype 64 = .ok (.iload_n 1, 1) := by decide +kernel
theorem dX5_genotype_65 : decode cX5_genotype 65 = .ok (.imul, 1) := by decide +kernel
theorem dX5_genotype_66 : decode cX5_genotype 66 = .ok (.iload_n 2, 1) := by decide +kernel
theorem dX5_genotype_67 : decode cX5_genotype 67 = .ok (.iastore, 1) := by decide +kernel
theorem dX5_genotype_68 : decode cX5_genotype 68 = .ok (.aload_n 0, 1) := by decide +kernel
theorem dX5_genotype_69 : decode cX5_genotype 69 = .ok (.getfield 26, 3) := by decide +kernel
theorem dX5_genotype_72 : decode cX5_genotype 72 = .ok (.getfield 147, 3) := by decide +kernel
theorem dX5_genotype_75 : decode cX5_genotype 75 = .ok (.iconst 2, 1) := by decide +kernel
theorem dX5_genotype_76 : decode cX5_genotype 76 = .ok (.iload_n 1, 1) := by decide +kernel
theorem dX5_genotype_77 : decode cX5_genotype 77 = .ok (.imul, 1) := by decide +kernel
theorem dX5_genotype_78 : decode cX5_genotype 78 = .ok (.iconst 1, 1) := by decide +kernel
theorem dX5_genotype_79 : decode cX5_genotype 79 = .ok (.iadd, 1) := by decide +kernel
theorem dX5_genotype_80 : decode cX5_genotype 80 = .ok (.iload_n 3, 1) := by decide +kernel
theorem dX5_genotype_81 : decode cX5_genotype 81 = .ok (.iastore, 1) := by decide +kernel
theorem dX5_genotype_82 : decode cX5_genotype 82 = .ok (.aload_n 0, 1) := by decide +kernel
theorem dX5_genotype_83 : decode cX5_genotype 83 = .ok (.getfield 26, 3) := by decide +kernel
theorem dX5_genotype_86 : decode cX5_genotype 86 = .ok (.getfield 150, 3) := by decide +kernel
theorem dX5_genotype_89 : decode cX5_genotype 89 = .ok (.iload_n 1, 1) := by decide +kernel
theorem dX5_genotype_90 : decode cX5_genotype 90 = .ok (.iload 4, 2) := by decide +kernel
theorem dX5_genotype_92 : decode cX5_genotype 92 = .ok (.bastore, 1) := by decide +kernel
theorem dX5_genotype_93 : decode cX5_genotype 93 = .ok (.return_, 1) := by decide +kernel
theorem dX5_likelihood_0 : decode cX5_likelihood 0 = .ok (.aload_n 0, 1) := by decide +kernel
theorem dX5_likelihood_1 : decode cX5_likelihood 1 = .ok (.getfield 30, 3) := by decide +kernel
theorem dX5_likelihood_4 : decode cX5_likelihood 4 = .ok (.ifCond .eq 10, 3) := by decide +kernel
theorem dX5_likelihood_7 : decode cX5_likelihood 7 = .ok (.iload_n 1, 1) := by decide +kernel
theorem dX5_likelihood_8 : decode cX5_likelihood 8 = .ok (.invokestatic 137, 3) := by decide +kernel
theorem dX5_likelihood_11 : decode cX5_likelihood 11 = .ok (.ifCond .ne 13, 3) := by decide +kernel
theorem dX5_likelihood_14 : decode cX5_likelihood 14 = .ok (.new 54, 3) := by decide +kernel
theorem dX5_likelihood_17 : decode cX5_likelihood 17 = .ok (.dup, 1) := by decide +kernel
theorem dX5_likelihood_18 : decode cX5_likelihood 18 = .ok (.ldc 140, 2) := by decide +kernel
theorem dX5_likelihood_20 : decode cX5_likelihood 20 = .ok (.invokespecial 58, 3) := by decide +kernel
theorem dX5_likelihood_23 : decode cX5_likelihood 23 = .ok (.athrow, 1) := by decide +kernel
theorem dX5_likelihood_24 : decode cX5_likelihood 24 = .ok (.iload_n 2, 1) := by decide +kernel
theorem dX5_likelihood_25 : decode cX5_likelihood 25 = .ok (.ifCond .lt 14, 3) := by decide +kernel
theorem dX5_likelihood_28 : decode cX5_likelihood 28 = .ok (.iload_n 2, 1) := by decide +kernel
theorem dX5_likelihood_29 : decode cX5_likelihood 29 = .ok (.aload_n 0, 1) := by decide +kernel
theorem dX5_likelihood_30 : decode cX5_likelihood 30 = .ok (.getfield 26, 3) := by decide +kernel
theorem dX5_likelihood_33 : decode cX5_likelihood 33 = .ok (.invokevirtual 154, 3) := by decide +kernel
theorem dX5_likelihood_36 : decode cX5_likelihood 36 = .ok (.if_icmp .lt 13, 3) := by decide +kernel
theorem dX5_likelihood_39 : decode cX5_likelihood 39 = .ok (.new 54, 3) := by decide +kernel
theorem dX5_likelihood_42 : decode cX5_likelihood 42 = .ok (.dup, 1) := by decide +kernel
theorem dX5_likelihood_43 : decode cX5_likelihood 43 = .ok (.ldc 158, 2) := by decide +kernel
theorem dX5_likelihood_45 : decode cX5_likelihood 45 = .ok (.invokespecial 58, 3) := by decide +kernel
theorem dX5_likelihood_48 : decode cX5_likelihood 48 = .ok (.athrow, 1) := by decide +kernel
theorem dX5_likelihood_49 : decode cX5_likelihood 49 = .ok (.iload_n 3, 1) := by decide +kernel
theorem dX5_likelihood_50 : decode cX5_likelihood 50 = .ok (.sipush 999, 3) := by decide +kernel
theorem dX5_likelihood_53 : decode cX5_likelihood 53 = .ok (.invokestatic 125, 3) := by decide +kernel
theorem dX5_likelihood_56 : decode cX5_likelihood 56 = .ok (.ifCond .ne 13, 3) := by decide +kernel
theorem dX5_likelihood_59 : decode cX5_likelihood 59 = .ok (.new 54, 3) := by decide +kernel
theorem dX5_likelihood_62 : decode cX5_likelihood 62 = .ok (.dup, 1) := by decide +kernel
theorem dX5_likelihood_63 : decode cX5_likelihood 63 = .ok (.ldc 160, 2) := by decide +kernel
theorem dX5_likelihood_65 : decode cX5_likelihood 65 = .ok (.invokespecial 58, 3) := by decide +kernel
theorem dX5_likelihood_68 : decode cX5_likelihood 68 = .ok (.athrow, 1) := by decide +kernel
theorem dX5_likelihood_69 : decode cX5_likelihood 69 = .ok (.aload_n 0, 1) := by decide +kernel
theorem dX5_likelihood_70 : decode cX5_likelihood 70 = .ok (.getfield 26, 3) := by decide +kernel
theorem dX5_likelihood_73 : decode cX5_likelihood 73 = .ok (.getfield 162, 3) := by decide +kernel
theorem dX5_likelihood_76 : decode cX5_likelihood 76 = .ok (.bipush 10, 2) := by decide +kernel
theorem dX5_likelihood_78 : decode cX5_likelihood 78 = .ok (.iload_n 1, 1) := by decide +kernel
theorem dX5_likelihood_79 : decode cX5_likelihood 79 = .ok (.imul, 1) := by decide +kernel
theorem dX5_likelihood_80 : decode cX5_likelihood 80 = .ok (.iload_n 2, 1) := by decide +kernel
theorem dX5_likelihood_81 : decode cX5_likelihood 81 = .ok (.iadd, 1) := by decide +kernel
theorem dX5_likelihood_82 : decode cX5_likelihood 82 = .ok (.iload_n 3, 1) := by decide +kernel
theorem dX5_likelihood_83 : decode cX5_likelihood 83 = .ok (.iastore, 1) := by decide +kernel
theorem dX5_likelihood_84 : decode cX5_likelihood 84 = .ok (.return_, 1) := by decide +kernel
theorem dX5_add_0 : decode cX5_add 0 = .ok (.aload_n 0, 1) := by decide +kernel
theorem dX5_add_1 : decode cX5_add 1 = .ok (.getfield 30, 3) := by decide +kernel
theorem dX5_add_4 : decode cX5_add 4 = .ok (.ifCond .ne 13, 3) := by decide +kernel
theorem dX5_add_7 : decode cX5_add 7 = .ok (.new 65, 3) := by decide +kernel
theorem dX5_add_10 : decode cX5_add 10 = .ok (.dup, 1) := by decide +kernel
theorem dX5_add_11 : decode cX5_add 11 = .ok (.ldc 103, 2) := by decide +kernel
theorem dX5_add_13 : decode cX5_add 13 = .ok (.invokespecial 69, 3) := by decide +kernel
theorem dX5_add_16 : decode cX5_add 16 = .ok (.athrow, 1) := by decide +kernel
theorem dX5_add_17 : decode cX5_add 17 = .ok (.aload_n 0, 1) := by decide +kernel
theorem dX5_add_18 : decode cX5_add 18 = .ok (.getfield 26, 3) := by decide +kernel
theorem dX5_add_21 : decode cX5_add 21 = .ok (.getfield 105, 3) := by decide +kernel
theorem dX5_add_24 : decode cX5_add 24 = .ok (.iconst 2, 1) := by decide +kernel
theorem dX5_add_25 : decode cX5_add 25 = .ok (.if_icmp .ge 13, 3) := by decide +kernel
theorem dX5_add_28 : decode cX5_add 28 = .ok (.new 65, 3) := by decide +kernel
theorem dX5_add_31 : decode cX5_add 31 = .ok (.dup, 1) := by decide +kernel
theorem dX5_add_32 : decode cX5_add 32 = .ok (.ldc 165, 2) := by decide +kernel
theorem dX5_add_34 : decode cX5_add 34 = .ok (.invokespecial 69, 3) := by decide +kernel
theorem dX5_add_37 : decode cX5_add 37 = .ok (.athrow, 1) := by decide +kernel
theorem dX5_add_38 : decode cX5_add 38 = .ok (.aload_n 0, 1) := by decide +kernel
theorem dX5_add_39 : decode cX5_add 39 = .ok (.getfield 19, 3) := by decide +kernel
theorem dX5_add_42 : decode cX5_add 42 = .ok (.invokevirtual 167, 3) := by decide +kernel
theorem dX5_add_45 : decode cX5_add 45 = .ok (.ifCond .eq 13, 3) := by decide +kernel
theorem dX5_add_48 : decode cX5_add 48 = .ok (.new 65, 3) := by decide +kernel
theorem dX5_add_51 : decode cX5_add 51 = .ok (.dup, 1) := by decide +kernel
theorem dX5_add_52 : decode cX5_add 52 = .ok (.ldc 171, 2) := by decide +kernel
theorem dX5_add_54 : decode cX5_add 54 = .ok (.invokespecial 69, 3) := by decide +kernel
theorem dX5_add_57 : decode cX5_add 57 = .ok (.athrow, 1) := by decide +kernel
theorem dX5_add_58 : decode cX5_add 58 = .ok (.aload_n 0, 1) := by decide +kernel
theorem dX5_add_59 : decode cX5_add 59 = .ok (.iconst 0, 1) := by decide +kernel
theorem dX5_add_60 : decode cX5_add 60 = .ok (.putfield 30, 3) := by decide +kernel
theorem dX5_add_63 : decode cX5_add 63 = .ok (.aload_n 0, 1) := by decide +kernel
theorem dX5_add_64 : decode cX5_add 64 = .ok (.getfield 19, 3) := by decide +kernel
theorem dX5_add_67 : decode cX5_add 67 = .ok (.aload_n 0, 1) := by decide +kernel
theorem dX5_add_68 : decode cX5_add 68 = .ok (.getfield 26, 3) := by decide +kernel
theorem dX5_add_71 : decode cX5_add 71 = .ok (.invokevirtual 173, 3) := by decide +kernel
theorem dX5_add_74 : decode cX5_add 74 = .ok (.ireturn, 1) := by decide +kernel
theorem dX5_remove_0 : decode cX5_remove 0 = .ok (.aload_n 0, 1) := by decide +kernel
theorem dX5_remove_1 : decode cX5_remove 1 = .ok (.iload_n 1, 1) := by decide +kernel
theorem dX5_remove_2 : decode cX5_remove 2 = .ok (.invokevirtual 177, 3) := by decide +kernel
theorem dX5_remove_5 : decode cX5_remove 5 = .ok (.aload_n 0, 1) := by decide +kernel
theorem dX5_remove_6 : decode cX5_remove 6 = .ok (.getfield 19, 3) := by decide +kernel
theorem dX5_remove_9 : decode cX5_remove 9 = .ok (.iload_n 1, 1) := by decide +kernel
theorem dX5_remove_10 : decode cX5_remove 10 = .ok (.invokevirtual 181, 3) := by decide +kernel
theorem dX5_remove_13 : decode cX5_remove 13 = .ok (.return_, 1) := by decide +kernel
theorem dX5_normalise_0 : decode cX5_normalise 0 = .ok (.aload_n 0, 1) := by decide +kernel
theorem dX5_normalise_1 : decode cX5_normalise 1 = .ok (.iload_n 1, 1) := by decide +kernel
theorem dX5_normalise_2 : decode cX5_normalise 2 = .ok (.invokevirtual 177, 3) := by decide +kernel
theorem dX5_normalise_5 : decode cX5_normalise 5 = .ok (.aload_n 0, 1) := by decide +kernel
theorem dX5_normalise_6 : decode cX5_normalise 6 = .ok (.getfield 34, 3) := by decide +kernel
theorem dX5_normalise_9 : decode cX5_normalise 9 = .ok (.aload_n 0, 1) := by decide +kernel
theorem dX5_normalise_10 : decode cX5_normalise 10 = .ok (.getfield 19, 3) := by decide +kernel
theorem dX5_normalise_13 : decode cX5_normalise 13 = .ok (.getfield 184, 3) := by decide +kernel
theorem dX5_normalise_16 : decode cX5_normalise 16 = .ok (.iload_n 1, 1) := by decide +kernel
theorem dX5_normalise_17 : decode cX5_normalise 17 = .ok (.aaload, 1) := by decide +kernel
theorem dX5_normalise_18 : decode cX5_normalise 18 = .ok (.invokevirtual 188, 3) := by decide +kernel
theorem dX5_normalise_21 : decode cX5_normalise 21 = .ok (.aload_n 0, 1) := by decide +kernel
theorem dX5_normalise_22 : decode cX5_normalise 22 = .ok (.getfield 34, 3) := by decide +kernel
theorem dX5_normalise_25 : decode cX5_normalise 25 = .ok (.aload_n 0, 1) := by decide +kernel
theorem dX5_normalise_26 : decode cX5_normalise 26 = .ok (.getfield 10, 3) := by decide +kernel
theorem dX5_normalise_29 : decode cX5_normalise 29 = .ok (.invokevirtual 192, 3) := by decide +kernel
theorem dX5_normalise_32 : decode cX5_normalise 32 = .ok (.aload_n 0, 1) := by decide +kernel
theorem dX5_normalise_33 : decode cX5_normalise 33 = .ok (.getfield 19, 3) := by decide +kernel
theorem dX5_normalise_36 : decode cX5_normalise 36 = .ok (.iload_n 1, 1) := by decide +kernel
theorem dX5_normalise_37 : decode cX5_normalise 37 = .ok (.invokevirtual 181, 3) := by decide +kernel
theorem dX5_normalise_40 : decode cX5_normalise 40 = .ok (.aload_n 0, 1) := by decide +kernel
theorem dX5_normalise_41 : decode cX5_normalise 41 = .ok (.getfield 19, 3) := by decide +kernel
theorem dX5_normalise_44 : decode cX5_normalise 44 = .ok (.aload_n 0, 1) := by decide +kernel
theorem dX5_normalise_45 : decode cX5_normalise 45 = .ok (.getfield 34, 3) := by decide +kernel
theorem dX5_normalise_48 : decode cX5_normalise 48 = .ok (.invokevirtual 173, 3) := by decide +kernel
theorem dX5_normalise_51 : decode cX5_normalise 51 = .ok (.ireturn, 1) := by decide +kernel
theorem dX5_split_0 : decode cX5_split 0 = .ok (.aload_n 0, 1) := by decide +kernel
theorem dX5_split_1 : decode cX5_split 1 = .ok (.iload_n 1, 1) := by decide +kernel
theorem dX5_split_2 : decode cX5_split 2 = .ok (.invokevirtual 177, 3) := by decide +kernel
theorem dX5_split_5 : decode cX5_split 5 = .ok (.aload_n 0, 1) := by decide +kernel
theorem dX5_split_6 : decode cX5_split 6 = .ok (.getfield 19, 3) := by decide +kernel
theorem dX5_split_9 : decode cX5_split 9 = .ok (.getfield 184, 3) := by decide +kernel
theorem dX5_split_12 : decode cX5_split 12 = .ok (.iload_n 1, 1) := by decide +kernel
theorem dX5_split_13 : decode cX5_split 13 = .ok (.aaload, 1) := by decide +kernel
theorem dX5_split_14 : decode cX5_split 14 = .ok (.getfield 105, 3) := by decide +kernel
theorem dX5_split_17 : decode cX5_split 17 = .ok (.iconst 1, 1) := by decide +kernel
theorem dX5_split_18 : decode cX5_split 18 = .ok (.isub, 1) := by decide +kernel
theorem dX5_split_19 : decode cX5_split 19 = .ok (.istore_n 2, 1) := by decide +kernel
theorem dX5_split_20 : decode cX5_split 20 = .ok (.iload_n 2, 1) := by decide +kernel
theorem dX5_split_21 : decode cX5_split 21 = .ok (.iconst 2, 1) := by decide +kernel
theorem dX5_split_22 : decode cX5_split 22 = .ok (.if_icmp .ge 13, 3) := by decide +kernel
theorem dX5_split_25 : decode cX5_split 25 = .ok (.new 65, 3) := by decide +kernel
theorem dX5_split_28 : decode cX5_split 28 = .ok (.dup, 1) := by decide +kernel
theorem dX5_split_29 : decode cX5_split 29 = .ok (.ldc 196, 2) := by decide +kernel
theorem dX5_split_31 : decode cX5_split 31 = .ok (.invokespecial 69, 3) := by decide +kernel
theorem dX5_split_34 : decode cX5_split 34 = .ok (.athrow, 1) := by decide +kernel
theorem dX5_split_35 : decode cX5_split 35 = .ok (.aload_n 0, 1) := by decide +kernel
theorem dX5_split_36 : decode cX5_split 36 = .ok (.getfield 19, 3) := by decide +kernel
theorem dX5_split_39 : decode cX5_split 39 = .ok (.getfield 61, 3) := by decide +kernel
theorem dX5_split_42 : decode cX5_split 42 = .ok (.iconst 1, 1) := by decide +kernel
theorem dX5_split_43 : decode cX5_split 43 = .ok (.isub, 1) := by decide +kernel
theorem dX5_split_44 : decode cX5_split 44 = .ok (.iload_n 2, 1) := by decide +kernel
theorem dX5_split_45 : decode cX5_split 45 = .ok (.iadd, 1) := by decide +kernel
theorem dX5_split_46 : decode cX5_split 46 = .ok (.bipush 24, 2) := by decide +kernel
theorem dX5_split_48 : decode cX5_split 48 = .ok (.if_icmp .le 13, 3) := by decide +kernel
theorem dX5_split_51 : decode cX5_split 51 = .ok (.new 65, 3) := by decide +kernel
theorem dX5_split_54 : decode cX5_split 54 = .ok (.dup, 1) := by decide +kernel
theorem dX5_split_55 : decode cX5_split 55 = .ok (.ldc 198, 2) := by decide +kernel
theorem dX5_split_57 : decode cX5_split 57 = .ok (.invokespecial 69, 3) := by decide +kernel
theorem dX5_split_60 : decode cX5_split 60 = .ok (.athrow, 1) := by decide +kernel
theorem dX5_split_61 : decode cX5_split 61 = .ok (.aload_n 0, 1) := by decide +kernel
theorem dX5_split_62 : decode cX5_split 62 = .ok (.getfield 34, 3) := by decide +kernel
theorem dX5_split_65 : decode cX5_split 65 = .ok (.aload_n 0, 1) := by decide +kernel
theorem dX5_split_66 : decode cX5_split 66 = .ok (.getfield 19, 3) := by decide +kernel
theorem dX5_split_69 : decode cX5_split 69 = .ok (.getfield 184, 3) := by decide +kernel
theorem dX5_split_72 : decode cX5_split 72 = .ok (.iload_n 1, 1) := by decide +kernel
theorem dX5_split_73 : decode cX5_split 73 = .ok (.aaload, 1) := by decide +kernel
theorem dX5_split_74 : decode cX5_split 74 = .ok (.invokevirtual 188, 3) := by decide +kernel
theorem dX5_split_77 : decode cX5_split 77 = .ok (.aload_n 0, 1) := by decide +kernel
theorem dX5_split_78 : decode cX5_split 78 = .ok (.getfield 19, 3) := by decide +kernel
theorem dX5_split_81 : decode cX5_split 81 = .ok (.iload_n 1, 1) := by decide +kernel
theorem dX5_split_82 : decode cX5_split 82 = .ok (.invokevirtual 181, 3) := by decide +kernel
theorem dX5_split_85 : decode cX5_split 85 = .ok (.iconst 0, 1) := by decide +kernel
theorem dX5_split_86 : decode cX5_split 86 = .ok (.istore_n 3, 1) := by decide +kernel
theorem dX5_split_87 : decode cX5_split 87 = .ok (.iload_n 3, 1) := by decide +kernel
theorem dX5_split_88 : decode cX5_split 88 = .ok (.iload_n 2, 1) := by decide +kernel
theorem dX5_split_89 : decode cX5_split 89 = .ok (.if_icmp .ge 29, 3) := by decide +kernel
theorem dX5_split_92 : decode cX5_split 92 = .ok (.aload_n 0, 1) := by decide +kernel
theorem dX5_split_93 : decode cX5_split 93 = .ok (.getfield 19, 3) := by decide +kernel
theorem dX5_split_96 : decode cX5_split 96 = .ok (.iload_n 1, 1) := by decide +kernel
theorem dX5_split_97 : decode cX5_split 97 = .ok (.iload_n 3, 1) := by decide +kernel
theorem dX5_split_98 : decode cX5_split 98 = .ok (.iadd, 1) := by decide +kernel
theorem dX5_split_99 : decode cX5_split 99 = .ok (.invokevirtual 200, 3) := by decide +kernel
theorem dX5_split_102 : decode cX5_split 102 = .ok (.aload_n 0, 1) := by decide +kernel
theorem dX5_split_103 : decode cX5_split 103 = .ok (.getfield 34, 3) := by decide +kernel
theorem dX5_split_106 : decode cX5_split 106 = .ok (.iload_n 3, 1) := by decide +kernel
theorem dX5_split_107 : decode cX5_split 107 = .ok (.iconst 1, 1) := by decide +kernel
theorem dX5_split_108 : decode cX5_split 108 = .ok (.iadd, 1) := by decide +kernel
theorem dX5_split_109 : decode cX5_split 109 = .ok (.invokevirtual 204, 3) := by decide +kernel
theorem dX5_split_112 : decode cX5_split 112 = .ok (.iinc 3 1, 3) := by decide +kernel
theorem dX5_split_115 : decode cX5_split 115 = .ok (.goto (-28), 3) := by decide +kernel
theorem dX5_split_118 : decode cX5_split 118 = .ok (.iload_n 2, 1) := by decide +kernel
theorem dX5_split_119 : decode cX5_split 119 = .ok (.ireturn, 1) := by decide +kernel
theorem dX5_join_0 : decode cX5_join 0 = .ok (.aload_n 0, 1) := by decide +kernel
theorem dX5_join_1 : decode cX5_join 1 = .ok (.iload_n 1, 1) := by decide +kernel
theorem dX5_join_2 : decode cX5_join 2 = .ok (.invokevirtual 177, 3) := by decide +kernel
theorem dX5_join_5 : decode cX5_join 5 = .ok (.iload_n 1, 1) := by decide +kernel
theorem dX5_join_6 : decode cX5_join 6 = .ok (.iconst 1, 1) := by decide +kernel
theorem dX5_join_7 : decode cX5_join 7 = .ok (.iadd, 1) := by decide +kernel
theorem dX5_join_8 : decode cX5_join 8 = .ok (.aload_n 0, 1) := by decide +kernel
theorem dX5_join_9 : decode cX5_join 9 = .ok (.getfield 19, 3) := by decide +kernel
theorem dX5_join_12 : decode cX5_join 12 = .ok (.getfield 61, 3) := by decide +kernel
theorem dX5_join_15 : decode cX5_join 15 = .ok (.if_icmp .ge 32, 3) := by decide +kernel
theorem dX5_join_18 : decode cX5_join 18 = .ok (.aload_n 0, 1) := by decide +kernel
theorem dX5_join_19 : decode cX5_join 19 = .ok (.getfield 19, 3) := by decide +kernel
theorem dX5_join_22 : decode cX5_join 22 = .ok (.getfield 184, 3) := by decide +kernel
theorem dX5_join_25 : decode cX5_join 25 = .ok (.iload_n 1, 1) := by decide +kernel
theorem dX5_join_26 : decode cX5_join 26 = .ok (.iconst 1, 1) := by decide +kernel
theorem dX5_join_27 : decode cX5_join 27 = .ok (.iadd, 1) := by decide +kernel
theorem dX5_join_28 : decode cX5_join 28 = .ok (.aaload, 1) := by decide +kernel
theorem dX5_join_29 : decode cX5_join 29 = .ok (.getfield 90, 3) := by decide +kernel
theorem dX5_join_32 : decode cX5_join 32 = .ok (.aload_n 0, 1) := by decide +kernel
theorem dX5_join_33 : decode cX5_join 33 = .ok (.getfield 19, 3) := by decide +kernel
theorem dX5_join_36 : decode cX5_join 36 = .ok (.getfield 184, 3) := by decide +kernel
theorem dX5_join_39 : decode cX5_join 39 = .ok (.iload_n 1, 1) := by decide +kernel
theorem dX5_join_40 : decode cX5_join 40 = .ok (.aaload, 1) := by decide +kernel
theorem dX5_join_41 : decode cX5_join 41 = .ok (.getfield 90, 3) := by decide +kernel
theorem dX5_join_44 : decode cX5_join 44 = .ok (.if_icmp .eq 13, 3) := by decide +kernel
theorem dX5_join_47 : decode cX5_join 47 = .ok (.new 208, 3) := by decide +kernel
theorem dX5_join_50 : decode cX5_join 50 = .ok (.dup, 1) := by decide +kernel
theorem dX5_join_51 : decode cX5_join 51 = .ok (.ldc 210, 2) := by decide +kernel
theorem dX5_join_53 : decode cX5_join 53 = .ok (.invokespecial 212, 3) := by decide +kernel
theorem dX5_join_56 : decode cX5_join 56 = .ok (.athrow, 1) := by decide +kernel
theorem dX5_join_57 : decode cX5_join 57 = .ok (.aload_n 0, 1) := by decide +kernel
theorem dX5_join_58 : decode cX5_join 58 = .ok (.getfield 40, 3) := by decide +kernel
theorem dX5_join_61 : decode cX5_join 61 = .ok (.aload_n 0, 1) := by decide +kernel
theorem dX5_join_62 : decode cX5_join 62 = .ok (.getfield 19, 3) := by decide +kernel
theorem dX5_join_65 : decode cX5_join 65 = .ok (.getfield 184, 3) := by decide +kernel
theorem dX5_join_68 : decode cX5_join 68 = .ok (.iload_n 1, 1) := by decide +kernel
theorem dX5_join_69 : decode cX5_join 69 = .ok (.aaload, 1) := by decide +kernel
theorem dX5_join_70 : decode cX5_join 70 = .ok (.aload_n 0, 1) := by decide +kernel
theorem dX5_join_71 : decode cX5_join 71 = .ok (.getfield 19, 3) := by decide +kernel
theorem dX5_join_74 : decode cX5_join 74 = .ok (.getfield 184, 3) := by decide +kernel
theorem dX5_join_77 : decode cX5_join 77 = .ok (.iload_n 1, 1) := by decide +kernel
theorem dX5_join_78 : decode cX5_join 78 = .ok (.iconst 1, 1) := by decide +kernel
theorem dX5_join_79 : decode cX5_join 79 = .ok (.iadd, 1) := by decide +kernel
theorem dX5_join_80 : decode cX5_join 80 = .ok (.aaload, 1) := by decide +kernel
theorem dX5_join_81 : decode cX5_join 81 = .ok (.invokevirtual 213, 3) := by decide +kernel
theorem dX5_join_84 : decode cX5_join 84 = .ok (.ifCond .ne 13, 3) := by decide +kernel
theorem dX5_join_87 : decode cX5_join 87 = .ok (.new 65, 3) := by decide +kernel
theorem dX5_join_90 : decode cX5_join 90 = .ok (.dup, 1) := by decide +kernel
theorem dX5_join_91 : decode cX5_join 91 = .ok (.ldc 217, 2) := by decide +kernel
theorem dX5_join_93 : decode cX5_join 93 = .ok (.invokespecial 69, 3) := by decide +kernel
theorem dX5_join_96 : decode cX5_join 96 = .ok (.athrow, 1) := by decide +kernel
theorem dX5_join_97 : decode cX5_join 97 = .ok (.aload_n 0, 1) := by decide +kernel
theorem dX5_join_98 : decode cX5_join 98 = .ok (.getfield 19, 3) := by decide +kernel
theorem dX5_join_101 : decode cX5_join 101 = .ok (.iload_n 1, 1) := by decide +kernel
theorem dX5_join_102 : decode cX5_join 102 = .ok (.iconst 1, 1) := by decide +kernel
theorem dX5_join_103 : decode cX5_join 103 = .ok (.iadd, 1) := by decide +kernel
theorem dX5_join_104 : decode cX5_join 104 = .ok (.invokevirtual 181, 3) := by decide +kernel
theorem dX5_join_107 : decode cX5_join 107 = .ok (.aload_n 0, 1) := by decide +kernel
theorem dX5_join_108 : decode cX5_join 108 = .ok (.getfield 19, 3) := by decide +kernel
theorem dX5_join_111 : decode cX5_join 111 = .ok (.getfield 184, 3) := by decide +kernel
theorem dX5_join_114 : decode cX5_join 114 = .ok (.iload_n 1, 1) := by decide +kernel
theorem dX5_join_115 : decode cX5_join 115 = .ok (.aaload, 1) := by decide +kernel
theorem dX5_join_116 : decode cX5_join 116 = .ok (.aload_n 0, 1) := by decide +kernel
theorem dX5_join_117 : decode cX5_join 117 = .ok (.getfield 40, 3) := by decide +kernel
theorem dX5_join_120 : decode cX5_join 120 = .ok (.getfield 219, 3) := by decide +kernel
theorem dX5_join_123 : decode cX5_join 123 = .ok (.invokevirtual 188, 3) := by decide +kernel
theorem dX5_join_126 : decode cX5_join 126 = .ok (.return_, 1) := by decide +kernel
theorem dX5_written_0 : decode cX5_written 0 = .ok (.aload_n 0, 1) := by decide +kernel
theorem dX5_written_1 : decode cX5_written 1 = .ok (.iload_n 1, 1) := by decide +kernel
theorem dX5_written_2 : decode cX5_written 2 = .ok (.invokevirtual 177, 3) := by decide +kernel
theorem dX5_written_5 : decode cX5_written 5 = .ok (.aload_n 0, 1) := by decide +kernel
theorem dX5_written_6 : decode cX5_written 6 = .ok (.getfield 51, 3) := by decide +kernel
theorem dX5_written_9 : decode cX5_written 9 = .ok (.aload_n 0, 1) := by decide +kernel
theorem dX5_written_10 : decode cX5_written 10 = .ok (.getfield 19, 3) := by decide +kernel
theorem dX5_written_13 : decode cX5_written 13 = .ok (.getfield 184, 3) := by decide +kernel
theorem dX5_written_16 : decode cX5_written 16 = .ok (.iload_n 1, 1) := by decide +kernel
theorem dX5_written_17 : decode cX5_written 17 = .ok (.aaload, 1) := by decide +kernel
theorem dX5_written_18 : decode cX5_written 18 = .ok (.invokevirtual 222, 3) := by decide +kernel
theorem dX5_written_21 : decode cX5_written 21 = .ok (.iload_n 2, 1) := by decide +kernel
theorem dX5_written_22 : decode cX5_written 22 = .ok (.iconst (-1), 1) := by decide +kernel
theorem dX5_written_23 : decode cX5_written 23 = .ok (.if_icmp .lt 14, 3) := by decide +kernel
theorem dX5_written_26 : decode cX5_written 26 = .ok (.iload_n 2, 1) := by decide +kernel
theorem dX5_written_27 : decode cX5_written 27 = .ok (.aload_n 0, 1) := by decide +kernel
theorem dX5_written_28 : decode cX5_written 28 = .ok (.getfield 51, 3) := by decide +kernel
theorem dX5_written_31 : decode cX5_written 31 = .ok (.getfield 225, 3) := by decide +kernel
theorem dX5_written_34 : decode cX5_written 34 = .ok (.if_icmp .lt 13, 3) := by decide +kernel
theorem dX5_written_37 : decode cX5_written 37 = .ok (.new 228, 3) := by decide +kernel
theorem dX5_written_40 : decode cX5_written 40 = .ok (.dup, 1) := by decide +kernel
theorem dX5_written_41 : decode cX5_written 41 = .ok (.ldc 230, 2) := by decide +kernel
theorem dX5_written_43 : decode cX5_written 43 = .ok (.invokespecial 232, 3) := by decide +kernel
theorem dX5_written_46 : decode cX5_written 46 = .ok (.athrow, 1) := by decide +kernel
theorem dX5_written_47 : decode cX5_written 47 = .ok (.iload_n 2, 1) := by decide +kernel
theorem dX5_written_48 : decode cX5_written 48 = .ok (.iconst (-1), 1) := by decide +kernel
theorem dX5_written_49 : decode cX5_written 49 = .ok (.if_icmp .ne 13, 3) := by decide +kernel
theorem dX5_written_52 : decode cX5_written 52 = .ok (.aload_n 0, 1) := by decide +kernel
theorem dX5_written_53 : decode cX5_written 53 = .ok (.getfield 51, 3) := by decide +kernel
theorem dX5_written_56 : decode cX5_written 56 = .ok (.getfield 225, 3) := by decide +kernel
theorem dX5_written_59 : decode cX5_written 59 = .ok (.goto 12, 3) := by decide +kernel
theorem dX5_written_62 : decode cX5_written 62 = .ok (.aload_n 0, 1) := by decide +kernel
theorem dX5_written_63 : decode cX5_written 63 = .ok (.getfield 51, 3) := by decide +kernel
theorem dX5_written_66 : decode cX5_written 66 = .ok (.getfield 233, 3) := by decide +kernel
theorem dX5_written_69 : decode cX5_written 69 = .ok (.iload_n 2, 1) := by decide +kernel
theorem dX5_written_70 : decode cX5_written 70 = .ok (.iaload, 1) := by decide +kernel
theorem dX5_written_71 : decode cX5_written 71 = .ok (.ireturn, 1) := by decide +kernel
theorem dX5_type_0 : decode cX5_type 0 = .ok (.iload_n 3, 1) := by decide +kernel
theorem dX5_type_1 : decode cX5_type 1 = .ok (.iconst 1, 1) := by decide +kernel
theorem dX5_type_2 : decode cX5_type 2 = .ok (.if_icmp .lt 9, 3) := by decide +kernel
theorem dX5_type_5 : decode cX5_type 5 = .ok (.iload_n 3, 1) := by decide +kernel
theorem dX5_type_6 : decode cX5_type 6 = .ok (.bipush 8, 2) := by decide +kernel
theorem dX5_type_8 : decode cX5_type 8 = .ok (.if_icmp .le 13, 3) := by decide +kernel
theorem dX5_type_11 : decode cX5_type 11 = .ok (.new 54, 3) := by decide +kernel
theorem dX5_type_14 : decode cX5_type 14 = .ok (.dup, 1) := by decide +kernel
theorem dX5_type_15 : decode cX5_type 15 = .ok (.ldc 101, 2) := by decide +kernel
theorem dX5_type_17 : decode cX5_type 17 = .ok (.invokespecial 58, 3) := by decide +kernel
theorem dX5_type_20 : decode cX5_type 20 = .ok (.athrow, 1) := by decide +kernel
theorem dX5_type_21 : decode cX5_type 21 = .ok (.aload_n 0, 1) := by decide +kernel
theorem dX5_type_22 : decode cX5_type 22 = .ok (.getfield 47, 3) := by decide +kernel
theorem dX5_type_25 : decode cX5_type 25 = .ok (.getfield 225, 3) := by decide +kernel
theorem dX5_type_28 : decode cX5_type 28 = .ok (.iload_n 3, 1) := by decide +kernel
theorem dX5_type_29 : decode cX5_type 29 = .ok (.iadd, 1) := by decide +kernel
theorem dX5_type_30 : decode cX5_type 30 = .ok (.bipush 120, 2) := by decide +kernel
theorem dX5_type_32 : decode cX5_type 32 = .ok (.if_icmp .le 13, 3) := by decide +kernel
theorem dX5_type_35 : decode cX5_type 35 = .ok (.new 65, 3) := by decide +kernel
theorem dX5_type_38 : decode cX5_type 38 = .ok (.dup, 1) := by decide +kernel
theorem dX5_type_39 : decode cX5_type 39 = .ok (.ldc 236, 2) := by decide +kernel
theorem dX5_type_41 : decode cX5_type 41 = .ok (.invokespecial 69, 3) := by decide +kernel
theorem dX5_type_44 : decode cX5_type 44 = .ok (.athrow, 1) := by decide +kernel
theorem dX5_type_45 : decode cX5_type 45 = .ok (.iload_n 3, 1) := by decide +kernel
theorem dX5_type_46 : decode cX5_type 46 = .ok (.iconst 1, 1) := by decide +kernel
theorem dX5_type_47 : decode cX5_type 47 = .ok (.isub, 1) := by decide +kernel
theorem dX5_type_48 : decode cX5_type 48 = .ok (.istore 4, 2) := by decide +kernel
theorem dX5_type_50 : decode cX5_type 50 = .ok (.iload 4, 2) := by decide +kernel
theorem dX5_type_52 : decode cX5_type 52 = .ok (.ifCond .lt 28, 3) := by decide +kernel
theorem dX5_type_55 : decode cX5_type 55 = .ok (.aload_n 0, 1) := by decide +kernel
theorem dX5_type_56 : decode cX5_type 56 = .ok (.getfield 47, 3) := by decide +kernel
theorem dX5_type_59 : decode cX5_type 59 = .ok (.lload_n 1, 1) := by decide +kernel
theorem dX5_type_60 : decode cX5_type 60 = .ok (.bipush 8, 2) := by decide +kernel
theorem dX5_type_62 : decode cX5_type 62 = .ok (.iload 4, 2) := by decide +kernel
theorem dX5_type_64 : decode cX5_type 64 = .ok (.imul, 1) := by decide +kernel
theorem dX5_type_65 : decode cX5_type 65 = .ok (.lushr, 1) := by decide +kernel
theorem dX5_type_66 : decode cX5_type 66 = .ok (.l2i, 1) := by decide +kernel
theorem dX5_type_67 : decode cX5_type 67 = .ok (.sipush 255, 3) := by decide +kernel
theorem dX5_type_70 : decode cX5_type 70 = .ok (.iand, 1) := by decide +kernel
theorem dX5_type_71 : decode cX5_type 71 = .ok (.invokevirtual 238, 3) := by decide +kernel
theorem dX5_type_74 : decode cX5_type 74 = .ok (.iinc 4 (-1), 3) := by decide +kernel
theorem dX5_type_77 : decode cX5_type 77 = .ok (.goto (-27), 3) := by decide +kernel
theorem dX5_type_80 : decode cX5_type 80 = .ok (.return_, 1) := by decide +kernel
theorem dX5_read_0 : decode cX5_read 0 = .ok (.aload_n 0, 1) := by decide +kernel
theorem dX5_read_1 : decode cX5_read 1 = .ok (.getfield 19, 3) := by decide +kernel
theorem dX5_read_4 : decode cX5_read 4 = .ok (.invokevirtual 167, 3) := by decide +kernel
theorem dX5_read_7 : decode cX5_read 7 = .ok (.istore_n 1, 1) := by decide +kernel
theorem dX5_read_8 : decode cX5_read 8 = .ok (.iload_n 1, 1) := by decide +kernel
theorem dX5_read_9 : decode cX5_read 9 = .ok (.ifCond .ne 14, 3) := by decide +kernel
theorem dX5_read_12 : decode cX5_read 12 = .ok (.aload_n 0, 1) := by decide +kernel
theorem dX5_read_13 : decode cX5_read 13 = .ok (.invokevirtual 241, 3) := by decide +kernel
theorem dX5_read_16 : decode cX5_read 16 = .ok (.ifCond .eq 7, 3) := by decide +kernel
theorem dX5_read_19 : decode cX5_read 19 = .ok (.iconst 1, 1) := by decide +kernel
theorem dX5_read_20 : decode cX5_read 20 = .ok (.goto 4, 3) := by decide +kernel
theorem dX5_read_23 : decode cX5_read 23 = .ok (.iconst 0, 1) := by decide +kernel
theorem dX5_read_24 : decode cX5_read 24 = .ok (.istore_n 2, 1) := by decide +kernel
theorem dX5_read_25 : decode cX5_read 25 = .ok (.aload_n 0, 1) := by decide +kernel
theorem dX5_read_26 : decode cX5_read 26 = .ok (.getfield 47, 3) := by decide +kernel
theorem dX5_read_29 : decode cX5_read 29 = .ok (.iconst 0, 1) := by decide +kernel
theorem dX5_read_30 : decode cX5_read 30 = .ok (.putfield 225, 3) := by decide +kernel
theorem dX5_read_33 : decode cX5_read 33 = .ok (.iload_n 1, 1) := by decide +kernel
theorem dX5_read_34 : decode cX5_read 34 = .ok (.ifCond .eq 13, 3) := by decide +kernel
theorem dX5_read_37 : decode cX5_read 37 = .ok (.new 65, 3) := by decide +kernel
theorem dX5_read_40 : decode cX5_read 40 = .ok (.dup, 1) := by decide +kernel
theorem dX5_read_41 : decode cX5_read 41 = .ok (.ldc 171, 2) := by decide +kernel
theorem dX5_read_43 : decode cX5_read 43 = .ok (.invokespecial 69, 3) := by decide +kernel
theorem dX5_read_46 : decode cX5_read 46 = .ok (.athrow, 1) := by decide +kernel
theorem dX5_read_47 : decode cX5_read 47 = .ok (.iload_n 2, 1) := by decide +kernel
theorem dX5_read_48 : decode cX5_read 48 = .ok (.ifCond .ne 13, 3) := by decide +kernel
theorem dX5_read_51 : decode cX5_read 51 = .ok (.new 54, 3) := by decide +kernel
theorem dX5_read_54 : decode cX5_read 54 = .ok (.dup, 1) := by decide +kernel
theorem dX5_read_55 : decode cX5_read 55 = .ok (.ldc 244, 2) := by decide +kernel
theorem dX5_read_57 : decode cX5_read 57 = .ok (.invokespecial 58, 3) := by decide +kernel
theorem dX5_read_60 : decode cX5_read 60 = .ok (.athrow, 1) := by decide +kernel
theorem dX5_read_61 : decode cX5_read 61 = .ok (.aload_n 0, 1) := by decide +kernel
theorem dX5_read_62 : decode cX5_read 62 = .ok (.getfield 19, 3) := by decide +kernel
theorem dX5_read_65 : decode cX5_read 65 = .ok (.aload_n 0, 1) := by decide +kernel
theorem dX5_read_66 : decode cX5_read 66 = .ok (.getfield 34, 3) := by decide +kernel
theorem dX5_read_69 : decode cX5_read 69 = .ok (.invokevirtual 173, 3) := by decide +kernel
theorem dX5_read_72 : decode cX5_read 72 = .ok (.ireturn, 1) := by decide +kernel
theorem dX5_records_0 : decode cX5_records 0 = .ok (.aload_n 0, 1) := by decide +kernel
theorem dX5_records_1 : decode cX5_records 1 = .ok (.getfield 19, 3) := by decide +kernel
theorem dX5_records_4 : decode cX5_records 4 = .ok (.getfield 61, 3) := by decide +kernel
theorem dX5_records_7 : decode cX5_records 7 = .ok (.ireturn, 1) := by decide +kernel
theorem dX5_about_0 : decode cX5_about 0 = .ok (.aload_n 0, 1) := by decide +kernel
theorem dX5_about_1 : decode cX5_about 1 = .ok (.iload_n 1, 1) := by decide +kernel
theorem dX5_about_2 : decode cX5_about 2 = .ok (.invokevirtual 177, 3) := by decide +kernel
theorem dX5_about_5 : decode cX5_about 5 = .ok (.aload_n 0, 1) := by decide +kernel
theorem dX5_about_6 : decode cX5_about 6 = .ok (.getfield 19, 3) := by decide +kernel
theorem dX5_about_9 : decode cX5_about 9 = .ok (.getfield 184, 3) := by decide +kernel
theorem dX5_about_12 : decode cX5_about 12 = .ok (.iload_n 1, 1) := by decide +kernel
theorem dX5_about_13 : decode cX5_about 13 = .ok (.aaload, 1) := by decide +kernel
theorem dX5_about_14 : decode cX5_about 14 = .ok (.astore_n 3, 1) := by decide +kernel
theorem dX5_about_15 : decode cX5_about 15 = .ok (.iload_n 2, 1) := by decide +kernel
theorem dX5_about_16 : decode cX5_about 16 = .ok (.tableswitch 63 0 4 #[36, 41, 46, 53, 58], 36) := by decide +kernel
theorem dX5_about_52 : decode cX5_about 52 = .ok (.aload_n 3, 1) := by decide +kernel
theorem dX5_about_53 : decode cX5_about 53 = .ok (.getfield 90, 3) := by decide +kernel
theorem dX5_about_56 : decode cX5_about 56 = .ok (.ireturn, 1) := by decide +kernel
theorem dX5_about_57 : decode cX5_about 57 = .ok (.aload_n 3, 1) := by decide +kernel
theorem dX5_about_58 : decode cX5_about 58 = .ok (.getfield 105, 3) := by decide +kernel
theorem dX5_about_61 : decode cX5_about 61 = .ok (.ireturn, 1) := by decide +kernel
theorem dX5_about_62 : decode cX5_about 62 = .ok (.aload_n 3, 1) := by decide +kernel
theorem dX5_about_63 : decode cX5_about 63 = .ok (.getfield 246, 3) := by decide +kernel
theorem dX5_about_66 : decode cX5_about 66 = .ok (.iconst 0, 1) := by decide +kernel
theorem dX5_about_67 : decode cX5_about 67 = .ok (.iaload, 1) := by decide +kernel
theorem dX5_about_68 : decode cX5_about 68 = .ok (.ireturn, 1) := by decide +kernel
theorem dX5_about_69 : decode cX5_about 69 = .ok (.aload_n 3, 1) := by decide +kernel
theorem dX5_about_70 : decode cX5_about 70 = .ok (.getfield 134, 3) := by decide +kernel
theorem dX5_about_73 : decode cX5_about 73 = .ok (.ireturn, 1) := by decide +kernel
theorem dX5_about_74 : decode cX5_about 74 = .ok (.aload_n 3, 1) := by decide +kernel
theorem dX5_about_75 : decode cX5_about 75 = .ok (.invokevirtual 249, 3) := by decide +kernel
theorem dX5_about_78 : decode cX5_about 78 = .ok (.ireturn, 1) := by decide +kernel
theorem dX5_about_79 : decode cX5_about 79 = .ok (.new 54, 3) := by decide +kernel
theorem dX5_about_82 : decode cX5_about 82 = .ok (.dup, 1) := by decide +kernel
theorem dX5_about_83 : decode cX5_about 83 = .ok (.ldc 252, 2) := by decide +kernel
theorem dX5_about_85 : decode cX5_about 85 = .ok (.invokespecial 58, 3) := by decide +kernel
theorem dX5_about_88 : decode cX5_about 88 = .ok (.athrow, 1) := by decide +kernel
theorem dX5_base_0 : decode cX5_base 0 = .ok (.aload_n 0, 1) := by decide +kernel
theorem dX5_base_1 : decode cX5_base 1 = .ok (.iload_n 1, 1) := by decide +kernel
theorem dX5_base_2 : decode cX5_base 2 = .ok (.invokevirtual 177, 3) := by decide +kernel
theorem dX5_base_5 : decode cX5_base 5 = .ok (.aload_n 0, 1) := by decide +kernel
theorem dX5_base_6 : decode cX5_base 6 = .ok (.getfield 19, 3) := by decide +kernel
theorem dX5_base_9 : decode cX5_base 9 = .ok (.getfield 184, 3) := by decide +kernel
theorem dX5_base_12 : decode cX5_base 12 = .ok (.iload_n 1, 1) := by decide +kernel
theorem dX5_base_13 : decode cX5_base 13 = .ok (.aaload, 1) := by decide +kernel
theorem dX5_base_14 : decode cX5_base 14 = .ok (.astore 4, 2) := by decide +kernel
theorem dX5_base_16 : decode cX5_base 16 = .ok (.aload 4, 2) := by decide +kernel
theorem dX5_base_18 : decode cX5_base 18 = .ok (.iload_n 2, 1) := by decide +kernel
theorem dX5_base_19 : decode cX5_base 19 = .ok (.invokevirtual 119, 3) := by decide +kernel
theorem dX5_base_22 : decode cX5_base 22 = .ok (.ifCond .ne 13, 3) := by decide +kernel
theorem dX5_base_25 : decode cX5_base 25 = .ok (.new 54, 3) := by decide +kernel
theorem dX5_base_28 : decode cX5_base 28 = .ok (.dup, 1) := by decide +kernel
theorem dX5_base_29 : decode cX5_base 29 = .ok (.ldc 145, 2) := by decide +kernel
theorem dX5_base_31 : decode cX5_base 31 = .ok (.invokespecial 58, 3) := by decide +kernel
theorem dX5_base_34 : decode cX5_base 34 = .ok (.athrow, 1) := by decide +kernel
theorem dX5_base_35 : decode cX5_base 35 = .ok (.aload 4, 2) := by decide +kernel
theorem dX5_base_37 : decode cX5_base 37 = .ok (.getfield 246, 3) := by decide +kernel
theorem dX5_base_40 : decode cX5_base 40 = .ok (.iload_n 2, 1) := by decide +kernel
theorem dX5_base_41 : decode cX5_base 41 = .ok (.iaload, 1) := by decide +kernel
theorem dX5_base_42 : decode cX5_base 42 = .ok (.istore 5, 2) := by decide +kernel
theorem dX5_base_44 : decode cX5_base 44 = .ok (.iload_n 3, 1) := by decide +kernel
theorem dX5_base_45 : decode cX5_base 45 = .ok (.iconst (-1), 1) := by decide +kernel
theorem dX5_base_46 : decode cX5_base 46 = .ok (.if_icmp .lt 9, 3) := by decide +kernel
theorem dX5_base_49 : decode cX5_base 49 = .ok (.iload_n 3, 1) := by decide +kernel
theorem dX5_base_50 : decode cX5_base 50 = .ok (.iload 5, 2) := by decide +kernel
theorem dX5_base_52 : decode cX5_base 52 = .ok (.if_icmp .lt 13, 3) := by decide +kernel
theorem dX5_base_55 : decode cX5_base 55 = .ok (.new 228, 3) := by decide +kernel
theorem dX5_base_58 : decode cX5_base 58 = .ok (.dup, 1) := by decide +kernel
theorem dX5_base_59 : decode cX5_base 59 = .ok (.ldc 254, 2) := by decide +kernel
theorem dX5_base_61 : decode cX5_base 61 = .ok (.invokespecial 232, 3) := by decide +kernel
theorem dX5_base_64 : decode cX5_base 64 = .ok (.athrow, 1) := by decide +kernel
theorem dX5_base_65 : decode cX5_base 65 = .ok (.iload_n 3, 1) := by decide +kernel
theorem dX5_base_66 : decode cX5_base 66 = .ok (.iconst (-1), 1) := by decide +kernel
theorem dX5_base_67 : decode cX5_base 67 = .ok (.if_icmp .ne 8, 3) := by decide +kernel
theorem dX5_base_70 : decode cX5_base 70 = .ok (.iload 5, 2) := by decide +kernel
theorem dX5_base_72 : decode cX5_base 72 = .ok (.goto 17, 3) := by decide +kernel
theorem dX5_base_75 : decode cX5_base 75 = .ok (.aload 4, 2) := by decide +kernel
theorem dX5_base_77 : decode cX5_base 77 = .ok (.getfield 256, 3) := by decide +kernel
theorem dX5_base_80 : decode cX5_base 80 = .ok (.iload_n 2, 1) := by decide +kernel
theorem dX5_base_81 : decode cX5_base 81 = .ok (.iaload, 1) := by decide +kernel
theorem dX5_base_82 : decode cX5_base 82 = .ok (.i2l, 1) := by decide +kernel
theorem dX5_base_83 : decode cX5_base 83 = .ok (.iload 5, 2) := by decide +kernel
theorem dX5_base_85 : decode cX5_base 85 = .ok (.iload_n 3, 1) := by decide +kernel
theorem dX5_base_86 : decode cX5_base 86 = .ok (.invokestatic 258, 3) := by decide +kernel
theorem dX5_base_89 : decode cX5_base 89 = .ok (.ireturn, 1) := by decide +kernel
theorem dX5_found_0 : decode cX5_found 0 = .ok (.iload_n 1, 1) := by decide +kernel
theorem dX5_found_1 : decode cX5_found 1 = .ok (.iload_n 2, 1) := by decide +kernel
theorem dX5_found_2 : decode cX5_found 2 = .ok (.invokestatic 262, 3) := by decide +kernel
theorem dX5_found_5 : decode cX5_found 5 = .ok (.iconst 0, 1) := by decide +kernel
theorem dX5_found_6 : decode cX5_found 6 = .ok (.istore_n 3, 1) := by decide +kernel
theorem dX5_found_7 : decode cX5_found 7 = .ok (.iconst 0, 1) := by decide +kernel
theorem dX5_found_8 : decode cX5_found 8 = .ok (.istore 4, 2) := by decide +kernel
theorem dX5_found_10 : decode cX5_found 10 = .ok (.iload 4, 2) := by decide +kernel
theorem dX5_found_12 : decode cX5_found 12 = .ok (.aload_n 0, 1) := by decide +kernel
theorem dX5_found_13 : decode cX5_found 13 = .ok (.getfield 19, 3) := by decide +kernel
theorem dX5_found_16 : decode cX5_found 16 = .ok (.getfield 61, 3) := by decide +kernel
theorem dX5_found_19 : decode cX5_found 19 = .ok (.if_icmp .ge 30, 3) := by decide +kernel
theorem dX5_found_22 : decode cX5_found 22 = .ok (.aload_n 0, 1) := by decide +kernel
theorem dX5_found_23 : decode cX5_found 23 = .ok (.getfield 19, 3) := by decide +kernel
theorem dX5_found_26 : decode cX5_found 26 = .ok (.getfield 184, 3) := by decide +kernel
theorem dX5_found_29 : decode cX5_found 29 = .ok (.iload 4, 2) := by decide +kernel
theorem dX5_found_31 : decode cX5_found 31 = .ok (.aaload, 1) := by decide +kernel
theorem dX5_found_32 : decode cX5_found 32 = .ok (.iload_n 1, 1) := by decide +kernel
theorem dX5_found_33 : decode cX5_found 33 = .ok (.iload_n 2, 1) := by decide +kernel
theorem dX5_found_34 : decode cX5_found 34 = .ok (.invokevirtual 265, 3) := by decide +kernel
theorem dX5_found_37 : decode cX5_found 37 = .ok (.ifCond .eq 6, 3) := by decide +kernel
theorem dX5_found_40 : decode cX5_found 40 = .ok (.iinc 3 1, 3) := by decide +kernel
theorem dX5_found_43 : decode cX5_found 43 = .ok (.iinc 4 1, 3) := by decide +kernel
theorem dX5_found_46 : decode cX5_found 46 = .ok (.goto (-36), 3) := by decide +kernel
theorem dX5_found_49 : decode cX5_found 49 = .ok (.iload_n 3, 1) := by decide +kernel
theorem dX5_found_50 : decode cX5_found 50 = .ok (.ireturn, 1) := by decide +kernel
theorem dX5_mean_0 : decode cX5_mean 0 = .ok (.iload_n 1, 1) := by decide +kernel
theorem dX5_mean_1 : decode cX5_mean 1 = .ok (.iload_n 2, 1) := by decide +kernel
theorem dX5_mean_2 : decode cX5_mean 2 = .ok (.invokestatic 262, 3) := by decide +kernel
theorem dX5_mean_5 : decode cX5_mean 5 = .ok (.iconst 0, 1) := by decide +kernel
theorem dX5_mean_6 : decode cX5_mean 6 = .ok (.istore_n 3, 1) := by decide +kernel
theorem dX5_mean_7 : decode cX5_mean 7 = .ok (.fconst 0, 1) := by decide +kernel
theorem dX5_mean_8 : decode cX5_mean 8 = .ok (.fstore 4, 2) := by decide +kernel
theorem dX5_mean_10 : decode cX5_mean 10 = .ok (.iconst 0, 1) := by decide +kernel
theorem dX5_mean_11 : decode cX5_mean 11 = .ok (.istore 5, 2) := by decide +kernel
theorem dX5_mean_13 : decode cX5_mean 13 = .ok (.iload 5, 2) := by decide +kernel
theorem dX5_mean_15 : decode cX5_mean 15 = .ok (.aload_n 0, 1) := by decide +kernel
theorem dX5_mean_16 : decode cX5_mean 16 = .ok (.getfield 19, 3) := by decide +kernel
theorem dX5_mean_19 : decode cX5_mean 19 = .ok (.getfield 61, 3) := by decide +kernel
theorem dX5_mean_22 : decode cX5_mean 22 = .ok (.if_icmp .ge 53, 3) := by decide +kernel
theorem dX5_mean_25 : decode cX5_mean 25 = .ok (.aload_n 0, 1) := by decide +kernel
theorem dX5_mean_26 : decode cX5_mean 26 = .ok (.getfield 19, 3) := by decide +kernel
theorem dX5_mean_29 : decode cX5_mean 29 = .ok (.getfield 184, 3) := by decide +kernel
theorem dX5_mean_32 : decode cX5_mean 32 = .ok (.iload 5, 2) := by decide +kernel
theorem dX5_mean_34 : decode cX5_mean 34 = .ok (.aaload, 1) := by decide +kernel
theorem dX5_mean_35 : decode cX5_mean 35 = .ok (.iload_n 1, 1) := by decide +kernel
theorem dX5_mean_36 : decode cX5_mean 36 = .ok (.iload_n 2, 1) := by decide +kernel
theorem dX5_mean_37 : decode cX5_mean 37 = .ok (.invokevirtual 265, 3) := by decide +kernel
theorem dX5_mean_40 : decode cX5_mean 40 = .ok (.ifCond .eq 29, 3) := by decide +kernel
theorem dX5_mean_43 : decode cX5_mean 43 = .ok (.iinc 3 1, 3) := by decide +kernel
theorem dX5_mean_46 : decode cX5_mean 46 = .ok (.fload 4, 2) := by decide +kernel
theorem dX5_mean_48 : decode cX5_mean 48 = .ok (.aload_n 0, 1) := by decide +kernel
theorem dX5_mean_49 : decode cX5_mean 49 = .ok (.getfield 19, 3) := by decide +kernel
theorem dX5_mean_52 : decode cX5_mean 52 = .ok (.getfield 184, 3) := by decide +kernel
theorem dX5_mean_55 : decode cX5_mean 55 = .ok (.iload 5, 2) := by decide +kernel
theorem dX5_mean_57 : decode cX5_mean 57 = .ok (.aaload, 1) := by decide +kernel
theorem dX5_mean_58 : decode cX5_mean 58 = .ok (.getfield 134, 3) := by decide +kernel
theorem dX5_mean_61 : decode cX5_mean 61 = .ok (.i2f, 1) := by decide +kernel
theorem dX5_mean_62 : decode cX5_mean 62 = .ok (.ldc_w 268, 3) := by decide +kernel
theorem dX5_mean_65 : decode cX5_mean 65 = .ok (.fmul, 1) := by decide +kernel
theorem dX5_mean_66 : decode cX5_mean 66 = .ok (.fadd, 1) := by decide +kernel
theorem dX5_mean_67 : decode cX5_mean 67 = .ok (.fstore 4, 2) := by decide +kernel
theorem dX5_mean_69 : decode cX5_mean 69 = .ok (.iinc 5 1, 3) := by decide +kernel
theorem dX5_mean_72 : decode cX5_mean 72 = .ok (.goto (-59), 3) := by decide +kernel
theorem dX5_mean_75 : decode cX5_mean 75 = .ok (.iload_n 3, 1) := by decide +kernel
theorem dX5_mean_76 : decode cX5_mean 76 = .ok (.ifCond .ne 14, 3) := by decide +kernel
theorem dX5_mean_79 : decode cX5_mean 79 = .ok (.new 208, 3) := by decide +kernel
theorem dX5_mean_82 : decode cX5_mean 82 = .ok (.dup, 1) := by decide +kernel
theorem dX5_mean_83 : decode cX5_mean 83 = .ok (.ldc_w 269, 3) := by decide +kernel
theorem dX5_mean_86 : decode cX5_mean 86 = .ok (.invokespecial 212, 3) := by decide +kernel
theorem dX5_mean_89 : decode cX5_mean 89 = .ok (.athrow, 1) := by decide +kernel
theorem dX5_mean_90 : decode cX5_mean 90 = .ok (.fload 4, 2) := by decide +kernel
theorem dX5_mean_92 : decode cX5_mean 92 = .ok (.iload_n 3, 1) := by decide +kernel
theorem dX5_mean_93 : decode cX5_mean 93 = .ok (.i2f, 1) := by decide +kernel
theorem dX5_mean_94 : decode cX5_mean 94 = .ok (.fdiv, 1) := by decide +kernel
theorem dX5_mean_95 : decode cX5_mean 95 = .ok (.freturn, 1) := by decide +kernel
theorem dX5_requireRecord_0 : decode cX5_requireRecord 0 = .ok (.iload_n 1, 1) := by decide +kernel
theorem dX5_requireRecord_1 : decode cX5_requireRecord 1 = .ok (.ifCond .lt 14, 3) := by decide +kernel
theorem dX5_requireRecord_4 : decode cX5_requireRecord 4 = .ok (.iload_n 1, 1) := by decide +kernel
theorem dX5_requireRecord_5 : decode cX5_requireRecord 5 = .ok (.aload_n 0, 1) := by decide +kernel
theorem dX5_requireRecord_6 : decode cX5_requireRecord 6 = .ok (.getfield 19, 3) := by decide +kernel
theorem dX5_requireRecord_9 : decode cX5_requireRecord 9 = .ok (.getfield 61, 3) := by decide +kernel
theorem dX5_requireRecord_12 : decode cX5_requireRecord 12 = .ok (.if_icmp .lt 14, 3) := by decide +kernel
theorem dX5_requireRecord_15 : decode cX5_requireRecord 15 = .ok (.new 54, 3) := by decide +kernel
theorem dX5_requireRecord_18 : decode cX5_requireRecord 18 = .ok (.dup, 1) := by decide +kernel
theorem dX5_requireRecord_19 : decode cX5_requireRecord 19 = .ok (.ldc_w 271, 3) := by decide +kernel
theorem dX5_requireRecord_22 : decode cX5_requireRecord 22 = .ok (.invokespecial 58, 3) := by decide +kernel
theorem dX5_requireRecord_25 : decode cX5_requireRecord 25 = .ok (.athrow, 1) := by decide +kernel
theorem dX5_requireRecord_26 : decode cX5_requireRecord 26 = .ok (.return_, 1) := by decide +kernel
theorem dX5_requireRegion_0 : decode cX5_requireRegion 0 = .ok (.iload_n 0, 1) := by decide +kernel
theorem dX5_requireRegion_1 : decode cX5_requireRegion 1 = .ok (.iconst 1, 1) := by decide +kernel
theorem dX5_requireRegion_2 : decode cX5_requireRegion 2 = .ok (.if_icmp .lt 15, 3) := by decide +kernel
theorem dX5_requireRegion_5 : decode cX5_requireRegion 5 = .ok (.iload_n 0, 1) := by decide +kernel
theorem dX5_requireRegion_6 : decode cX5_requireRegion 6 = .ok (.iload_n 1, 1) := by decide +kernel
theorem dX5_requireRegion_7 : decode cX5_requireRegion 7 = .ok (.if_icmp .gt 10, 3) := by decide +kernel
theorem dX5_requireRegion_10 : decode cX5_requireRegion 10 = .ok (.iload_n 1, 1) := by decide +kernel
theorem dX5_requireRegion_11 : decode cX5_requireRegion 11 = .ok (.sipush 255, 3) := by decide +kernel
theorem dX5_requireRegion_14 : decode cX5_requireRegion 14 = .ok (.if_icmp .le 14, 3) := by decide +kernel
theorem dX5_requireRegion_17 : decode cX5_requireRegion 17 = .ok (.new 54, 3) := by decide +kernel
theorem dX5_requireRegion_20 : decode cX5_requireRegion 20 = .ok (.dup, 1) := by decide +kernel
theorem dX5_requireRegion_21 : decode cX5_requireRegion 21 = .ok (.ldc_w 273, 3) := by decide +kernel
theorem dX5_requireRegion_24 : decode cX5_requireRegion 24 = .ok (.invokespecial 58, 3) := by decide +kernel
theorem dX5_requireRegion_27 : decode cX5_requireRegion 27 = .ok (.athrow, 1) := by decide +kernel
theorem dX5_requireRegion_28 : decode cX5_requireRegion 28 = .ok (.return_, 1) := by decide +kernel
theorem dX5_takeTyped_0 : decode cX5_takeTyped 0 = .ok (.aload_n 0, 1) := by decide +kernel
theorem dX5_takeTyped_1 : decode cX5_takeTyped 1 = .ok (.getfield 47, 3) := by decide +kernel
theorem dX5_takeTyped_4 : decode cX5_takeTyped 4 = .ok (.aload_n 0, 1) := by decide +kernel
theorem dX5_takeTyped_5 : decode cX5_takeTyped 5 = .ok (.getfield 34, 3) := by decide +kernel
theorem dX5_takeTyped_8 : decode cX5_takeTyped 8 = .ok (.aload_n 0, 1) := by decide +kernel
theorem dX5_takeTyped_9 : decode cX5_takeTyped 9 = .ok (.getfield 10, 3) := by decide +kernel
theorem dX5_takeTyped_12 : decode cX5_takeTyped 12 = .ok (.invokevirtual 275, 3) := by decide +kernel
theorem dX5_takeTyped_15 : decode cX5_takeTyped 15 = .ok (.ifCond .ne 5, 3) := by decide +kernel
theorem dX5_takeTyped_18 : decode cX5_takeTyped 18 = .ok (.iconst 0, 1) := by decide +kernel
theorem dX5_takeTyped_19 : decode cX5_takeTyped 19 = .ok (.ireturn, 1) := by decide +kernel
theorem dX5_takeTyped_20 : decode cX5_takeTyped 20 = .ok (.aload_n 0, 1) := by decide +kernel
theorem dX5_takeTyped_21 : decode cX5_takeTyped 21 = .ok (.getfield 51, 3) := by decide +kernel
theorem dX5_takeTyped_24 : decode cX5_takeTyped 24 = .ok (.aload_n 0, 1) := by decide +kernel
theorem dX5_takeTyped_25 : decode cX5_takeTyped 25 = .ok (.getfield 34, 3) := by decide +kernel
theorem dX5_takeTyped_28 : decode cX5_takeTyped 28 = .ok (.invokevirtual 222, 3) := by decide +kernel
theorem dX5_takeTyped_31 : decode cX5_takeTyped 31 = .ok (.aload_n 0, 1) := by decide +kernel
theorem dX5_takeTyped_32 : decode cX5_takeTyped 32 = .ok (.getfield 51, 3) := by decide +kernel
theorem dX5_takeTyped_35 : decode cX5_takeTyped 35 = .ok (.aload_n 0, 1) := by decide +kernel
theorem dX5_takeTyped_36 : decode cX5_takeTyped 36 = .ok (.getfield 47, 3) := by decide +kernel
theorem dX5_takeTyped_39 : decode cX5_takeTyped 39 = .ok (.invokevirtual 279, 3) := by decide +kernel
theorem dX5_takeTyped_42 : decode cX5_takeTyped 42 = .ok (.ireturn, 1) := by decide +kernel
theorem dX5_isWithin_0 : decode cX5_isWithin 0 = .ok (.iload_n 0, 1) := by decide +kernel
theorem dX5_isWithin_1 : decode cX5_isWithin 1 = .ok (.ifCond .lt 12, 3) := by decide +kernel
theorem dX5_isWithin_4 : decode cX5_isWithin 4 = .ok (.iload_n 0, 1) := by decide +kernel
theorem dX5_isWithin_5 : decode cX5_isWithin 5 = .ok (.iload_n 1, 1) := by decide +kernel
theorem dX5_isWithin_6 : decode cX5_isWithin 6 = .ok (.if_icmp .gt 7, 3) := by decide +kernel
theorem dX5_isWithin_9 : decode cX5_isWithin 9 = .ok (.iconst 1, 1) := by decide +kernel
theorem dX5_isWithin_10 : decode cX5_isWithin 10 = .ok (.goto 4, 3) := by decide +kernel
theorem dX5_isWithin_13 : decode cX5_isWithin 13 = .ok (.iconst 0, 1) := by decide +kernel
theorem dX5_isWithin_14 : decode cX5_isWithin 14 = .ok (.ireturn, 1) := by decide +kernel
theorem dX5_isSample_0 : decode cX5_isSample 0 = .ok (.iload_n 0, 1) := by decide +kernel
theorem dX5_isSample_1 : decode cX5_isSample 1 = .ok (.ifCond .lt 12, 3) := by decide +kernel
theorem dX5_isSample_4 : decode cX5_isSample 4 = .ok (.iload_n 0, 1) := by decide +kernel
theorem dX5_isSample_5 : decode cX5_isSample 5 = .ok (.iconst 2, 1) := by decide +kernel
theorem dX5_isSample_6 : decode cX5_isSample 6 = .ok (.if_icmp .ge 7, 3) := by decide +kernel
theorem dX5_isSample_9 : decode cX5_isSample 9 = .ok (.iconst 1, 1) := by decide +kernel
theorem dX5_isSample_10 : decode cX5_isSample 10 = .ok (.goto 4, 3) := by decide +kernel
theorem dX5_isSample_13 : decode cX5_isSample 13 = .ok (.iconst 0, 1) := by decide +kernel
theorem dX5_isSample_14 : decode cX5_isSample 14 = .ok (.ireturn, 1) := by decide +kernel
theorem dX5_lowBases_0 : decode cX5_lowBases 0 = .ok (.iconst 1, 1) := by decide +kernel
theorem dX5_lowBases_1 : decode cX5_lowBases 1 = .ok (.iconst 2, 1) := by decide +kernel
theorem dX5_lowBases_2 : decode cX5_lowBases 2 = .ok (.iload_n 0, 1) := by decide +kernel
theorem dX5_lowBases_3 : decode cX5_lowBases 3 = .ok (.imul, 1) := by decide +kernel
theorem dX5_lowBases_4 : decode cX5_lowBases 4 = .ok (.ishl, 1) := by decide +kernel
theorem dX5_lowBases_5 : decode cX5_lowBases 5 = .ok (.iconst 1, 1) := by decide +kernel
theorem dX5_lowBases_6 : decode cX5_lowBases 6 = .ok (.isub, 1) := by decide +kernel
theorem dX5_lowBases_7 : decode cX5_lowBases 7 = .ok (.ireturn, 1) := by decide +kernel
theorem dX5_baseOf_0 : decode cX5_baseOf 0 = .ok (.lload_n 0, 1) := by decide +kernel
theorem dX5_baseOf_1 : decode cX5_baseOf 1 = .ok (.iconst 2, 1) := by decide +kernel
theorem dX5_baseOf_2 : decode cX5_baseOf 2 = .ok (.iload_n 2, 1) := by decide +kernel
theorem dX5_baseOf_3 : decode cX5_baseOf 3 = .ok (.iconst 1, 1) := by decide +kernel
theorem dX5_baseOf_4 : decode cX5_baseOf 4 = .ok (.isub, 1) := by decide +kernel
theorem dX5_baseOf_5 : decode cX5_baseOf 5 = .ok (.iload_n 3, 1) := by decide +kernel
theorem dX5_baseOf_6 : decode cX5_baseOf 6 = .ok (.isub, 1) := by decide +kernel
theorem dX5_baseOf_7 : decode cX5_baseOf 7 = .ok (.imul, 1) := by decide +kernel
theorem dX5_baseOf_8 : decode cX5_baseOf 8 = .ok (.lushr, 1) := by decide +kernel
theorem dX5_baseOf_9 : decode cX5_baseOf 9 = .ok (.l2i, 1) := by decide +kernel
theorem dX5_baseOf_10 : decode cX5_baseOf 10 = .ok (.iconst 3, 1) := by decide +kernel
theorem dX5_baseOf_11 : decode cX5_baseOf 11 = .ok (.iand, 1) := by decide +kernel
theorem dX5_baseOf_12 : decode cX5_baseOf 12 = .ok (.ireturn, 1) := by decide +kernel
theorem dX5_pairNumber_0 : decode cX5_pairNumber 0 = .ok (.iload_n 0, 1) := by decide +kernel
theorem dX5_pairNumber_1 : decode cX5_pairNumber 1 = .ok (.iload_n 1, 1) := by decide +kernel
theorem dX5_pairNumber_2 : decode cX5_pairNumber 2 = .ok (.invokestatic 283, 3) := by decide +kernel
theorem dX5_pairNumber_5 : decode cX5_pairNumber 5 = .ok (.istore_n 2, 1) := by decide +kernel
theorem dX5_pairNumber_6 : decode cX5_pairNumber 6 = .ok (.iload_n 0, 1) := by decide +kernel
theorem dX5_pairNumber_7 : decode cX5_pairNumber 7 = .ok (.iload_n 1, 1) := by decide +kernel
theorem dX5_pairNumber_8 : decode cX5_pairNumber 8 = .ok (.invokestatic 288, 3) := by decide +kernel
theorem dX5_pairNumber_11 : decode cX5_pairNumber 11 = .ok (.istore_n 3, 1) := by decide +kernel
theorem dX5_pairNumber_12 : decode cX5_pairNumber 12 = .ok (.iload_n 3, 1) := by decide +kernel
theorem dX5_pairNumber_13 : decode cX5_pairNumber 13 = .ok (.iload_n 3, 1) := by decide +kernel
theorem dX5_pairNumber_14 : decode cX5_pairNumber 14 = .ok (.iconst 1, 1) := by decide +kernel
theorem dX5_pairNumber_15 : decode cX5_pairNumber 15 = .ok (.iadd, 1) := by decide +kernel
theorem dX5_pairNumber_16 : decode cX5_pairNumber 16 = .ok (.imul, 1) := by decide +kernel
theorem dX5_pairNumber_17 : decode cX5_pairNumber 17 = .ok (.iconst 2, 1) := by decide +kernel
theorem dX5_pairNumber_18 : decode cX5_pairNumber 18 = .ok (.idiv, 1) := by decide +kernel
theorem dX5_pairNumber_19 : decode cX5_pairNumber 19 = .ok (.iload_n 2, 1) := by decide +kernel
theorem dX5_pairNumber_20 : decode cX5_pairNumber 20 = .ok (.iadd, 1) := by decide +kernel
theorem dX5_pairNumber_21 : decode cX5_pairNumber 21 = .ok (.ireturn, 1) := by decide +kernel
