theorem dX0_init_0 : decode cX0_init 0 = .ok (.aload_n 0, 1) := by decide +kernel
theorem dX0_init_1 : decode cX0_init 1 = .ok (.invokespecial 3, 3) := by decide +kernel
theorem dX0_init_4 : decode cX0_init 4 = .ok (.aload_n 0, 1) := by decide +kernel
theorem dX0_init_5 : decode cX0_init 5 = .ok (.bipush 120, 2) := by decide +kernel
theorem dX0_init_7 : decode cX0_init 7 = .ok (.newarray .int, 2) := by decide +kernel
theorem dX0_init_9 : decode cX0_init 9 = .ok (.putfield 9, 3) := by decide +kernel
theorem dX0_init_12 : decode cX0_init 12 = .ok (.aload_n 0, 1) := by decide +kernel
theorem dX0_init_13 : decode cX0_init 13 = .ok (.iconst 0, 1) := by decide +kernel
theorem dX0_init_14 : decode cX0_init 14 = .ok (.putfield 15, 3) := by decide +kernel
theorem dX0_init_17 : decode cX0_init 17 = .ok (.aload_n 0, 1) := by decide +kernel
theorem dX0_init_18 : decode cX0_init 18 = .ok (.iconst 0, 1) := by decide +kernel
theorem dX0_init_19 : decode cX0_init 19 = .ok (.putfield 19, 3) := by decide +kernel
theorem dX0_init_22 : decode cX0_init 22 = .ok (.return_, 1) := by decide +kernel
theorem dX0_put_0 : decode cX0_put 0 = .ok (.aload_n 0, 1) := by decide +kernel
theorem dX0_put_1 : decode cX0_put 1 = .ok (.getfield 15, 3) := by decide +kernel
theorem dX0_put_4 : decode cX0_put 4 = .ok (.bipush 120, 2) := by decide +kernel
theorem dX0_put_6 : decode cX0_put 6 = .ok (.if_icmp .ge 23, 3) := by decide +kernel
theorem dX0_put_9 : decode cX0_put 9 = .ok (.aload_n 0, 1) := by decide +kernel
theorem dX0_put_10 : decode cX0_put 10 = .ok (.getfield 9, 3) := by decide +kernel
theorem dX0_put_13 : decode cX0_put 13 = .ok (.aload_n 0, 1) := by decide +kernel
theorem dX0_put_14 : decode cX0_put 14 = .ok (.getfield 15, 3) := by decide +kernel
theorem dX0_put_17 : decode cX0_put 17 = .ok (.iload_n 1, 1) := by decide +kernel
theorem dX0_put_18 : decode cX0_put 18 = .ok (.iastore, 1) := by decide +kernel
theorem dX0_put_19 : decode cX0_put 19 = .ok (.aload_n 0, 1) := by decide +kernel
theorem dX0_put_20 : decode cX0_put 20 = .ok (.dup, 1) := by decide +kernel
theorem dX0_put_21 : decode cX0_put 21 = .ok (.getfield 15, 3) := by decide +kernel
theorem dX0_put_24 : decode cX0_put 24 = .ok (.iconst 1, 1) := by decide +kernel
theorem dX0_put_25 : decode cX0_put 25 = .ok (.iadd, 1) := by decide +kernel
theorem dX0_put_26 : decode cX0_put 26 = .ok (.putfield 15, 3) := by decide +kernel
theorem dX0_put_29 : decode cX0_put 29 = .ok (.return_, 1) := by decide +kernel
theorem dX0_putNumber_0 : decode cX0_putNumber 0 = .ok (.aload_n 0, 1) := by decide +kernel
theorem dX0_putNumber_1 : decode cX0_putNumber 1 = .ok (.iload_n 1, 1) := by decide +kernel
theorem dX0_putNumber_2 : decode cX0_putNumber 2 = .ok (.sipush 255, 3) := by decide +kernel
theorem dX0_putNumber_5 : decode cX0_putNumber 5 = .ok (.iand, 1) := by decide +kernel
theorem dX0_putNumber_6 : decode cX0_putNumber 6 = .ok (.invokevirtual 22, 3) := by decide +kernel
theorem dX0_putNumber_9 : decode cX0_putNumber 9 = .ok (.iload_n 2, 1) := by decide +kernel
theorem dX0_putNumber_10 : decode cX0_putNumber 10 = .ok (.iconst 2, 1) := by decide +kernel
theorem dX0_putNumber_11 : decode cX0_putNumber 11 = .ok (.if_icmp .ne 11, 3) := by decide +kernel
theorem dX0_putNumber_14 : decode cX0_putNumber 14 = .ok (.aload_n 0, 1) := by decide +kernel
theorem dX0_putNumber_15 : decode cX0_putNumber 15 = .ok (.iload_n 1, 1) := by decide +kernel
theorem dX0_putNumber_16 : decode cX0_putNumber 16 = .ok (.bipush 8, 2) := by decide +kernel
theorem dX0_putNumber_18 : decode cX0_putNumber 18 = .ok (.ishr, 1) := by decide +kernel
theorem dX0_putNumber_19 : decode cX0_putNumber 19 = .ok (.invokevirtual 22, 3) := by decide +kernel
theorem dX0_putNumber_22 : decode cX0_putNumber 22 = .ok (.return_, 1) := by decide +kernel
theorem dX0_putVariant_0 : decode cX0_putVariant 0 = .ok (.aload_n 0, 1) := by decide +kernel
theorem dX0_putVariant_1 : decode cX0_putVariant 1 = .ok (.iconst 0, 1) := by decide +kernel
theorem dX0_putVariant_2 : decode cX0_putVariant 2 = .ok (.putfield 15, 3) := by decide +kernel
theorem dX0_putVariant_5 : decode cX0_putVariant 5 = .ok (.aload_n 0, 1) := by decide +kernel
theorem dX0_putVariant_6 : decode cX0_putVariant 6 = .ok (.aload_n 1, 1) := by decide +kernel
theorem dX0_putVariant_7 : decode cX0_putVariant 7 = .ok (.getfield 26, 3) := by decide +kernel
theorem dX0_putVariant_10 : decode cX0_putVariant 10 = .ok (.iconst 2, 1) := by decide +kernel
theorem dX0_putVariant_11 : decode cX0_putVariant 11 = .ok (.invokevirtual 31, 3) := by decide +kernel
theorem dX0_putVariant_14 : decode cX0_putVariant 14 = .ok (.aload_n 0, 1) := by decide +kernel
theorem dX0_putVariant_15 : decode cX0_putVariant 15 = .ok (.aload_n 1, 1) := by decide +kernel
theorem dX0_putVariant_16 : decode cX0_putVariant 16 = .ok (.getfield 35, 3) := by decide +kernel
theorem dX0_putVariant_19 : decode cX0_putVariant 19 = .ok (.iconst 2, 1) := by decide +kernel
theorem dX0_putVariant_20 : decode cX0_putVariant 20 = .ok (.invokevirtual 31, 3) := by decide +kernel
theorem dX0_putVariant_23 : decode cX0_putVariant 23 = .ok (.aload_n 0, 1) := by decide +kernel
theorem dX0_putVariant_24 : decode cX0_putVariant 24 = .ok (.aload_n 1, 1) := by decide +kernel
theorem dX0_putVariant_25 : decode cX0_putVariant 25 = .ok (.getfield 38, 3) := by decide +kernel
theorem dX0_putVariant_28 : decode cX0_putVariant 28 = .ok (.invokevirtual 22, 3) := by decide +kernel
theorem dX0_putVariant_31 : decode cX0_putVariant 31 = .ok (.iconst 0, 1) := by decide +kernel
theorem dX0_putVariant_32 : decode cX0_putVariant 32 = .ok (.istore_n 2, 1) := by decide +kernel
theorem dX0_putVariant_33 : decode cX0_putVariant 33 = .ok (.iload_n 2, 1) := by decide +kernel
theorem dX0_putVariant_34 : decode cX0_putVariant 34 = .ok (.aload_n 1, 1) := by decide +kernel
theorem dX0_putVariant_35 : decode cX0_putVariant 35 = .ok (.getfield 38, 3) := by decide +kernel
theorem dX0_putVariant_38 : decode cX0_putVariant 38 = .ok (.if_icmp .ge 25, 3) := by decide +kernel
theorem dX0_putVariant_41 : decode cX0_putVariant 41 = .ok (.aload_n 0, 1) := by decide +kernel
theorem dX0_putVariant_42 : decode cX0_putVariant 42 = .ok (.aload_n 1, 1) := by decide +kernel
theorem dX0_putVariant_43 : decode cX0_putVariant 43 = .ok (.getfield 41, 3) := by decide +kernel
theorem dX0_putVariant_46 : decode cX0_putVariant 46 = .ok (.iload_n 2, 1) := by decide +kernel
theorem dX0_putVariant_47 : decode cX0_putVariant 47 = .ok (.iaload, 1) := by decide +kernel
theorem dX0_putVariant_48 : decode cX0_putVariant 48 = .ok (.aload_n 1, 1) := by decide +kernel
theorem dX0_putVariant_49 : decode cX0_putVariant 49 = .ok (.getfield 44, 3) := by decide +kernel
theorem dX0_putVariant_52 : decode cX0_putVariant 52 = .ok (.iload_n 2, 1) := by decide +kernel
theorem dX0_putVariant_53 : decode cX0_putVariant 53 = .ok (.iaload, 1) := by decide +kernel
theorem dX0_putVariant_54 : decode cX0_putVariant 54 = .ok (.invokevirtual 47, 3) := by decide +kernel
theorem dX0_putVariant_57 : decode cX0_putVariant 57 = .ok (.iinc 2 1, 3) := by decide +kernel
theorem dX0_putVariant_60 : decode cX0_putVariant 60 = .ok (.goto (-27), 3) := by decide +kernel
theorem dX0_putVariant_63 : decode cX0_putVariant 63 = .ok (.aload_n 0, 1) := by decide +kernel
theorem dX0_putVariant_64 : decode cX0_putVariant 64 = .ok (.aload_n 1, 1) := by decide +kernel
theorem dX0_putVariant_65 : decode cX0_putVariant 65 = .ok (.getfield 50, 3) := by decide +kernel
theorem dX0_putVariant_68 : decode cX0_putVariant 68 = .ok (.iconst 0, 1) := by decide +kernel
theorem dX0_putVariant_69 : decode cX0_putVariant 69 = .ok (.aload_n 1, 1) := by decide +kernel
theorem dX0_putVariant_70 : decode cX0_putVariant 70 = .ok (.getfield 38, 3) := by decide +kernel
theorem dX0_putVariant_73 : decode cX0_putVariant 73 = .ok (.invokevirtual 53, 3) := by decide +kernel
theorem dX0_putVariant_76 : decode cX0_putVariant 76 = .ok (.iconst 0, 1) := by decide +kernel
theorem dX0_putVariant_77 : decode cX0_putVariant 77 = .ok (.istore_n 2, 1) := by decide +kernel
theorem dX0_putVariant_78 : decode cX0_putVariant 78 = .ok (.iload_n 2, 1) := by decide +kernel
theorem dX0_putVariant_79 : decode cX0_putVariant 79 = .ok (.iconst 2, 1) := by decide +kernel
theorem dX0_putVariant_80 : decode cX0_putVariant 80 = .ok (.if_icmp .ge 84, 3) := by decide +kernel
theorem dX0_putVariant_83 : decode cX0_putVariant 83 = .ok (.aload_n 0, 1) := by decide +kernel
theorem dX0_putVariant_84 : decode cX0_putVariant 84 = .ok (.bipush 33, 2) := by decide +kernel
theorem dX0_putVariant_86 : decode cX0_putVariant 86 = .ok (.invokevirtual 22, 3) := by decide +kernel
theorem dX0_putVariant_89 : decode cX0_putVariant 89 = .ok (.aload_n 1, 1) := by decide +kernel
theorem dX0_putVariant_90 : decode cX0_putVariant 90 = .ok (.getfield 57, 3) := by decide +kernel
theorem dX0_putVariant_93 : decode cX0_putVariant 93 = .ok (.iload_n 2, 1) := by decide +kernel
theorem dX0_putVariant_94 : decode cX0_putVariant 94 = .ok (.baload, 1) := by decide +kernel
theorem dX0_putVariant_95 : decode cX0_putVariant 95 = .ok (.ifCond .eq 7, 3) := by decide +kernel
theorem dX0_putVariant_98 : decode cX0_putVariant 98 = .ok (.iconst 1, 1) := by decide +kernel
theorem dX0_putVariant_99 : decode cX0_putVariant 99 = .ok (.goto 4, 3) := by decide +kernel
theorem dX0_putVariant_102 : decode cX0_putVariant 102 = .ok (.iconst 0, 1) := by decide +kernel
theorem dX0_putVariant_103 : decode cX0_putVariant 103 = .ok (.istore_n 3, 1) := by decide +kernel
theorem dX0_putVariant_104 : decode cX0_putVariant 104 = .ok (.aload_n 0, 1) := by decide +kernel
theorem dX0_putVariant_105 : decode cX0_putVariant 105 = .ok (.iconst 2, 1) := by decide +kernel
theorem dX0_putVariant_106 : decode cX0_putVariant 106 = .ok (.aload_n 1, 1) := by decide +kernel
theorem dX0_putVariant_107 : decode cX0_putVariant 107 = .ok (.getfield 61, 3) := by decide +kernel
theorem dX0_putVariant_110 : decode cX0_putVariant 110 = .ok (.iconst 2, 1) := by decide +kernel
theorem dX0_putVariant_111 : decode cX0_putVariant 111 = .ok (.iload_n 2, 1) := by decide +kernel
theorem dX0_putVariant_112 : decode cX0_putVariant 112 = .ok (.imul, 1) := by decide +kernel
theorem dX0_putVariant_113 : decode cX0_putVariant 113 = .ok (.iaload, 1) := by decide +kernel
theorem dX0_putVariant_114 : decode cX0_putVariant 114 = .ok (.iconst 1, 1) := by decide +kernel
theorem dX0_putVariant_115 : decode cX0_putVariant 115 = .ok (.iadd, 1) := by decide +kernel
theorem dX0_putVariant_116 : decode cX0_putVariant 116 = .ok (.imul, 1) := by decide +kernel
theorem dX0_putVariant_117 : decode cX0_putVariant 117 = .ok (.iload_n 3, 1) := by decide +kernel
theorem dX0_putVariant_118 : decode cX0_putVariant 118 = .ok (.iadd, 1) := by decide +kernel
theorem dX0_putVariant_119 : decode cX0_putVariant 119 = .ok (.invokevirtual 22, 3) := by decide +kernel
theorem dX0_putVariant_122 : decode cX0_putVariant 122 = .ok (.aload_n 0, 1) := by decide +kernel
theorem dX0_putVariant_123 : decode cX0_putVariant 123 = .ok (.iconst 2, 1) := by decide +kernel
theorem dX0_putVariant_124 : decode cX0_putVariant 124 = .ok (.aload_n 1, 1) := by decide +kernel
theorem dX0_putVariant_125 : decode cX0_putVariant 125 = .ok (.getfield 61, 3) := by decide +kernel
theorem dX0_putVariant_128 : decode cX0_putVariant 128 = .ok (.iconst 2, 1) := by decide +kernel
theorem dX0_putVariant_129 : decode cX0_putVariant 129 = .ok (.iload_n 2, 1) := by decide +kernel
theorem dX0_putVariant_130 : decode cX0_putVariant 130 = .ok (.imul, 1) := by decide +kernel
theorem dX0_putVariant_131 : decode cX0_putVariant 131 = .ok (.iconst 1, 1) := by decide +kernel
theorem dX0_putVariant_132 : decode cX0_putVariant 132 = .ok (.iadd, 1) := by decide +kernel
theorem dX0_putVariant_133 : decode cX0_putVariant 133 = .ok (.iaload, 1) := by decide +kernel
theorem dX0_putVariant_134 : decode cX0_putVariant 134 = .ok (.iconst 1, 1) := by decide +kernel
theorem dX0_putVariant_135 : decode cX0_putVariant 135 = .ok (.iadd, 1) := by decide +kernel
theorem dX0_putVariant_136 : decode cX0_putVariant 136 = .ok (.imul, 1) := by decide +kernel
theorem dX0_putVariant_137 : decode cX0_putVariant 137 = .ok (.iload_n 3, 1) := by decide +kernel
theorem dX0_putVariant_138 : decode cX0_putVariant 138 = .ok (.iadd, 1) := by decide +kernel
theorem dX0_putVariant_139 : decode cX0_putVariant 139 = .ok (.invokevirtual 22, 3) := by decide +kernel
theorem dX0_putVariant_142 : decode cX0_putVariant 142 = .ok (.aload_n 0, 1) := by decide +kernel
theorem dX0_putVariant_143 : decode cX0_putVariant 143 = .ok (.aload_n 1, 1) := by decide +kernel
theorem dX0_putVariant_144 : decode cX0_putVariant 144 = .ok (.getfield 64, 3) := by decide +kernel
theorem dX0_putVariant_147 : decode cX0_putVariant 147 = .ok (.bipush 10, 2) := by decide +kernel
theorem dX0_putVariant_149 : decode cX0_putVariant 149 = .ok (.iload_n 2, 1) := by decide +kernel
theorem dX0_putVariant_150 : decode cX0_putVariant 150 = .ok (.imul, 1) := by decide +kernel
theorem dX0_putVariant_151 : decode cX0_putVariant 151 = .ok (.aload_n 1, 1) := by decide +kernel
theorem dX0_putVariant_152 : decode cX0_putVariant 152 = .ok (.invokevirtual 67, 3) := by decide +kernel
theorem dX0_putVariant_155 : decode cX0_putVariant 155 = .ok (.invokevirtual 53, 3) := by decide +kernel
theorem dX0_putVariant_158 : decode cX0_putVariant 158 = .ok (.iinc 2 1, 3) := by decide +kernel
theorem dX0_putVariant_161 : decode cX0_putVariant 161 = .ok (.goto (-83), 3) := by decide +kernel
theorem dX0_putVariant_164 : decode cX0_putVariant 164 = .ok (.return_, 1) := by decide +kernel
theorem dX0_putAllele_0 : decode cX0_putAllele 0 = .ok (.aload_n 0, 1) := by decide +kernel
theorem dX0_putAllele_1 : decode cX0_putAllele 1 = .ok (.bipush 16, 2) := by decide +kernel
theorem dX0_putAllele_3 : decode cX0_putAllele 3 = .ok (.iload_n 2, 1) := by decide +kernel
theorem dX0_putAllele_4 : decode cX0_putAllele 4 = .ok (.imul, 1) := by decide +kernel
theorem dX0_putAllele_5 : decode cX0_putAllele 5 = .ok (.bipush 7, 2) := by decide +kernel
theorem dX0_putAllele_7 : decode cX0_putAllele 7 = .ok (.iadd, 1) := by decide +kernel
theorem dX0_putAllele_8 : decode cX0_putAllele 8 = .ok (.invokevirtual 22, 3) := by decide +kernel
theorem dX0_putAllele_11 : decode cX0_putAllele 11 = .ok (.iconst 0, 1) := by decide +kernel
theorem dX0_putAllele_12 : decode cX0_putAllele 12 = .ok (.istore_n 3, 1) := by decide +kernel
theorem dX0_putAllele_13 : decode cX0_putAllele 13 = .ok (.iload_n 3, 1) := by decide +kernel
theorem dX0_putAllele_14 : decode cX0_putAllele 14 = .ok (.iload_n 2, 1) := by decide +kernel
theorem dX0_putAllele_15 : decode cX0_putAllele 15 = .ok (.if_icmp .ge 24, 3) := by decide +kernel
theorem dX0_putAllele_18 : decode cX0_putAllele 18 = .ok (.aload_n 0, 1) := by decide +kernel
theorem dX0_putAllele_19 : decode cX0_putAllele 19 = .ok (.getstatic 71, 3) := by decide +kernel
theorem dX0_putAllele_22 : decode cX0_putAllele 22 = .ok (.iload_n 1, 1) := by decide +kernel
theorem dX0_putAllele_23 : decode cX0_putAllele 23 = .ok (.i2l, 1) := by decide +kernel
theorem dX0_putAllele_24 : decode cX0_putAllele 24 = .ok (.iload_n 2, 1) := by decide +kernel
theorem dX0_putAllele_25 : decode cX0_putAllele 25 = .ok (.iload_n 3, 1) := by decide +kernel
theorem dX0_putAllele_26 : decode cX0_putAllele 26 = .ok (.invokestatic 74, 3) := by decide +kernel
theorem dX0_putAllele_29 : decode cX0_putAllele 29 = .ok (.iaload, 1) := by decide +kernel
theorem dX0_putAllele_30 : decode cX0_putAllele 30 = .ok (.invokevirtual 22, 3) := by decide +kernel
theorem dX0_putAllele_33 : decode cX0_putAllele 33 = .ok (.iinc 3 1, 3) := by decide +kernel
theorem dX0_putAllele_36 : decode cX0_putAllele 36 = .ok (.goto (-23), 3) := by decide +kernel
theorem dX0_putAllele_39 : decode cX0_putAllele 39 = .ok (.return_, 1) := by decide +kernel
theorem dX0_putNumbers_0 : decode cX0_putNumbers 0 = .ok (.iconst 1, 1) := by decide +kernel
theorem dX0_putNumbers_1 : decode cX0_putNumbers 1 = .ok (.istore 4, 2) := by decide +kernel
theorem dX0_putNumbers_3 : decode cX0_putNumbers 3 = .ok (.iload_n 2, 1) := by decide +kernel
theorem dX0_putNumbers_4 : decode cX0_putNumbers 4 = .ok (.istore 5, 2) := by decide +kernel
theorem dX0_putNumbers_6 : decode cX0_putNumbers 6 = .ok (.iload 5, 2) := by decide +kernel
theorem dX0_putNumbers_8 : decode cX0_putNumbers 8 = .ok (.iload_n 2, 1) := by decide +kernel
theorem dX0_putNumbers_9 : decode cX0_putNumbers 9 = .ok (.iload_n 3, 1) := by decide +kernel
theorem dX0_putNumbers_10 : decode cX0_putNumbers 10 = .ok (.iadd, 1) := by decide +kernel
theorem dX0_putNumbers_11 : decode cX0_putNumbers 11 = .ok (.if_icmp .ge 21, 3) := by decide +kernel
theorem dX0_putNumbers_14 : decode cX0_putNumbers 14 = .ok (.aload_n 1, 1) := by decide +kernel
theorem dX0_putNumbers_15 : decode cX0_putNumbers 15 = .ok (.iload 5, 2) := by decide +kernel
theorem dX0_putNumbers_17 : decode cX0_putNumbers 17 = .ok (.iaload, 1) := by decide +kernel
theorem dX0_putNumbers_18 : decode cX0_putNumbers 18 = .ok (.bipush 127, 2) := by decide +kernel
theorem dX0_putNumbers_20 : decode cX0_putNumbers 20 = .ok (.if_icmp .le 6, 3) := by decide +kernel
theorem dX0_putNumbers_23 : decode cX0_putNumbers 23 = .ok (.iconst 2, 1) := by decide +kernel
theorem dX0_putNumbers_24 : decode cX0_putNumbers 24 = .ok (.istore 4, 2) := by decide +kernel
theorem dX0_putNumbers_26 : decode cX0_putNumbers 26 = .ok (.iinc 5 1, 3) := by decide +kernel
theorem dX0_putNumbers_29 : decode cX0_putNumbers 29 = .ok (.goto (-23), 3) := by decide +kernel
theorem dX0_putNumbers_32 : decode cX0_putNumbers 32 = .ok (.aload_n 0, 1) := by decide +kernel
theorem dX0_putNumbers_33 : decode cX0_putNumbers 33 = .ok (.bipush 16, 2) := by decide +kernel
theorem dX0_putNumbers_35 : decode cX0_putNumbers 35 = .ok (.iload_n 3, 1) := by decide +kernel
theorem dX0_putNumbers_36 : decode cX0_putNumbers 36 = .ok (.imul, 1) := by decide +kernel
theorem dX0_putNumbers_37 : decode cX0_putNumbers 37 = .ok (.iload 4, 2) := by decide +kernel
theorem dX0_putNumbers_39 : decode cX0_putNumbers 39 = .ok (.iadd, 1) := by decide +kernel
theorem dX0_putNumbers_40 : decode cX0_putNumbers 40 = .ok (.invokevirtual 22, 3) := by decide +kernel
theorem dX0_putNumbers_43 : decode cX0_putNumbers 43 = .ok (.iload_n 2, 1) := by decide +kernel
theorem dX0_putNumbers_44 : decode cX0_putNumbers 44 = .ok (.istore 5, 2) := by decide +kernel
theorem dX0_putNumbers_46 : decode cX0_putNumbers 46 = .ok (.iload 5, 2) := by decide +kernel
theorem dX0_putNumbers_48 : decode cX0_putNumbers 48 = .ok (.iload_n 2, 1) := by decide +kernel
theorem dX0_putNumbers_49 : decode cX0_putNumbers 49 = .ok (.iload_n 3, 1) := by decide +kernel
theorem dX0_putNumbers_50 : decode cX0_putNumbers 50 = .ok (.iadd, 1) := by decide +kernel
theorem dX0_putNumbers_51 : decode cX0_putNumbers 51 = .ok (.if_icmp .ge 19, 3) := by decide +kernel
theorem dX0_putNumbers_54 : decode cX0_putNumbers 54 = .ok (.aload_n 0, 1) := by decide +kernel
theorem dX0_putNumbers_55 : decode cX0_putNumbers 55 = .ok (.aload_n 1, 1) := by decide +kernel
theorem dX0_putNumbers_56 : decode cX0_putNumbers 56 = .ok (.iload 5, 2) := by decide +kernel
theorem dX0_putNumbers_58 : decode cX0_putNumbers 58 = .ok (.iaload, 1) := by decide +kernel
theorem dX0_putNumbers_59 : decode cX0_putNumbers 59 = .ok (.iload 4, 2) := by decide +kernel
theorem dX0_putNumbers_61 : decode cX0_putNumbers 61 = .ok (.invokevirtual 31, 3) := by decide +kernel
theorem dX0_putNumbers_64 : decode cX0_putNumbers 64 = .ok (.iinc 5 1, 3) := by decide +kernel
theorem dX0_putNumbers_67 : decode cX0_putNumbers 67 = .ok (.goto (-21), 3) := by decide +kernel
theorem dX0_putNumbers_70 : decode cX0_putNumbers 70 = .ok (.return_, 1) := by decide +kernel
theorem dX0_isSame_0 : decode cX0_isSame 0 = .ok (.aload_n 0, 1) := by decide +kernel
theorem dX0_isSame_1 : decode cX0_isSame 1 = .ok (.getfield 15, 3) := by decide +kernel
theorem dX0_isSame_4 : decode cX0_isSame 4 = .ok (.aload_n 1, 1) := by decide +kernel
theorem dX0_isSame_5 : decode cX0_isSame 5 = .ok (.getfield 15, 3) := by decide +kernel
theorem dX0_isSame_8 : decode cX0_isSame 8 = .ok (.if_icmp .eq 5, 3) := by decide +kernel
theorem dX0_isSame_11 : decode cX0_isSame 11 = .ok (.iconst 0, 1) := by decide +kernel
theorem dX0_isSame_12 : decode cX0_isSame 12 = .ok (.ireturn, 1) := by decide +kernel
theorem dX0_isSame_13 : decode cX0_isSame 13 = .ok (.iconst 0, 1) := by decide +kernel
theorem dX0_isSame_14 : decode cX0_isSame 14 = .ok (.istore_n 2, 1) := by decide +kernel
theorem dX0_isSame_15 : decode cX0_isSame 15 = .ok (.iload_n 2, 1) := by decide +kernel
theorem dX0_isSame_16 : decode cX0_isSame 16 = .ok (.aload_n 0, 1) := by decide +kernel
theorem dX0_isSame_17 : decode cX0_isSame 17 = .ok (.getfield 15, 3) := by decide +kernel
theorem dX0_isSame_20 : decode cX0_isSame 20 = .ok (.if_icmp .ge 26, 3) := by decide +kernel
theorem dX0_isSame_23 : decode cX0_isSame 23 = .ok (.aload_n 0, 1) := by decide +kernel
theorem dX0_isSame_24 : decode cX0_isSame 24 = .ok (.getfield 9, 3) := by decide +kernel
theorem dX0_isSame_27 : decode cX0_isSame 27 = .ok (.iload_n 2, 1) := by decide +kernel
theorem dX0_isSame_28 : decode cX0_isSame 28 = .ok (.iaload, 1) := by decide +kernel
theorem dX0_isSame_29 : decode cX0_isSame 29 = .ok (.aload_n 1, 1) := by decide +kernel
theorem dX0_isSame_30 : decode cX0_isSame 30 = .ok (.getfield 9, 3) := by decide +kernel
theorem dX0_isSame_33 : decode cX0_isSame 33 = .ok (.iload_n 2, 1) := by decide +kernel
theorem dX0_isSame_34 : decode cX0_isSame 34 = .ok (.iaload, 1) := by decide +kernel
theorem dX0_isSame_35 : decode cX0_isSame 35 = .ok (.if_icmp .eq 5, 3) := by decide +kernel
theorem dX0_isSame_38 : decode cX0_isSame 38 = .ok (.iconst 0, 1) := by decide +kernel
theorem dX0_isSame_39 : decode cX0_isSame 39 = .ok (.ireturn, 1) := by decide +kernel
theorem dX0_isSame_40 : decode cX0_isSame 40 = .ok (.iinc 2 1, 3) := by decide +kernel
theorem dX0_isSame_43 : decode cX0_isSame 43 = .ok (.goto (-28), 3) := by decide +kernel
theorem dX0_isSame_46 : decode cX0_isSame 46 = .ok (.iconst 1, 1) := by decide +kernel
theorem dX0_isSame_47 : decode cX0_isSame 47 = .ok (.ireturn, 1) := by decide +kernel
theorem dX0_take_0 : decode cX0_take 0 = .ok (.aload_n 0, 1) := by decide +kernel
theorem dX0_take_1 : decode cX0_take 1 = .ok (.getfield 19, 3) := by decide +kernel
theorem dX0_take_4 : decode cX0_take 4 = .ok (.aload_n 0, 1) := by decide +kernel
theorem dX0_take_5 : decode cX0_take 5 = .ok (.getfield 15, 3) := by decide +kernel
theorem dX0_take_8 : decode cX0_take 8 = .ok (.if_icmp .lt 5, 3) := by decide +kernel
theorem dX0_take_11 : decode cX0_take 11 = .ok (.iconst 0, 1) := by decide +kernel
theorem dX0_take_12 : decode cX0_take 12 = .ok (.ireturn, 1) := by decide +kernel
theorem dX0_take_13 : decode cX0_take 13 = .ok (.aload_n 0, 1) := by decide +kernel
theorem dX0_take_14 : decode cX0_take 14 = .ok (.dup, 1) := by decide +kernel
theorem dX0_take_15 : decode cX0_take 15 = .ok (.getfield 19, 3) := by decide +kernel
theorem dX0_take_18 : decode cX0_take 18 = .ok (.iconst 1, 1) := by decide +kernel
theorem dX0_take_19 : decode cX0_take 19 = .ok (.iadd, 1) := by decide +kernel
theorem dX0_take_20 : decode cX0_take 20 = .ok (.putfield 19, 3) := by decide +kernel
theorem dX0_take_23 : decode cX0_take 23 = .ok (.aload_n 0, 1) := by decide +kernel
theorem dX0_take_24 : decode cX0_take 24 = .ok (.getfield 9, 3) := by decide +kernel
theorem dX0_take_27 : decode cX0_take 27 = .ok (.aload_n 0, 1) := by decide +kernel
theorem dX0_take_28 : decode cX0_take 28 = .ok (.getfield 19, 3) := by decide +kernel
theorem dX0_take_31 : decode cX0_take 31 = .ok (.iconst 1, 1) := by decide +kernel
theorem dX0_take_32 : decode cX0_take 32 = .ok (.isub, 1) := by decide +kernel
theorem dX0_take_33 : decode cX0_take 33 = .ok (.iaload, 1) := by decide +kernel
theorem dX0_take_34 : decode cX0_take 34 = .ok (.ireturn, 1) := by decide +kernel
theorem dX0_takeNumber_0 : decode cX0_takeNumber 0 = .ok (.aload_n 0, 1) := by decide +kernel
theorem dX0_takeNumber_1 : decode cX0_takeNumber 1 = .ok (.invokevirtual 78, 3) := by decide +kernel
theorem dX0_takeNumber_4 : decode cX0_takeNumber 4 = .ok (.istore_n 2, 1) := by decide +kernel
theorem dX0_takeNumber_5 : decode cX0_takeNumber 5 = .ok (.iload_n 1, 1) := by decide +kernel
theorem dX0_takeNumber_6 : decode cX0_takeNumber 6 = .ok (.iconst 2, 1) := by decide +kernel
theorem dX0_takeNumber_7 : decode cX0_takeNumber 7 = .ok (.if_icmp .ne 16, 3) := by decide +kernel
theorem dX0_takeNumber_10 : decode cX0_takeNumber 10 = .ok (.iload_n 2, 1) := by decide +kernel
theorem dX0_takeNumber_11 : decode cX0_takeNumber 11 = .ok (.sipush 256, 3) := by decide +kernel
theorem dX0_takeNumber_14 : decode cX0_takeNumber 14 = .ok (.aload_n 0, 1) := by decide +kernel
theorem dX0_takeNumber_15 : decode cX0_takeNumber 15 = .ok (.invokevirtual 78, 3) := by decide +kernel
theorem dX0_takeNumber_18 : decode cX0_takeNumber 18 = .ok (.imul, 1) := by decide +kernel
theorem dX0_takeNumber_19 : decode cX0_takeNumber 19 = .ok (.iadd, 1) := by decide +kernel
theorem dX0_takeNumber_20 : decode cX0_takeNumber 20 = .ok (.goto 4, 3) := by decide +kernel
theorem dX0_takeNumber_23 : decode cX0_takeNumber 23 = .ok (.iload_n 2, 1) := by decide +kernel
theorem dX0_takeNumber_24 : decode cX0_takeNumber 24 = .ok (.ireturn, 1) := by decide +kernel
theorem dX0_takeVariant_0 : decode cX0_takeVariant 0 = .ok (.aload_n 0, 1) := by decide +kernel
theorem dX0_takeVariant_1 : decode cX0_takeVariant 1 = .ok (.iconst 0, 1) := by decide +kernel
theorem dX0_takeVariant_2 : decode cX0_takeVariant 2 = .ok (.putfield 19, 3) := by decide +kernel
theorem dX0_takeVariant_5 : decode cX0_takeVariant 5 = .ok (.aload_n 1, 1) := by decide +kernel
theorem dX0_takeVariant_6 : decode cX0_takeVariant 6 = .ok (.invokevirtual 81, 3) := by decide +kernel
theorem dX0_takeVariant_9 : decode cX0_takeVariant 9 = .ok (.aload_n 1, 1) := by decide +kernel
theorem dX0_takeVariant_10 : decode cX0_takeVariant 10 = .ok (.aload_n 0, 1) := by decide +kernel
theorem dX0_takeVariant_11 : decode cX0_takeVariant 11 = .ok (.iconst 2, 1) := by decide +kernel
theorem dX0_takeVariant_12 : decode cX0_takeVariant 12 = .ok (.invokevirtual 84, 3) := by decide +kernel
theorem dX0_takeVariant_15 : decode cX0_takeVariant 15 = .ok (.putfield 26, 3) := by decide +kernel
theorem dX0_takeVariant_18 : decode cX0_takeVariant 18 = .ok (.aload_n 1, 1) := by decide +kernel
theorem dX0_takeVariant_19 : decode cX0_takeVariant 19 = .ok (.aload_n 0, 1) := by decide +kernel
theorem dX0_takeVariant_20 : decode cX0_takeVariant 20 = .ok (.iconst 2, 1) := by decide +kernel
theorem dX0_takeVariant_21 : decode cX0_takeVariant 21 = .ok (.invokevirtual 84, 3) := by decide +kernel
theorem dX0_takeVariant_24 : decode cX0_takeVariant 24 = .ok (.putfield 35, 3) := by decide +kernel
theorem dX0_takeVariant_27 : decode cX0_takeVariant 27 = .ok (.aload_n 1, 1) := by decide +kernel
theorem dX0_takeVariant_28 : decode cX0_takeVariant 28 = .ok (.getfield 35, 3) := by decide +kernel
theorem dX0_takeVariant_31 : decode cX0_takeVariant 31 = .ok (.sipush 8000, 3) := by decide +kernel
theorem dX0_takeVariant_34 : decode cX0_takeVariant 34 = .ok (.if_icmp .gt 12, 3) := by decide +kernel
theorem dX0_takeVariant_37 : decode cX0_takeVariant 37 = .ok (.aload_n 0, 1) := by decide +kernel
theorem dX0_takeVariant_38 : decode cX0_takeVariant 38 = .ok (.aload_n 1, 1) := by decide +kernel
theorem dX0_takeVariant_39 : decode cX0_takeVariant 39 = .ok (.aload_n 2, 1) := by decide +kernel
theorem dX0_takeVariant_40 : decode cX0_takeVariant 40 = .ok (.invokevirtual 88, 3) := by decide +kernel
theorem dX0_takeVariant_43 : decode cX0_takeVariant 43 = .ok (.ifCond .ne 5, 3) := by decide +kernel
theorem dX0_takeVariant_46 : decode cX0_takeVariant 46 = .ok (.iconst 0, 1) := by decide +kernel
theorem dX0_takeVariant_47 : decode cX0_takeVariant 47 = .ok (.ireturn, 1) := by decide +kernel
theorem dX0_takeVariant_48 : decode cX0_takeVariant 48 = .ok (.aload_n 0, 1) := by decide +kernel
theorem dX0_takeVariant_49 : decode cX0_takeVariant 49 = .ok (.aload_n 1, 1) := by decide +kernel
theorem dX0_takeVariant_50 : decode cX0_takeVariant 50 = .ok (.getfield 50, 3) := by decide +kernel
theorem dX0_takeVariant_53 : decode cX0_takeVariant 53 = .ok (.iconst 0, 1) := by decide +kernel
theorem dX0_takeVariant_54 : decode cX0_takeVariant 54 = .ok (.aload_n 1, 1) := by decide +kernel
theorem dX0_takeVariant_55 : decode cX0_takeVariant 55 = .ok (.getfield 38, 3) := by decide +kernel
theorem dX0_takeVariant_58 : decode cX0_takeVariant 58 = .ok (.sipush 9999, 3) := by decide +kernel
theorem dX0_takeVariant_61 : decode cX0_takeVariant 61 = .ok (.invokevirtual 92, 3) := by decide +kernel
theorem dX0_takeVariant_64 : decode cX0_takeVariant 64 = .ok (.ifCond .ne 5, 3) := by decide +kernel
theorem dX0_takeVariant_67 : decode cX0_takeVariant 67 = .ok (.iconst 0, 1) := by decide +kernel
theorem dX0_takeVariant_68 : decode cX0_takeVariant 68 = .ok (.ireturn, 1) := by decide +kernel
theorem dX0_takeVariant_69 : decode cX0_takeVariant 69 = .ok (.iconst 0, 1) := by decide +kernel
theorem dX0_takeVariant_70 : decode cX0_takeVariant 70 = .ok (.istore_n 3, 1) := by decide +kernel
theorem dX0_takeVariant_71 : decode cX0_takeVariant 71 = .ok (.iload_n 3, 1) := by decide +kernel
theorem dX0_takeVariant_72 : decode cX0_takeVariant 72 = .ok (.iconst 2, 1) := by decide +kernel
theorem dX0_takeVariant_73 : decode cX0_takeVariant 73 = .ok (.if_icmp .ge 48, 3) := by decide +kernel
theorem dX0_takeVariant_76 : decode cX0_takeVariant 76 = .ok (.aload_n 0, 1) := by decide +kernel
theorem dX0_takeVariant_77 : decode cX0_takeVariant 77 = .ok (.aload_n 1, 1) := by decide +kernel
theorem dX0_takeVariant_78 : decode cX0_takeVariant 78 = .ok (.iload_n 3, 1) := by decide +kernel
theorem dX0_takeVariant_79 : decode cX0_takeVariant 79 = .ok (.invokevirtual 96, 3) := by decide +kernel
theorem dX0_takeVariant_82 : decode cX0_takeVariant 82 = .ok (.ifCond .ne 5, 3) := by decide +kernel
theorem dX0_takeVariant_85 : decode cX0_takeVariant 85 = .ok (.iconst 0, 1) := by decide +kernel
theorem dX0_takeVariant_86 : decode cX0_takeVariant 86 = .ok (.ireturn, 1) := by decide +kernel
theorem dX0_takeVariant_87 : decode cX0_takeVariant 87 = .ok (.bipush 10, 2) := by decide +kernel
theorem dX0_takeVariant_89 : decode cX0_takeVariant 89 = .ok (.iload_n 3, 1) := by decide +kernel
theorem dX0_takeVariant_90 : decode cX0_takeVariant 90 = .ok (.imul, 1) := by decide +kernel
theorem dX0_takeVariant_91 : decode cX0_takeVariant 91 = .ok (.istore 4, 2) := by decide +kernel
theorem dX0_takeVariant_93 : decode cX0_takeVariant 93 = .ok (.aload_n 0, 1) := by decide +kernel
theorem dX0_takeVariant_94 : decode cX0_takeVariant 94 = .ok (.aload_n 1, 1) := by decide +kernel
theorem dX0_takeVariant_95 : decode cX0_takeVariant 95 = .ok (.getfield 64, 3) := by decide +kernel
theorem dX0_takeVariant_98 : decode cX0_takeVariant 98 = .ok (.iload 4, 2) := by decide +kernel
theorem dX0_takeVariant_100 : decode cX0_takeVariant 100 = .ok (.aload_n 1, 1) := by decide +kernel
theorem dX0_takeVariant_101 : decode cX0_takeVariant 101 = .ok (.invokevirtual 67, 3) := by decide +kernel
theorem dX0_takeVariant_104 : decode cX0_takeVariant 104 = .ok (.sipush 999, 3) := by decide +kernel
theorem dX0_takeVariant_107 : decode cX0_takeVariant 107 = .ok (.invokevirtual 92, 3) := by decide +kernel
theorem dX0_takeVariant_110 : decode cX0_takeVariant 110 = .ok (.ifCond .ne 5, 3) := by decide +kernel
theorem dX0_takeVariant_113 : decode cX0_takeVariant 113 = .ok (.iconst 0, 1) := by decide +kernel
theorem dX0_takeVariant_114 : decode cX0_takeVariant 114 = .ok (.ireturn, 1) := by decide +kernel
theorem dX0_takeVariant_115 : decode cX0_takeVariant 115 = .ok (.iinc 3 1, 3) := by decide +kernel
theorem dX0_takeVariant_118 : decode cX0_takeVariant 118 = .ok (.goto (-47), 3) := by decide +kernel
theorem dX0_takeVariant_121 : decode cX0_takeVariant 121 = .ok (.iconst 1, 1) := by decide +kernel
theorem dX0_takeVariant_122 : decode cX0_takeVariant 122 = .ok (.ireturn, 1) := by decide +kernel
theorem dX0_takeAlleles_0 : decode cX0_takeAlleles 0 = .ok (.aload_n 0, 1) := by decide +kernel
theorem dX0_takeAlleles_1 : decode cX0_takeAlleles 1 = .ok (.invokevirtual 78, 3) := by decide +kernel
theorem dX0_takeAlleles_4 : decode cX0_takeAlleles 4 = .ok (.istore_n 3, 1) := by decide +kernel
theorem dX0_takeAlleles_5 : decode cX0_takeAlleles 5 = .ok (.iload_n 3, 1) := by decide +kernel
theorem dX0_takeAlleles_6 : decode cX0_takeAlleles 6 = .ok (.iconst 2, 1) := by decide +kernel
theorem dX0_takeAlleles_7 : decode cX0_takeAlleles 7 = .ok (.if_icmp .lt 8, 3) := by decide +kernel
theorem dX0_takeAlleles_10 : decode cX0_takeAlleles 10 = .ok (.iload_n 3, 1) := by decide +kernel
theorem dX0_takeAlleles_11 : decode cX0_takeAlleles 11 = .ok (.iconst 4, 1) := by decide +kernel
theorem dX0_takeAlleles_12 : decode cX0_takeAlleles 12 = .ok (.if_icmp .le 5, 3) := by decide +kernel
theorem dX0_takeAlleles_15 : decode cX0_takeAlleles 15 = .ok (.iconst 0, 1) := by decide +kernel
theorem dX0_takeAlleles_16 : decode cX0_takeAlleles 16 = .ok (.ireturn, 1) := by decide +kernel
theorem dX0_takeAlleles_17 : decode cX0_takeAlleles 17 = .ok (.iconst 0, 1) := by decide +kernel
theorem dX0_takeAlleles_18 : decode cX0_takeAlleles 18 = .ok (.istore 4, 2) := by decide +kernel
theorem dX0_takeAlleles_20 : decode cX0_takeAlleles 20 = .ok (.iload 4, 2) := by decide +kernel
theorem dX0_takeAlleles_22 : decode cX0_takeAlleles 22 = .ok (.iload_n 3, 1) := by decide +kernel
theorem dX0_takeAlleles_23 : decode cX0_takeAlleles 23 = .ok (.if_icmp .ge 61, 3) := by decide +kernel
theorem dX0_takeAlleles_26 : decode cX0_takeAlleles 26 = .ok (.aload_n 0, 1) := by decide +kernel
theorem dX0_takeAlleles_27 : decode cX0_takeAlleles 27 = .ok (.invokevirtual 78, 3) := by decide +kernel
theorem dX0_takeAlleles_30 : decode cX0_takeAlleles 30 = .ok (.iconst 4, 1) := by decide +kernel
theorem dX0_takeAlleles_31 : decode cX0_takeAlleles 31 = .ok (.ishr, 1) := by decide +kernel
theorem dX0_takeAlleles_32 : decode cX0_takeAlleles 32 = .ok (.istore 5, 2) := by decide +kernel
theorem dX0_takeAlleles_34 : decode cX0_takeAlleles 34 = .ok (.iload 5, 2) := by decide +kernel
theorem dX0_takeAlleles_36 : decode cX0_takeAlleles 36 = .ok (.iconst 1, 1) := by decide +kernel
theorem dX0_takeAlleles_37 : decode cX0_takeAlleles 37 = .ok (.if_icmp .lt 10, 3) := by decide +kernel
theorem dX0_takeAlleles_40 : decode cX0_takeAlleles 40 = .ok (.iload 5, 2) := by decide +kernel
theorem dX0_takeAlleles_42 : decode cX0_takeAlleles 42 = .ok (.bipush 8, 2) := by decide +kernel
theorem dX0_takeAlleles_44 : decode cX0_takeAlleles 44 = .ok (.if_icmp .le 5, 3) := by decide +kernel
theorem dX0_takeAlleles_47 : decode cX0_takeAlleles 47 = .ok (.iconst 0, 1) := by decide +kernel
theorem dX0_takeAlleles_48 : decode cX0_takeAlleles 48 = .ok (.ireturn, 1) := by decide +kernel
theorem dX0_takeAlleles_49 : decode cX0_takeAlleles 49 = .ok (.aload_n 0, 1) := by decide +kernel
theorem dX0_takeAlleles_50 : decode cX0_takeAlleles 50 = .ok (.iload 5, 2) := by decide +kernel
theorem dX0_takeAlleles_52 : decode cX0_takeAlleles 52 = .ok (.invokevirtual 100, 3) := by decide +kernel
theorem dX0_takeAlleles_55 : decode cX0_takeAlleles 55 = .ok (.istore 6, 2) := by decide +kernel
theorem dX0_takeAlleles_57 : decode cX0_takeAlleles 57 = .ok (.aload_n 1, 1) := by decide +kernel
theorem dX0_takeAlleles_58 : decode cX0_takeAlleles 58 = .ok (.iload 6, 2) := by decide +kernel
theorem dX0_takeAlleles_60 : decode cX0_takeAlleles 60 = .ok (.iload 5, 2) := by decide +kernel
theorem dX0_takeAlleles_62 : decode cX0_takeAlleles 62 = .ok (.invokevirtual 103, 3) := by decide +kernel
theorem dX0_takeAlleles_65 : decode cX0_takeAlleles 65 = .ok (.ifCond .lt 5, 3) := by decide +kernel
theorem dX0_takeAlleles_68 : decode cX0_takeAlleles 68 = .ok (.iconst 0, 1) := by decide +kernel
theorem dX0_takeAlleles_69 : decode cX0_takeAlleles 69 = .ok (.ireturn, 1) := by decide +kernel
theorem dX0_takeAlleles_70 : decode cX0_takeAlleles 70 = .ok (.aload_n 1, 1) := by decide +kernel
theorem dX0_takeAlleles_71 : decode cX0_takeAlleles 71 = .ok (.iload 6, 2) := by decide +kernel
theorem dX0_takeAlleles_73 : decode cX0_takeAlleles 73 = .ok (.iload 5, 2) := by decide +kernel
theorem dX0_takeAlleles_75 : decode cX0_takeAlleles 75 = .ok (.invokevirtual 107, 3) := by decide +kernel
theorem dX0_takeAlleles_78 : decode cX0_takeAlleles 78 = .ok (.iinc 4 1, 3) := by decide +kernel
theorem dX0_takeAlleles_81 : decode cX0_takeAlleles 81 = .ok (.goto (-61), 3) := by decide +kernel
theorem dX0_takeAlleles_84 : decode cX0_takeAlleles 84 = .ok (.aload_n 1, 1) := by decide +kernel
theorem dX0_takeAlleles_85 : decode cX0_takeAlleles 85 = .ok (.getfield 26, 3) := by decide +kernel
theorem dX0_takeAlleles_88 : decode cX0_takeAlleles 88 = .ok (.istore 4, 2) := by decide +kernel
theorem dX0_takeAlleles_90 : decode cX0_takeAlleles 90 = .ok (.aload_n 1, 1) := by decide +kernel
theorem dX0_takeAlleles_91 : decode cX0_takeAlleles 91 = .ok (.getfield 44, 3) := by decide +kernel
theorem dX0_takeAlleles_94 : decode cX0_takeAlleles 94 = .ok (.iconst 0, 1) := by decide +kernel
theorem dX0_takeAlleles_95 : decode cX0_takeAlleles 95 = .ok (.iaload, 1) := by decide +kernel
theorem dX0_takeAlleles_96 : decode cX0_takeAlleles 96 = .ok (.istore 5, 2) := by decide +kernel
theorem dX0_takeAlleles_98 : decode cX0_takeAlleles 98 = .ok (.aload_n 2, 1) := by decide +kernel
theorem dX0_takeAlleles_99 : decode cX0_takeAlleles 99 = .ok (.iload 4, 2) := by decide +kernel
theorem dX0_takeAlleles_101 : decode cX0_takeAlleles 101 = .ok (.iload 5, 2) := by decide +kernel
theorem dX0_takeAlleles_103 : decode cX0_takeAlleles 103 = .ok (.invokevirtual 110, 3) := by decide +kernel
theorem dX0_takeAlleles_106 : decode cX0_takeAlleles 106 = .ok (.ifCond .eq 24, 3) := by decide +kernel
theorem dX0_takeAlleles_109 : decode cX0_takeAlleles 109 = .ok (.aload_n 2, 1) := by decide +kernel
theorem dX0_takeAlleles_110 : decode cX0_takeAlleles 110 = .ok (.iload 4, 2) := by decide +kernel
theorem dX0_takeAlleles_112 : decode cX0_takeAlleles 112 = .ok (.iload 5, 2) := by decide +kernel
theorem dX0_takeAlleles_114 : decode cX0_takeAlleles 114 = .ok (.invokevirtual 116, 3) := by decide +kernel
theorem dX0_takeAlleles_117 : decode cX0_takeAlleles 117 = .ok (.aload_n 1, 1) := by decide +kernel
theorem dX0_takeAlleles_118 : decode cX0_takeAlleles 118 = .ok (.getfield 41, 3) := by decide +kernel
theorem dX0_takeAlleles_121 : decode cX0_takeAlleles 121 = .ok (.iconst 0, 1) := by decide +kernel
theorem dX0_takeAlleles_122 : decode cX0_takeAlleles 122 = .ok (.iaload, 1) := by decide +kernel
theorem dX0_takeAlleles_123 : decode cX0_takeAlleles 123 = .ok (.if_icmp .ne 7, 3) := by decide +kernel
theorem dX0_takeAlleles_126 : decode cX0_takeAlleles 126 = .ok (.iconst 1, 1) := by decide +kernel
theorem dX0_takeAlleles_127 : decode cX0_takeAlleles 127 = .ok (.goto 4, 3) := by decide +kernel
theorem dX0_takeAlleles_130 : decode cX0_takeAlleles 130 = .ok (.iconst 0, 1) := by decide +kernel
theorem dX0_takeAlleles_131 : decode cX0_takeAlleles 131 = .ok (.ireturn, 1) := by decide +kernel
theorem dX0_takeBases_0 : decode cX0_takeBases 0 = .ok (.iconst 0, 1) := by decide +kernel
theorem dX0_takeBases_1 : decode cX0_takeBases 1 = .ok (.istore_n 2, 1) := by decide +kernel
theorem dX0_takeBases_2 : decode cX0_takeBases 2 = .ok (.iconst 0, 1) := by decide +kernel
theorem dX0_takeBases_3 : decode cX0_takeBases 3 = .ok (.istore_n 3, 1) := by decide +kernel
theorem dX0_takeBases_4 : decode cX0_takeBases 4 = .ok (.iload_n 3, 1) := by decide +kernel
theorem dX0_takeBases_5 : decode cX0_takeBases 5 = .ok (.iload_n 1, 1) := by decide +kernel
theorem dX0_takeBases_6 : decode cX0_takeBases 6 = .ok (.if_icmp .ge 58, 3) := by decide +kernel
theorem dX0_takeBases_9 : decode cX0_takeBases 9 = .ok (.aload_n 0, 1) := by decide +kernel
theorem dX0_takeBases_10 : decode cX0_takeBases 10 = .ok (.invokevirtual 78, 3) := by decide +kernel
theorem dX0_takeBases_13 : decode cX0_takeBases 13 = .ok (.istore 4, 2) := by decide +kernel
theorem dX0_takeBases_15 : decode cX0_takeBases 15 = .ok (.iconst 0, 1) := by decide +kernel
theorem dX0_takeBases_16 : decode cX0_takeBases 16 = .ok (.istore 5, 2) := by decide +kernel
theorem dX0_takeBases_18 : decode cX0_takeBases 18 = .ok (.iconst 1, 1) := by decide +kernel
theorem dX0_takeBases_19 : decode cX0_takeBases 19 = .ok (.istore 6, 2) := by decide +kernel
theorem dX0_takeBases_21 : decode cX0_takeBases 21 = .ok (.iload 6, 2) := by decide +kernel
theorem dX0_takeBases_23 : decode cX0_takeBases 23 = .ok (.getstatic 71, 3) := by decide +kernel
theorem dX0_takeBases_26 : decode cX0_takeBases 26 = .ok (.arraylength, 1) := by decide +kernel
theorem dX0_takeBases_27 : decode cX0_takeBases 27 = .ok (.if_icmp .ge 24, 3) := by decide +kernel
theorem dX0_takeBases_30 : decode cX0_takeBases 30 = .ok (.getstatic 71, 3) := by decide +kernel
theorem dX0_takeBases_33 : decode cX0_takeBases 33 = .ok (.iload 6, 2) := by decide +kernel
theorem dX0_takeBases_35 : decode cX0_takeBases 35 = .ok (.iaload, 1) := by decide +kernel
theorem dX0_takeBases_36 : decode cX0_takeBases 36 = .ok (.iload 4, 2) := by decide +kernel
theorem dX0_takeBases_38 : decode cX0_takeBases 38 = .ok (.if_icmp .ne 7, 3) := by decide +kernel
theorem dX0_takeBases_41 : decode cX0_takeBases 41 = .ok (.iload 6, 2) := by decide +kernel
theorem dX0_takeBases_43 : decode cX0_takeBases 43 = .ok (.istore 5, 2) := by decide +kernel
theorem dX0_takeBases_45 : decode cX0_takeBases 45 = .ok (.iinc 6 1, 3) := by decide +kernel
theorem dX0_takeBases_48 : decode cX0_takeBases 48 = .ok (.goto (-27), 3) := by decide +kernel
theorem dX0_takeBases_51 : decode cX0_takeBases 51 = .ok (.iload_n 2, 1) := by decide +kernel
theorem dX0_takeBases_52 : decode cX0_takeBases 52 = .ok (.iconst 2, 1) := by decide +kernel
theorem dX0_takeBases_53 : decode cX0_takeBases 53 = .ok (.ishl, 1) := by decide +kernel
theorem dX0_takeBases_54 : decode cX0_takeBases 54 = .ok (.iload 5, 2) := by decide +kernel
theorem dX0_takeBases_56 : decode cX0_takeBases 56 = .ok (.ior, 1) := by decide +kernel
theorem dX0_takeBases_57 : decode cX0_takeBases 57 = .ok (.istore_n 2, 1) := by decide +kernel
theorem dX0_takeBases_58 : decode cX0_takeBases 58 = .ok (.iinc 3 1, 3) := by decide +kernel
theorem dX0_takeBases_61 : decode cX0_takeBases 61 = .ok (.goto (-57), 3) := by decide +kernel
theorem dX0_takeBases_64 : decode cX0_takeBases 64 = .ok (.iload_n 2, 1) := by decide +kernel
theorem dX0_takeBases_65 : decode cX0_takeBases 65 = .ok (.ireturn, 1) := by decide +kernel
theorem dX0_takeGenotype_0 : decode cX0_takeGenotype 0 = .ok (.aload_n 0, 1) := by decide +kernel
theorem dX0_takeGenotype_1 : decode cX0_takeGenotype 1 = .ok (.invokevirtual 78, 3) := by decide +kernel
theorem dX0_takeGenotype_4 : decode cX0_takeGenotype 4 = .ok (.pop, 1) := by decide +kernel
theorem dX0_takeGenotype_5 : decode cX0_takeGenotype 5 = .ok (.aload_n 0, 1) := by decide +kernel
theorem dX0_takeGenotype_6 : decode cX0_takeGenotype 6 = .ok (.invokevirtual 78, 3) := by decide +kernel
theorem dX0_takeGenotype_9 : decode cX0_takeGenotype 9 = .ok (.istore_n 3, 1) := by decide +kernel
theorem dX0_takeGenotype_10 : decode cX0_takeGenotype 10 = .ok (.aload_n 0, 1) := by decide +kernel
theorem dX0_takeGenotype_11 : decode cX0_takeGenotype 11 = .ok (.invokevirtual 78, 3) := by decide +kernel
theorem dX0_takeGenotype_14 : decode cX0_takeGenotype 14 = .ok (.istore 4, 2) := by decide +kernel
theorem dX0_takeGenotype_16 : decode cX0_takeGenotype 16 = .ok (.aload_n 1, 1) := by decide +kernel
theorem dX0_takeGenotype_17 : decode cX0_takeGenotype 17 = .ok (.getfield 61, 3) := by decide +kernel
theorem dX0_takeGenotype_20 : decode cX0_takeGenotype 20 = .ok (.iconst 2, 1) := by decide +kernel
theorem dX0_takeGenotype_21 : decode cX0_takeGenotype 21 = .ok (.iload_n 2, 1) := by decide +kernel
theorem dX0_takeGenotype_22 : decode cX0_takeGenotype 22 = .ok (.imul, 1) := by decide +kernel
theorem dX0_takeGenotype_23 : decode cX0_takeGenotype 23 = .ok (.iload_n 3, 1) := by decide +kernel
theorem dX0_takeGenotype_24 : decode cX0_takeGenotype 24 = .ok (.iconst 1, 1) := by decide +kernel
theorem dX0_takeGenotype_25 : decode cX0_takeGenotype 25 = .ok (.ishr, 1) := by decide +kernel
theorem dX0_takeGenotype_26 : decode cX0_takeGenotype 26 = .ok (.iconst 1, 1) := by decide +kernel
theorem dX0_takeGenotype_27 : decode cX0_takeGenotype 27 = .ok (.isub, 1) := by decide +kernel
theorem dX0_takeGenotype_28 : decode cX0_takeGenotype 28 = .ok (.iastore, 1) := by decide +kernel
theorem dX0_takeGenotype_29 : decode cX0_takeGenotype 29 = .ok (.aload_n 1, 1) := by decide +kernel
theorem dX0_takeGenotype_30 : decode cX0_takeGenotype 30 = .ok (.getfield 61, 3) := by decide +kernel
theorem dX0_takeGenotype_33 : decode cX0_takeGenotype 33 = .ok (.iconst 2, 1) := by decide +kernel
theorem dX0_takeGenotype_34 : decode cX0_takeGenotype 34 = .ok (.iload_n 2, 1) := by decide +kernel
theorem dX0_takeGenotype_35 : decode cX0_takeGenotype 35 = .ok (.imul, 1) := by decide +kernel
theorem dX0_takeGenotype_36 : decode cX0_takeGenotype 36 = .ok (.iconst 1, 1) := by decide +kernel
theorem dX0_takeGenotype_37 : decode cX0_takeGenotype 37 = .ok (.iadd, 1) := by decide +kernel
theorem dX0_takeGenotype_38 : decode cX0_takeGenotype 38 = .ok (.iload 4, 2) := by decide +kernel
theorem dX0_takeGenotype_40 : decode cX0_takeGenotype 40 = .ok (.iconst 1, 1) := by decide +kernel
theorem dX0_takeGenotype_41 : decode cX0_takeGenotype 41 = .ok (.ishr, 1) := by decide +kernel
theorem dX0_takeGenotype_42 : decode cX0_takeGenotype 42 = .ok (.iconst 1, 1) := by decide +kernel
theorem dX0_takeGenotype_43 : decode cX0_takeGenotype 43 = .ok (.isub, 1) := by decide +kernel
theorem dX0_takeGenotype_44 : decode cX0_takeGenotype 44 = .ok (.iastore, 1) := by decide +kernel
theorem dX0_takeGenotype_45 : decode cX0_takeGenotype 45 = .ok (.aload_n 1, 1) := by decide +kernel
theorem dX0_takeGenotype_46 : decode cX0_takeGenotype 46 = .ok (.getfield 57, 3) := by decide +kernel
theorem dX0_takeGenotype_49 : decode cX0_takeGenotype 49 = .ok (.iload_n 2, 1) := by decide +kernel
theorem dX0_takeGenotype_50 : decode cX0_takeGenotype 50 = .ok (.iload_n 3, 1) := by decide +kernel
theorem dX0_takeGenotype_51 : decode cX0_takeGenotype 51 = .ok (.iconst 1, 1) := by decide +kernel
theorem dX0_takeGenotype_52 : decode cX0_takeGenotype 52 = .ok (.iand, 1) := by decide +kernel
theorem dX0_takeGenotype_53 : decode cX0_takeGenotype 53 = .ok (.iconst 1, 1) := by decide +kernel
theorem dX0_takeGenotype_54 : decode cX0_takeGenotype 54 = .ok (.if_icmp .ne 7, 3) := by decide +kernel
theorem dX0_takeGenotype_57 : decode cX0_takeGenotype 57 = .ok (.iconst 1, 1) := by decide +kernel
theorem dX0_takeGenotype_58 : decode cX0_takeGenotype 58 = .ok (.goto 4, 3) := by decide +kernel
theorem dX0_takeGenotype_61 : decode cX0_takeGenotype 61 = .ok (.iconst 0, 1) := by decide +kernel
theorem dX0_takeGenotype_62 : decode cX0_takeGenotype 62 = .ok (.bastore, 1) := by decide +kernel
theorem dX0_takeGenotype_63 : decode cX0_takeGenotype 63 = .ok (.aload_n 1, 1) := by decide +kernel
theorem dX0_takeGenotype_64 : decode cX0_takeGenotype 64 = .ok (.iload_n 3, 1) := by decide +kernel
theorem dX0_takeGenotype_65 : decode cX0_takeGenotype 65 = .ok (.iconst 1, 1) := by decide +kernel
theorem dX0_takeGenotype_66 : decode cX0_takeGenotype 66 = .ok (.ishr, 1) := by decide +kernel
theorem dX0_takeGenotype_67 : decode cX0_takeGenotype 67 = .ok (.iconst 1, 1) := by decide +kernel
theorem dX0_takeGenotype_68 : decode cX0_takeGenotype 68 = .ok (.isub, 1) := by decide +kernel
theorem dX0_takeGenotype_69 : decode cX0_takeGenotype 69 = .ok (.invokevirtual 118, 3) := by decide +kernel
theorem dX0_takeGenotype_72 : decode cX0_takeGenotype 72 = .ok (.ifCond .eq 20, 3) := by decide +kernel
theorem dX0_takeGenotype_75 : decode cX0_takeGenotype 75 = .ok (.aload_n 1, 1) := by decide +kernel
theorem dX0_takeGenotype_76 : decode cX0_takeGenotype 76 = .ok (.iload 4, 2) := by decide +kernel
theorem dX0_takeGenotype_78 : decode cX0_takeGenotype 78 = .ok (.iconst 1, 1) := by decide +kernel
theorem dX0_takeGenotype_79 : decode cX0_takeGenotype 79 = .ok (.ishr, 1) := by decide +kernel
theorem dX0_takeGenotype_80 : decode cX0_takeGenotype 80 = .ok (.iconst 1, 1) := by decide +kernel
theorem dX0_takeGenotype_81 : decode cX0_takeGenotype 81 = .ok (.isub, 1) := by decide +kernel
theorem dX0_takeGenotype_82 : decode cX0_takeGenotype 82 = .ok (.invokevirtual 118, 3) := by decide +kernel
theorem dX0_takeGenotype_85 : decode cX0_takeGenotype 85 = .ok (.ifCond .eq 7, 3) := by decide +kernel
theorem dX0_takeGenotype_88 : decode cX0_takeGenotype 88 = .ok (.iconst 1, 1) := by decide +kernel
theorem dX0_takeGenotype_89 : decode cX0_takeGenotype 89 = .ok (.goto 4, 3) := by decide +kernel
theorem dX0_takeGenotype_92 : decode cX0_takeGenotype 92 = .ok (.iconst 0, 1) := by decide +kernel
theorem dX0_takeGenotype_93 : decode cX0_takeGenotype 93 = .ok (.ireturn, 1) := by decide +kernel
theorem dX0_takeNumbers_0 : decode cX0_takeNumbers 0 = .ok (.aload_n 0, 1) := by decide +kernel
theorem dX0_takeNumbers_1 : decode cX0_takeNumbers 1 = .ok (.invokevirtual 78, 3) := by decide +kernel
theorem dX0_takeNumbers_4 : decode cX0_takeNumbers 4 = .ok (.bipush 15, 2) := by decide +kernel
theorem dX0_takeNumbers_6 : decode cX0_takeNumbers 6 = .ok (.iand, 1) := by decide +kernel
theorem dX0_takeNumbers_7 : decode cX0_takeNumbers 7 = .ok (.istore 5, 2) := by decide +kernel
theorem dX0_takeNumbers_9 : decode cX0_takeNumbers 9 = .ok (.iload_n 2, 1) := by decide +kernel
theorem dX0_takeNumbers_10 : decode cX0_takeNumbers 10 = .ok (.istore 6, 2) := by decide +kernel
theorem dX0_takeNumbers_12 : decode cX0_takeNumbers 12 = .ok (.iload 6, 2) := by decide +kernel
theorem dX0_takeNumbers_14 : decode cX0_takeNumbers 14 = .ok (.iload_n 2, 1) := by decide +kernel
theorem dX0_takeNumbers_15 : decode cX0_takeNumbers 15 = .ok (.iload_n 3, 1) := by decide +kernel
theorem dX0_takeNumbers_16 : decode cX0_takeNumbers 16 = .ok (.iadd, 1) := by decide +kernel
theorem dX0_takeNumbers_17 : decode cX0_takeNumbers 17 = .ok (.if_icmp .ge 30, 3) := by decide +kernel
theorem dX0_takeNumbers_20 : decode cX0_takeNumbers 20 = .ok (.aload_n 1, 1) := by decide +kernel
theorem dX0_takeNumbers_21 : decode cX0_takeNumbers 21 = .ok (.iload 6, 2) := by decide +kernel
theorem dX0_takeNumbers_23 : decode cX0_takeNumbers 23 = .ok (.aload_n 0, 1) := by decide +kernel
theorem dX0_takeNumbers_24 : decode cX0_takeNumbers 24 = .ok (.iload 5, 2) := by decide +kernel
theorem dX0_takeNumbers_26 : decode cX0_takeNumbers 26 = .ok (.invokevirtual 84, 3) := by decide +kernel
theorem dX0_takeNumbers_29 : decode cX0_takeNumbers 29 = .ok (.iastore, 1) := by decide +kernel
theorem dX0_takeNumbers_30 : decode cX0_takeNumbers 30 = .ok (.aload_n 1, 1) := by decide +kernel
theorem dX0_takeNumbers_31 : decode cX0_takeNumbers 31 = .ok (.iload 6, 2) := by decide +kernel
theorem dX0_takeNumbers_33 : decode cX0_takeNumbers 33 = .ok (.iaload, 1) := by decide +kernel
theorem dX0_takeNumbers_34 : decode cX0_takeNumbers 34 = .ok (.iload 4, 2) := by decide +kernel
theorem dX0_takeNumbers_36 : decode cX0_takeNumbers 36 = .ok (.if_icmp .le 5, 3) := by decide +kernel
theorem dX0_takeNumbers_39 : decode cX0_takeNumbers 39 = .ok (.iconst 0, 1) := by decide +kernel
theorem dX0_takeNumbers_40 : decode cX0_takeNumbers 40 = .ok (.ireturn, 1) := by decide +kernel
theorem dX0_takeNumbers_41 : decode cX0_takeNumbers 41 = .ok (.iinc 6 1, 3) := by decide +kernel
theorem dX0_takeNumbers_44 : decode cX0_takeNumbers 44 = .ok (.goto (-32), 3) := by decide +kernel
theorem dX0_takeNumbers_47 : decode cX0_takeNumbers 47 = .ok (.iconst 1, 1) := by decide +kernel
theorem dX0_takeNumbers_48 : decode cX0_takeNumbers 48 = .ok (.ireturn, 1) := by decide +kernel
theorem dX1_init_0 : decode cX1_init 0 = .ok (.aload_n 0, 1) := by decide +kernel
theorem dX1_init_1 : decode cX1_init 1 = .ok (.invokespecial 3, 3) := by decide +kernel
theorem dX1_init_4 : decode cX1_init 4 = .ok (.aload_n 0, 1) := by decide +kernel
theorem dX1_init_5 : decode cX1_init 5 = .ok (.new 9, 3) := by decide +kernel
theorem dX1_init_8 : decode cX1_init 8 = .ok (.dup, 1) := by decide +kernel
theorem dX1_init_9 : decode cX1_init 9 = .ok (.invokespecial 11, 3) := by decide +kernel
theorem dX1_init_12 : decode cX1_init 12 = .ok (.putfield 12, 3) := by decide +kernel
theorem dX1_init_15 : decode cX1_init 15 = .ok (.aload_n 0, 1) := by decide +kernel
theorem dX1_init_16 : decode cX1_init 16 = .ok (.new 9, 3) := by decide +kernel
theorem dX1_init_19 : decode cX1_init 19 = .ok (.dup, 1) := by decide +kernel
theorem dX1_init_20 : decode cX1_init 20 = .ok (.invokespecial 11, 3) := by decide +kernel
theorem dX1_init_23 : decode cX1_init 23 = .ok (.putfield 18, 3) := by decide +kernel
theorem dX1_init_26 : decode cX1_init 26 = .ok (.aload_n 0, 1) := by decide +kernel
theorem dX1_init_27 : decode cX1_init 27 = .ok (.new 9, 3) := by decide +kernel
theorem dX1_init_30 : decode cX1_init 30 = .ok (.dup, 1) := by decide +kernel
theorem dX1_init_31 : decode cX1_init 31 = .ok (.invokespecial 11, 3) := by decide +kernel
theorem dX1_init_34 : decode cX1_init 34 = .ok (.putfield 21, 3) := by decide +kernel
theorem dX1_init_37 : decode cX1_init 37 = .ok (.aload_n 0, 1) := by decide +kernel
theorem dX1_init_38 : decode cX1_init 38 = .ok (.iconst 4, 1) := by decide +kernel
theorem dX1_init_39 : decode cX1_init 39 = .ok (.newarray .int, 2) := by decide +kernel
theorem dX1_init_41 : decode cX1_init 41 = .ok (.putfield 24, 3) := by decide +kernel
theorem dX1_init_44 : decode cX1_init 44 = .ok (.return_, 1) := by decide +kernel
theorem dX1_unite_0 : decode cX1_unite 0 = .ok (.aload_n 0, 1) := by decide +kernel
theorem dX1_unite_1 : decode cX1_unite 1 = .ok (.getfield 12, 3) := by decide +kernel
theorem dX1_unite_4 : decode cX1_unite 4 = .ok (.aload_n 1, 1) := by decide +kernel
theorem dX1_unite_5 : decode cX1_unite 5 = .ok (.invokevirtual 28, 3) := by decide +kernel
theorem dX1_unite_8 : decode cX1_unite 8 = .ok (.aload_n 0, 1) := by decide +kernel
theorem dX1_unite_9 : decode cX1_unite 9 = .ok (.getfield 18, 3) := by decide +kernel
theorem dX1_unite_12 : decode cX1_unite 12 = .ok (.aload_n 2, 1) := by decide +kernel
theorem dX1_unite_13 : decode cX1_unite 13 = .ok (.invokevirtual 28, 3) := by decide +kernel
theorem dX1_unite_16 : decode cX1_unite 16 = .ok (.aload_n 0, 1) := by decide +kernel
theorem dX1_unite_17 : decode cX1_unite 17 = .ok (.getfield 12, 3) := by decide +kernel
theorem dX1_unite_20 : decode cX1_unite 20 = .ok (.aload_n 2, 1) := by decide +kernel
theorem dX1_unite_21 : decode cX1_unite 21 = .ok (.invokevirtual 32, 3) := by decide +kernel
theorem dX1_unite_24 : decode cX1_unite 24 = .ok (.aload_n 0, 1) := by decide +kernel
theorem dX1_unite_25 : decode cX1_unite 25 = .ok (.getfield 18, 3) := by decide +kernel
theorem dX1_unite_28 : decode cX1_unite 28 = .ok (.aload_n 1, 1) := by decide +kernel
theorem dX1_unite_29 : decode cX1_unite 29 = .ok (.invokevirtual 32, 3) := by decide +kernel
theorem dX1_unite_32 : decode cX1_unite 32 = .ok (.aload_n 0, 1) := by decide +kernel
theorem dX1_unite_33 : decode cX1_unite 33 = .ok (.getfield 12, 3) := by decide +kernel
theorem dX1_unite_36 : decode cX1_unite 36 = .ok (.invokevirtual 35, 3) := by decide +kernel
theorem dX1_unite_39 : decode cX1_unite 39 = .ok (.ifCond .ne 13, 3) := by decide +kernel
theorem dX1_unite_42 : decode cX1_unite 42 = .ok (.aload_n 0, 1) := by decide +kernel
theorem dX1_unite_43 : decode cX1_unite 43 = .ok (.getfield 18, 3) := by decide +kernel
theorem dX1_unite_46 : decode cX1_unite 46 = .ok (.invokevirtual 35, 3) := by decide +kernel
theorem dX1_unite_49 : decode cX1_unite 49 = .ok (.ifCond .eq 5, 3) := by decide +kernel
theorem dX1_unite_52 : decode cX1_unite 52 = .ok (.iconst 0, 1) := by decide +kernel
theorem dX1_unite_53 : decode cX1_unite 53 = .ok (.ireturn, 1) := by decide +kernel
theorem dX1_unite_54 : decode cX1_unite 54 = .ok (.aload_n 0, 1) := by decide +kernel
theorem dX1_unite_55 : decode cX1_unite 55 = .ok (.getfield 21, 3) := by decide +kernel
theorem dX1_unite_58 : decode cX1_unite 58 = .ok (.aload_n 0, 1) := by decide +kernel
theorem dX1_unite_59 : decode cX1_unite 59 = .ok (.getfield 12, 3) := by decide +kernel
theorem dX1_unite_62 : decode cX1_unite 62 = .ok (.invokevirtual 28, 3) := by decide +kernel
theorem dX1_unite_65 : decode cX1_unite 65 = .ok (.aload_n 0, 1) := by decide +kernel
theorem dX1_unite_66 : decode cX1_unite 66 = .ok (.invokevirtual 39, 3) := by decide +kernel
theorem dX1_unite_69 : decode cX1_unite 69 = .ok (.ifCond .ne 5, 3) := by decide +kernel
theorem dX1_unite_72 : decode cX1_unite 72 = .ok (.iconst 0, 1) := by decide +kernel
theorem dX1_unite_73 : decode cX1_unite 73 = .ok (.ireturn, 1) := by decide +kernel
theorem dX1_unite_74 : decode cX1_unite 74 = .ok (.aload_n 0, 1) := by decide +kernel
theorem dX1_unite_75 : decode cX1_unite 75 = .ok (.getfield 21, 3) := by decide +kernel
theorem dX1_unite_78 : decode cX1_unite 78 = .ok (.aload_n 0, 1) := by decide +kernel
theorem dX1_unite_79 : decode cX1_unite 79 = .ok (.getfield 12, 3) := by decide +kernel
theorem dX1_unite_82 : decode cX1_unite 82 = .ok (.getfield 42, 3) := by decide +kernel
theorem dX1_unite_85 : decode cX1_unite 85 = .ok (.aload_n 0, 1) := by decide +kernel
theorem dX1_unite_86 : decode cX1_unite 86 = .ok (.getfield 18, 3) := by decide +kernel
theorem dX1_unite_89 : decode cX1_unite 89 = .ok (.getfield 42, 3) := by decide +kernel
theorem dX1_unite_92 : decode cX1_unite 92 = .ok (.invokestatic 46, 3) := by decide +kernel
theorem dX1_unite_95 : decode cX1_unite 95 = .ok (.putfield 42, 3) := by decide +kernel
theorem dX1_unite_98 : decode cX1_unite 98 = .ok (.aload_n 0, 1) := by decide +kernel
theorem dX1_unite_99 : decode cX1_unite 99 = .ok (.invokevirtual 52, 3) := by decide +kernel
theorem dX1_unite_102 : decode cX1_unite 102 = .ok (.aload_n 0, 1) := by decide +kernel
theorem dX1_unite_103 : decode cX1_unite 103 = .ok (.invokevirtual 55, 3) := by decide +kernel
theorem dX1_unite_106 : decode cX1_unite 106 = .ok (.aload_n 0, 1) := by decide +kernel
theorem dX1_unite_107 : decode cX1_unite 107 = .ok (.invokevirtual 58, 3) := by decide +kernel
theorem dX1_unite_110 : decode cX1_unite 110 = .ok (.iconst 1, 1) := by decide +kernel
theorem dX1_unite_111 : decode cX1_unite 111 = .ok (.ireturn, 1) := by decide +kernel
theorem dX1_uniteAlleles_0 : decode cX1_uniteAlleles 0 = .ok (.iconst 0, 1) := by decide +kernel
theorem dX1_uniteAlleles_1 : decode cX1_uniteAlleles 1 = .ok (.istore_n 1, 1) := by decide +kernel
theorem dX1_uniteAlleles_2 : decode cX1_uniteAlleles 2 = .ok (.iload_n 1, 1) := by decide +kernel
theorem dX1_uniteAlleles_3 : decode cX1_uniteAlleles 3 = .ok (.aload_n 0, 1) := by decide +kernel
theorem dX1_uniteAlleles_4 : decode cX1_uniteAlleles 4 = .ok (.getfield 18, 3) := by decide +kernel
theorem dX1_uniteAlleles_7 : decode cX1_uniteAlleles 7 = .ok (.getfield 61, 3) := by decide +kernel
theorem dX1_uniteAlleles_10 : decode cX1_uniteAlleles 10 = .ok (.if_icmp .ge 80, 3) := by decide +kernel
theorem dX1_uniteAlleles_13 : decode cX1_uniteAlleles 13 = .ok (.aload_n 0, 1) := by decide +kernel
theorem dX1_uniteAlleles_14 : decode cX1_uniteAlleles 14 = .ok (.getfield 21, 3) := by decide +kernel
theorem dX1_uniteAlleles_17 : decode cX1_uniteAlleles 17 = .ok (.aload_n 0, 1) := by decide +kernel
theorem dX1_uniteAlleles_18 : decode cX1_uniteAlleles 18 = .ok (.getfield 18, 3) := by decide +kernel
theorem dX1_uniteAlleles_21 : decode cX1_uniteAlleles 21 = .ok (.getfield 64, 3) := by decide +kernel
theorem dX1_uniteAlleles_24 : decode cX1_uniteAlleles 24 = .ok (.iload_n 1, 1) := by decide +kernel
theorem dX1_uniteAlleles_25 : decode cX1_uniteAlleles 25 = .ok (.iaload, 1) := by decide +kernel
theorem dX1_uniteAlleles_26 : decode cX1_uniteAlleles 26 = .ok (.aload_n 0, 1) := by decide +kernel
theorem dX1_uniteAlleles_27 : decode cX1_uniteAlleles 27 = .ok (.getfield 18, 3) := by decide +kernel
theorem dX1_uniteAlleles_30 : decode cX1_uniteAlleles 30 = .ok (.getfield 67, 3) := by decide +kernel
theorem dX1_uniteAlleles_33 : decode cX1_uniteAlleles 33 = .ok (.iload_n 1, 1) := by decide +kernel
theorem dX1_uniteAlleles_34 : decode cX1_uniteAlleles 34 = .ok (.iaload, 1) := by decide +kernel
theorem dX1_uniteAlleles_35 : decode cX1_uniteAlleles 35 = .ok (.invokevirtual 70, 3) := by decide +kernel
theorem dX1_uniteAlleles_38 : decode cX1_uniteAlleles 38 = .ok (.istore_n 2, 1) := by decide +kernel
theorem dX1_uniteAlleles_39 : decode cX1_uniteAlleles 39 = .ok (.iload_n 2, 1) := by decide +kernel
theorem dX1_uniteAlleles_40 : decode cX1_uniteAlleles 40 = .ok (.iconst (-1), 1) := by decide +kernel
theorem dX1_uniteAlleles_41 : decode cX1_uniteAlleles 41 = .ok (.if_icmp .ne 36, 3) := by decide +kernel
theorem dX1_uniteAlleles_44 : decode cX1_uniteAlleles 44 = .ok (.aload_n 0, 1) := by decide +kernel
theorem dX1_uniteAlleles_45 : decode cX1_uniteAlleles 45 = .ok (.getfield 21, 3) := by decide +kernel
theorem dX1_uniteAlleles_48 : decode cX1_uniteAlleles 48 = .ok (.getfield 61, 3) := by decide +kernel
theorem dX1_uniteAlleles_51 : decode cX1_uniteAlleles 51 = .ok (.iconst 4, 1) := by decide +kernel
theorem dX1_uniteAlleles_52 : decode cX1_uniteAlleles 52 = .ok (.if_icmp .ne 5, 3) := by decide +kernel
theorem dX1_uniteAlleles_55 : decode cX1_uniteAlleles 55 = .ok (.iconst 0, 1) := by decide +kernel
theorem dX1_uniteAlleles_56 : decode cX1_uniteAlleles 56 = .ok (.ireturn, 1) := by decide +kernel
theorem dX1_uniteAlleles_57 : decode cX1_uniteAlleles 57 = .ok (.aload_n 0, 1) := by decide +kernel
theorem dX1_uniteAlleles_58 : decode cX1_uniteAlleles 58 = .ok (.getfield 21, 3) := by decide +kernel
theorem dX1_uniteAlleles_61 : decode cX1_uniteAlleles 61 = .ok (.getfield 61, 3) := by decide +kernel
theorem dX1_uniteAlleles_64 : decode cX1_uniteAlleles 64 = .ok (.istore_n 2, 1) := by decide +kernel
theorem dX1_uniteAlleles_65 : decode cX1_uniteAlleles 65 = .ok (.aload_n 0, 1) := by decide +kernel
theorem dX1_uniteAlleles_66 : decode cX1_uniteAlleles 66 = .ok (.getfield 21, 3) := by decide +kernel
theorem dX1_uniteAlleles_69 : decode cX1_uniteAlleles 69 = .ok (.aload_n 0, 1) := by decide +kernel
theorem dX1_uniteAlleles_70 : decode cX1_uniteAlleles 70 = .ok (.getfield 18, 3) := by decide +kernel
theorem dX1_uniteAlleles_73 : decode cX1_uniteAlleles 73 = .ok (.iload_n 1, 1) := by decide +kernel
theorem dX1_uniteAlleles_74 : decode cX1_uniteAlleles 74 = .ok (.invokevirtual 73, 3) := by decide +kernel
theorem dX1_uniteAlleles_77 : decode cX1_uniteAlleles 77 = .ok (.aload_n 0, 1) := by decide +kernel
theorem dX1_uniteAlleles_78 : decode cX1_uniteAlleles 78 = .ok (.getfield 24, 3) := by decide +kernel
theorem dX1_uniteAlleles_81 : decode cX1_uniteAlleles 81 = .ok (.iload_n 1, 1) := by decide +kernel
theorem dX1_uniteAlleles_82 : decode cX1_uniteAlleles 82 = .ok (.iload_n 2, 1) := by decide +kernel
theorem dX1_uniteAlleles_83 : decode cX1_uniteAlleles 83 = .ok (.iastore, 1) := by decide +kernel
theorem dX1_uniteAlleles_84 : decode cX1_uniteAlleles 84 = .ok (.iinc 1 1, 3) := by decide +kernel
theorem dX1_uniteAlleles_87 : decode cX1_uniteAlleles 87 = .ok (.goto (-85), 3) := by decide +kernel
theorem dX1_uniteAlleles_90 : decode cX1_uniteAlleles 90 = .ok (.iconst 1, 1) := by decide +kernel
theorem dX1_uniteAlleles_91 : decode cX1_uniteAlleles 91 = .ok (.ireturn, 1) := by decide +kernel
theorem dX1_uniteDepths_0 : decode cX1_uniteDepths 0 = .ok (.aload_n 0, 1) := by decide +kernel
theorem dX1_uniteDepths_1 : decode cX1_uniteDepths 1 = .ok (.getfield 21, 3) := by decide +kernel
theorem dX1_uniteDepths_4 : decode cX1_uniteDepths 4 = .ok (.getfield 77, 3) := by decide +kernel
theorem dX1_uniteDepths_7 : decode cX1_uniteDepths 7 = .ok (.iconst 0, 1) := by decide +kernel
theorem dX1_uniteDepths_8 : decode cX1_uniteDepths 8 = .ok (.aload_n 0, 1) := by decide +kernel
theorem dX1_uniteDepths_9 : decode cX1_uniteDepths 9 = .ok (.getfield 12, 3) := by decide +kernel
theorem dX1_uniteDepths_12 : decode cX1_uniteDepths 12 = .ok (.getfield 77, 3) := by decide +kernel
theorem dX1_uniteDepths_15 : decode cX1_uniteDepths 15 = .ok (.iconst 0, 1) := by decide +kernel
theorem dX1_uniteDepths_16 : decode cX1_uniteDepths 16 = .ok (.iaload, 1) := by decide +kernel
theorem dX1_uniteDepths_17 : decode cX1_uniteDepths 17 = .ok (.aload_n 0, 1) := by decide +kernel
theorem dX1_uniteDepths_18 : decode cX1_uniteDepths 18 = .ok (.getfield 18, 3) := by decide +kernel
theorem dX1_uniteDepths_21 : decode cX1_uniteDepths 21 = .ok (.getfield 77, 3) := by decide +kernel
theorem dX1_uniteDepths_24 : decode cX1_uniteDepths 24 = .ok (.iconst 0, 1) := by decide +kernel
theorem dX1_uniteDepths_25 : decode cX1_uniteDepths 25 = .ok (.iaload, 1) := by decide +kernel
theorem dX1_uniteDepths_26 : decode cX1_uniteDepths 26 = .ok (.invokestatic 46, 3) := by decide +kernel
theorem dX1_uniteDepths_29 : decode cX1_uniteDepths 29 = .ok (.iastore, 1) := by decide +kernel
theorem dX1_uniteDepths_30 : decode cX1_uniteDepths 30 = .ok (.iconst 1, 1) := by decide +kernel
theorem dX1_uniteDepths_31 : decode cX1_uniteDepths 31 = .ok (.istore_n 1, 1) := by decide +kernel
theorem dX1_uniteDepths_32 : decode cX1_uniteDepths 32 = .ok (.iload_n 1, 1) := by decide +kernel
theorem dX1_uniteDepths_33 : decode cX1_uniteDepths 33 = .ok (.aload_n 0, 1) := by decide +kernel
theorem dX1_uniteDepths_34 : decode cX1_uniteDepths 34 = .ok (.getfield 18, 3) := by decide +kernel
theorem dX1_uniteDepths_37 : decode cX1_uniteDepths 37 = .ok (.getfield 61, 3) := by decide +kernel
theorem dX1_uniteDepths_40 : decode cX1_uniteDepths 40 = .ok (.if_icmp .ge 63, 3) := by decide +kernel
theorem dX1_uniteDepths_43 : decode cX1_uniteDepths 43 = .ok (.aload_n 0, 1) := by decide +kernel
theorem dX1_uniteDepths_44 : decode cX1_uniteDepths 44 = .ok (.getfield 24, 3) := by decide +kernel
theorem dX1_uniteDepths_47 : decode cX1_uniteDepths 47 = .ok (.iload_n 1, 1) := by decide +kernel
theorem dX1_uniteDepths_48 : decode cX1_uniteDepths 48 = .ok (.iaload, 1) := by decide +kernel
theorem dX1_uniteDepths_49 : decode cX1_uniteDepths 49 = .ok (.istore_n 2, 1) := by decide +kernel
theorem dX1_uniteDepths_50 : decode cX1_uniteDepths 50 = .ok (.iload_n 2, 1) := by decide +kernel
theorem dX1_uniteDepths_51 : decode cX1_uniteDepths 51 = .ok (.aload_n 0, 1) := by decide +kernel
theorem dX1_uniteDepths_52 : decode cX1_uniteDepths 52 = .ok (.getfield 12, 3) := by decide +kernel
theorem dX1_uniteDepths_55 : decode cX1_uniteDepths 55 = .ok (.getfield 61, 3) := by decide +kernel
theorem dX1_uniteDepths_58 : decode cX1_uniteDepths 58 = .ok (.if_icmp .ge 39, 3) := by decide +kernel
theorem dX1_uniteDepths_61 : decode cX1_uniteDepths 61 = .ok (.aload_n 0, 1) := by decide +kernel
theorem dX1_uniteDepths_62 : decode cX1_uniteDepths 62 = .ok (.getfield 12, 3) := by decide +kernel
theorem dX1_uniteDepths_65 : decode cX1_uniteDepths 65 = .ok (.getfield 77, 3) := by decide +kernel
theorem dX1_uniteDepths_68 : decode cX1_uniteDepths 68 = .ok (.iload_n 2, 1) := by decide +kernel
theorem dX1_uniteDepths_69 : decode cX1_uniteDepths 69 = .ok (.iaload, 1) := by decide +kernel
theorem dX1_uniteDepths_70 : decode cX1_uniteDepths 70 = .ok (.aload_n 0, 1) := by decide +kernel
theorem dX1_uniteDepths_71 : decode cX1_uniteDepths 71 = .ok (.getfield 18, 3) := by decide +kernel
theorem dX1_uniteDepths_74 : decode cX1_uniteDepths 74 = .ok (.getfield 77, 3) := by decide +kernel
theorem dX1_uniteDepths_77 : decode cX1_uniteDepths 77 = .ok (.iload_n 1, 1) := by decide +kernel
theorem dX1_uniteDepths_78 : decode cX1_uniteDepths 78 = .ok (.iaload, 1) := by decide +kernel
theorem dX1_uniteDepths_79 : decode cX1_uniteDepths 79 = .ok (.iadd, 1) := by decide +kernel
theorem dX1_uniteDepths_80 : decode cX1_uniteDepths 80 = .ok (.istore_n 3, 1) := by decide +kernel
theorem dX1_uniteDepths_81 : decode cX1_uniteDepths 81 = .ok (.aload_n 0, 1) := by decide +kernel
theorem dX1_uniteDepths_82 : decode cX1_uniteDepths 82 = .ok (.getfield 21, 3) := by decide +kernel
theorem dX1_uniteDepths_85 : decode cX1_uniteDepths 85 = .ok (.getfield 77, 3) := by decide +kernel
theorem dX1_uniteDepths_88 : decode cX1_uniteDepths 88 = .ok (.iload_n 2, 1) := by decide +kernel
theorem dX1_uniteDepths_89 : decode cX1_uniteDepths 89 = .ok (.iload_n 3, 1) := by decide +kernel
theorem dX1_uniteDepths_90 : decode cX1_uniteDepths 90 = .ok (.sipush 9999, 3) := by decide +kernel
theorem dX1_uniteDepths_93 : decode cX1_uniteDepths 93 = .ok (.invokestatic 80, 3) := by decide +kernel
theorem dX1_uniteDepths_96 : decode cX1_uniteDepths 96 = .ok (.iastore, 1) := by decide +kernel
theorem dX1_uniteDepths_97 : decode cX1_uniteDepths 97 = .ok (.iinc 1 1, 3) := by decide +kernel
theorem dX1_uniteDepths_100 : decode cX1_uniteDepths 100 = .ok (.goto (-68), 3) := by decide +kernel
theorem dX1_uniteDepths_103 : decode cX1_uniteDepths 103 = .ok (.return_, 1) := by decide +kernel
theorem dX1_uniteGenotypes_0 : decode cX1_uniteGenotypes 0 = .ok (.iconst 0, 1) := by decide +kernel
theorem dX1_uniteGenotypes_1 : decode cX1_uniteGenotypes 1 = .ok (.istore_n 1, 1) := by decide +kernel
theorem dX1_uniteGenotypes_2 : decode cX1_uniteGenotypes 2 = .ok (.iload_n 1, 1) := by decide +kernel
theorem dX1_uniteGenotypes_3 : decode cX1_uniteGenotypes 3 = .ok (.iconst 4, 1) := by decide +kernel
theorem dX1_uniteGenotypes_4 : decode cX1_uniteGenotypes 4 = .ok (.if_icmp .ge 40, 3) := by decide +kernel
theorem dX1_uniteGenotypes_7 : decode cX1_uniteGenotypes 7 = .ok (.aload_n 0, 1) := by decide +kernel
theorem dX1_uniteGenotypes_8 : decode cX1_uniteGenotypes 8 = .ok (.getfield 21, 3) := by decide +kernel
theorem dX1_uniteGenotypes_11 : decode cX1_uniteGenotypes 11 = .ok (.getfield 83, 3) := by decide +kernel
theorem dX1_uniteGenotypes_14 : decode cX1_uniteGenotypes 14 = .ok (.iload_n 1, 1) := by decide +kernel
theorem dX1_uniteGenotypes_15 : decode cX1_uniteGenotypes 15 = .ok (.aload_n 0, 1) := by decide +kernel
theorem dX1_uniteGenotypes_16 : decode cX1_uniteGenotypes 16 = .ok (.aload_n 0, 1) := by decide +kernel
theorem dX1_uniteGenotypes_17 : decode cX1_uniteGenotypes 17 = .ok (.getfield 12, 3) := by decide +kernel
theorem dX1_uniteGenotypes_20 : decode cX1_uniteGenotypes 20 = .ok (.getfield 83, 3) := by decide +kernel
theorem dX1_uniteGenotypes_23 : decode cX1_uniteGenotypes 23 = .ok (.iload_n 1, 1) := by decide +kernel
theorem dX1_uniteGenotypes_24 : decode cX1_uniteGenotypes 24 = .ok (.iaload, 1) := by decide +kernel
theorem dX1_uniteGenotypes_25 : decode cX1_uniteGenotypes 25 = .ok (.aload_n 0, 1) := by decide +kernel
theorem dX1_uniteGenotypes_26 : decode cX1_uniteGenotypes 26 = .ok (.getfield 18, 3) := by decide +kernel
theorem dX1_uniteGenotypes_29 : decode cX1_uniteGenotypes 29 = .ok (.getfield 83, 3) := by decide +kernel
theorem dX1_uniteGenotypes_32 : decode cX1_uniteGenotypes 32 = .ok (.iload_n 1, 1) := by decide +kernel
theorem dX1_uniteGenotypes_33 : decode cX1_uniteGenotypes 33 = .ok (.iaload, 1) := by decide +kernel
theorem dX1_uniteGenotypes_34 : decode cX1_uniteGenotypes 34 = .ok (.invokevirtual 86, 3) := by decide +kernel
theorem dX1_uniteGenotypes_37 : decode cX1_uniteGenotypes 37 = .ok (.iastore, 1) := by decide +kernel
theorem dX1_uniteGenotypes_38 : decode cX1_uniteGenotypes 38 = .ok (.iinc 1 1, 3) := by decide +kernel
theorem dX1_uniteGenotypes_41 : decode cX1_uniteGenotypes 41 = .ok (.goto (-39), 3) := by decide +kernel
theorem dX1_uniteGenotypes_44 : decode cX1_uniteGenotypes 44 = .ok (.iconst 0, 1) := by decide +kernel
theorem dX1_uniteGenotypes_45 : decode cX1_uniteGenotypes 45 = .ok (.istore_n 1, 1) := by decide +kernel
theorem dX1_uniteGenotypes_46 : decode cX1_uniteGenotypes 46 = .ok (.iload_n 1, 1) := by decide +kernel
theorem dX1_uniteGenotypes_47 : decode cX1_uniteGenotypes 47 = .ok (.iconst 2, 1) := by decide +kernel
theorem dX1_uniteGenotypes_48 : decode cX1_uniteGenotypes 48 = .ok (.if_icmp .ge 47, 3) := by decide +kernel
theorem dX1_uniteGenotypes_51 : decode cX1_uniteGenotypes 51 = .ok (.aload_n 0, 1) := by decide +kernel
theorem dX1_uniteGenotypes_52 : decode cX1_uniteGenotypes 52 = .ok (.getfield 21, 3) := by decide +kernel
theorem dX1_uniteGenotypes_55 : decode cX1_uniteGenotypes 55 = .ok (.getfield 89, 3) := by decide +kernel
theorem dX1_uniteGenotypes_58 : decode cX1_uniteGenotypes 58 = .ok (.iload_n 1, 1) := by decide +kernel
theorem dX1_uniteGenotypes_59 : decode cX1_uniteGenotypes 59 = .ok (.aload_n 0, 1) := by decide +kernel
theorem dX1_uniteGenotypes_60 : decode cX1_uniteGenotypes 60 = .ok (.getfield 12, 3) := by decide +kernel
theorem dX1_uniteGenotypes_63 : decode cX1_uniteGenotypes 63 = .ok (.getfield 89, 3) := by decide +kernel
theorem dX1_uniteGenotypes_66 : decode cX1_uniteGenotypes 66 = .ok (.iload_n 1, 1) := by decide +kernel
theorem dX1_uniteGenotypes_67 : decode cX1_uniteGenotypes 67 = .ok (.baload, 1) := by decide +kernel
theorem dX1_uniteGenotypes_68 : decode cX1_uniteGenotypes 68 = .ok (.ifCond .eq 19, 3) := by decide +kernel
theorem dX1_uniteGenotypes_71 : decode cX1_uniteGenotypes 71 = .ok (.aload_n 0, 1) := by decide +kernel
theorem dX1_uniteGenotypes_72 : decode cX1_uniteGenotypes 72 = .ok (.getfield 18, 3) := by decide +kernel
theorem dX1_uniteGenotypes_75 : decode cX1_uniteGenotypes 75 = .ok (.getfield 89, 3) := by decide +kernel
theorem dX1_uniteGenotypes_78 : decode cX1_uniteGenotypes 78 = .ok (.iload_n 1, 1) := by decide +kernel
theorem dX1_uniteGenotypes_79 : decode cX1_uniteGenotypes 79 = .ok (.baload, 1) := by decide +kernel
theorem dX1_uniteGenotypes_80 : decode cX1_uniteGenotypes 80 = .ok (.ifCond .eq 7, 3) := by decide +kernel
theorem dX1_uniteGenotypes_83 : decode cX1_uniteGenotypes 83 = .ok (.iconst 1, 1) := by decide +kernel
theorem dX1_uniteGenotypes_84 : decode cX1_uniteGenotypes 84 = .ok (.goto 4, 3) := by decide +kernel
theorem dX1_uniteGenotypes_87 : decode cX1_uniteGenotypes 87 = .ok (.iconst 0, 1) := by decide +kernel
theorem dX1_uniteGenotypes_88 : decode cX1_uniteGenotypes 88 = .ok (.bastore, 1) := by decide +kernel
theorem dX1_uniteGenotypes_89 : decode cX1_uniteGenotypes 89 = .ok (.iinc 1 1, 3) := by decide +kernel
theorem dX1_uniteGenotypes_92 : decode cX1_uniteGenotypes 92 = .ok (.goto (-46), 3) := by decide +kernel
theorem dX1_uniteGenotypes_95 : decode cX1_uniteGenotypes 95 = .ok (.return_, 1) := by decide +kernel
theorem dX1_unitedAllele_0 : decode cX1_unitedAllele 0 = .ok (.iload_n 1, 1) := by decide +kernel
theorem dX1_unitedAllele_1 : decode cX1_unitedAllele 1 = .ok (.ifCond .gt 8, 3) := by decide +kernel
theorem dX1_unitedAllele_4 : decode cX1_unitedAllele 4 = .ok (.iload_n 2, 1) := by decide +kernel
theorem dX1_unitedAllele_5 : decode cX1_unitedAllele 5 = .ok (.iconst (-1), 1) := by decide +kernel
theorem dX1_unitedAllele_6 : decode cX1_unitedAllele 6 = .ok (.if_icmp .ne 5, 3) := by decide +kernel
theorem dX1_unitedAllele_9 : decode cX1_unitedAllele 9 = .ok (.iload_n 1, 1) := by decide +kernel
theorem dX1_unitedAllele_10 : decode cX1_unitedAllele 10 = .ok (.ireturn, 1) := by decide +kernel
theorem dX1_unitedAllele_11 : decode cX1_unitedAllele 11 = .ok (.aload_n 0, 1) := by decide +kernel
theorem dX1_unitedAllele_12 : decode cX1_unitedAllele 12 = .ok (.getfield 24, 3) := by decide +kernel
theorem dX1_unitedAllele_15 : decode cX1_unitedAllele 15 = .ok (.iload_n 2, 1) := by decide +kernel
theorem dX1_unitedAllele_16 : decode cX1_unitedAllele 16 = .ok (.iaload, 1) := by decide +kernel
theorem dX1_unitedAllele_17 : decode cX1_unitedAllele 17 = .ok (.ireturn, 1) := by decide +kernel
theorem dX1_uniteLikelihoods_0 : decode cX1_uniteLikelihoods 0 = .ok (.aload_n 0, 1) := by decide +kernel
theorem dX1_uniteLikelihoods_1 : decode cX1_uniteLikelihoods 1 = .ok (.getfield 21, 3) := by decide +kernel
theorem dX1_uniteLikelihoods_4 : decode cX1_uniteLikelihoods 4 = .ok (.sipush 999, 3) := by decide +kernel
theorem dX1_uniteLikelihoods_7 : decode cX1_uniteLikelihoods 7 = .ok (.invokevirtual 93, 3) := by decide +kernel
theorem dX1_uniteLikelihoods_10 : decode cX1_uniteLikelihoods 10 = .ok (.iconst 0, 1) := by decide +kernel
theorem dX1_uniteLikelihoods_11 : decode cX1_uniteLikelihoods 11 = .ok (.istore_n 1, 1) := by decide +kernel
theorem dX1_uniteLikelihoods_12 : decode cX1_uniteLikelihoods 12 = .ok (.iload_n 1, 1) := by decide +kernel
theorem dX1_uniteLikelihoods_13 : decode cX1_uniteLikelihoods 13 = .ok (.iconst 2, 1) := by decide +kernel
theorem dX1_uniteLikelihoods_14 : decode cX1_uniteLikelihoods 14 = .ok (.if_icmp .ge 137, 3) := by decide +kernel
theorem dX1_uniteLikelihoods_17 : decode cX1_uniteLikelihoods 17 = .ok (.bipush 10, 2) := by decide +kernel
theorem dX1_uniteLikelihoods_19 : decode cX1_uniteLikelihoods 19 = .ok (.iload_n 1, 1) := by decide +kernel
theorem dX1_uniteLikelihoods_20 : decode cX1_uniteLikelihoods 20 = .ok (.imul, 1) := by decide +kernel
theorem dX1_uniteLikelihoods_21 : decode cX1_uniteLikelihoods 21 = .ok (.istore_n 2, 1) := by decide +kernel
theorem dX1_uniteLikelihoods_22 : decode cX1_uniteLikelihoods 22 = .ok (.aload_n 0, 1) := by decide +kernel
theorem dX1_uniteLikelihoods_23 : decode cX1_uniteLikelihoods 23 = .ok (.getfield 12, 3) := by decide +kernel
theorem dX1_uniteLikelihoods_26 : decode cX1_uniteLikelihoods 26 = .ok (.getfield 97, 3) := by decide +kernel
theorem dX1_uniteLikelihoods_29 : decode cX1_uniteLikelihoods 29 = .ok (.iload_n 2, 1) := by decide +kernel
theorem dX1_uniteLikelihoods_30 : decode cX1_uniteLikelihoods 30 = .ok (.aload_n 0, 1) := by decide +kernel
theorem dX1_uniteLikelihoods_31 : decode cX1_uniteLikelihoods 31 = .ok (.getfield 21, 3) := by decide +kernel
theorem dX1_uniteLikelihoods_34 : decode cX1_uniteLikelihoods 34 = .ok (.getfield 97, 3) := by decide +kernel
theorem dX1_uniteLikelihoods_37 : decode cX1_uniteLikelihoods 37 = .ok (.iload_n 2, 1) := by decide +kernel
theorem dX1_uniteLikelihoods_38 : decode cX1_uniteLikelihoods 38 = .ok (.aload_n 0, 1) := by decide +kernel
theorem dX1_uniteLikelihoods_39 : decode cX1_uniteLikelihoods 39 = .ok (.getfield 12, 3) := by decide +kernel
theorem dX1_uniteLikelihoods_42 : decode cX1_uniteLikelihoods 42 = .ok (.invokevirtual 100, 3) := by decide +kernel
theorem dX1_uniteLikelihoods_45 : decode cX1_uniteLikelihoods 45 = .ok (.invokestatic 104, 3) := by decide +kernel
theorem dX1_uniteLikelihoods_48 : decode cX1_uniteLikelihoods 48 = .ok (.iconst 0, 1) := by decide +kernel
theorem dX1_uniteLikelihoods_49 : decode cX1_uniteLikelihoods 49 = .ok (.istore_n 3, 1) := by decide +kernel
theorem dX1_uniteLikelihoods_50 : decode cX1_uniteLikelihoods 50 = .ok (.iload_n 3, 1) := by decide +kernel
theorem dX1_uniteLikelihoods_51 : decode cX1_uniteLikelihoods 51 = .ok (.aload_n 0, 1) := by decide +kernel
theorem dX1_uniteLikelihoods_52 : decode cX1_uniteLikelihoods 52 = .ok (.getfield 18, 3) := by decide +kernel
theorem dX1_uniteLikelihoods_55 : decode cX1_uniteLikelihoods 55 = .ok (.getfield 61, 3) := by decide +kernel
theorem dX1_uniteLikelihoods_58 : decode cX1_uniteLikelihoods 58 = .ok (.if_icmp .ge 87, 3) := by decide +kernel
theorem dX1_uniteLikelihoods_61 : decode cX1_uniteLikelihoods 61 = .ok (.iconst 0, 1) := by decide +kernel
theorem dX1_uniteLikelihoods_62 : decode cX1_uniteLikelihoods 62 = .ok (.istore 4, 2) := by decide +kernel
theorem dX1_uniteLikelihoods_64 : decode cX1_uniteLikelihoods 64 = .ok (.iload 4, 2) := by decide +kernel
theorem dX1_uniteLikelihoods_66 : decode cX1_uniteLikelihoods 66 = .ok (.iload_n 3, 1) := by decide +kernel
theorem dX1_uniteLikelihoods_67 : decode cX1_uniteLikelihoods 67 = .ok (.if_icmp .gt 72, 3) := by decide +kernel
theorem dX1_uniteLikelihoods_70 : decode cX1_uniteLikelihoods 70 = .ok (.iload_n 2, 1) := by decide +kernel
theorem dX1_uniteLikelihoods_71 : decode cX1_uniteLikelihoods 71 = .ok (.aload_n 0, 1) := by decide +kernel
theorem dX1_uniteLikelihoods_72 : decode cX1_uniteLikelihoods 72 = .ok (.getfield 24, 3) := by decide +kernel
theorem dX1_uniteLikelihoods_75 : decode cX1_uniteLikelihoods 75 = .ok (.iload 4, 2) := by decide +kernel
theorem dX1_uniteLikelihoods_77 : decode cX1_uniteLikelihoods 77 = .ok (.iaload, 1) := by decide +kernel
theorem dX1_uniteLikelihoods_78 : decode cX1_uniteLikelihoods 78 = .ok (.aload_n 0, 1) := by decide +kernel
theorem dX1_uniteLikelihoods_79 : decode cX1_uniteLikelihoods 79 = .ok (.getfield 24, 3) := by decide +kernel
theorem dX1_uniteLikelihoods_82 : decode cX1_uniteLikelihoods 82 = .ok (.iload_n 3, 1) := by decide +kernel
theorem dX1_uniteLikelihoods_83 : decode cX1_uniteLikelihoods 83 = .ok (.iaload, 1) := by decide +kernel
theorem dX1_uniteLikelihoods_84 : decode cX1_uniteLikelihoods 84 = .ok (.invokestatic 110, 3) := by decide +kernel
theorem dX1_uniteLikelihoods_87 : decode cX1_uniteLikelihoods 87 = .ok (.iadd, 1) := by decide +kernel
theorem dX1_uniteLikelihoods_88 : decode cX1_uniteLikelihoods 88 = .ok (.istore 5, 2) := by decide +kernel
theorem dX1_uniteLikelihoods_90 : decode cX1_uniteLikelihoods 90 = .ok (.aload_n 0, 1) := by decide +kernel
theorem dX1_uniteLikelihoods_91 : decode cX1_uniteLikelihoods 91 = .ok (.getfield 18, 3) := by decide +kernel
theorem dX1_uniteLikelihoods_94 : decode cX1_uniteLikelihoods 94 = .ok (.getfield 97, 3) := by decide +kernel
theorem dX1_uniteLikelihoods_97 : decode cX1_uniteLikelihoods 97 = .ok (.iload_n 2, 1) := by decide +kernel
theorem dX1_uniteLikelihoods_98 : decode cX1_uniteLikelihoods 98 = .ok (.iload 4, 2) := by decide +kernel
theorem dX1_uniteLikelihoods_100 : decode cX1_uniteLikelihoods 100 = .ok (.iload_n 3, 1) := by decide +kernel
theorem dX1_uniteLikelihoods_101 : decode cX1_uniteLikelihoods 101 = .ok (.invokestatic 110, 3) := by decide +kernel
theorem dX1_uniteLikelihoods_104 : decode cX1_uniteLikelihoods 104 = .ok (.iadd, 1) := by decide +kernel
theorem dX1_uniteLikelihoods_105 : decode cX1_uniteLikelihoods 105 = .ok (.iaload, 1) := by decide +kernel
theorem dX1_uniteLikelihoods_106 : decode cX1_uniteLikelihoods 106 = .ok (.istore 6, 2) := by decide +kernel
theorem dX1_uniteLikelihoods_108 : decode cX1_uniteLikelihoods 108 = .ok (.aload_n 0, 1) := by decide +kernel
theorem dX1_uniteLikelihoods_109 : decode cX1_uniteLikelihoods 109 = .ok (.getfield 21, 3) := by decide +kernel
theorem dX1_uniteLikelihoods_112 : decode cX1_uniteLikelihoods 112 = .ok (.getfield 97, 3) := by decide +kernel
theorem dX1_uniteLikelihoods_115 : decode cX1_uniteLikelihoods 115 = .ok (.iload 5, 2) := by decide +kernel
theorem dX1_uniteLikelihoods_117 : decode cX1_uniteLikelihoods 117 = .ok (.aload_n 0, 1) := by decide +kernel
theorem dX1_uniteLikelihoods_118 : decode cX1_uniteLikelihoods 118 = .ok (.getfield 21, 3) := by decide +kernel
theorem dX1_uniteLikelihoods_121 : decode cX1_uniteLikelihoods 121 = .ok (.getfield 97, 3) := by decide +kernel
theorem dX1_uniteLikelihoods_124 : decode cX1_uniteLikelihoods 124 = .ok (.iload 5, 2) := by decide +kernel
theorem dX1_uniteLikelihoods_126 : decode cX1_uniteLikelihoods 126 = .ok (.iaload, 1) := by decide +kernel
theorem dX1_uniteLikelihoods_127 : decode cX1_uniteLikelihoods 127 = .ok (.iload 6, 2) := by decide +kernel
theorem dX1_uniteLikelihoods_129 : decode cX1_uniteLikelihoods 129 = .ok (.invokestatic 80, 3) := by decide +kernel
theorem dX1_uniteLikelihoods_132 : decode cX1_uniteLikelihoods 132 = .ok (.iastore, 1) := by decide +kernel
theorem dX1_uniteLikelihoods_133 : decode cX1_uniteLikelihoods 133 = .ok (.iinc 4 1, 3) := by decide +kernel
theorem dX1_uniteLikelihoods_136 : decode cX1_uniteLikelihoods 136 = .ok (.goto (-72), 3) := by decide +kernel
theorem dX1_uniteLikelihoods_139 : decode cX1_uniteLikelihoods 139 = .ok (.iinc 3 1, 3) := by decide +kernel
theorem dX1_uniteLikelihoods_142 : decode cX1_uniteLikelihoods 142 = .ok (.goto (-92), 3) := by decide +kernel
theorem dX1_uniteLikelihoods_145 : decode cX1_uniteLikelihoods 145 = .ok (.iinc 1 1, 3) := by decide +kernel
theorem dX1_uniteLikelihoods_148 : decode cX1_uniteLikelihoods 148 = .ok (.goto (-136), 3) := by decide +kernel
theorem dX1_uniteLikelihoods_151 : decode cX1_uniteLikelihoods 151 = .ok (.return_, 1) := by decide +kernel
theorem dX2_init_0 : decode cX2_init 0 = .ok (.aload_n 0, 1) := by decide +kernel
theorem dX2_init_1 : decode cX2_init 1 = .ok (.invokespecial 3, 3) := by decide +kernel
theorem dX2_init_4 : decode cX2_init 4 = .ok (.aload_n 0, 1) := by decide +kernel
theorem dX2_init_5 : decode cX2_init 5 = .ok (.bipush 24, 2) := by decide +kernel
theorem dX2_init_7 : decode cX2_init 7 = .ok (.anewarray 9, 3) := by decide +kernel
theorem dX2_init_10 : decode cX2_init 10 = .ok (.putfield 11, 3) := by decide +kernel
theorem dX2_init_13 : decode cX2_init 13 = .ok (.iconst 0, 1) := by decide +kernel
theorem dX2_init_14 : decode cX2_init 14 = .ok (.istore_n 1, 1) := by decide +kernel
theorem dX2_init_15 : decode cX2_init 15 = .ok (.iload_n 1, 1) := by decide +kernel
theorem dX2_init_16 : decode cX2_init 16 = .ok (.bipush 24, 2) := by decide +kernel
theorem dX2_init_18 : decode cX2_init 18 = .ok (.if_icmp .ge 22, 3) := by decide +kernel
theorem dX2_init_21 : decode cX2_init 21 = .ok (.aload_n 0, 1) := by decide +kernel
theorem dX2_init_22 : decode cX2_init 22 = .ok (.getfield 11, 3) := by decide +kernel
theorem dX2_init_25 : decode cX2_init 25 = .ok (.iload_n 1, 1) := by decide +kernel
theorem dX2_init_26 : decode cX2_init 26 = .ok (.new 9, 3) := by decide +kernel
theorem dX2_init_29 : decode cX2_init 29 = .ok (.dup, 1) := by decide +kernel
theorem dX2_init_30 : decode cX2_init 30 = .ok (.invokespecial 17, 3) := by decide +kernel
theorem dX2_init_33 : decode cX2_init 33 = .ok (.aastore, 1) := by decide +kernel
theorem dX2_init_34 : decode cX2_init 34 = .ok (.iinc 1 1, 3) := by decide +kernel
theorem dX2_init_37 : decode cX2_init 37 = .ok (.goto (-22), 3) := by decide +kernel
theorem dX2_init_40 : decode cX2_init 40 = .ok (.aload_n 0, 1) := by decide +kernel
theorem dX2_init_41 : decode cX2_init 41 = .ok (.iconst 0, 1) := by decide +kernel
theorem dX2_init_42 : decode cX2_init 42 = .ok (.putfield 18, 3) := by decide +kernel
theorem dX2_init_45 : decode cX2_init 45 = .ok (.return_, 1) := by decide +kernel
theorem dX2_isFull_0 : decode cX2_isFull 0 = .ok (.aload_n 0, 1) := by decide +kernel
theorem dX2_isFull_1 : decode cX2_isFull 1 = .ok (.getfield 18, 3) := by decide +kernel
theorem dX2_isFull_4 : decode cX2_isFull 4 = .ok (.bipush 24, 2) := by decide +kernel
theorem dX2_isFull_6 : decode cX2_isFull 6 = .ok (.if_icmp .lt 7, 3) := by decide +kernel
theorem dX2_isFull_9 : decode cX2_isFull 9 = .ok (.iconst 1, 1) := by decide +kernel
theorem dX2_isFull_10 : decode cX2_isFull 10 = .ok (.goto 4, 3) := by decide +kernel
theorem dX2_isFull_13 : decode cX2_isFull 13 = .ok (.iconst 0, 1) := by decide +kernel
theorem dX2_isFull_14 : decode cX2_isFull 14 = .ok (.ireturn, 1) := by decide +kernel
theorem dX2_insert_0 : decode cX2_insert 0 = .ok (.iconst 0, 1) := by decide +kernel
theorem dX2_insert_1 : decode cX2_insert 1 = .ok (.istore_n 2, 1) := by decide +kernel
theorem dX2_insert_2 : decode cX2_insert 2 = .ok (.iload_n 2, 1) := by decide +kernel
theorem dX2_insert_3 : decode cX2_insert 3 = .ok (.aload_n 0, 1) := by decide +kernel
theorem dX2_insert_4 : decode cX2_insert 4 = .ok (.getfield 18, 3) := by decide +kernel
theorem dX2_insert_7 : decode cX2_insert 7 = .ok (.if_icmp .ge 25, 3) := by decide +kernel
theorem dX2_insert_10 : decode cX2_insert 10 = .ok (.aload_n 0, 1) := by decide +kernel
theorem dX2_insert_11 : decode cX2_insert 11 = .ok (.getfield 11, 3) := by decide +kernel
theorem dX2_insert_14 : decode cX2_insert 14 = .ok (.iload_n 2, 1) := by decide +kernel
theorem dX2_insert_15 : decode cX2_insert 15 = .ok (.aaload, 1) := by decide +kernel
theorem dX2_insert_16 : decode cX2_insert 16 = .ok (.getfield 22, 3) := by decide +kernel
theorem dX2_insert_19 : decode cX2_insert 19 = .ok (.aload_n 1, 1) := by decide +kernel
theorem dX2_insert_20 : decode cX2_insert 20 = .ok (.getfield 22, 3) := by decide +kernel
theorem dX2_insert_23 : decode cX2_insert 23 = .ok (.if_icmp .gt 9, 3) := by decide +kernel
theorem dX2_insert_26 : decode cX2_insert 26 = .ok (.iinc 2 1, 3) := by decide +kernel
theorem dX2_insert_29 : decode cX2_insert 29 = .ok (.goto (-27), 3) := by decide +kernel
theorem dX2_insert_32 : decode cX2_insert 32 = .ok (.aload_n 0, 1) := by decide +kernel
theorem dX2_insert_33 : decode cX2_insert 33 = .ok (.iload_n 2, 1) := by decide +kernel
theorem dX2_insert_34 : decode cX2_insert 34 = .ok (.invokevirtual 25, 3) := by decide +kernel
theorem dX2_insert_37 : decode cX2_insert 37 = .ok (.aload_n 1, 1) := by decide +kernel
theorem dX2_insert_38 : decode cX2_insert 38 = .ok (.invokevirtual 29, 3) := by decide +kernel
theorem dX2_insert_41 : decode cX2_insert 41 = .ok (.iload_n 2, 1) := by decide +kernel
theorem dX2_insert_42 : decode cX2_insert 42 = .ok (.ireturn, 1) := by decide +kernel
theorem dX2_open_0 : decode cX2_open 0 = .ok (.aload_n 0, 1) := by decide +kernel
theorem dX2_open_1 : decode cX2_open 1 = .ok (.getfield 11, 3) := by decide +kernel
theorem dX2_open_4 : decode cX2_open 4 = .ok (.aload_n 0, 1) := by decide +kernel
theorem dX2_open_5 : decode cX2_open 5 = .ok (.getfield 18, 3) := by decide +kernel
theorem dX2_open_8 : decode cX2_open 8 = .ok (.aaload, 1) := by decide +kernel
theorem dX2_open_9 : decode cX2_open 9 = .ok (.astore_n 2, 1) := by decide +kernel
theorem dX2_open_10 : decode cX2_open 10 = .ok (.aload_n 0, 1) := by decide +kernel
theorem dX2_open_11 : decode cX2_open 11 = .ok (.getfield 18, 3) := by decide +kernel
theorem dX2_open_14 : decode cX2_open 14 = .ok (.istore_n 3, 1) := by decide +kernel
theorem dX2_open_15 : decode cX2_open 15 = .ok (.iload_n 3, 1) := by decide +kernel
theorem dX2_open_16 : decode cX2_open 16 = .ok (.iload_n 1, 1) := by decide +kernel
theorem dX2_open_17 : decode cX2_open 17 = .ok (.if_icmp .le 23, 3) := by decide +kernel
theorem dX2_open_20 : decode cX2_open 20 = .ok (.aload_n 0, 1) := by decide +kernel
theorem dX2_open_21 : decode cX2_open 21 = .ok (.getfield 11, 3) := by decide +kernel
theorem dX2_open_24 : decode cX2_open 24 = .ok (.iload_n 3, 1) := by decide +kernel
theorem dX2_open_25 : decode cX2_open 25 = .ok (.aload_n 0, 1) := by decide +kernel
theorem dX2_open_26 : decode cX2_open 26 = .ok (.getfield 11, 3) := by decide +kernel
theorem dX2_open_29 : decode cX2_open 29 = .ok (.iload_n 3, 1) := by decide +kernel
theorem dX2_open_30 : decode cX2_open 30 = .ok (.iconst 1, 1) := by decide +kernel
theorem dX2_open_31 : decode cX2_open 31 = .ok (.isub, 1) := by decide +kernel
theorem dX2_open_32 : decode cX2_open 32 = .ok (.aaload, 1) := by decide +kernel
theorem dX2_open_33 : decode cX2_open 33 = .ok (.aastore, 1) := by decide +kernel
theorem dX2_open_34 : decode cX2_open 34 = .ok (.iinc 3 (-1), 3) := by decide +kernel
theorem dX2_open_37 : decode cX2_open 37 = .ok (.goto (-22), 3) := by decide +kernel
theorem dX2_open_40 : decode cX2_open 40 = .ok (.aload_n 0, 1) := by decide +kernel
theorem dX2_open_41 : decode cX2_open 41 = .ok (.getfield 11, 3) := by decide +kernel
theorem dX2_open_44 : decode cX2_open 44 = .ok (.iload_n 1, 1) := by decide +kernel
theorem dX2_open_45 : decode cX2_open 45 = .ok (.aload_n 2, 1) := by decide +kernel
theorem dX2_open_46 : decode cX2_open 46 = .ok (.aastore, 1) := by decide +kernel
theorem dX2_open_47 : decode cX2_open 47 = .ok (.aload_n 0, 1) := by decide +kernel
theorem dX2_open_48 : decode cX2_open 48 = .ok (.dup, 1) := by decide +kernel
theorem dX2_open_49 : decode cX2_open 49 = .ok (.getfield 18, 3) := by decide +kernel
theorem dX2_open_52 : decode cX2_open 52 = .ok (.iconst 1, 1) := by decide +kernel
theorem dX2_open_53 : decode cX2_open 53 = .ok (.iadd, 1) := by decide +kernel
theorem dX2_open_54 : decode cX2_open 54 = .ok (.putfield 18, 3) := by decide +kernel
theorem dX2_open_57 : decode cX2_open 57 = .ok (.aload_n 2, 1) := by decide +kernel
theorem dX2_open_58 : decode cX2_open 58 = .ok (.areturn, 1) := by decide +kernel
theorem dX2_close_0 : decode cX2_close 0 = .ok (.aload_n 0, 1) := by decide +kernel
theorem dX2_close_1 : decode cX2_close 1 = .ok (.getfield 11, 3) := by decide +kernel
theorem dX2_close_4 : decode cX2_close 4 = .ok (.iload_n 1, 1) := by decide +kernel
theorem dX2_close_5 : decode cX2_close 5 = .ok (.aaload, 1) := by decide +kernel
theorem dX2_close_6 : decode cX2_close 6 = .ok (.astore_n 2, 1) := by decide +kernel
theorem dX2_close_7 : decode cX2_close 7 = .ok (.iload_n 1, 1) := by decide +kernel
theorem dX2_close_8 : decode cX2_close 8 = .ok (.istore_n 3, 1) := by decide +kernel
theorem dX2_close_9 : decode cX2_close 9 = .ok (.iload_n 3, 1) := by decide +kernel
theorem dX2_close_10 : decode cX2_close 10 = .ok (.aload_n 0, 1) := by decide +kernel
theorem dX2_close_11 : decode cX2_close 11 = .ok (.getfield 18, 3) := by decide +kernel
theorem dX2_close_14 : decode cX2_close 14 = .ok (.iconst 1, 1) := by decide +kernel
theorem dX2_close_15 : decode cX2_close 15 = .ok (.isub, 1) := by decide +kernel
theorem dX2_close_16 : decode cX2_close 16 = .ok (.if_icmp .ge 23, 3) := by decide +kernel
theorem dX2_close_19 : decode cX2_close 19 = .ok (.aload_n 0, 1) := by decide +kernel
theorem dX2_close_20 : decode cX2_close 20 = .ok (.getfield 11, 3) := by decide +kernel
theorem dX2_close_23 : decode cX2_close 23 = .ok (.iload_n 3, 1) := by decide +kernel
theorem dX2_close_24 : decode cX2_close 24 = .ok (.aload_n 0, 1) := by decide +kernel
theorem dX2_close_25 : decode cX2_close 25 = .ok (.getfield 11, 3) := by decide +kernel
theorem dX2_close_28 : decode cX2_close 28 = .ok (.iload_n 3, 1) := by decide +kernel
theorem dX2_close_29 : decode cX2_close 29 = .ok (.iconst 1, 1) := by decide +kernel
theorem dX2_close_30 : decode cX2_close 30 = .ok (.iadd, 1) := by decide +kernel
theorem dX2_close_31 : decode cX2_close 31 = .ok (.aaload, 1) := by decide +kernel
theorem dX2_close_32 : decode cX2_close 32 = .ok (.aastore, 1) := by decide +kernel
theorem dX2_close_33 : decode cX2_close 33 = .ok (.iinc 3 1, 3) := by decide +kernel
theorem dX2_close_36 : decode cX2_close 36 = .ok (.goto (-27), 3) := by decide +kernel
theorem dX2_close_39 : decode cX2_close 39 = .ok (.aload_n 0, 1) := by decide +kernel
theorem dX2_close_40 : decode cX2_close 40 = .ok (.dup, 1) := by decide +kernel
theorem dX2_close_41 : decode cX2_close 41 = .ok (.getfield 18, 3) := by decide +kernel
theorem dX2_close_44 : decode cX2_close 44 = .ok (.iconst 1, 1) := by decide +kernel
theorem dX2_close_45 : decode cX2_close 45 = .ok (.isub, 1) := by decide +kernel
theorem dX2_close_46 : decode cX2_close 46 = .ok (.putfield 18, 3) := by decide +kernel
theorem dX2_close_49 : decode cX2_close 49 = .ok (.aload_n 0, 1) := by decide +kernel
theorem dX2_close_50 : decode cX2_close 50 = .ok (.getfield 11, 3) := by decide +kernel
theorem dX2_close_53 : decode cX2_close 53 = .ok (.aload_n 0, 1) := by decide +kernel
theorem dX2_close_54 : decode cX2_close 54 = .ok (.getfield 18, 3) := by decide +kernel
theorem dX2_close_57 : decode cX2_close 57 = .ok (.aload_n 2, 1) := by decide +kernel
theorem dX2_close_58 : decode cX2_close 58 = .ok (.aastore, 1) := by decide +kernel
theorem dX2_close_59 : decode cX2_close 59 = .ok (.return_, 1) := by decide +kernel
theorem dX3_init_0 : decode cX3_init 0 = .ok (.aload_n 0, 1) := by decide +kernel
theorem dX3_init_1 : decode cX3_init 1 = .ok (.invokespecial 3, 3) := by decide +kernel
theorem dX3_init_4 : decode cX3_init 4 = .ok (.aload_n 0, 1) := by decide +kernel
theorem dX3_init_5 : decode cX3_init 5 = .ok (.sipush 160, 3) := by decide +kernel
theorem dX3_init_8 : decode cX3_init 8 = .ok (.newarray .int, 2) := by decide +kernel
theorem dX3_init_10 : decode cX3_init 10 = .ok (.putfield 9, 3) := by decide +kernel
theorem dX3_init_13 : decode cX3_init 13 = .ok (.aload_n 0, 1) := by decide +kernel
theorem dX3_init_14 : decode cX3_init 14 = .ok (.iconst 0, 1) := by decide +kernel
theorem dX3_init_15 : decode cX3_init 15 = .ok (.putfield 15, 3) := by decide +kernel
theorem dX3_init_18 : decode cX3_init 18 = .ok (.return_, 1) := by decide +kernel
theorem dX3_append_0 : decode cX3_append 0 = .ok (.iconst 0, 1) := by decide +kernel
theorem dX3_append_1 : decode cX3_append 1 = .ok (.istore 4, 2) := by decide +kernel
theorem dX3_append_3 : decode cX3_append 3 = .ok (.iload 4, 2) := by decide +kernel
theorem dX3_append_5 : decode cX3_append 5 = .ok (.iload_n 3, 1) := by decide +kernel
theorem dX3_append_6 : decode cX3_append 6 = .ok (.if_icmp .ge 45, 3) := by decide +kernel
theorem dX3_append_9 : decode cX3_append 9 = .ok (.aload_n 0, 1) := by decide +kernel
theorem dX3_append_10 : decode cX3_append 10 = .ok (.getfield 15, 3) := by decide +kernel
theorem dX3_append_13 : decode cX3_append 13 = .ok (.sipush 160, 3) := by decide +kernel
theorem dX3_append_16 : decode cX3_append 16 = .ok (.if_icmp .ge 35, 3) := by decide +kernel
theorem dX3_append_19 : decode cX3_append 19 = .ok (.aload_n 0, 1) := by decide +kernel
theorem dX3_append_20 : decode cX3_append 20 = .ok (.getfield 9, 3) := by decide +kernel
theorem dX3_append_23 : decode cX3_append 23 = .ok (.aload_n 0, 1) := by decide +kernel
theorem dX3_append_24 : decode cX3_append 24 = .ok (.getfield 15, 3) := by decide +kernel
theorem dX3_append_27 : decode cX3_append 27 = .ok (.lload_n 1, 1) := by decide +kernel
theorem dX3_append_28 : decode cX3_append 28 = .ok (.iload_n 3, 1) := by decide +kernel
theorem dX3_append_29 : decode cX3_append 29 = .ok (.iload 4, 2) := by decide +kernel
theorem dX3_append_31 : decode cX3_append 31 = .ok (.invokestatic 19, 3) := by decide +kernel
theorem dX3_append_34 : decode cX3_append 34 = .ok (.iastore, 1) := by decide +kernel
theorem dX3_append_35 : decode cX3_append 35 = .ok (.aload_n 0, 1) := by decide +kernel
theorem dX3_append_36 : decode cX3_append 36 = .ok (.dup, 1) := by decide +kernel
theorem dX3_append_37 : decode cX3_append 37 = .ok (.getfield 15, 3) := by decide +kernel
theorem dX3_append_40 : decode cX3_append 40 = .ok (.iconst 1, 1) := by decide +kernel
theorem dX3_append_41 : decode cX3_append 41 = .ok (.iadd, 1) := by decide +kernel
theorem dX3_append_42 : decode cX3_append 42 = .ok (.putfield 15, 3) := by decide +kernel
theorem dX3_append_45 : decode cX3_append 45 = .ok (.iinc 4 1, 3) := by decide +kernel
theorem dX3_append_48 : decode cX3_append 48 = .ok (.goto (-45), 3) := by decide +kernel
theorem dX3_append_51 : decode cX3_append 51 = .ok (.return_, 1) := by decide +kernel
theorem dX3_covers_0 : decode cX3_covers 0 = .ok (.iload_n 1, 1) := by decide +kernel
theorem dX3_covers_1 : decode cX3_covers 1 = .ok (.iconst 1, 1) := by decide +kernel
theorem dX3_covers_2 : decode cX3_covers 2 = .ok (.if_icmp .lt 19, 3) := by decide +kernel
theorem dX3_covers_5 : decode cX3_covers 5 = .ok (.iload_n 1, 1) := by decide +kernel
theorem dX3_covers_6 : decode cX3_covers 6 = .ok (.aload_n 0, 1) := by decide +kernel
theorem dX3_covers_7 : decode cX3_covers 7 = .ok (.getfield 15, 3) := by decide +kernel
theorem dX3_covers_10 : decode cX3_covers 10 = .ok (.iload_n 2, 1) := by decide +kernel
theorem dX3_covers_11 : decode cX3_covers 11 = .ok (.isub, 1) := by decide +kernel
theorem dX3_covers_12 : decode cX3_covers 12 = .ok (.iconst 1, 1) := by decide +kernel
theorem dX3_covers_13 : decode cX3_covers 13 = .ok (.iadd, 1) := by decide +kernel
theorem dX3_covers_14 : decode cX3_covers 14 = .ok (.if_icmp .gt 7, 3) := by decide +kernel
theorem dX3_covers_17 : decode cX3_covers 17 = .ok (.iconst 1, 1) := by decide +kernel
theorem dX3_covers_18 : decode cX3_covers 18 = .ok (.goto 4, 3) := by decide +kernel
theorem dX3_covers_21 : decode cX3_covers 21 = .ok (.iconst 0, 1) := by decide +kernel
theorem dX3_covers_22 : decode cX3_covers 22 = .ok (.ireturn, 1) := by decide +kernel
theorem dX3_packed_0 : decode cX3_packed 0 = .ok (.iconst 0, 1) := by decide +kernel
theorem dX3_packed_1 : decode cX3_packed 1 = .ok (.istore_n 3, 1) := by decide +kernel
theorem dX3_packed_2 : decode cX3_packed 2 = .ok (.iconst 0, 1) := by decide +kernel
theorem dX3_packed_3 : decode cX3_packed 3 = .ok (.istore 4, 2) := by decide +kernel
theorem dX3_packed_5 : decode cX3_packed 5 = .ok (.iload 4, 2) := by decide +kernel
theorem dX3_packed_7 : decode cX3_packed 7 = .ok (.iload_n 2, 1) := by decide +kernel
theorem dX3_packed_8 : decode cX3_packed 8 = .ok (.if_icmp .ge 25, 3) := by decide +kernel
theorem dX3_packed_11 : decode cX3_packed 11 = .ok (.iload_n 3, 1) := by decide +kernel
theorem dX3_packed_12 : decode cX3_packed 12 = .ok (.iconst 2, 1) := by decide +kernel
theorem dX3_packed_13 : decode cX3_packed 13 = .ok (.ishl, 1) := by decide +kernel
theorem dX3_packed_14 : decode cX3_packed 14 = .ok (.aload_n 0, 1) := by decide +kernel
theorem dX3_packed_15 : decode cX3_packed 15 = .ok (.getfield 9, 3) := by decide +kernel
theorem dX3_packed_18 : decode cX3_packed 18 = .ok (.iload_n 1, 1) := by decide +kernel
theorem dX3_packed_19 : decode cX3_packed 19 = .ok (.iconst 1, 1) := by decide +kernel
theorem dX3_packed_20 : decode cX3_packed 20 = .ok (.isub, 1) := by decide +kernel
theorem dX3_packed_21 : decode cX3_packed 21 = .ok (.iload 4, 2) := by decide +kernel
theorem dX3_packed_23 : decode cX3_packed 23 = .ok (.iadd, 1) := by decide +kernel
theorem dX3_packed_24 : decode cX3_packed 24 = .ok (.iaload, 1) := by decide +kernel
theorem dX3_packed_25 : decode cX3_packed 25 = .ok (.ior, 1) := by decide +kernel
theorem dX3_packed_26 : decode cX3_packed 26 = .ok (.istore_n 3, 1) := by decide +kernel
theorem dX3_packed_27 : decode cX3_packed 27 = .ok (.iinc 4 1, 3) := by decide +kernel
theorem dX3_packed_30 : decode cX3_packed 30 = .ok (.goto (-25), 3) := by decide +kernel
theorem dX3_packed_33 : decode cX3_packed 33 = .ok (.iload_n 3, 1) := by decide +kernel
theorem dX3_packed_34 : decode cX3_packed 34 = .ok (.ireturn, 1) := by decide +kernel
theorem dX4_init_0 : decode cX4_init 0 = .ok (.aload_n 0, 1) := by decide +kernel
theorem dX4_init_1 : decode cX4_init 1 = .ok (.invokespecial 3, 3) := by decide +kernel
theorem dX4_init_4 : decode cX4_init 4 = .ok (.aload_n 0, 1) := by decide +kernel
theorem dX4_init_5 : decode cX4_init 5 = .ok (.iconst 4, 1) := by decide +kernel
theorem dX4_init_6 : decode cX4_init 6 = .ok (.newarray .int, 2) := by decide +kernel
theorem dX4_init_8 : decode cX4_init 8 = .ok (.putfield 9, 3) := by decide +kernel
theorem dX4_init_11 : decode cX4_init 11 = .ok (.aload_n 0, 1) := by decide +kernel
theorem dX4_init_12 : decode cX4_init 12 = .ok (.iconst 4, 1) := by decide +kernel
theorem dX4_init_13 : decode cX4_init 13 = .ok (.newarray .int, 2) := by decide +kernel
theorem dX4_init_15 : decode cX4_init 15 = .ok (.putfield 15, 3) := by decide +kernel
theorem dX4_init_18 : decode cX4_init 18 = .ok (.aload_n 0, 1) := by decide +kernel
theorem dX4_init_19 : decode cX4_init 19 = .ok (.iconst 4, 1) := by decide +kernel
theorem dX4_init_20 : decode cX4_init 20 = .ok (.newarray .int, 2) := by decide +kernel
theorem dX4_init_22 : decode cX4_init 22 = .ok (.putfield 18, 3) := by decide +kernel
theorem dX4_init_25 : decode cX4_init 25 = .ok (.aload_n 0, 1) := by decide +kernel
theorem dX4_init_26 : decode cX4_init 26 = .ok (.iconst 4, 1) := by decide +kernel
theorem dX4_init_27 : decode cX4_init 27 = .ok (.newarray .int, 2) := by decide +kernel
theorem dX4_init_29 : decode cX4_init 29 = .ok (.putfield 21, 3) := by decide +kernel
theorem dX4_init_32 : decode cX4_init 32 = .ok (.aload_n 0, 1) := by decide +kernel
theorem dX4_init_33 : decode cX4_init 33 = .ok (.iconst 2, 1) := by decide +kernel
theorem dX4_init_34 : decode cX4_init 34 = .ok (.newarray .boolean, 2) := by decide +kernel
theorem dX4_init_36 : decode cX4_init 36 = .ok (.putfield 24, 3) := by decide +kernel
theorem dX4_init_39 : decode cX4_init 39 = .ok (.aload_n 0, 1) := by decide +kernel
theorem dX4_init_40 : decode cX4_init 40 = .ok (.bipush 20, 2) := by decide +kernel
theorem dX4_init_42 : decode cX4_init 42 = .ok (.newarray .int, 2) := by decide +kernel
theorem dX4_init_44 : decode cX4_init 44 = .ok (.putfield 28, 3) := by decide +kernel
theorem dX4_init_47 : decode cX4_init 47 = .ok (.return_, 1) := by decide +kernel
theorem dX4_clear_0 : decode cX4_clear 0 = .ok (.aload_n 0, 1) := by decide +kernel
theorem dX4_clear_1 : decode cX4_clear 1 = .ok (.iconst 0, 1) := by decide +kernel
theorem dX4_clear_2 : decode cX4_clear 2 = .ok (.putfield 31, 3) := by decide +kernel
theorem dX4_clear_5 : decode cX4_clear 5 = .ok (.aload_n 0, 1) := by decide +kernel
theorem dX4_clear_6 : decode cX4_clear 6 = .ok (.iconst 0, 1) := by decide +kernel
theorem dX4_clear_7 : decode cX4_clear 7 = .ok (.putfield 35, 3) := by decide +kernel
theorem dX4_clear_10 : decode cX4_clear 10 = .ok (.aload_n 0, 1) := by decide +kernel
theorem dX4_clear_11 : decode cX4_clear 11 = .ok (.iconst 0, 1) := by decide +kernel
theorem dX4_clear_12 : decode cX4_clear 12 = .ok (.putfield 38, 3) := by decide +kernel
theorem dX4_clear_15 : decode cX4_clear 15 = .ok (.iconst 0, 1) := by decide +kernel
theorem dX4_clear_16 : decode cX4_clear 16 = .ok (.istore_n 1, 1) := by decide +kernel
theorem dX4_clear_17 : decode cX4_clear 17 = .ok (.iload_n 1, 1) := by decide +kernel
theorem dX4_clear_18 : decode cX4_clear 18 = .ok (.iconst 4, 1) := by decide +kernel
theorem dX4_clear_19 : decode cX4_clear 19 = .ok (.if_icmp .ge 16, 3) := by decide +kernel
theorem dX4_clear_22 : decode cX4_clear 22 = .ok (.aload_n 0, 1) := by decide +kernel
theorem dX4_clear_23 : decode cX4_clear 23 = .ok (.getfield 21, 3) := by decide +kernel
theorem dX4_clear_26 : decode cX4_clear 26 = .ok (.iload_n 1, 1) := by decide +kernel
theorem dX4_clear_27 : decode cX4_clear 27 = .ok (.iconst (-1), 1) := by decide +kernel
theorem dX4_clear_28 : decode cX4_clear 28 = .ok (.iastore, 1) := by decide +kernel
theorem dX4_clear_29 : decode cX4_clear 29 = .ok (.iinc 1 1, 3) := by decide +kernel
theorem dX4_clear_32 : decode cX4_clear 32 = .ok (.goto (-15), 3) := by decide +kernel
theorem dX4_clear_35 : decode cX4_clear 35 = .ok (.iconst 0, 1) := by decide +kernel
theorem dX4_clear_36 : decode cX4_clear 36 = .ok (.istore_n 1, 1) := by decide +kernel
theorem dX4_clear_37 : decode cX4_clear 37 = .ok (.iload_n 1, 1) := by decide +kernel
theorem dX4_clear_38 : decode cX4_clear 38 = .ok (.iconst 2, 1) := by decide +kernel
theorem dX4_clear_39 : decode cX4_clear 39 = .ok (.if_icmp .ge 16, 3) := by decide +kernel
theorem dX4_clear_42 : decode cX4_clear 42 = .ok (.aload_n 0, 1) := by decide +kernel
theorem dX4_clear_43 : decode cX4_clear 43 = .ok (.getfield 24, 3) := by decide +kernel
theorem dX4_clear_46 : decode cX4_clear 46 = .ok (.iload_n 1, 1) := by decide +kernel
theorem dX4_clear_47 : decode cX4_clear 47 = .ok (.iconst 0, 1) := by decide +kernel
theorem dX4_clear_48 : decode cX4_clear 48 = .ok (.bastore, 1) := by decide +kernel
theorem dX4_clear_49 : decode cX4_clear 49 = .ok (.iinc 1 1, 3) := by decide +kernel
theorem dX4_clear_52 : decode cX4_clear 52 = .ok (.goto (-15), 3) := by decide +kernel
theorem dX4_clear_55 : decode cX4_clear 55 = .ok (.aload_n 0, 1) := by decide +kernel
theorem dX4_clear_56 : decode cX4_clear 56 = .ok (.iconst 0, 1) := by decide +kernel
theorem dX4_clear_57 : decode cX4_clear 57 = .ok (.invokevirtual 41, 3) := by decide +kernel
theorem dX4_clear_60 : decode cX4_clear 60 = .ok (.return_, 1) := by decide +kernel
theorem dX4_fillLikelihoods_0 : decode cX4_fillLikelihoods 0 = .ok (.iconst 0, 1) := by decide +kernel
theorem dX4_fillLikelihoods_1 : decode cX4_fillLikelihoods 1 = .ok (.istore_n 2, 1) := by decide +kernel
theorem dX4_fillLikelihoods_2 : decode cX4_fillLikelihoods 2 = .ok (.iload_n 2, 1) := by decide +kernel
theorem dX4_fillLikelihoods_3 : decode cX4_fillLikelihoods 3 = .ok (.bipush 20, 2) := by decide +kernel
theorem dX4_fillLikelihoods_5 : decode cX4_fillLikelihoods 5 = .ok (.if_icmp .ge 16, 3) := by decide +kernel
theorem dX4_fillLikelihoods_8 : decode cX4_fillLikelihoods 8 = .ok (.aload_n 0, 1) := by decide +kernel
theorem dX4_fillLikelihoods_9 : decode cX4_fillLikelihoods 9 = .ok (.getfield 28, 3) := by decide +kernel
theorem dX4_fillLikelihoods_12 : decode cX4_fillLikelihoods 12 = .ok (.iload_n 2, 1) := by decide +kernel
theorem dX4_fillLikelihoods_13 : decode cX4_fillLikelihoods 13 = .ok (.iload_n 1, 1) := by decide +kernel
theorem dX4_fillLikelihoods_14 : decode cX4_fillLikelihoods 14 = .ok (.iastore, 1) := by decide +kernel
theorem dX4_fillLikelihoods_15 : decode cX4_fillLikelihoods 15 = .ok (.iinc 2 1, 3) := by decide +kernel
theorem dX4_fillLikelihoods_18 : decode cX4_fillLikelihoods 18 = .ok (.goto (-16), 3) := by decide +kernel
theorem dX4_fillLikelihoods_21 : decode cX4_fillLikelihoods 21 = .ok (.return_, 1) := by decide +kernel
theorem dX4_copy_0 : decode cX4_copy 0 = .ok (.aload_n 0, 1) := by decide +kernel
theorem dX4_copy_1 : decode cX4_copy 1 = .ok (.aload_n 1, 1) := by decide +kernel
theorem dX4_copy_2 : decode cX4_copy 2 = .ok (.getfield 31, 3) := by decide +kernel
theorem dX4_copy_5 : decode cX4_copy 5 = .ok (.putfield 31, 3) := by decide +kernel
theorem dX4_copy_8 : decode cX4_copy 8 = .ok (.aload_n 0, 1) := by decide +kernel
theorem dX4_copy_9 : decode cX4_copy 9 = .ok (.aload_n 1, 1) := by decide +kernel
theorem dX4_copy_10 : decode cX4_copy 10 = .ok (.getfield 35, 3) := by decide +kernel
theorem dX4_copy_13 : decode cX4_copy 13 = .ok (.putfield 35, 3) := by decide +kernel
theorem dX4_copy_16 : decode cX4_copy 16 = .ok (.aload_n 0, 1) := by decide +kernel
theorem dX4_copy_17 : decode cX4_copy 17 = .ok (.aload_n 1, 1) := by decide +kernel
theorem dX4_copy_18 : decode cX4_copy 18 = .ok (.getfield 38, 3) := by decide +kernel
theorem dX4_copy_21 : decode cX4_copy 21 = .ok (.putfield 38, 3) := by decide +kernel
theorem dX4_copy_24 : decode cX4_copy 24 = .ok (.aload_n 1, 1) := by decide +kernel
theorem dX4_copy_25 : decode cX4_copy 25 = .ok (.getfield 9, 3) := by decide +kernel
theorem dX4_copy_28 : decode cX4_copy 28 = .ok (.iconst 0, 1) := by decide +kernel
theorem dX4_copy_29 : decode cX4_copy 29 = .ok (.aload_n 0, 1) := by decide +kernel
theorem dX4_copy_30 : decode cX4_copy 30 = .ok (.getfield 9, 3) := by decide +kernel
theorem dX4_copy_33 : decode cX4_copy 33 = .ok (.iconst 0, 1) := by decide +kernel
theorem dX4_copy_34 : decode cX4_copy 34 = .ok (.iconst 4, 1) := by decide +kernel
theorem dX4_copy_35 : decode cX4_copy 35 = .ok (.invokestatic 45, 3) := by decide +kernel
theorem dX4_copy_38 : decode cX4_copy 38 = .ok (.aload_n 1, 1) := by decide +kernel
theorem dX4_copy_39 : decode cX4_copy 39 = .ok (.getfield 15, 3) := by decide +kernel
theorem dX4_copy_42 : decode cX4_copy 42 = .ok (.iconst 0, 1) := by decide +kernel
theorem dX4_copy_43 : decode cX4_copy 43 = .ok (.aload_n 0, 1) := by decide +kernel
theorem dX4_copy_44 : decode cX4_copy 44 = .ok (.getfield 15, 3) := by decide +kernel
theorem dX4_copy_47 : decode cX4_copy 47 = .ok (.iconst 0, 1) := by decide +kernel
theorem dX4_copy_48 : decode cX4_copy 48 = .ok (.iconst 4, 1) := by decide +kernel
theorem dX4_copy_49 : decode cX4_copy 49 = .ok (.invokestatic 45, 3) := by decide +kernel
theorem dX4_copy_52 : decode cX4_copy 52 = .ok (.aload_n 1, 1) := by decide +kernel
theorem dX4_copy_53 : decode cX4_copy 53 = .ok (.getfield 18, 3) := by decide +kernel
theorem dX4_copy_56 : decode cX4_copy 56 = .ok (.iconst 0, 1) := by decide +kernel
theorem dX4_copy_57 : decode cX4_copy 57 = .ok (.aload_n 0, 1) := by decide +kernel
theorem dX4_copy_58 : decode cX4_copy 58 = .ok (.getfield 18, 3) := by decide +kernel
theorem dX4_copy_61 : decode cX4_copy 61 = .ok (.iconst 0, 1) := by decide +kernel
theorem dX4_copy_62 : decode cX4_copy 62 = .ok (.iconst 4, 1) := by decide +kernel
theorem dX4_copy_63 : decode cX4_copy 63 = .ok (.invokestatic 45, 3) := by decide +kernel
theorem dX4_copy_66 : decode cX4_copy 66 = .ok (.aload_n 1, 1) := by decide +kernel
theorem dX4_copy_67 : decode cX4_copy 67 = .ok (.getfield 21, 3) := by decide +kernel
theorem dX4_copy_70 : decode cX4_copy 70 = .ok (.iconst 0, 1) := by decide +kernel
theorem dX4_copy_71 : decode cX4_copy 71 = .ok (.aload_n 0, 1) := by decide +kernel
theorem dX4_copy_72 : decode cX4_copy 72 = .ok (.getfield 21, 3) := by decide +kernel
theorem dX4_copy_75 : decode cX4_copy 75 = .ok (.iconst 0, 1) := by decide +kernel
theorem dX4_copy_76 : decode cX4_copy 76 = .ok (.iconst 4, 1) := by decide +kernel
theorem dX4_copy_77 : decode cX4_copy 77 = .ok (.invokestatic 45, 3) := by decide +kernel
theorem dX4_copy_80 : decode cX4_copy 80 = .ok (.aload_n 1, 1) := by decide +kernel
theorem dX4_copy_81 : decode cX4_copy 81 = .ok (.getfield 28, 3) := by decide +kernel
theorem dX4_copy_84 : decode cX4_copy 84 = .ok (.iconst 0, 1) := by decide +kernel
theorem dX4_copy_85 : decode cX4_copy 85 = .ok (.aload_n 0, 1) := by decide +kernel
theorem dX4_copy_86 : decode cX4_copy 86 = .ok (.getfield 28, 3) := by decide +kernel
theorem dX4_copy_89 : decode cX4_copy 89 = .ok (.iconst 0, 1) := by decide +kernel
theorem dX4_copy_90 : decode cX4_copy 90 = .ok (.bipush 20, 2) := by decide +kernel
theorem dX4_copy_92 : decode cX4_copy 92 = .ok (.invokestatic 45, 3) := by decide +kernel
theorem dX4_copy_95 : decode cX4_copy 95 = .ok (.iconst 0, 1) := by decide +kernel
theorem dX4_copy_96 : decode cX4_copy 96 = .ok (.istore_n 2, 1) := by decide +kernel
theorem dX4_copy_97 : decode cX4_copy 97 = .ok (.iload_n 2, 1) := by decide +kernel
theorem dX4_copy_98 : decode cX4_copy 98 = .ok (.iconst 2, 1) := by decide +kernel
theorem dX4_copy_99 : decode cX4_copy 99 = .ok (.if_icmp .ge 21, 3) := by decide +kernel
theorem dX4_copy_102 : decode cX4_copy 102 = .ok (.aload_n 0, 1) := by decide +kernel
theorem dX4_copy_103 : decode cX4_copy 103 = .ok (.getfield 24, 3) := by decide +kernel
theorem dX4_copy_106 : decode cX4_copy 106 = .ok (.iload_n 2, 1) := by decide +kernel
theorem dX4_copy_107 : decode cX4_copy 107 = .ok (.aload_n 1, 1) := by decide +kernel
theorem dX4_copy_108 : decode cX4_copy 108 = .ok (.getfield 24, 3) := by decide +kernel
theorem dX4_copy_111 : decode cX4_copy 111 = .ok (.iload_n 2, 1) := by decide +kernel
theorem dX4_copy_112 : decode cX4_copy 112 = .ok (.baload, 1) := by decide +kernel
theorem dX4_copy_113 : decode cX4_copy 113 = .ok (.bastore, 1) := by decide +kernel
theorem dX4_copy_114 : decode cX4_copy 114 = .ok (.iinc 2 1, 3) := by decide +kernel
theorem dX4_copy_117 : decode cX4_copy 117 = .ok (.goto (-20), 3) := by decide +kernel
theorem dX4_copy_120 : decode cX4_copy 120 = .ok (.return_, 1) := by decide +kernel
theorem dX4_appendAllele_0 : decode cX4_appendAllele 0 = .ok (.aload_n 0, 1) := by decide +kernel
theorem dX4_appendAllele_1 : decode cX4_appendAllele 1 = .ok (.getfield 38, 3) := by decide +kernel
theorem dX4_appendAllele_4 : decode cX4_appendAllele 4 = .ok (.iconst 4, 1) := by decide +kernel
theorem dX4_appendAllele_5 : decode cX4_appendAllele 5 = .ok (.if_icmp .ge 43, 3) := by decide +kernel
theorem dX4_appendAllele_8 : decode cX4_appendAllele 8 = .ok (.aload_n 0, 1) := by decide +kernel
theorem dX4_appendAllele_9 : decode cX4_appendAllele 9 = .ok (.getfield 9, 3) := by decide +kernel
theorem dX4_appendAllele_12 : decode cX4_appendAllele 12 = .ok (.aload_n 0, 1) := by decide +kernel
theorem dX4_appendAllele_13 : decode cX4_appendAllele 13 = .ok (.getfield 38, 3) := by decide +kernel
theorem dX4_appendAllele_16 : decode cX4_appendAllele 16 = .ok (.iload_n 1, 1) := by decide +kernel
theorem dX4_appendAllele_17 : decode cX4_appendAllele 17 = .ok (.iastore, 1) := by decide +kernel
theorem dX4_appendAllele_18 : decode cX4_appendAllele 18 = .ok (.aload_n 0, 1) := by decide +kernel
theorem dX4_appendAllele_19 : decode cX4_appendAllele 19 = .ok (.getfield 15, 3) := by decide +kernel
theorem dX4_appendAllele_22 : decode cX4_appendAllele 22 = .ok (.aload_n 0, 1) := by decide +kernel
theorem dX4_appendAllele_23 : decode cX4_appendAllele 23 = .ok (.getfield 38, 3) := by decide +kernel
theorem dX4_appendAllele_26 : decode cX4_appendAllele 26 = .ok (.iload_n 2, 1) := by decide +kernel
theorem dX4_appendAllele_27 : decode cX4_appendAllele 27 = .ok (.iastore, 1) := by decide +kernel
theorem dX4_appendAllele_28 : decode cX4_appendAllele 28 = .ok (.aload_n 0, 1) := by decide +kernel
theorem dX4_appendAllele_29 : decode cX4_appendAllele 29 = .ok (.getfield 18, 3) := by decide +kernel
theorem dX4_appendAllele_32 : decode cX4_appendAllele 32 = .ok (.aload_n 0, 1) := by decide +kernel
theorem dX4_appendAllele_33 : decode cX4_appendAllele 33 = .ok (.getfield 38, 3) := by decide +kernel
theorem dX4_appendAllele_36 : decode cX4_appendAllele 36 = .ok (.iconst 0, 1) := by decide +kernel
theorem dX4_appendAllele_37 : decode cX4_appendAllele 37 = .ok (.iastore, 1) := by decide +kernel
theorem dX4_appendAllele_38 : decode cX4_appendAllele 38 = .ok (.aload_n 0, 1) := by decide +kernel
theorem dX4_appendAllele_39 : decode cX4_appendAllele 39 = .ok (.dup, 1) := by decide +kernel
theorem dX4_appendAllele_40 : decode cX4_appendAllele 40 = .ok (.getfield 38, 3) := by decide +kernel
theorem dX4_appendAllele_43 : decode cX4_appendAllele 43 = .ok (.iconst 1, 1) := by decide +kernel
theorem dX4_appendAllele_44 : decode cX4_appendAllele 44 = .ok (.iadd, 1) := by decide +kernel
theorem dX4_appendAllele_45 : decode cX4_appendAllele 45 = .ok (.putfield 38, 3) := by decide +kernel
theorem dX4_appendAllele_48 : decode cX4_appendAllele 48 = .ok (.return_, 1) := by decide +kernel
theorem dX4_find_0 : decode cX4_find 0 = .ok (.iconst 0, 1) := by decide +kernel
theorem dX4_find_1 : decode cX4_find 1 = .ok (.istore_n 3, 1) := by decide +kernel
theorem dX4_find_2 : decode cX4_find 2 = .ok (.iload_n 3, 1) := by decide +kernel
theorem dX4_find_3 : decode cX4_find 3 = .ok (.aload_n 0, 1) := by decide +kernel
theorem dX4_find_4 : decode cX4_find 4 = .ok (.getfield 38, 3) := by decide +kernel
theorem dX4_find_7 : decode cX4_find 7 = .ok (.if_icmp .ge 31, 3) := by decide +kernel
theorem dX4_find_10 : decode cX4_find 10 = .ok (.aload_n 0, 1) := by decide +kernel
theorem dX4_find_11 : decode cX4_find 11 = .ok (.getfield 9, 3) := by decide +kernel
theorem dX4_find_14 : decode cX4_find 14 = .ok (.iload_n 3, 1) := by decide +kernel
theorem dX4_find_15 : decode cX4_find 15 = .ok (.iaload, 1) := by decide +kernel
theorem dX4_find_16 : decode cX4_find 16 = .ok (.iload_n 1, 1) := by decide +kernel
theorem dX4_find_17 : decode cX4_find 17 = .ok (.if_icmp .ne 15, 3) := by decide +kernel
theorem dX4_find_20 : decode cX4_find 20 = .ok (.aload_n 0, 1) := by decide +kernel
theorem dX4_find_21 : decode cX4_find 21 = .ok (.getfield 15, 3) := by decide +kernel
theorem dX4_find_24 : decode cX4_find 24 = .ok (.iload_n 3, 1) := by decide +kernel
theorem dX4_find_25 : decode cX4_find 25 = .ok (.iaload, 1) := by decide +kernel
theorem dX4_find_26 : decode cX4_find 26 = .ok (.iload_n 2, 1) := by decide +kernel
theorem dX4_find_27 : decode cX4_find 27 = .ok (.if_icmp .ne 5, 3) := by decide +kernel
theorem dX4_find_30 : decode cX4_find 30 = .ok (.iload_n 3, 1) := by decide +kernel
theorem dX4_find_31 : decode cX4_find 31 = .ok (.ireturn, 1) := by decide +kernel
theorem dX4_find_32 : decode cX4_find 32 = .ok (.iinc 3 1, 3) := by decide +kernel
theorem dX4_find_35 : decode cX4_find 35 = .ok (.goto (-33), 3) := by decide +kernel
theorem dX4_find_38 : decode cX4_find 38 = .ok (.iconst (-1), 1) := by decide +kernel
theorem dX4_find_39 : decode cX4_find 39 = .ok (.ireturn, 1) := by decide +kernel
theorem dX4_hasAllele_0 : decode cX4_hasAllele 0 = .ok (.iload_n 1, 1) := by decide +kernel
theorem dX4_hasAllele_1 : decode cX4_hasAllele 1 = .ok (.ifCond .lt 15, 3) := by decide +kernel
theorem dX4_hasAllele_4 : decode cX4_hasAllele 4 = .ok (.iload_n 1, 1) := by decide +kernel
theorem dX4_hasAllele_5 : decode cX4_hasAllele 5 = .ok (.aload_n 0, 1) := by decide +kernel
theorem dX4_hasAllele_6 : decode cX4_hasAllele 6 = .ok (.getfield 38, 3) := by decide +kernel
theorem dX4_hasAllele_9 : decode cX4_hasAllele 9 = .ok (.if_icmp .ge 7, 3) := by decide +kernel
theorem dX4_hasAllele_12 : decode cX4_hasAllele 12 = .ok (.iconst 1, 1) := by decide +kernel
theorem dX4_hasAllele_13 : decode cX4_hasAllele 13 = .ok (.goto 4, 3) := by decide +kernel
theorem dX4_hasAllele_16 : decode cX4_hasAllele 16 = .ok (.iconst 0, 1) := by decide +kernel
theorem dX4_hasAllele_17 : decode cX4_hasAllele 17 = .ok (.ireturn, 1) := by decide +kernel
theorem dX4_allowsInGenotype_0 : decode cX4_allowsInGenotype 0 = .ok (.iload_n 1, 1) := by decide +kernel
theorem dX4_allowsInGenotype_1 : decode cX4_allowsInGenotype 1 = .ok (.iconst (-1), 1) := by decide +kernel
theorem dX4_allowsInGenotype_2 : decode cX4_allowsInGenotype 2 = .ok (.if_icmp .eq 11, 3) := by decide +kernel
theorem dX4_allowsInGenotype_5 : decode cX4_allowsInGenotype 5 = .ok (.aload_n 0, 1) := by decide +kernel
theorem dX4_allowsInGenotype_6 : decode cX4_allowsInGenotype 6 = .ok (.iload_n 1, 1) := by decide +kernel
theorem dX4_allowsInGenotype_7 : decode cX4_allowsInGenotype 7 = .ok (.invokevirtual 51, 3) := by decide +kernel
theorem dX4_allowsInGenotype_10 : decode cX4_allowsInGenotype 10 = .ok (.ifCond .eq 7, 3) := by decide +kernel
theorem dX4_allowsInGenotype_13 : decode cX4_allowsInGenotype 13 = .ok (.iconst 1, 1) := by decide +kernel
theorem dX4_allowsInGenotype_14 : decode cX4_allowsInGenotype 14 = .ok (.goto 4, 3) := by decide +kernel
theorem dX4_allowsInGenotype_17 : decode cX4_allowsInGenotype 17 = .ok (.iconst 0, 1) := by decide +kernel
theorem dX4_allowsInGenotype_18 : decode cX4_allowsInGenotype 18 = .ok (.ireturn, 1) := by decide +kernel
theorem dX4_pairs_0 : decode cX4_pairs 0 = .ok (.aload_n 0, 1) := by decide +kernel
theorem dX4_pairs_1 : decode cX4_pairs 1 = .ok (.getfield 38, 3) := by decide +kernel
theorem dX4_pairs_4 : decode cX4_pairs 4 = .ok (.aload_n 0, 1) := by decide +kernel
theorem dX4_pairs_5 : decode cX4_pairs 5 = .ok (.getfield 38, 3) := by decide +kernel
theorem dX4_pairs_8 : decode cX4_pairs 8 = .ok (.iconst 1, 1) := by decide +kernel
theorem dX4_pairs_9 : decode cX4_pairs 9 = .ok (.iadd, 1) := by decide +kernel
theorem dX4_pairs_10 : decode cX4_pairs 10 = .ok (.imul, 1) := by decide +kernel
theorem dX4_pairs_11 : decode cX4_pairs 11 = .ok (.iconst 2, 1) := by decide +kernel
theorem dX4_pairs_12 : decode cX4_pairs 12 = .ok (.idiv, 1) := by decide +kernel
theorem dX4_pairs_13 : decode cX4_pairs 13 = .ok (.ireturn, 1) := by decide +kernel
theorem dX4_lastPlace_0 : decode cX4_lastPlace 0 = .ok (.aload_n 0, 1) := by decide +kernel
theorem dX4_lastPlace_1 : decode cX4_lastPlace 1 = .ok (.getfield 31, 3) := by decide +kernel
theorem dX4_lastPlace_4 : decode cX4_lastPlace 4 = .ok (.aload_n 0, 1) := by decide +kernel
theorem dX4_lastPlace_5 : decode cX4_lastPlace 5 = .ok (.getfield 15, 3) := by decide +kernel
theorem dX4_lastPlace_8 : decode cX4_lastPlace 8 = .ok (.iconst 0, 1) := by decide +kernel
theorem dX4_lastPlace_9 : decode cX4_lastPlace 9 = .ok (.iaload, 1) := by decide +kernel
theorem dX4_lastPlace_10 : decode cX4_lastPlace 10 = .ok (.iadd, 1) := by decide +kernel
theorem dX4_lastPlace_11 : decode cX4_lastPlace 11 = .ok (.iconst 1, 1) := by decide +kernel
theorem dX4_lastPlace_12 : decode cX4_lastPlace 12 = .ok (.isub, 1) := by decide +kernel
theorem dX4_lastPlace_13 : decode cX4_lastPlace 13 = .ok (.ireturn, 1) := by decide +kernel
theorem dX4_spansOneOf_0 : decode cX4_spansOneOf 0 = .ok (.aload_n 0, 1) := by decide +kernel
theorem dX4_spansOneOf_1 : decode cX4_spansOneOf 1 = .ok (.getfield 31, 3) := by decide +kernel
theorem dX4_spansOneOf_4 : decode cX4_spansOneOf 4 = .ok (.iload_n 2, 1) := by decide +kernel
theorem dX4_spansOneOf_5 : decode cX4_spansOneOf 5 = .ok (.if_icmp .gt 15, 3) := by decide +kernel
theorem dX4_spansOneOf_8 : decode cX4_spansOneOf 8 = .ok (.aload_n 0, 1) := by decide +kernel
theorem dX4_spansOneOf_9 : decode cX4_spansOneOf 9 = .ok (.invokevirtual 55, 3) := by decide +kernel
theorem dX4_spansOneOf_12 : decode cX4_spansOneOf 12 = .ok (.iload_n 1, 1) := by decide +kernel
theorem dX4_spansOneOf_13 : decode cX4_spansOneOf 13 = .ok (.if_icmp .lt 7, 3) := by decide +kernel
theorem dX4_spansOneOf_16 : decode cX4_spansOneOf 16 = .ok (.iconst 1, 1) := by decide +kernel
theorem dX4_spansOneOf_17 : decode cX4_spansOneOf 17 = .ok (.goto 4, 3) := by decide +kernel
theorem dX4_spansOneOf_20 : decode cX4_spansOneOf 20 = .ok (.iconst 0, 1) := by decide +kernel
theorem dX4_spansOneOf_21 : decode cX4_spansOneOf 21 = .ok (.ireturn, 1) := by decide +kernel
theorem dX4_bin_0 : decode cX4_bin 0 = .ok (.aload_n 0, 1) := by decide +kernel
theorem dX4_bin_1 : decode cX4_bin 1 = .ok (.invokevirtual 55, 3) := by decide +kernel
theorem dX4_bin_4 : decode cX4_bin 4 = .ok (.istore_n 1, 1) := by decide +kernel
theorem dX4_bin_5 : decode cX4_bin 5 = .ok (.aload_n 0, 1) := by decide +kernel
theorem dX4_bin_6 : decode cX4_bin 6 = .ok (.getfield 31, 3) := by decide +kernel
theorem dX4_bin_9 : decode cX4_bin 9 = .ok (.iconst 3, 1) := by decide +kernel
theorem dX4_bin_10 : decode cX4_bin 10 = .ok (.ishr, 1) := by decide +kernel
theorem dX4_bin_11 : decode cX4_bin 11 = .ok (.iload_n 1, 1) := by decide +kernel
theorem dX4_bin_12 : decode cX4_bin 12 = .ok (.iconst 3, 1) := by decide +kernel
theorem dX4_bin_13 : decode cX4_bin 13 = .ok (.ishr, 1) := by decide +kernel
theorem dX4_bin_14 : decode cX4_bin 14 = .ok (.if_icmp .ne 13, 3) := by decide +kernel
theorem dX4_bin_17 : decode cX4_bin 17 = .ok (.bipush 11, 2) := by decide +kernel
theorem dX4_bin_19 : decode cX4_bin 19 = .ok (.aload_n 0, 1) := by decide +kernel
theorem dX4_bin_20 : decode cX4_bin 20 = .ok (.getfield 31, 3) := by decide +kernel
theorem dX4_bin_23 : decode cX4_bin 23 = .ok (.iconst 3, 1) := by decide +kernel
theorem dX4_bin_24 : decode cX4_bin 24 = .ok (.ishr, 1) := by decide +kernel
theorem dX4_bin_25 : decode cX4_bin 25 = .ok (.iadd, 1) := by decide +kernel
theorem dX4_bin_26 : decode cX4_bin 26 = .ok (.ireturn, 1) := by decide +kernel
theorem dX4_bin_27 : decode cX4_bin 27 = .ok (.aload_n 0, 1) := by decide +kernel
theorem dX4_bin_28 : decode cX4_bin 28 = .ok (.getfield 31, 3) := by decide +kernel
theorem dX4_bin_31 : decode cX4_bin 31 = .ok (.iconst 5, 1) := by decide +kernel
theorem dX4_bin_32 : decode cX4_bin 32 = .ok (.ishr, 1) := by decide +kernel
theorem dX4_bin_33 : decode cX4_bin 33 = .ok (.iload_n 1, 1) := by decide +kernel
theorem dX4_bin_34 : decode cX4_bin 34 = .ok (.iconst 5, 1) := by decide +kernel
theorem dX4_bin_35 : decode cX4_bin 35 = .ok (.ishr, 1) := by decide +kernel
theorem dX4_bin_36 : decode cX4_bin 36 = .ok (.if_icmp .ne 12, 3) := by decide +kernel
theorem dX4_bin_39 : decode cX4_bin 39 = .ok (.iconst 3, 1) := by decide +kernel
theorem dX4_bin_40 : decode cX4_bin 40 = .ok (.aload_n 0, 1) := by decide +kernel
theorem dX4_bin_41 : decode cX4_bin 41 = .ok (.getfield 31, 3) := by decide +kernel
theorem dX4_bin_44 : decode cX4_bin 44 = .ok (.iconst 5, 1) := by decide +kernel
theorem dX4_bin_45 : decode cX4_bin 45 = .ok (.ishr, 1) := by decide +kernel
theorem dX4_bin_46 : decode cX4_bin 46 = .ok (.iadd, 1) := by decide +kernel
theorem dX4_bin_47 : decode cX4_bin 47 = .ok (.ireturn, 1) := by decide +kernel
theorem dX4_bin_48 : decode cX4_bin 48 = .ok (.aload_n 0, 1) := by decide +kernel
theorem dX4_bin_49 : decode cX4_bin 49 = .ok (.getfield 31, 3) := by decide +kernel
theorem dX4_bin_52 : decode cX4_bin 52 = .ok (.bipush 7, 2) := by decide +kernel
theorem dX4_bin_54 : decode cX4_bin 54 = .ok (.ishr, 1) := by decide +kernel
theorem dX4_bin_55 : decode cX4_bin 55 = .ok (.iload_n 1, 1) := by decide +kernel
theorem dX4_bin_56 : decode cX4_bin 56 = .ok (.bipush 7, 2) := by decide +kernel
theorem dX4_bin_58 : decode cX4_bin 58 = .ok (.ishr, 1) := by decide +kernel
theorem dX4_bin_59 : decode cX4_bin 59 = .ok (.if_icmp .ne 13, 3) := by decide +kernel
theorem dX4_bin_62 : decode cX4_bin 62 = .ok (.iconst 1, 1) := by decide +kernel
theorem dX4_bin_63 : decode cX4_bin 63 = .ok (.aload_n 0, 1) := by decide +kernel
theorem dX4_bin_64 : decode cX4_bin 64 = .ok (.getfield 31, 3) := by decide +kernel
theorem dX4_bin_67 : decode cX4_bin 67 = .ok (.bipush 7, 2) := by decide +kernel
theorem dX4_bin_69 : decode cX4_bin 69 = .ok (.ishr, 1) := by decide +kernel
theorem dX4_bin_70 : decode cX4_bin 70 = .ok (.iadd, 1) := by decide +kernel
theorem dX4_bin_71 : decode cX4_bin 71 = .ok (.ireturn, 1) := by decide +kernel
theorem dX4_bin_72 : decode cX4_bin 72 = .ok (.iconst 0, 1) := by decide +kernel
theorem dX4_bin_73 : decode cX4_bin 73 = .ok (.ireturn, 1) := by decide +kernel
theorem dX4_trim_0 : decode cX4_trim 0 = .ok (.iconst 1, 1) := by decide +kernel
theorem dX4_trim_1 : decode cX4_trim 1 = .ok (.istore_n 2, 1) := by decide +kernel
theorem dX4_trim_2 : decode cX4_trim 2 = .ok (.iconst 0, 1) := by decide +kernel
theorem dX4_trim_3 : decode cX4_trim 3 = .ok (.istore_n 3, 1) := by decide +kernel
theorem dX4_trim_4 : decode cX4_trim 4 = .ok (.iload_n 2, 1) := by decide +kernel
theorem dX4_trim_5 : decode cX4_trim 5 = .ok (.ifCond .eq 37, 3) := by decide +kernel
theorem dX4_trim_8 : decode cX4_trim 8 = .ok (.iload_n 3, 1) := by decide +kernel
theorem dX4_trim_9 : decode cX4_trim 9 = .ok (.sipush 1000, 3) := by decide +kernel
theorem dX4_trim_12 : decode cX4_trim 12 = .ok (.if_icmp .ge 30, 3) := by decide +kernel
theorem dX4_trim_15 : decode cX4_trim 15 = .ok (.aload_n 0, 1) := by decide +kernel
theorem dX4_trim_16 : decode cX4_trim 16 = .ok (.aload_n 1, 1) := by decide +kernel
theorem dX4_trim_17 : decode cX4_trim 17 = .ok (.invokevirtual 59, 3) := by decide +kernel
theorem dX4_trim_20 : decode cX4_trim 20 = .ok (.ifCond .ne 10, 3) := by decide +kernel
theorem dX4_trim_23 : decode cX4_trim 23 = .ok (.aload_n 0, 1) := by decide +kernel
theorem dX4_trim_24 : decode cX4_trim 24 = .ok (.invokevirtual 63, 3) := by decide +kernel
theorem dX4_trim_27 : decode cX4_trim 27 = .ok (.ifCond .eq 7, 3) := by decide +kernel
theorem dX4_trim_30 : decode cX4_trim 30 = .ok (.iconst 1, 1) := by decide +kernel
theorem dX4_trim_31 : decode cX4_trim 31 = .ok (.goto 4, 3) := by decide +kernel
theorem dX4_trim_34 : decode cX4_trim 34 = .ok (.iconst 0, 1) := by decide +kernel
theorem dX4_trim_35 : decode cX4_trim 35 = .ok (.istore_n 2, 1) := by decide +kernel
theorem dX4_trim_36 : decode cX4_trim 36 = .ok (.iinc 3 1, 3) := by decide +kernel
theorem dX4_trim_39 : decode cX4_trim 39 = .ok (.goto (-35), 3) := by decide +kernel
theorem dX4_trim_42 : decode cX4_trim 42 = .ok (.return_, 1) := by decide +kernel
theorem dX4_trimEnd_0 : decode cX4_trimEnd 0 = .ok (.aload_n 0, 1) := by decide +kernel
theorem dX4_trimEnd_1 : decode cX4_trimEnd 1 = .ok (.invokevirtual 67, 3) := by decide +kernel
theorem dX4_trimEnd_4 : decode cX4_trimEnd 4 = .ok (.ifCond .eq 19, 3) := by decide +kernel
theorem dX4_trimEnd_7 : decode cX4_trimEnd 7 = .ok (.aload_n 0, 1) := by decide +kernel
theorem dX4_trimEnd_8 : decode cX4_trimEnd 8 = .ok (.getfield 31, 3) := by decide +kernel
theorem dX4_trimEnd_11 : decode cX4_trimEnd 11 = .ok (.iconst 1, 1) := by decide +kernel
theorem dX4_trimEnd_12 : decode cX4_trimEnd 12 = .ok (.if_icmp .ne 13, 3) := by decide +kernel
theorem dX4_trimEnd_15 : decode cX4_trimEnd 15 = .ok (.aload_n 0, 1) := by decide +kernel
theorem dX4_trimEnd_16 : decode cX4_trimEnd 16 = .ok (.invokevirtual 70, 3) := by decide +kernel
theorem dX4_trimEnd_19 : decode cX4_trimEnd 19 = .ok (.iconst 2, 1) := by decide +kernel
theorem dX4_trimEnd_20 : decode cX4_trimEnd 20 = .ok (.if_icmp .ge 5, 3) := by decide +kernel
theorem dX4_trimEnd_23 : decode cX4_trimEnd 23 = .ok (.iconst 0, 1) := by decide +kernel
theorem dX4_trimEnd_24 : decode cX4_trimEnd 24 = .ok (.ireturn, 1) := by decide +kernel
theorem dX4_trimEnd_25 : decode cX4_trimEnd 25 = .ok (.iconst 0, 1) := by decide +kernel
theorem dX4_trimEnd_26 : decode cX4_trimEnd 26 = .ok (.istore_n 2, 1) := by decide +kernel
theorem dX4_trimEnd_27 : decode cX4_trimEnd 27 = .ok (.iload_n 2, 1) := by decide +kernel
theorem dX4_trimEnd_28 : decode cX4_trimEnd 28 = .ok (.aload_n 0, 1) := by decide +kernel
theorem dX4_trimEnd_29 : decode cX4_trimEnd 29 = .ok (.getfield 38, 3) := by decide +kernel
theorem dX4_trimEnd_32 : decode cX4_trimEnd 32 = .ok (.if_icmp .ge 33, 3) := by decide +kernel
theorem dX4_trimEnd_35 : decode cX4_trimEnd 35 = .ok (.aload_n 0, 1) := by decide +kernel
theorem dX4_trimEnd_36 : decode cX4_trimEnd 36 = .ok (.getfield 9, 3) := by decide +kernel
theorem dX4_trimEnd_39 : decode cX4_trimEnd 39 = .ok (.iload_n 2, 1) := by decide +kernel
theorem dX4_trimEnd_40 : decode cX4_trimEnd 40 = .ok (.aload_n 0, 1) := by decide +kernel
theorem dX4_trimEnd_41 : decode cX4_trimEnd 41 = .ok (.getfield 9, 3) := by decide +kernel
theorem dX4_trimEnd_44 : decode cX4_trimEnd 44 = .ok (.iload_n 2, 1) := by decide +kernel
theorem dX4_trimEnd_45 : decode cX4_trimEnd 45 = .ok (.iaload, 1) := by decide +kernel
theorem dX4_trimEnd_46 : decode cX4_trimEnd 46 = .ok (.iconst 2, 1) := by decide +kernel
theorem dX4_trimEnd_47 : decode cX4_trimEnd 47 = .ok (.ishr, 1) := by decide +kernel
theorem dX4_trimEnd_48 : decode cX4_trimEnd 48 = .ok (.iastore, 1) := by decide +kernel
theorem dX4_trimEnd_49 : decode cX4_trimEnd 49 = .ok (.aload_n 0, 1) := by decide +kernel
theorem dX4_trimEnd_50 : decode cX4_trimEnd 50 = .ok (.getfield 15, 3) := by decide +kernel
theorem dX4_trimEnd_53 : decode cX4_trimEnd 53 = .ok (.iload_n 2, 1) := by decide +kernel
theorem dX4_trimEnd_54 : decode cX4_trimEnd 54 = .ok (.dup2, 1) := by decide +kernel
theorem dX4_trimEnd_55 : decode cX4_trimEnd 55 = .ok (.iaload, 1) := by decide +kernel
theorem dX4_trimEnd_56 : decode cX4_trimEnd 56 = .ok (.iconst 1, 1) := by decide +kernel
theorem dX4_trimEnd_57 : decode cX4_trimEnd 57 = .ok (.isub, 1) := by decide +kernel
theorem dX4_trimEnd_58 : decode cX4_trimEnd 58 = .ok (.iastore, 1) := by decide +kernel
theorem dX4_trimEnd_59 : decode cX4_trimEnd 59 = .ok (.iinc 2 1, 3) := by decide +kernel
theorem dX4_trimEnd_62 : decode cX4_trimEnd 62 = .ok (.goto (-35), 3) := by decide +kernel
theorem dX4_trimEnd_65 : decode cX4_trimEnd 65 = .ok (.aload_n 0, 1) := by decide +kernel
theorem dX4_trimEnd_66 : decode cX4_trimEnd 66 = .ok (.invokevirtual 70, 3) := by decide +kernel
theorem dX4_trimEnd_69 : decode cX4_trimEnd 69 = .ok (.ifCond .ne 26, 3) := by decide +kernel
theorem dX4_trimEnd_72 : decode cX4_trimEnd 72 = .ok (.aload_n 0, 1) := by decide +kernel
theorem dX4_trimEnd_73 : decode cX4_trimEnd 73 = .ok (.dup, 1) := by decide +kernel
theorem dX4_trimEnd_74 : decode cX4_trimEnd 74 = .ok (.getfield 31, 3) := by decide +kernel
theorem dX4_trimEnd_77 : decode cX4_trimEnd 77 = .ok (.iconst 1, 1) := by decide +kernel
theorem dX4_trimEnd_78 : decode cX4_trimEnd 78 = .ok (.isub, 1) := by decide +kernel
theorem dX4_trimEnd_79 : decode cX4_trimEnd 79 = .ok (.putfield 31, 3) := by decide +kernel
theorem dX4_trimEnd_82 : decode cX4_trimEnd 82 = .ok (.aload_n 0, 1) := by decide +kernel
theorem dX4_trimEnd_83 : decode cX4_trimEnd 83 = .ok (.aload_n 1, 1) := by decide +kernel
theorem dX4_trimEnd_84 : decode cX4_trimEnd 84 = .ok (.aload_n 0, 1) := by decide +kernel
theorem dX4_trimEnd_85 : decode cX4_trimEnd 85 = .ok (.getfield 31, 3) := by decide +kernel
theorem dX4_trimEnd_88 : decode cX4_trimEnd 88 = .ok (.iconst 1, 1) := by decide +kernel
theorem dX4_trimEnd_89 : decode cX4_trimEnd 89 = .ok (.invokevirtual 73, 3) := by decide +kernel
theorem dX4_trimEnd_92 : decode cX4_trimEnd 92 = .ok (.invokevirtual 78, 3) := by decide +kernel
theorem dX4_trimEnd_95 : decode cX4_trimEnd 95 = .ok (.iconst 1, 1) := by decide +kernel
theorem dX4_trimEnd_96 : decode cX4_trimEnd 96 = .ok (.ireturn, 1) := by decide +kernel
theorem dX4_trimFront_0 : decode cX4_trimFront 0 = .ok (.aload_n 0, 1) := by decide +kernel
theorem dX4_trimFront_1 : decode cX4_trimFront 1 = .ok (.invokevirtual 70, 3) := by decide +kernel
theorem dX4_trimFront_4 : decode cX4_trimFront 4 = .ok (.iconst 2, 1) := by decide +kernel
theorem dX4_trimFront_5 : decode cX4_trimFront 5 = .ok (.if_icmp .lt 10, 3) := by decide +kernel
theorem dX4_trimFront_8 : decode cX4_trimFront 8 = .ok (.aload_n 0, 1) := by decide +kernel
theorem dX4_trimFront_9 : decode cX4_trimFront 9 = .ok (.invokevirtual 81, 3) := by decide +kernel
theorem dX4_trimFront_12 : decode cX4_trimFront 12 = .ok (.ifCond .ne 5, 3) := by decide +kernel
theorem dX4_trimFront_15 : decode cX4_trimFront 15 = .ok (.iconst 0, 1) := by decide +kernel
theorem dX4_trimFront_16 : decode cX4_trimFront 16 = .ok (.ireturn, 1) := by decide +kernel
theorem dX4_trimFront_17 : decode cX4_trimFront 17 = .ok (.iconst 0, 1) := by decide +kernel
theorem dX4_trimFront_18 : decode cX4_trimFront 18 = .ok (.istore_n 1, 1) := by decide +kernel
theorem dX4_trimFront_19 : decode cX4_trimFront 19 = .ok (.iload_n 1, 1) := by decide +kernel
theorem dX4_trimFront_20 : decode cX4_trimFront 20 = .ok (.aload_n 0, 1) := by decide +kernel
theorem dX4_trimFront_21 : decode cX4_trimFront 21 = .ok (.getfield 38, 3) := by decide +kernel
theorem dX4_trimFront_24 : decode cX4_trimFront 24 = .ok (.if_icmp .ge 41, 3) := by decide +kernel
theorem dX4_trimFront_27 : decode cX4_trimFront 27 = .ok (.aload_n 0, 1) := by decide +kernel
theorem dX4_trimFront_28 : decode cX4_trimFront 28 = .ok (.getfield 15, 3) := by decide +kernel
theorem dX4_trimFront_31 : decode cX4_trimFront 31 = .ok (.iload_n 1, 1) := by decide +kernel
theorem dX4_trimFront_32 : decode cX4_trimFront 32 = .ok (.dup2, 1) := by decide +kernel
theorem dX4_trimFront_33 : decode cX4_trimFront 33 = .ok (.iaload, 1) := by decide +kernel
theorem dX4_trimFront_34 : decode cX4_trimFront 34 = .ok (.iconst 1, 1) := by decide +kernel
theorem dX4_trimFront_35 : decode cX4_trimFront 35 = .ok (.isub, 1) := by decide +kernel
theorem dX4_trimFront_36 : decode cX4_trimFront 36 = .ok (.iastore, 1) := by decide +kernel
theorem dX4_trimFront_37 : decode cX4_trimFront 37 = .ok (.aload_n 0, 1) := by decide +kernel
theorem dX4_trimFront_38 : decode cX4_trimFront 38 = .ok (.getfield 9, 3) := by decide +kernel
theorem dX4_trimFront_41 : decode cX4_trimFront 41 = .ok (.iload_n 1, 1) := by decide +kernel
theorem dX4_trimFront_42 : decode cX4_trimFront 42 = .ok (.aload_n 0, 1) := by decide +kernel
theorem dX4_trimFront_43 : decode cX4_trimFront 43 = .ok (.getfield 9, 3) := by decide +kernel
theorem dX4_trimFront_46 : decode cX4_trimFront 46 = .ok (.iload_n 1, 1) := by decide +kernel
theorem dX4_trimFront_47 : decode cX4_trimFront 47 = .ok (.iaload, 1) := by decide +kernel
theorem dX4_trimFront_48 : decode cX4_trimFront 48 = .ok (.aload_n 0, 1) := by decide +kernel
theorem dX4_trimFront_49 : decode cX4_trimFront 49 = .ok (.getfield 15, 3) := by decide +kernel
theorem dX4_trimFront_52 : decode cX4_trimFront 52 = .ok (.iload_n 1, 1) := by decide +kernel
theorem dX4_trimFront_53 : decode cX4_trimFront 53 = .ok (.iaload, 1) := by decide +kernel
theorem dX4_trimFront_54 : decode cX4_trimFront 54 = .ok (.invokestatic 84, 3) := by decide +kernel
theorem dX4_trimFront_57 : decode cX4_trimFront 57 = .ok (.iand, 1) := by decide +kernel
theorem dX4_trimFront_58 : decode cX4_trimFront 58 = .ok (.iastore, 1) := by decide +kernel
theorem dX4_trimFront_59 : decode cX4_trimFront 59 = .ok (.iinc 1 1, 3) := by decide +kernel
theorem dX4_trimFront_62 : decode cX4_trimFront 62 = .ok (.goto (-43), 3) := by decide +kernel
theorem dX4_trimFront_65 : decode cX4_trimFront 65 = .ok (.aload_n 0, 1) := by decide +kernel
theorem dX4_trimFront_66 : decode cX4_trimFront 66 = .ok (.dup, 1) := by decide +kernel
theorem dX4_trimFront_67 : decode cX4_trimFront 67 = .ok (.getfield 31, 3) := by decide +kernel
theorem dX4_trimFront_70 : decode cX4_trimFront 70 = .ok (.iconst 1, 1) := by decide +kernel
theorem dX4_trimFront_71 : decode cX4_trimFront 71 = .ok (.iadd, 1) := by decide +kernel
theorem dX4_trimFront_72 : decode cX4_trimFront 72 = .ok (.putfield 31, 3) := by decide +kernel
theorem dX4_trimFront_75 : decode cX4_trimFront 75 = .ok (.iconst 1, 1) := by decide +kernel
theorem dX4_trimFront_76 : decode cX4_trimFront 76 = .ok (.ireturn, 1) := by decide +kernel
theorem dX4_putInFront_0 : decode cX4_putInFront 0 = .ok (.iconst 0, 1) := by decide +kernel
theorem dX4_putInFront_1 : decode cX4_putInFront 1 = .ok (.istore_n 2, 1) := by decide +kernel
theorem dX4_putInFront_2 : decode cX4_putInFront 2 = .ok (.iload_n 2, 1) := by decide +kernel
theorem dX4_putInFront_3 : decode cX4_putInFront 3 = .ok (.aload_n 0, 1) := by decide +kernel
theorem dX4_putInFront_4 : decode cX4_putInFront 4 = .ok (.getfield 38, 3) := by decide +kernel
theorem dX4_putInFront_7 : decode cX4_putInFront 7 = .ok (.if_icmp .ge 42, 3) := by decide +kernel
theorem dX4_putInFront_10 : decode cX4_putInFront 10 = .ok (.aload_n 0, 1) := by decide +kernel
theorem dX4_putInFront_11 : decode cX4_putInFront 11 = .ok (.getfield 9, 3) := by decide +kernel
theorem dX4_putInFront_14 : decode cX4_putInFront 14 = .ok (.iload_n 2, 1) := by decide +kernel
theorem dX4_putInFront_15 : decode cX4_putInFront 15 = .ok (.aload_n 0, 1) := by decide +kernel
theorem dX4_putInFront_16 : decode cX4_putInFront 16 = .ok (.getfield 9, 3) := by decide +kernel
theorem dX4_putInFront_19 : decode cX4_putInFront 19 = .ok (.iload_n 2, 1) := by decide +kernel
theorem dX4_putInFront_20 : decode cX4_putInFront 20 = .ok (.iaload, 1) := by decide +kernel
theorem dX4_putInFront_21 : decode cX4_putInFront 21 = .ok (.iload_n 1, 1) := by decide +kernel
theorem dX4_putInFront_22 : decode cX4_putInFront 22 = .ok (.iconst 2, 1) := by decide +kernel
theorem dX4_putInFront_23 : decode cX4_putInFront 23 = .ok (.aload_n 0, 1) := by decide +kernel
theorem dX4_putInFront_24 : decode cX4_putInFront 24 = .ok (.getfield 15, 3) := by decide +kernel
theorem dX4_putInFront_27 : decode cX4_putInFront 27 = .ok (.iload_n 2, 1) := by decide +kernel
theorem dX4_putInFront_28 : decode cX4_putInFront 28 = .ok (.iaload, 1) := by decide +kernel
theorem dX4_putInFront_29 : decode cX4_putInFront 29 = .ok (.imul, 1) := by decide +kernel
theorem dX4_putInFront_30 : decode cX4_putInFront 30 = .ok (.ishl, 1) := by decide +kernel
theorem dX4_putInFront_31 : decode cX4_putInFront 31 = .ok (.ior, 1) := by decide +kernel
theorem dX4_putInFront_32 : decode cX4_putInFront 32 = .ok (.iastore, 1) := by decide +kernel
theorem dX4_putInFront_33 : decode cX4_putInFront 33 = .ok (.aload_n 0, 1) := by decide +kernel
theorem dX4_putInFront_34 : decode cX4_putInFront 34 = .ok (.getfield 15, 3) := by decide +kernel
theorem dX4_putInFront_37 : decode cX4_putInFront 37 = .ok (.iload_n 2, 1) := by decide +kernel
theorem dX4_putInFront_38 : decode cX4_putInFront 38 = .ok (.dup2, 1) := by decide +kernel
theorem dX4_putInFront_39 : decode cX4_putInFront 39 = .ok (.iaload, 1) := by decide +kernel
theorem dX4_putInFront_40 : decode cX4_putInFront 40 = .ok (.iconst 1, 1) := by decide +kernel
theorem dX4_putInFront_41 : decode cX4_putInFront 41 = .ok (.iadd, 1) := by decide +kernel
theorem dX4_putInFront_42 : decode cX4_putInFront 42 = .ok (.iastore, 1) := by decide +kernel
theorem dX4_putInFront_43 : decode cX4_putInFront 43 = .ok (.iinc 2 1, 3) := by decide +kernel
theorem dX4_putInFront_46 : decode cX4_putInFront 46 = .ok (.goto (-44), 3) := by decide +kernel
theorem dX4_putInFront_49 : decode cX4_putInFront 49 = .ok (.return_, 1) := by decide +kernel
theorem dX4_shortest_0 : decode cX4_shortest 0 = .ok (.aload_n 0, 1) := by decide +kernel
theorem dX4_shortest_1 : decode cX4_shortest 1 = .ok (.getfield 15, 3) := by decide +kernel
theorem dX4_shortest_4 : decode cX4_shortest 4 = .ok (.iconst 0, 1) := by decide +kernel
theorem dX4_shortest_5 : decode cX4_shortest 5 = .ok (.iaload, 1) := by decide +kernel
theorem dX4_shortest_6 : decode cX4_shortest 6 = .ok (.istore_n 1, 1) := by decide +kernel
theorem dX4_shortest_7 : decode cX4_shortest 7 = .ok (.iconst 1, 1) := by decide +kernel
theorem dX4_shortest_8 : decode cX4_shortest 8 = .ok (.istore_n 2, 1) := by decide +kernel
theorem dX4_shortest_9 : decode cX4_shortest 9 = .ok (.iload_n 2, 1) := by decide +kernel
theorem dX4_shortest_10 : decode cX4_shortest 10 = .ok (.aload_n 0, 1) := by decide +kernel
theorem dX4_shortest_11 : decode cX4_shortest 11 = .ok (.getfield 38, 3) := by decide +kernel
theorem dX4_shortest_14 : decode cX4_shortest 14 = .ok (.if_icmp .ge 20, 3) := by decide +kernel
theorem dX4_shortest_17 : decode cX4_shortest 17 = .ok (.iload_n 1, 1) := by decide +kernel
theorem dX4_shortest_18 : decode cX4_shortest 18 = .ok (.aload_n 0, 1) := by decide +kernel
theorem dX4_shortest_19 : decode cX4_shortest 19 = .ok (.getfield 15, 3) := by decide +kernel
theorem dX4_shortest_22 : decode cX4_shortest 22 = .ok (.iload_n 2, 1) := by decide +kernel
theorem dX4_shortest_23 : decode cX4_shortest 23 = .ok (.iaload, 1) := by decide +kernel
theorem dX4_shortest_24 : decode cX4_shortest 24 = .ok (.invokestatic 88, 3) := by decide +kernel
theorem dX4_shortest_27 : decode cX4_shortest 27 = .ok (.istore_n 1, 1) := by decide +kernel
theorem dX4_shortest_28 : decode cX4_shortest 28 = .ok (.iinc 2 1, 3) := by decide +kernel
theorem dX4_shortest_31 : decode cX4_shortest 31 = .ok (.goto (-22), 3) := by decide +kernel
theorem dX4_shortest_34 : decode cX4_shortest 34 = .ok (.iload_n 1, 1) := by decide +kernel
theorem dX4_shortest_35 : decode cX4_shortest 35 = .ok (.ireturn, 1) := by decide +kernel
theorem dX4_isLastBaseShared_0 : decode cX4_isLastBaseShared 0 = .ok (.iconst 1, 1) := by decide +kernel
theorem dX4_isLastBaseShared_1 : decode cX4_isLastBaseShared 1 = .ok (.istore_n 1, 1) := by decide +kernel
theorem dX4_isLastBaseShared_2 : decode cX4_isLastBaseShared 2 = .ok (.iload_n 1, 1) := by decide +kernel
theorem dX4_isLastBaseShared_3 : decode cX4_isLastBaseShared 3 = .ok (.aload_n 0, 1) := by decide +kernel
theorem dX4_isLastBaseShared_4 : decode cX4_isLastBaseShared 4 = .ok (.getfield 38, 3) := by decide +kernel
theorem dX4_isLastBaseShared_7 : decode cX4_isLastBaseShared 7 = .ok (.if_icmp .ge 30, 3) := by decide +kernel
theorem dX4_isLastBaseShared_10 : decode cX4_isLastBaseShared 10 = .ok (.aload_n 0, 1) := by decide +kernel
theorem dX4_isLastBaseShared_11 : decode cX4_isLastBaseShared 11 = .ok (.getfield 9, 3) := by decide +kernel
theorem dX4_isLastBaseShared_14 : decode cX4_isLastBaseShared 14 = .ok (.iload_n 1, 1) := by decide +kernel
theorem dX4_isLastBaseShared_15 : decode cX4_isLastBaseShared 15 = .ok (.iaload, 1) := by decide +kernel
theorem dX4_isLastBaseShared_16 : decode cX4_isLastBaseShared 16 = .ok (.iconst 3, 1) := by decide +kernel
theorem dX4_isLastBaseShared_17 : decode cX4_isLastBaseShared 17 = .ok (.iand, 1) := by decide +kernel
theorem dX4_isLastBaseShared_18 : decode cX4_isLastBaseShared 18 = .ok (.aload_n 0, 1) := by decide +kernel
theorem dX4_isLastBaseShared_19 : decode cX4_isLastBaseShared 19 = .ok (.getfield 9, 3) := by decide +kernel
theorem dX4_isLastBaseShared_22 : decode cX4_isLastBaseShared 22 = .ok (.iconst 0, 1) := by decide +kernel
theorem dX4_isLastBaseShared_23 : decode cX4_isLastBaseShared 23 = .ok (.iaload, 1) := by decide +kernel
theorem dX4_isLastBaseShared_24 : decode cX4_isLastBaseShared 24 = .ok (.iconst 3, 1) := by decide +kernel
theorem dX4_isLastBaseShared_25 : decode cX4_isLastBaseShared 25 = .ok (.iand, 1) := by decide +kernel
theorem dX4_isLastBaseShared_26 : decode cX4_isLastBaseShared 26 = .ok (.if_icmp .eq 5, 3) := by decide +kernel
theorem dX4_isLastBaseShared_29 : decode cX4_isLastBaseShared 29 = .ok (.iconst 0, 1) := by decide +kernel
theorem dX4_isLastBaseShared_30 : decode cX4_isLastBaseShared 30 = .ok (.ireturn, 1) := by decide +kernel
theorem dX4_isLastBaseShared_31 : decode cX4_isLastBaseShared 31 = .ok (.iinc 1 1, 3) := by decide +kernel
theorem dX4_isLastBaseShared_34 : decode cX4_isLastBaseShared 34 = .ok (.goto (-32), 3) := by decide +kernel
theorem dX4_isLastBaseShared_37 : decode cX4_isLastBaseShared 37 = .ok (.iconst 1, 1) := by decide +kernel
theorem dX4_isLastBaseShared_38 : decode cX4_isLastBaseShared 38 = .ok (.ireturn, 1) := by decide +kernel
theorem dX4_isFirstBaseShared_0 : decode cX4_isFirstBaseShared 0 = .ok (.aload_n 0, 1) := by decide +kernel
theorem dX4_isFirstBaseShared_1 : decode cX4_isFirstBaseShared 1 = .ok (.getfield 9, 3) := by decide +kernel
theorem dX4_isFirstBaseShared_4 : decode cX4_isFirstBaseShared 4 = .ok (.iconst 0, 1) := by decide +kernel
theorem dX4_isFirstBaseShared_5 : decode cX4_isFirstBaseShared 5 = .ok (.iaload, 1) := by decide +kernel
theorem dX4_isFirstBaseShared_6 : decode cX4_isFirstBaseShared 6 = .ok (.i2l, 1) := by decide +kernel
theorem dX4_isFirstBaseShared_7 : decode cX4_isFirstBaseShared 7 = .ok (.aload_n 0, 1) := by decide +kernel
theorem dX4_isFirstBaseShared_8 : decode cX4_isFirstBaseShared 8 = .ok (.getfield 15, 3) := by decide +kernel
theorem dX4_isFirstBaseShared_11 : decode cX4_isFirstBaseShared 11 = .ok (.iconst 0, 1) := by decide +kernel
theorem dX4_isFirstBaseShared_12 : decode cX4_isFirstBaseShared 12 = .ok (.iaload, 1) := by decide +kernel
theorem dX4_isFirstBaseShared_13 : decode cX4_isFirstBaseShared 13 = .ok (.iconst 0, 1) := by decide +kernel
theorem dX4_isFirstBaseShared_14 : decode cX4_isFirstBaseShared 14 = .ok (.invokestatic 93, 3) := by decide +kernel
theorem dX4_isFirstBaseShared_17 : decode cX4_isFirstBaseShared 17 = .ok (.istore_n 1, 1) := by decide +kernel
theorem dX4_isFirstBaseShared_18 : decode cX4_isFirstBaseShared 18 = .ok (.iconst 1, 1) := by decide +kernel
theorem dX4_isFirstBaseShared_19 : decode cX4_isFirstBaseShared 19 = .ok (.istore_n 2, 1) := by decide +kernel
theorem dX4_isFirstBaseShared_20 : decode cX4_isFirstBaseShared 20 = .ok (.iload_n 2, 1) := by decide +kernel
theorem dX4_isFirstBaseShared_21 : decode cX4_isFirstBaseShared 21 = .ok (.aload_n 0, 1) := by decide +kernel
theorem dX4_isFirstBaseShared_22 : decode cX4_isFirstBaseShared 22 = .ok (.getfield 38, 3) := by decide +kernel
theorem dX4_isFirstBaseShared_25 : decode cX4_isFirstBaseShared 25 = .ok (.if_icmp .ge 32, 3) := by decide +kernel
theorem dX4_isFirstBaseShared_28 : decode cX4_isFirstBaseShared 28 = .ok (.aload_n 0, 1) := by decide +kernel
theorem dX4_isFirstBaseShared_29 : decode cX4_isFirstBaseShared 29 = .ok (.getfield 9, 3) := by decide +kernel
theorem dX4_isFirstBaseShared_32 : decode cX4_isFirstBaseShared 32 = .ok (.iload_n 2, 1) := by decide +kernel
theorem dX4_isFirstBaseShared_33 : decode cX4_isFirstBaseShared 33 = .ok (.iaload, 1) := by decide +kernel
theorem dX4_isFirstBaseShared_34 : decode cX4_isFirstBaseShared 34 = .ok (.i2l, 1) := by decide +kernel
theorem dX4_isFirstBaseShared_35 : decode cX4_isFirstBaseShared 35 = .ok (.aload_n 0, 1) := by decide +kernel
theorem dX4_isFirstBaseShared_36 : decode cX4_isFirstBaseShared 36 = .ok (.getfield 15, 3) := by decide +kernel
theorem dX4_isFirstBaseShared_39 : decode cX4_isFirstBaseShared 39 = .ok (.iload_n 2, 1) := by decide +kernel
theorem dX4_isFirstBaseShared_40 : decode cX4_isFirstBaseShared 40 = .ok (.iaload, 1) := by decide +kernel
theorem dX4_isFirstBaseShared_41 : decode cX4_isFirstBaseShared 41 = .ok (.iconst 0, 1) := by decide +kernel
theorem dX4_isFirstBaseShared_42 : decode cX4_isFirstBaseShared 42 = .ok (.invokestatic 93, 3) := by decide +kernel
theorem dX4_isFirstBaseShared_45 : decode cX4_isFirstBaseShared 45 = .ok (.iload_n 1, 1) := by decide +kernel
theorem dX4_isFirstBaseShared_46 : decode cX4_isFirstBaseShared 46 = .ok (.if_icmp .eq 5, 3) := by decide +kernel
theorem dX4_isFirstBaseShared_49 : decode cX4_isFirstBaseShared 49 = .ok (.iconst 0, 1) := by decide +kernel
theorem dX4_isFirstBaseShared_50 : decode cX4_isFirstBaseShared 50 = .ok (.ireturn, 1) := by decide +kernel
theorem dX4_isFirstBaseShared_51 : decode cX4_isFirstBaseShared 51 = .ok (.iinc 2 1, 3) := by decide +kernel
theorem dX4_isFirstBaseShared_54 : decode cX4_isFirstBaseShared 54 = .ok (.goto (-34), 3) := by decide +kernel
theorem dX4_isFirstBaseShared_57 : decode cX4_isFirstBaseShared 57 = .ok (.iconst 1, 1) := by decide +kernel
theorem dX4_isFirstBaseShared_58 : decode cX4_isFirstBaseShared 58 = .ok (.ireturn, 1) := by decide +kernel
theorem dX4_becomePart_0 : decode cX4_becomePart 0 = .ok (.aload_n 0, 1) := by decide +kernel
theorem dX4_becomePart_1 : decode cX4_becomePart 1 = .ok (.invokevirtual 97, 3) := by decide +kernel
theorem dX4_becomePart_4 : decode cX4_becomePart 4 = .ok (.aload_n 0, 1) := by decide +kernel
theorem dX4_becomePart_5 : decode cX4_becomePart 5 = .ok (.aload_n 1, 1) := by decide +kernel
theorem dX4_becomePart_6 : decode cX4_becomePart 6 = .ok (.getfield 31, 3) := by decide +kernel
theorem dX4_becomePart_9 : decode cX4_becomePart 9 = .ok (.putfield 31, 3) := by decide +kernel
theorem dX4_becomePart_12 : decode cX4_becomePart 12 = .ok (.aload_n 0, 1) := by decide +kernel
theorem dX4_becomePart_13 : decode cX4_becomePart 13 = .ok (.aload_n 1, 1) := by decide +kernel
theorem dX4_becomePart_14 : decode cX4_becomePart 14 = .ok (.getfield 35, 3) := by decide +kernel
theorem dX4_becomePart_17 : decode cX4_becomePart 17 = .ok (.putfield 35, 3) := by decide +kernel
theorem dX4_becomePart_20 : decode cX4_becomePart 20 = .ok (.aload_n 0, 1) := by decide +kernel
theorem dX4_becomePart_21 : decode cX4_becomePart 21 = .ok (.aload_n 1, 1) := by decide +kernel
theorem dX4_becomePart_22 : decode cX4_becomePart 22 = .ok (.iconst 0, 1) := by decide +kernel
theorem dX4_becomePart_23 : decode cX4_becomePart 23 = .ok (.invokevirtual 100, 3) := by decide +kernel
theorem dX4_becomePart_26 : decode cX4_becomePart 26 = .ok (.aload_n 0, 1) := by decide +kernel
theorem dX4_becomePart_27 : decode cX4_becomePart 27 = .ok (.aload_n 1, 1) := by decide +kernel
theorem dX4_becomePart_28 : decode cX4_becomePart 28 = .ok (.iload_n 2, 1) := by decide +kernel
theorem dX4_becomePart_29 : decode cX4_becomePart 29 = .ok (.invokevirtual 100, 3) := by decide +kernel
theorem dX4_becomePart_32 : decode cX4_becomePart 32 = .ok (.iconst 0, 1) := by decide +kernel
theorem dX4_becomePart_33 : decode cX4_becomePart 33 = .ok (.istore_n 3, 1) := by decide +kernel
theorem dX4_becomePart_34 : decode cX4_becomePart 34 = .ok (.iload_n 3, 1) := by decide +kernel
theorem dX4_becomePart_35 : decode cX4_becomePart 35 = .ok (.iconst 4, 1) := by decide +kernel
theorem dX4_becomePart_36 : decode cX4_becomePart 36 = .ok (.if_icmp .ge 44, 3) := by decide +kernel
theorem dX4_becomePart_39 : decode cX4_becomePart 39 = .ok (.aload_n 1, 1) := by decide +kernel
theorem dX4_becomePart_40 : decode cX4_becomePart 40 = .ok (.getfield 21, 3) := by decide +kernel
theorem dX4_becomePart_43 : decode cX4_becomePart 43 = .ok (.iload_n 3, 1) := by decide +kernel
theorem dX4_becomePart_44 : decode cX4_becomePart 44 = .ok (.iaload, 1) := by decide +kernel
theorem dX4_becomePart_45 : decode cX4_becomePart 45 = .ok (.istore 4, 2) := by decide +kernel
theorem dX4_becomePart_47 : decode cX4_becomePart 47 = .ok (.aload_n 0, 1) := by decide +kernel
theorem dX4_becomePart_48 : decode cX4_becomePart 48 = .ok (.getfield 21, 3) := by decide +kernel
theorem dX4_becomePart_51 : decode cX4_becomePart 51 = .ok (.iload_n 3, 1) := by decide +kernel
theorem dX4_becomePart_52 : decode cX4_becomePart 52 = .ok (.iload 4, 2) := by decide +kernel
theorem dX4_becomePart_54 : decode cX4_becomePart 54 = .ok (.iconst (-1), 1) := by decide +kernel
theorem dX4_becomePart_55 : decode cX4_becomePart 55 = .ok (.if_icmp .ne 7, 3) := by decide +kernel
theorem dX4_becomePart_58 : decode cX4_becomePart 58 = .ok (.iconst (-1), 1) := by decide +kernel
theorem dX4_becomePart_59 : decode cX4_becomePart 59 = .ok (.goto 14, 3) := by decide +kernel
theorem dX4_becomePart_62 : decode cX4_becomePart 62 = .ok (.iload 4, 2) := by decide +kernel
theorem dX4_becomePart_64 : decode cX4_becomePart 64 = .ok (.iload_n 2, 1) := by decide +kernel
theorem dX4_becomePart_65 : decode cX4_becomePart 65 = .ok (.if_icmp .ne 7, 3) := by decide +kernel
theorem dX4_becomePart_68 : decode cX4_becomePart 68 = .ok (.iconst 1, 1) := by decide +kernel
theorem dX4_becomePart_69 : decode cX4_becomePart 69 = .ok (.goto 4, 3) := by decide +kernel
theorem dX4_becomePart_72 : decode cX4_becomePart 72 = .ok (.iconst 0, 1) := by decide +kernel
theorem dX4_becomePart_73 : decode cX4_becomePart 73 = .ok (.iastore, 1) := by decide +kernel
theorem dX4_becomePart_74 : decode cX4_becomePart 74 = .ok (.iinc 3 1, 3) := by decide +kernel
theorem dX4_becomePart_77 : decode cX4_becomePart 77 = .ok (.goto (-43), 3) := by decide +kernel
theorem dX4_becomePart_80 : decode cX4_becomePart 80 = .ok (.iconst 0, 1) := by decide +kernel
theorem dX4_becomePart_81 : decode cX4_becomePart 81 = .ok (.istore_n 3, 1) := by decide +kernel
theorem dX4_becomePart_82 : decode cX4_becomePart 82 = .ok (.iload_n 3, 1) := by decide +kernel
theorem dX4_becomePart_83 : decode cX4_becomePart 83 = .ok (.iconst 2, 1) := by decide +kernel
theorem dX4_becomePart_84 : decode cX4_becomePart 84 = .ok (.if_icmp .ge 85, 3) := by decide +kernel
theorem dX4_becomePart_87 : decode cX4_becomePart 87 = .ok (.aload_n 0, 1) := by decide +kernel
theorem dX4_becomePart_88 : decode cX4_becomePart 88 = .ok (.getfield 24, 3) := by decide +kernel
theorem dX4_becomePart_91 : decode cX4_becomePart 91 = .ok (.iload_n 3, 1) := by decide +kernel
theorem dX4_becomePart_92 : decode cX4_becomePart 92 = .ok (.aload_n 1, 1) := by decide +kernel
theorem dX4_becomePart_93 : decode cX4_becomePart 93 = .ok (.getfield 24, 3) := by decide +kernel
theorem dX4_becomePart_96 : decode cX4_becomePart 96 = .ok (.iload_n 3, 1) := by decide +kernel
theorem dX4_becomePart_97 : decode cX4_becomePart 97 = .ok (.baload, 1) := by decide +kernel
theorem dX4_becomePart_98 : decode cX4_becomePart 98 = .ok (.bastore, 1) := by decide +kernel
theorem dX4_becomePart_99 : decode cX4_becomePart 99 = .ok (.bipush 10, 2) := by decide +kernel
theorem dX4_becomePart_101 : decode cX4_becomePart 101 = .ok (.iload_n 3, 1) := by decide +kernel
theorem dX4_becomePart_102 : decode cX4_becomePart 102 = .ok (.imul, 1) := by decide +kernel
theorem dX4_becomePart_103 : decode cX4_becomePart 103 = .ok (.istore 4, 2) := by decide +kernel
theorem dX4_becomePart_105 : decode cX4_becomePart 105 = .ok (.aload_n 0, 1) := by decide +kernel
theorem dX4_becomePart_106 : decode cX4_becomePart 106 = .ok (.getfield 28, 3) := by decide +kernel
theorem dX4_becomePart_109 : decode cX4_becomePart 109 = .ok (.iload 4, 2) := by decide +kernel
theorem dX4_becomePart_111 : decode cX4_becomePart 111 = .ok (.aload_n 1, 1) := by decide +kernel
theorem dX4_becomePart_112 : decode cX4_becomePart 112 = .ok (.getfield 28, 3) := by decide +kernel
theorem dX4_becomePart_115 : decode cX4_becomePart 115 = .ok (.iload 4, 2) := by decide +kernel
theorem dX4_becomePart_117 : decode cX4_becomePart 117 = .ok (.iaload, 1) := by decide +kernel
theorem dX4_becomePart_118 : decode cX4_becomePart 118 = .ok (.iastore, 1) := by decide +kernel
theorem dX4_becomePart_119 : decode cX4_becomePart 119 = .ok (.aload_n 0, 1) := by decide +kernel
theorem dX4_becomePart_120 : decode cX4_becomePart 120 = .ok (.getfield 28, 3) := by decide +kernel
theorem dX4_becomePart_123 : decode cX4_becomePart 123 = .ok (.iload 4, 2) := by decide +kernel
theorem dX4_becomePart_125 : decode cX4_becomePart 125 = .ok (.iconst 1, 1) := by decide +kernel
theorem dX4_becomePart_126 : decode cX4_becomePart 126 = .ok (.iadd, 1) := by decide +kernel
theorem dX4_becomePart_127 : decode cX4_becomePart 127 = .ok (.aload_n 1, 1) := by decide +kernel
theorem dX4_becomePart_128 : decode cX4_becomePart 128 = .ok (.getfield 28, 3) := by decide +kernel
theorem dX4_becomePart_131 : decode cX4_becomePart 131 = .ok (.iload 4, 2) := by decide +kernel
theorem dX4_becomePart_133 : decode cX4_becomePart 133 = .ok (.iconst 0, 1) := by decide +kernel
theorem dX4_becomePart_134 : decode cX4_becomePart 134 = .ok (.iload_n 2, 1) := by decide +kernel
theorem dX4_becomePart_135 : decode cX4_becomePart 135 = .ok (.invokestatic 104, 3) := by decide +kernel
theorem dX4_becomePart_138 : decode cX4_becomePart 138 = .ok (.iadd, 1) := by decide +kernel
theorem dX4_becomePart_139 : decode cX4_becomePart 139 = .ok (.iaload, 1) := by decide +kernel
theorem dX4_becomePart_140 : decode cX4_becomePart 140 = .ok (.iastore, 1) := by decide +kernel
theorem dX4_becomePart_141 : decode cX4_becomePart 141 = .ok (.aload_n 0, 1) := by decide +kernel
theorem dX4_becomePart_142 : decode cX4_becomePart 142 = .ok (.getfield 28, 3) := by decide +kernel
theorem dX4_becomePart_145 : decode cX4_becomePart 145 = .ok (.iload 4, 2) := by decide +kernel
theorem dX4_becomePart_147 : decode cX4_becomePart 147 = .ok (.iconst 2, 1) := by decide +kernel
theorem dX4_becomePart_148 : decode cX4_becomePart 148 = .ok (.iadd, 1) := by decide +kernel
theorem dX4_becomePart_149 : decode cX4_becomePart 149 = .ok (.aload_n 1, 1) := by decide +kernel
theorem dX4_becomePart_150 : decode cX4_becomePart 150 = .ok (.getfield 28, 3) := by decide +kernel
theorem dX4_becomePart_153 : decode cX4_becomePart 153 = .ok (.iload 4, 2) := by decide +kernel
theorem dX4_becomePart_155 : decode cX4_becomePart 155 = .ok (.iload_n 2, 1) := by decide +kernel
theorem dX4_becomePart_156 : decode cX4_becomePart 156 = .ok (.iload_n 2, 1) := by decide +kernel
theorem dX4_becomePart_157 : decode cX4_becomePart 157 = .ok (.invokestatic 104, 3) := by decide +kernel
theorem dX4_becomePart_160 : decode cX4_becomePart 160 = .ok (.iadd, 1) := by decide +kernel
theorem dX4_becomePart_161 : decode cX4_becomePart 161 = .ok (.iaload, 1) := by decide +kernel
theorem dX4_becomePart_162 : decode cX4_becomePart 162 = .ok (.iastore, 1) := by decide +kernel
theorem dX4_becomePart_163 : decode cX4_becomePart 163 = .ok (.iinc 3 1, 3) := by decide +kernel
theorem dX4_becomePart_166 : decode cX4_becomePart 166 = .ok (.goto (-84), 3) := by decide +kernel
theorem dX4_becomePart_169 : decode cX4_becomePart 169 = .ok (.return_, 1) := by decide +kernel
theorem dX4_appendAlleleOf_0 : decode cX4_appendAlleleOf 0 = .ok (.aload_n 0, 1) := by decide +kernel
theorem dX4_appendAlleleOf_1 : decode cX4_appendAlleleOf 1 = .ok (.aload_n 1, 1) := by decide +kernel
theorem dX4_appendAlleleOf_2 : decode cX4_appendAlleleOf 2 = .ok (.getfield 9, 3) := by decide +kernel
theorem dX4_appendAlleleOf_5 : decode cX4_appendAlleleOf 5 = .ok (.iload_n 2, 1) := by decide +kernel
theorem dX4_appendAlleleOf_6 : decode cX4_appendAlleleOf 6 = .ok (.iaload, 1) := by decide +kernel
theorem dX4_appendAlleleOf_7 : decode cX4_appendAlleleOf 7 = .ok (.aload_n 1, 1) := by decide +kernel
theorem dX4_appendAlleleOf_8 : decode cX4_appendAlleleOf 8 = .ok (.getfield 15, 3) := by decide +kernel
theorem dX4_appendAlleleOf_11 : decode cX4_appendAlleleOf 11 = .ok (.iload_n 2, 1) := by decide +kernel
theorem dX4_appendAlleleOf_12 : decode cX4_appendAlleleOf 12 = .ok (.iaload, 1) := by decide +kernel
theorem dX4_appendAlleleOf_13 : decode cX4_appendAlleleOf 13 = .ok (.invokevirtual 107, 3) := by decide +kernel
theorem dX4_appendAlleleOf_16 : decode cX4_appendAlleleOf 16 = .ok (.aload_n 0, 1) := by decide +kernel
theorem dX4_appendAlleleOf_17 : decode cX4_appendAlleleOf 17 = .ok (.getfield 18, 3) := by decide +kernel
theorem dX4_appendAlleleOf_20 : decode cX4_appendAlleleOf 20 = .ok (.aload_n 0, 1) := by decide +kernel
theorem dX4_appendAlleleOf_21 : decode cX4_appendAlleleOf 21 = .ok (.getfield 38, 3) := by decide +kernel
theorem dX4_appendAlleleOf_24 : decode cX4_appendAlleleOf 24 = .ok (.iconst 1, 1) := by decide +kernel
theorem dX4_appendAlleleOf_25 : decode cX4_appendAlleleOf 25 = .ok (.isub, 1) := by decide +kernel
theorem dX4_appendAlleleOf_26 : decode cX4_appendAlleleOf 26 = .ok (.aload_n 1, 1) := by decide +kernel
theorem dX4_appendAlleleOf_27 : decode cX4_appendAlleleOf 27 = .ok (.getfield 18, 3) := by decide +kernel
theorem dX4_appendAlleleOf_30 : decode cX4_appendAlleleOf 30 = .ok (.iload_n 2, 1) := by decide +kernel
theorem dX4_appendAlleleOf_31 : decode cX4_appendAlleleOf 31 = .ok (.iaload, 1) := by decide +kernel
theorem dX4_appendAlleleOf_32 : decode cX4_appendAlleleOf 32 = .ok (.iastore, 1) := by decide +kernel
theorem dX4_appendAlleleOf_33 : decode cX4_appendAlleleOf 33 = .ok (.return_, 1) := by decide +kernel
theorem dX4_lengthenLike_0 : decode cX4_lengthenLike 0 = .ok (.aload_n 1, 1) := by decide +kernel
theorem dX4_lengthenLike_1 : decode cX4_lengthenLike 1 = .ok (.getfield 15, 3) := by decide +kernel
theorem dX4_lengthenLike_4 : decode cX4_lengthenLike 4 = .ok (.iconst 0, 1) := by decide +kernel
theorem dX4_lengthenLike_5 : decode cX4_lengthenLike 5 = .ok (.iaload, 1) := by decide +kernel
theorem dX4_lengthenLike_6 : decode cX4_lengthenLike 6 = .ok (.aload_n 0, 1) := by decide +kernel
theorem dX4_lengthenLike_7 : decode cX4_lengthenLike 7 = .ok (.getfield 15, 3) := by decide +kernel
theorem dX4_lengthenLike_10 : decode cX4_lengthenLike 10 = .ok (.iconst 0, 1) := by decide +kernel
theorem dX4_lengthenLike_11 : decode cX4_lengthenLike 11 = .ok (.iaload, 1) := by decide +kernel
theorem dX4_lengthenLike_12 : decode cX4_lengthenLike 12 = .ok (.isub, 1) := by decide +kernel
theorem dX4_lengthenLike_13 : decode cX4_lengthenLike 13 = .ok (.istore_n 2, 1) := by decide +kernel
theorem dX4_lengthenLike_14 : decode cX4_lengthenLike 14 = .ok (.iload_n 2, 1) := by decide +kernel
theorem dX4_lengthenLike_15 : decode cX4_lengthenLike 15 = .ok (.ifCond .gt 4, 3) := by decide +kernel
theorem dX4_lengthenLike_18 : decode cX4_lengthenLike 18 = .ok (.return_, 1) := by decide +kernel
theorem dX4_lengthenLike_19 : decode cX4_lengthenLike 19 = .ok (.aload_n 1, 1) := by decide +kernel
theorem dX4_lengthenLike_20 : decode cX4_lengthenLike 20 = .ok (.getfield 9, 3) := by decide +kernel
theorem dX4_lengthenLike_23 : decode cX4_lengthenLike 23 = .ok (.iconst 0, 1) := by decide +kernel
theorem dX4_lengthenLike_24 : decode cX4_lengthenLike 24 = .ok (.iaload, 1) := by decide +kernel
theorem dX4_lengthenLike_25 : decode cX4_lengthenLike 25 = .ok (.iload_n 2, 1) := by decide +kernel
theorem dX4_lengthenLike_26 : decode cX4_lengthenLike 26 = .ok (.invokestatic 84, 3) := by decide +kernel
theorem dX4_lengthenLike_29 : decode cX4_lengthenLike 29 = .ok (.iand, 1) := by decide +kernel
theorem dX4_lengthenLike_30 : decode cX4_lengthenLike 30 = .ok (.istore_n 3, 1) := by decide +kernel
theorem dX4_lengthenLike_31 : decode cX4_lengthenLike 31 = .ok (.iconst 0, 1) := by decide +kernel
theorem dX4_lengthenLike_32 : decode cX4_lengthenLike 32 = .ok (.istore 4, 2) := by decide +kernel
theorem dX4_lengthenLike_34 : decode cX4_lengthenLike 34 = .ok (.iload 4, 2) := by decide +kernel
theorem dX4_lengthenLike_36 : decode cX4_lengthenLike 36 = .ok (.aload_n 0, 1) := by decide +kernel
theorem dX4_lengthenLike_37 : decode cX4_lengthenLike 37 = .ok (.getfield 38, 3) := by decide +kernel
theorem dX4_lengthenLike_40 : decode cX4_lengthenLike 40 = .ok (.if_icmp .ge 40, 3) := by decide +kernel
theorem dX4_lengthenLike_43 : decode cX4_lengthenLike 43 = .ok (.aload_n 0, 1) := by decide +kernel
theorem dX4_lengthenLike_44 : decode cX4_lengthenLike 44 = .ok (.getfield 9, 3) := by decide +kernel
theorem dX4_lengthenLike_47 : decode cX4_lengthenLike 47 = .ok (.iload 4, 2) := by decide +kernel
theorem dX4_lengthenLike_49 : decode cX4_lengthenLike 49 = .ok (.aload_n 0, 1) := by decide +kernel
theorem dX4_lengthenLike_50 : decode cX4_lengthenLike 50 = .ok (.getfield 9, 3) := by decide +kernel
theorem dX4_lengthenLike_53 : decode cX4_lengthenLike 53 = .ok (.iload 4, 2) := by decide +kernel
theorem dX4_lengthenLike_55 : decode cX4_lengthenLike 55 = .ok (.iaload, 1) := by decide +kernel
theorem dX4_lengthenLike_56 : decode cX4_lengthenLike 56 = .ok (.iconst 2, 1) := by decide +kernel
theorem dX4_lengthenLike_57 : decode cX4_lengthenLike 57 = .ok (.iload_n 2, 1) := by decide +kernel
theorem dX4_lengthenLike_58 : decode cX4_lengthenLike 58 = .ok (.imul, 1) := by decide +kernel
theorem dX4_lengthenLike_59 : decode cX4_lengthenLike 59 = .ok (.ishl, 1) := by decide +kernel
theorem dX4_lengthenLike_60 : decode cX4_lengthenLike 60 = .ok (.iload_n 3, 1) := by decide +kernel
theorem dX4_lengthenLike_61 : decode cX4_lengthenLike 61 = .ok (.ior, 1) := by decide +kernel
theorem dX4_lengthenLike_62 : decode cX4_lengthenLike 62 = .ok (.iastore, 1) := by decide +kernel
theorem dX4_lengthenLike_63 : decode cX4_lengthenLike 63 = .ok (.aload_n 0, 1) := by decide +kernel
theorem dX4_lengthenLike_64 : decode cX4_lengthenLike 64 = .ok (.getfield 15, 3) := by decide +kernel
theorem dX4_lengthenLike_67 : decode cX4_lengthenLike 67 = .ok (.iload 4, 2) := by decide +kernel
theorem dX4_lengthenLike_69 : decode cX4_lengthenLike 69 = .ok (.dup2, 1) := by decide +kernel
theorem dX4_lengthenLike_70 : decode cX4_lengthenLike 70 = .ok (.iaload, 1) := by decide +kernel
theorem dX4_lengthenLike_71 : decode cX4_lengthenLike 71 = .ok (.iload_n 2, 1) := by decide +kernel
theorem dX4_lengthenLike_72 : decode cX4_lengthenLike 72 = .ok (.iadd, 1) := by decide +kernel
theorem dX4_lengthenLike_73 : decode cX4_lengthenLike 73 = .ok (.iastore, 1) := by decide +kernel
theorem dX4_lengthenLike_74 : decode cX4_lengthenLike 74 = .ok (.iinc 4 1, 3) := by decide +kernel
theorem dX4_lengthenLike_77 : decode cX4_lengthenLike 77 = .ok (.goto (-43), 3) := by decide +kernel
theorem dX4_lengthenLike_80 : decode cX4_lengthenLike 80 = .ok (.return_, 1) := by decide +kernel
theorem dX4_hasTooLongAllele_0 : decode cX4_hasTooLongAllele 0 = .ok (.iconst 0, 1) := by decide +kernel
theorem dX4_hasTooLongAllele_1 : decode cX4_hasTooLongAllele 1 = .ok (.istore_n 1, 1) := by decide +kernel
theorem dX4_hasTooLongAllele_2 : decode cX4_hasTooLongAllele 2 = .ok (.iload_n 1, 1) := by decide +kernel
theorem dX4_hasTooLongAllele_3 : decode cX4_hasTooLongAllele 3 = .ok (.aload_n 0, 1) := by decide +kernel
theorem dX4_hasTooLongAllele_4 : decode cX4_hasTooLongAllele 4 = .ok (.getfield 38, 3) := by decide +kernel
theorem dX4_hasTooLongAllele_7 : decode cX4_hasTooLongAllele 7 = .ok (.if_icmp .ge 22, 3) := by decide +kernel
theorem dX4_hasTooLongAllele_10 : decode cX4_hasTooLongAllele 10 = .ok (.aload_n 0, 1) := by decide +kernel
theorem dX4_hasTooLongAllele_11 : decode cX4_hasTooLongAllele 11 = .ok (.getfield 15, 3) := by decide +kernel
theorem dX4_hasTooLongAllele_14 : decode cX4_hasTooLongAllele 14 = .ok (.iload_n 1, 1) := by decide +kernel
theorem dX4_hasTooLongAllele_15 : decode cX4_hasTooLongAllele 15 = .ok (.iaload, 1) := by decide +kernel
theorem dX4_hasTooLongAllele_16 : decode cX4_hasTooLongAllele 16 = .ok (.bipush 8, 2) := by decide +kernel
theorem dX4_hasTooLongAllele_18 : decode cX4_hasTooLongAllele 18 = .ok (.if_icmp .le 5, 3) := by decide +kernel
theorem dX4_hasTooLongAllele_21 : decode cX4_hasTooLongAllele 21 = .ok (.iconst 1, 1) := by decide +kernel
theorem dX4_hasTooLongAllele_22 : decode cX4_hasTooLongAllele 22 = .ok (.ireturn, 1) := by decide +kernel
theorem dX4_hasTooLongAllele_23 : decode cX4_hasTooLongAllele 23 = .ok (.iinc 1 1, 3) := by decide +kernel
theorem dX4_hasTooLongAllele_26 : decode cX4_hasTooLongAllele 26 = .ok (.goto (-24), 3) := by decide +kernel
theorem dX4_hasTooLongAllele_29 : decode cX4_hasTooLongAllele 29 = .ok (.iconst 0, 1) := by decide +kernel
theorem dX4_hasTooLongAllele_30 : decode cX4_hasTooLongAllele 30 = .ok (.ireturn, 1) := by decide +kernel
