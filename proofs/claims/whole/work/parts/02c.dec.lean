theorem dX6_init_0 : decode cX6_init 0 = .ok (.aload_n 0, 1) := by decide +kernel
theorem dX6_init_1 : decode cX6_init 1 = .ok (.invokespecial 1, 3) := by decide +kernel
theorem dX6_init_4 : decode cX6_init 4 = .ok (.aload_n 0, 1) := by decide +kernel
theorem dX6_init_5 : decode cX6_init 5 = .ok (.sipush 162, 3) := by decide +kernel
theorem dX6_init_8 : decode cX6_init 8 = .ok (.newarray .int, 2) := by decide +kernel
theorem dX6_init_10 : decode cX6_init 10 = .ok (.putfield 7, 3) := by decide +kernel
theorem dX6_init_13 : decode cX6_init 13 = .ok (.aload_n 0, 1) := by decide +kernel
theorem dX6_init_14 : decode cX6_init 14 = .ok (.sipush 1230, 3) := by decide +kernel
theorem dX6_init_17 : decode cX6_init 17 = .ok (.newarray .int, 2) := by decide +kernel
theorem dX6_init_19 : decode cX6_init 19 = .ok (.putfield 13, 3) := by decide +kernel
theorem dX6_init_22 : decode cX6_init 22 = .ok (.aload_n 0, 1) := by decide +kernel
theorem dX6_init_23 : decode cX6_init 23 = .ok (.sipush 130, 3) := by decide +kernel
theorem dX6_init_26 : decode cX6_init 26 = .ok (.newarray .int, 2) := by decide +kernel
theorem dX6_init_28 : decode cX6_init 28 = .ok (.putfield 16, 3) := by decide +kernel
theorem dX6_init_31 : decode cX6_init 31 = .ok (.aload_n 0, 1) := by decide +kernel
theorem dX6_init_32 : decode cX6_init 32 = .ok (.sipush 130, 3) := by decide +kernel
theorem dX6_init_35 : decode cX6_init 35 = .ok (.newarray .int, 2) := by decide +kernel
theorem dX6_init_37 : decode cX6_init 37 = .ok (.putfield 19, 3) := by decide +kernel
theorem dX6_init_40 : decode cX6_init 40 = .ok (.aload_n 0, 1) := by decide +kernel
theorem dX6_init_41 : decode cX6_init 41 = .ok (.bipush 8, 2) := by decide +kernel
theorem dX6_init_43 : decode cX6_init 43 = .ok (.newarray .int, 2) := by decide +kernel
theorem dX6_init_45 : decode cX6_init 45 = .ok (.putfield 22, 3) := by decide +kernel
theorem dX6_init_48 : decode cX6_init 48 = .ok (.return_, 1) := by decide +kernel
theorem dX6_thrown_0 : decode cX6_thrown 0 = .ok (.aload_n 0, 1) := by decide +kernel
theorem dX6_thrown_1 : decode cX6_thrown 1 = .ok (.getfield 25, 3) := by decide +kernel
theorem dX6_thrown_4 : decode cX6_thrown 4 = .ok (.ireturn, 1) := by decide +kernel
theorem dX6_throwing_0 : decode cX6_throwing 0 = .ok (.aload_n 0, 1) := by decide +kernel
theorem dX6_throwing_1 : decode cX6_throwing 1 = .ok (.iload_n 1, 1) := by decide +kernel
theorem dX6_throwing_2 : decode cX6_throwing 2 = .ok (.ifCond .eq 7, 3) := by decide +kernel
theorem dX6_throwing_5 : decode cX6_throwing 5 = .ok (.iconst 1, 1) := by decide +kernel
theorem dX6_throwing_6 : decode cX6_throwing 6 = .ok (.goto 12, 3) := by decide +kernel
theorem dX6_throwing_9 : decode cX6_throwing 9 = .ok (.iload_n 2, 1) := by decide +kernel
theorem dX6_throwing_10 : decode cX6_throwing 10 = .ok (.ifCond .eq 7, 3) := by decide +kernel
theorem dX6_throwing_13 : decode cX6_throwing 13 = .ok (.iconst 2, 1) := by decide +kernel
theorem dX6_throwing_14 : decode cX6_throwing 14 = .ok (.goto 4, 3) := by decide +kernel
theorem dX6_throwing_17 : decode cX6_throwing 17 = .ok (.iconst 0, 1) := by decide +kernel
theorem dX6_throwing_18 : decode cX6_throwing 18 = .ok (.putfield 25, 3) := by decide +kernel
theorem dX6_throwing_21 : decode cX6_throwing 21 = .ok (.aload_n 0, 1) := by decide +kernel
theorem dX6_throwing_22 : decode cX6_throwing 22 = .ok (.getfield 25, 3) := by decide +kernel
theorem dX6_throwing_25 : decode cX6_throwing 25 = .ok (.ifCond .le 7, 3) := by decide +kernel
theorem dX6_throwing_28 : decode cX6_throwing 28 = .ok (.iconst 1, 1) := by decide +kernel
theorem dX6_throwing_29 : decode cX6_throwing 29 = .ok (.goto 4, 3) := by decide +kernel
theorem dX6_throwing_32 : decode cX6_throwing 32 = .ok (.iconst 0, 1) := by decide +kernel
theorem dX6_throwing_33 : decode cX6_throwing 33 = .ok (.ireturn, 1) := by decide +kernel
theorem dX6_out_0 : decode cX6_out 0 = .ok (.iload_n 0, 1) := by decide +kernel
theorem dX6_out_1 : decode cX6_out 1 = .ok (.ifCond .lt 8, 3) := by decide +kernel
theorem dX6_out_4 : decode cX6_out 4 = .ok (.iload_n 0, 1) := by decide +kernel
theorem dX6_out_5 : decode cX6_out 5 = .ok (.iload_n 1, 1) := by decide +kernel
theorem dX6_out_6 : decode cX6_out 6 = .ok (.if_icmp .lt 7, 3) := by decide +kernel
theorem dX6_out_9 : decode cX6_out 9 = .ok (.iconst 1, 1) := by decide +kernel
theorem dX6_out_10 : decode cX6_out 10 = .ok (.goto 4, 3) := by decide +kernel
theorem dX6_out_13 : decode cX6_out 13 = .ok (.iconst 0, 1) := by decide +kernel
theorem dX6_out_14 : decode cX6_out 14 = .ok (.ireturn, 1) := by decide +kernel
theorem dX6_get_0 : decode cX6_get 0 = .ok (.aload_n 0, 1) := by decide +kernel
theorem dX6_get_1 : decode cX6_get 1 = .ok (.getfield 13, 3) := by decide +kernel
theorem dX6_get_4 : decode cX6_get 4 = .ok (.bipush 41, 2) := by decide +kernel
theorem dX6_get_6 : decode cX6_get 6 = .ok (.iload_n 1, 1) := by decide +kernel
theorem dX6_get_7 : decode cX6_get 7 = .ok (.imul, 1) := by decide +kernel
theorem dX6_get_8 : decode cX6_get 8 = .ok (.iload_n 2, 1) := by decide +kernel
theorem dX6_get_9 : decode cX6_get 9 = .ok (.iadd, 1) := by decide +kernel
theorem dX6_get_10 : decode cX6_get 10 = .ok (.iaload, 1) := by decide +kernel
theorem dX6_get_11 : decode cX6_get 11 = .ok (.ireturn, 1) := by decide +kernel
theorem dX6_put_0 : decode cX6_put 0 = .ok (.aload_n 0, 1) := by decide +kernel
theorem dX6_put_1 : decode cX6_put 1 = .ok (.getfield 13, 3) := by decide +kernel
theorem dX6_put_4 : decode cX6_put 4 = .ok (.bipush 41, 2) := by decide +kernel
theorem dX6_put_6 : decode cX6_put 6 = .ok (.iload_n 1, 1) := by decide +kernel
theorem dX6_put_7 : decode cX6_put 7 = .ok (.imul, 1) := by decide +kernel
theorem dX6_put_8 : decode cX6_put 8 = .ok (.iload_n 2, 1) := by decide +kernel
theorem dX6_put_9 : decode cX6_put 9 = .ok (.iadd, 1) := by decide +kernel
theorem dX6_put_10 : decode cX6_put 10 = .ok (.iload_n 3, 1) := by decide +kernel
theorem dX6_put_11 : decode cX6_put 11 = .ok (.iastore, 1) := by decide +kernel
theorem dX6_put_12 : decode cX6_put 12 = .ok (.return_, 1) := by decide +kernel
theorem dX6_copy_0 : decode cX6_copy 0 = .ok (.iconst 0, 1) := by decide +kernel
theorem dX6_copy_1 : decode cX6_copy 1 = .ok (.istore_n 3, 1) := by decide +kernel
theorem dX6_copy_2 : decode cX6_copy 2 = .ok (.iload_n 3, 1) := by decide +kernel
theorem dX6_copy_3 : decode cX6_copy 3 = .ok (.bipush 41, 2) := by decide +kernel
theorem dX6_copy_5 : decode cX6_copy 5 = .ok (.if_icmp .ge 31, 3) := by decide +kernel
theorem dX6_copy_8 : decode cX6_copy 8 = .ok (.aload_n 0, 1) := by decide +kernel
theorem dX6_copy_9 : decode cX6_copy 9 = .ok (.getfield 13, 3) := by decide +kernel
theorem dX6_copy_12 : decode cX6_copy 12 = .ok (.bipush 41, 2) := by decide +kernel
theorem dX6_copy_14 : decode cX6_copy 14 = .ok (.iload_n 2, 1) := by decide +kernel
theorem dX6_copy_15 : decode cX6_copy 15 = .ok (.imul, 1) := by decide +kernel
theorem dX6_copy_16 : decode cX6_copy 16 = .ok (.iload_n 3, 1) := by decide +kernel
theorem dX6_copy_17 : decode cX6_copy 17 = .ok (.iadd, 1) := by decide +kernel
theorem dX6_copy_18 : decode cX6_copy 18 = .ok (.aload_n 0, 1) := by decide +kernel
theorem dX6_copy_19 : decode cX6_copy 19 = .ok (.getfield 13, 3) := by decide +kernel
theorem dX6_copy_22 : decode cX6_copy 22 = .ok (.bipush 41, 2) := by decide +kernel
theorem dX6_copy_24 : decode cX6_copy 24 = .ok (.iload_n 1, 1) := by decide +kernel
theorem dX6_copy_25 : decode cX6_copy 25 = .ok (.imul, 1) := by decide +kernel
theorem dX6_copy_26 : decode cX6_copy 26 = .ok (.iload_n 3, 1) := by decide +kernel
theorem dX6_copy_27 : decode cX6_copy 27 = .ok (.iadd, 1) := by decide +kernel
theorem dX6_copy_28 : decode cX6_copy 28 = .ok (.iaload, 1) := by decide +kernel
theorem dX6_copy_29 : decode cX6_copy 29 = .ok (.iastore, 1) := by decide +kernel
theorem dX6_copy_30 : decode cX6_copy 30 = .ok (.iinc 3 1, 3) := by decide +kernel
theorem dX6_copy_33 : decode cX6_copy 33 = .ok (.goto (-31), 3) := by decide +kernel
theorem dX6_copy_36 : decode cX6_copy 36 = .ok (.return_, 1) := by decide +kernel
theorem dX6_empty_0 : decode cX6_empty 0 = .ok (.iconst 0, 1) := by decide +kernel
theorem dX6_empty_1 : decode cX6_empty 1 = .ok (.istore_n 3, 1) := by decide +kernel
theorem dX6_empty_2 : decode cX6_empty 2 = .ok (.iload_n 3, 1) := by decide +kernel
theorem dX6_empty_3 : decode cX6_empty 3 = .ok (.bipush 41, 2) := by decide +kernel
theorem dX6_empty_5 : decode cX6_empty 5 = .ok (.if_icmp .ge 42, 3) := by decide +kernel
theorem dX6_empty_8 : decode cX6_empty 8 = .ok (.aload_n 0, 1) := by decide +kernel
theorem dX6_empty_9 : decode cX6_empty 9 = .ok (.iload_n 1, 1) := by decide +kernel
theorem dX6_empty_10 : decode cX6_empty 10 = .ok (.iload_n 3, 1) := by decide +kernel
theorem dX6_empty_11 : decode cX6_empty 11 = .ok (.iload_n 3, 1) := by decide +kernel
theorem dX6_empty_12 : decode cX6_empty 12 = .ok (.bipush 15, 2) := by decide +kernel
theorem dX6_empty_14 : decode cX6_empty 14 = .ok (.if_icmp .lt 23, 3) := by decide +kernel
theorem dX6_empty_17 : decode cX6_empty 17 = .ok (.iload_n 3, 1) := by decide +kernel
theorem dX6_empty_18 : decode cX6_empty 18 = .ok (.bipush 21, 2) := by decide +kernel
theorem dX6_empty_20 : decode cX6_empty 20 = .ok (.if_icmp .ge 17, 3) := by decide +kernel
theorem dX6_empty_23 : decode cX6_empty 23 = .ok (.iload_n 3, 1) := by decide +kernel
theorem dX6_empty_24 : decode cX6_empty 24 = .ok (.bipush 15, 2) := by decide +kernel
theorem dX6_empty_26 : decode cX6_empty 26 = .ok (.isub, 1) := by decide +kernel
theorem dX6_empty_27 : decode cX6_empty 27 = .ok (.iconst 3, 1) := by decide +kernel
theorem dX6_empty_28 : decode cX6_empty 28 = .ok (.irem, 1) := by decide +kernel
theorem dX6_empty_29 : decode cX6_empty 29 = .ok (.iconst 2, 1) := by decide +kernel
theorem dX6_empty_30 : decode cX6_empty 30 = .ok (.if_icmp .ge 7, 3) := by decide +kernel
theorem dX6_empty_33 : decode cX6_empty 33 = .ok (.iconst (-1), 1) := by decide +kernel
theorem dX6_empty_34 : decode cX6_empty 34 = .ok (.goto 4, 3) := by decide +kernel
theorem dX6_empty_37 : decode cX6_empty 37 = .ok (.iconst 0, 1) := by decide +kernel
theorem dX6_empty_38 : decode cX6_empty 38 = .ok (.invokevirtual 29, 3) := by decide +kernel
theorem dX6_empty_41 : decode cX6_empty 41 = .ok (.iinc 3 1, 3) := by decide +kernel
theorem dX6_empty_44 : decode cX6_empty 44 = .ok (.goto (-42), 3) := by decide +kernel
theorem dX6_empty_47 : decode cX6_empty 47 = .ok (.aload_n 0, 1) := by decide +kernel
theorem dX6_empty_48 : decode cX6_empty 48 = .ok (.iload_n 1, 1) := by decide +kernel
theorem dX6_empty_49 : decode cX6_empty 49 = .ok (.iconst 0, 1) := by decide +kernel
theorem dX6_empty_50 : decode cX6_empty 50 = .ok (.iload_n 2, 1) := by decide +kernel
theorem dX6_empty_51 : decode cX6_empty 51 = .ok (.invokevirtual 29, 3) := by decide +kernel
theorem dX6_empty_54 : decode cX6_empty 54 = .ok (.return_, 1) := by decide +kernel
theorem dX6_addAllele_0 : decode cX6_addAllele 0 = .ok (.aload_n 0, 1) := by decide +kernel
theorem dX6_addAllele_1 : decode cX6_addAllele 1 = .ok (.iload_n 1, 1) := by decide +kernel
theorem dX6_addAllele_2 : decode cX6_addAllele 2 = .ok (.iconst 1, 1) := by decide +kernel
theorem dX6_addAllele_3 : decode cX6_addAllele 3 = .ok (.invokevirtual 33, 3) := by decide +kernel
theorem dX6_addAllele_6 : decode cX6_addAllele 6 = .ok (.istore 4, 2) := by decide +kernel
theorem dX6_addAllele_8 : decode cX6_addAllele 8 = .ok (.aload_n 0, 1) := by decide +kernel
theorem dX6_addAllele_9 : decode cX6_addAllele 9 = .ok (.iload_n 1, 1) := by decide +kernel
theorem dX6_addAllele_10 : decode cX6_addAllele 10 = .ok (.iconst 2, 1) := by decide +kernel
theorem dX6_addAllele_11 : decode cX6_addAllele 11 = .ok (.iload 4, 2) := by decide +kernel
theorem dX6_addAllele_13 : decode cX6_addAllele 13 = .ok (.iadd, 1) := by decide +kernel
theorem dX6_addAllele_14 : decode cX6_addAllele 14 = .ok (.iload_n 2, 1) := by decide +kernel
theorem dX6_addAllele_15 : decode cX6_addAllele 15 = .ok (.invokevirtual 29, 3) := by decide +kernel
theorem dX6_addAllele_18 : decode cX6_addAllele 18 = .ok (.aload_n 0, 1) := by decide +kernel
theorem dX6_addAllele_19 : decode cX6_addAllele 19 = .ok (.iload_n 1, 1) := by decide +kernel
theorem dX6_addAllele_20 : decode cX6_addAllele 20 = .ok (.bipush 6, 2) := by decide +kernel
theorem dX6_addAllele_22 : decode cX6_addAllele 22 = .ok (.iload 4, 2) := by decide +kernel
theorem dX6_addAllele_24 : decode cX6_addAllele 24 = .ok (.iadd, 1) := by decide +kernel
theorem dX6_addAllele_25 : decode cX6_addAllele 25 = .ok (.iload_n 3, 1) := by decide +kernel
theorem dX6_addAllele_26 : decode cX6_addAllele 26 = .ok (.invokevirtual 29, 3) := by decide +kernel
theorem dX6_addAllele_29 : decode cX6_addAllele 29 = .ok (.aload_n 0, 1) := by decide +kernel
theorem dX6_addAllele_30 : decode cX6_addAllele 30 = .ok (.iload_n 1, 1) := by decide +kernel
theorem dX6_addAllele_31 : decode cX6_addAllele 31 = .ok (.iconst 1, 1) := by decide +kernel
theorem dX6_addAllele_32 : decode cX6_addAllele 32 = .ok (.iload 4, 2) := by decide +kernel
theorem dX6_addAllele_34 : decode cX6_addAllele 34 = .ok (.iconst 1, 1) := by decide +kernel
theorem dX6_addAllele_35 : decode cX6_addAllele 35 = .ok (.iadd, 1) := by decide +kernel
theorem dX6_addAllele_36 : decode cX6_addAllele 36 = .ok (.invokevirtual 29, 3) := by decide +kernel
theorem dX6_addAllele_39 : decode cX6_addAllele 39 = .ok (.return_, 1) := by decide +kernel
theorem dX6_findAllele_0 : decode cX6_findAllele 0 = .ok (.iconst 0, 1) := by decide +kernel
theorem dX6_findAllele_1 : decode cX6_findAllele 1 = .ok (.istore 4, 2) := by decide +kernel
theorem dX6_findAllele_3 : decode cX6_findAllele 3 = .ok (.iload 4, 2) := by decide +kernel
theorem dX6_findAllele_5 : decode cX6_findAllele 5 = .ok (.aload_n 0, 1) := by decide +kernel
theorem dX6_findAllele_6 : decode cX6_findAllele 6 = .ok (.iload_n 1, 1) := by decide +kernel
theorem dX6_findAllele_7 : decode cX6_findAllele 7 = .ok (.iconst 1, 1) := by decide +kernel
theorem dX6_findAllele_8 : decode cX6_findAllele 8 = .ok (.invokevirtual 33, 3) := by decide +kernel
theorem dX6_findAllele_11 : decode cX6_findAllele 11 = .ok (.if_icmp .ge 39, 3) := by decide +kernel
theorem dX6_findAllele_14 : decode cX6_findAllele 14 = .ok (.aload_n 0, 1) := by decide +kernel
theorem dX6_findAllele_15 : decode cX6_findAllele 15 = .ok (.iload_n 1, 1) := by decide +kernel
theorem dX6_findAllele_16 : decode cX6_findAllele 16 = .ok (.iconst 2, 1) := by decide +kernel
theorem dX6_findAllele_17 : decode cX6_findAllele 17 = .ok (.iload 4, 2) := by decide +kernel
theorem dX6_findAllele_19 : decode cX6_findAllele 19 = .ok (.iadd, 1) := by decide +kernel
theorem dX6_findAllele_20 : decode cX6_findAllele 20 = .ok (.invokevirtual 33, 3) := by decide +kernel
theorem dX6_findAllele_23 : decode cX6_findAllele 23 = .ok (.iload_n 2, 1) := by decide +kernel
theorem dX6_findAllele_24 : decode cX6_findAllele 24 = .ok (.if_icmp .ne 20, 3) := by decide +kernel
theorem dX6_findAllele_27 : decode cX6_findAllele 27 = .ok (.aload_n 0, 1) := by decide +kernel
theorem dX6_findAllele_28 : decode cX6_findAllele 28 = .ok (.iload_n 1, 1) := by decide +kernel
theorem dX6_findAllele_29 : decode cX6_findAllele 29 = .ok (.bipush 6, 2) := by decide +kernel
theorem dX6_findAllele_31 : decode cX6_findAllele 31 = .ok (.iload 4, 2) := by decide +kernel
theorem dX6_findAllele_33 : decode cX6_findAllele 33 = .ok (.iadd, 1) := by decide +kernel
theorem dX6_findAllele_34 : decode cX6_findAllele 34 = .ok (.invokevirtual 33, 3) := by decide +kernel
theorem dX6_findAllele_37 : decode cX6_findAllele 37 = .ok (.iload_n 3, 1) := by decide +kernel
theorem dX6_findAllele_38 : decode cX6_findAllele 38 = .ok (.if_icmp .ne 6, 3) := by decide +kernel
theorem dX6_findAllele_41 : decode cX6_findAllele 41 = .ok (.iload 4, 2) := by decide +kernel
theorem dX6_findAllele_43 : decode cX6_findAllele 43 = .ok (.ireturn, 1) := by decide +kernel
theorem dX6_findAllele_44 : decode cX6_findAllele 44 = .ok (.iinc 4 1, 3) := by decide +kernel
theorem dX6_findAllele_47 : decode cX6_findAllele 47 = .ok (.goto (-44), 3) := by decide +kernel
theorem dX6_findAllele_50 : decode cX6_findAllele 50 = .ok (.iconst (-1), 1) := by decide +kernel
theorem dX6_findAllele_51 : decode cX6_findAllele 51 = .ok (.ireturn, 1) := by decide +kernel
theorem dX6_referenceFrom_0 : decode cX6_referenceFrom 0 = .ok (.iconst 0, 1) := by decide +kernel
theorem dX6_referenceFrom_1 : decode cX6_referenceFrom 1 = .ok (.istore_n 3, 1) := by decide +kernel
theorem dX6_referenceFrom_2 : decode cX6_referenceFrom 2 = .ok (.iconst 0, 1) := by decide +kernel
theorem dX6_referenceFrom_3 : decode cX6_referenceFrom 3 = .ok (.istore 4, 2) := by decide +kernel
theorem dX6_referenceFrom_5 : decode cX6_referenceFrom 5 = .ok (.iload 4, 2) := by decide +kernel
theorem dX6_referenceFrom_7 : decode cX6_referenceFrom 7 = .ok (.iload_n 2, 1) := by decide +kernel
theorem dX6_referenceFrom_8 : decode cX6_referenceFrom 8 = .ok (.if_icmp .ge 23, 3) := by decide +kernel
theorem dX6_referenceFrom_11 : decode cX6_referenceFrom 11 = .ok (.iconst 4, 1) := by decide +kernel
theorem dX6_referenceFrom_12 : decode cX6_referenceFrom 12 = .ok (.iload_n 3, 1) := by decide +kernel
theorem dX6_referenceFrom_13 : decode cX6_referenceFrom 13 = .ok (.imul, 1) := by decide +kernel
theorem dX6_referenceFrom_14 : decode cX6_referenceFrom 14 = .ok (.aload_n 0, 1) := by decide +kernel
theorem dX6_referenceFrom_15 : decode cX6_referenceFrom 15 = .ok (.getfield 7, 3) := by decide +kernel
theorem dX6_referenceFrom_18 : decode cX6_referenceFrom 18 = .ok (.iload_n 1, 1) := by decide +kernel
theorem dX6_referenceFrom_19 : decode cX6_referenceFrom 19 = .ok (.iload 4, 2) := by decide +kernel
theorem dX6_referenceFrom_21 : decode cX6_referenceFrom 21 = .ok (.iadd, 1) := by decide +kernel
theorem dX6_referenceFrom_22 : decode cX6_referenceFrom 22 = .ok (.iaload, 1) := by decide +kernel
theorem dX6_referenceFrom_23 : decode cX6_referenceFrom 23 = .ok (.iadd, 1) := by decide +kernel
theorem dX6_referenceFrom_24 : decode cX6_referenceFrom 24 = .ok (.istore_n 3, 1) := by decide +kernel
theorem dX6_referenceFrom_25 : decode cX6_referenceFrom 25 = .ok (.iinc 4 1, 3) := by decide +kernel
theorem dX6_referenceFrom_28 : decode cX6_referenceFrom 28 = .ok (.goto (-23), 3) := by decide +kernel
theorem dX6_referenceFrom_31 : decode cX6_referenceFrom 31 = .ok (.iload_n 3, 1) := by decide +kernel
theorem dX6_referenceFrom_32 : decode cX6_referenceFrom 32 = .ok (.ireturn, 1) := by decide +kernel
theorem dX6_pair_0 : decode cX6_pair 0 = .ok (.iload_n 0, 1) := by decide +kernel
theorem dX6_pair_1 : decode cX6_pair 1 = .ok (.iload_n 1, 1) := by decide +kernel
theorem dX6_pair_2 : decode cX6_pair 2 = .ok (.if_icmp .ge 15, 3) := by decide +kernel
theorem dX6_pair_5 : decode cX6_pair 5 = .ok (.iload_n 1, 1) := by decide +kernel
theorem dX6_pair_6 : decode cX6_pair 6 = .ok (.iload_n 1, 1) := by decide +kernel
theorem dX6_pair_7 : decode cX6_pair 7 = .ok (.iconst 1, 1) := by decide +kernel
theorem dX6_pair_8 : decode cX6_pair 8 = .ok (.iadd, 1) := by decide +kernel
theorem dX6_pair_9 : decode cX6_pair 9 = .ok (.imul, 1) := by decide +kernel
theorem dX6_pair_10 : decode cX6_pair 10 = .ok (.iconst 2, 1) := by decide +kernel
theorem dX6_pair_11 : decode cX6_pair 11 = .ok (.idiv, 1) := by decide +kernel
theorem dX6_pair_12 : decode cX6_pair 12 = .ok (.iload_n 0, 1) := by decide +kernel
theorem dX6_pair_13 : decode cX6_pair 13 = .ok (.iadd, 1) := by decide +kernel
theorem dX6_pair_14 : decode cX6_pair 14 = .ok (.goto 12, 3) := by decide +kernel
theorem dX6_pair_17 : decode cX6_pair 17 = .ok (.iload_n 0, 1) := by decide +kernel
theorem dX6_pair_18 : decode cX6_pair 18 = .ok (.iload_n 0, 1) := by decide +kernel
theorem dX6_pair_19 : decode cX6_pair 19 = .ok (.iconst 1, 1) := by decide +kernel
theorem dX6_pair_20 : decode cX6_pair 20 = .ok (.iadd, 1) := by decide +kernel
theorem dX6_pair_21 : decode cX6_pair 21 = .ok (.imul, 1) := by decide +kernel
theorem dX6_pair_22 : decode cX6_pair 22 = .ok (.iconst 2, 1) := by decide +kernel
theorem dX6_pair_23 : decode cX6_pair 23 = .ok (.idiv, 1) := by decide +kernel
theorem dX6_pair_24 : decode cX6_pair 24 = .ok (.iload_n 1, 1) := by decide +kernel
theorem dX6_pair_25 : decode cX6_pair 25 = .ok (.iadd, 1) := by decide +kernel
theorem dX6_pair_26 : decode cX6_pair 26 = .ok (.ireturn, 1) := by decide +kernel
theorem dX6_pairs_0 : decode cX6_pairs 0 = .ok (.iload_n 0, 1) := by decide +kernel
theorem dX6_pairs_1 : decode cX6_pairs 1 = .ok (.iload_n 0, 1) := by decide +kernel
theorem dX6_pairs_2 : decode cX6_pairs 2 = .ok (.iconst 1, 1) := by decide +kernel
theorem dX6_pairs_3 : decode cX6_pairs 3 = .ok (.iadd, 1) := by decide +kernel
theorem dX6_pairs_4 : decode cX6_pairs 4 = .ok (.imul, 1) := by decide +kernel
theorem dX6_pairs_5 : decode cX6_pairs 5 = .ok (.iconst 2, 1) := by decide +kernel
theorem dX6_pairs_6 : decode cX6_pairs 6 = .ok (.idiv, 1) := by decide +kernel
theorem dX6_pairs_7 : decode cX6_pairs 7 = .ok (.ireturn, 1) := by decide +kernel
theorem dX6_reference_0 : decode cX6_reference 0 = .ok (.iload_n 3, 1) := by decide +kernel
theorem dX6_reference_1 : decode cX6_reference 1 = .ok (.iconst 1, 1) := by decide +kernel
theorem dX6_reference_2 : decode cX6_reference 2 = .ok (.if_icmp .lt 9, 3) := by decide +kernel
theorem dX6_reference_5 : decode cX6_reference 5 = .ok (.iload_n 3, 1) := by decide +kernel
theorem dX6_reference_6 : decode cX6_reference 6 = .ok (.bipush 16, 2) := by decide +kernel
theorem dX6_reference_8 : decode cX6_reference 8 = .ok (.if_icmp .le 7, 3) := by decide +kernel
theorem dX6_reference_11 : decode cX6_reference 11 = .ok (.iconst 1, 1) := by decide +kernel
theorem dX6_reference_12 : decode cX6_reference 12 = .ok (.goto 4, 3) := by decide +kernel
theorem dX6_reference_15 : decode cX6_reference 15 = .ok (.iconst 0, 1) := by decide +kernel
theorem dX6_reference_16 : decode cX6_reference 16 = .ok (.istore 4, 2) := by decide +kernel
theorem dX6_reference_18 : decode cX6_reference 18 = .ok (.aload_n 0, 1) := by decide +kernel
theorem dX6_reference_19 : decode cX6_reference 19 = .ok (.iload 4, 2) := by decide +kernel
theorem dX6_reference_21 : decode cX6_reference 21 = .ok (.iload 4, 2) := by decide +kernel
theorem dX6_reference_23 : decode cX6_reference 23 = .ok (.ifCond .ne 33, 3) := by decide +kernel
theorem dX6_reference_26 : decode cX6_reference 26 = .ok (.aload_n 0, 1) := by decide +kernel
theorem dX6_reference_27 : decode cX6_reference 27 = .ok (.getfield 37, 3) := by decide +kernel
theorem dX6_reference_30 : decode cX6_reference 30 = .ok (.iload_n 3, 1) := by decide +kernel
theorem dX6_reference_31 : decode cX6_reference 31 = .ok (.iadd, 1) := by decide +kernel
theorem dX6_reference_32 : decode cX6_reference 32 = .ok (.sipush 160, 3) := by decide +kernel
theorem dX6_reference_35 : decode cX6_reference 35 = .ok (.if_icmp .gt 17, 3) := by decide +kernel
theorem dX6_reference_38 : decode cX6_reference 38 = .ok (.aload_n 0, 1) := by decide +kernel
theorem dX6_reference_39 : decode cX6_reference 39 = .ok (.getfield 40, 3) := by decide +kernel
theorem dX6_reference_42 : decode cX6_reference 42 = .ok (.ifCond .ne 10, 3) := by decide +kernel
theorem dX6_reference_45 : decode cX6_reference 45 = .ok (.aload_n 0, 1) := by decide +kernel
theorem dX6_reference_46 : decode cX6_reference 46 = .ok (.getfield 44, 3) := by decide +kernel
theorem dX6_reference_49 : decode cX6_reference 49 = .ok (.ifCond .le 7, 3) := by decide +kernel
theorem dX6_reference_52 : decode cX6_reference 52 = .ok (.iconst 1, 1) := by decide +kernel
theorem dX6_reference_53 : decode cX6_reference 53 = .ok (.goto 4, 3) := by decide +kernel
theorem dX6_reference_56 : decode cX6_reference 56 = .ok (.iconst 0, 1) := by decide +kernel
theorem dX6_reference_57 : decode cX6_reference 57 = .ok (.invokevirtual 47, 3) := by decide +kernel
theorem dX6_reference_60 : decode cX6_reference 60 = .ok (.ifCond .eq 5, 3) := by decide +kernel
theorem dX6_reference_63 : decode cX6_reference 63 = .ok (.iconst 0, 1) := by decide +kernel
theorem dX6_reference_64 : decode cX6_reference 64 = .ok (.ireturn, 1) := by decide +kernel
theorem dX6_reference_65 : decode cX6_reference 65 = .ok (.iload_n 3, 1) := by decide +kernel
theorem dX6_reference_66 : decode cX6_reference 66 = .ok (.iconst 1, 1) := by decide +kernel
theorem dX6_reference_67 : decode cX6_reference 67 = .ok (.isub, 1) := by decide +kernel
theorem dX6_reference_68 : decode cX6_reference 68 = .ok (.istore 5, 2) := by decide +kernel
theorem dX6_reference_70 : decode cX6_reference 70 = .ok (.iload 5, 2) := by decide +kernel
theorem dX6_reference_72 : decode cX6_reference 72 = .ok (.ifCond .lt 39, 3) := by decide +kernel
theorem dX6_reference_75 : decode cX6_reference 75 = .ok (.aload_n 0, 1) := by decide +kernel
theorem dX6_reference_76 : decode cX6_reference 76 = .ok (.dup, 1) := by decide +kernel
theorem dX6_reference_77 : decode cX6_reference 77 = .ok (.getfield 37, 3) := by decide +kernel
theorem dX6_reference_80 : decode cX6_reference 80 = .ok (.iconst 1, 1) := by decide +kernel
theorem dX6_reference_81 : decode cX6_reference 81 = .ok (.iadd, 1) := by decide +kernel
theorem dX6_reference_82 : decode cX6_reference 82 = .ok (.putfield 37, 3) := by decide +kernel
theorem dX6_reference_85 : decode cX6_reference 85 = .ok (.aload_n 0, 1) := by decide +kernel
theorem dX6_reference_86 : decode cX6_reference 86 = .ok (.getfield 7, 3) := by decide +kernel
theorem dX6_reference_89 : decode cX6_reference 89 = .ok (.aload_n 0, 1) := by decide +kernel
theorem dX6_reference_90 : decode cX6_reference 90 = .ok (.getfield 37, 3) := by decide +kernel
theorem dX6_reference_93 : decode cX6_reference 93 = .ok (.lload_n 1, 1) := by decide +kernel
theorem dX6_reference_94 : decode cX6_reference 94 = .ok (.iconst 2, 1) := by decide +kernel
theorem dX6_reference_95 : decode cX6_reference 95 = .ok (.iload 5, 2) := by decide +kernel
theorem dX6_reference_97 : decode cX6_reference 97 = .ok (.imul, 1) := by decide +kernel
theorem dX6_reference_98 : decode cX6_reference 98 = .ok (.lshr, 1) := by decide +kernel
theorem dX6_reference_99 : decode cX6_reference 99 = .ok (.ldc2_w 51, 3) := by decide +kernel
theorem dX6_reference_102 : decode cX6_reference 102 = .ok (.land, 1) := by decide +kernel
theorem dX6_reference_103 : decode cX6_reference 103 = .ok (.l2i, 1) := by decide +kernel
theorem dX6_reference_104 : decode cX6_reference 104 = .ok (.iastore, 1) := by decide +kernel
theorem dX6_reference_105 : decode cX6_reference 105 = .ok (.iinc 5 (-1), 3) := by decide +kernel
theorem dX6_reference_108 : decode cX6_reference 108 = .ok (.goto (-38), 3) := by decide +kernel
theorem dX6_reference_111 : decode cX6_reference 111 = .ok (.aload_n 0, 1) := by decide +kernel
theorem dX6_reference_112 : decode cX6_reference 112 = .ok (.getfield 37, 3) := by decide +kernel
theorem dX6_reference_115 : decode cX6_reference 115 = .ok (.ireturn, 1) := by decide +kernel
theorem dX6_draft_0 : decode cX6_draft 0 = .ok (.iload_n 2, 1) := by decide +kernel
theorem dX6_draft_1 : decode cX6_draft 1 = .ok (.iconst 1, 1) := by decide +kernel
theorem dX6_draft_2 : decode cX6_draft 2 = .ok (.if_icmp .lt 26, 3) := by decide +kernel
theorem dX6_draft_5 : decode cX6_draft 5 = .ok (.iload_n 2, 1) := by decide +kernel
theorem dX6_draft_6 : decode cX6_draft 6 = .ok (.bipush 8, 2) := by decide +kernel
theorem dX6_draft_8 : decode cX6_draft 8 = .ok (.if_icmp .gt 20, 3) := by decide +kernel
theorem dX6_draft_11 : decode cX6_draft 11 = .ok (.iload_n 1, 1) := by decide +kernel
theorem dX6_draft_12 : decode cX6_draft 12 = .ok (.iconst 1, 1) := by decide +kernel
theorem dX6_draft_13 : decode cX6_draft 13 = .ok (.if_icmp .lt 15, 3) := by decide +kernel
theorem dX6_draft_16 : decode cX6_draft 16 = .ok (.iload_n 1, 1) := by decide +kernel
theorem dX6_draft_17 : decode cX6_draft 17 = .ok (.aload_n 0, 1) := by decide +kernel
theorem dX6_draft_18 : decode cX6_draft 18 = .ok (.getfield 37, 3) := by decide +kernel
theorem dX6_draft_21 : decode cX6_draft 21 = .ok (.iload_n 2, 1) := by decide +kernel
theorem dX6_draft_22 : decode cX6_draft 22 = .ok (.isub, 1) := by decide +kernel
theorem dX6_draft_23 : decode cX6_draft 23 = .ok (.iconst 1, 1) := by decide +kernel
theorem dX6_draft_24 : decode cX6_draft 24 = .ok (.iadd, 1) := by decide +kernel
theorem dX6_draft_25 : decode cX6_draft 25 = .ok (.if_icmp .le 7, 3) := by decide +kernel
theorem dX6_draft_28 : decode cX6_draft 28 = .ok (.iconst 1, 1) := by decide +kernel
theorem dX6_draft_29 : decode cX6_draft 29 = .ok (.goto 4, 3) := by decide +kernel
theorem dX6_draft_32 : decode cX6_draft 32 = .ok (.iconst 0, 1) := by decide +kernel
theorem dX6_draft_33 : decode cX6_draft 33 = .ok (.istore_n 3, 1) := by decide +kernel
theorem dX6_draft_34 : decode cX6_draft 34 = .ok (.aload_n 0, 1) := by decide +kernel
theorem dX6_draft_35 : decode cX6_draft 35 = .ok (.iload_n 3, 1) := by decide +kernel
theorem dX6_draft_36 : decode cX6_draft 36 = .ok (.iconst 0, 1) := by decide +kernel
theorem dX6_draft_37 : decode cX6_draft 37 = .ok (.invokevirtual 47, 3) := by decide +kernel
theorem dX6_draft_40 : decode cX6_draft 40 = .ok (.ifCond .eq 4, 3) := by decide +kernel
theorem dX6_draft_43 : decode cX6_draft 43 = .ok (.return_, 1) := by decide +kernel
theorem dX6_draft_44 : decode cX6_draft 44 = .ok (.aload_n 0, 1) := by decide +kernel
theorem dX6_draft_45 : decode cX6_draft 45 = .ok (.iconst 1, 1) := by decide +kernel
theorem dX6_draft_46 : decode cX6_draft 46 = .ok (.putfield 40, 3) := by decide +kernel
theorem dX6_draft_49 : decode cX6_draft 49 = .ok (.aload_n 0, 1) := by decide +kernel
theorem dX6_draft_50 : decode cX6_draft 50 = .ok (.bipush 24, 2) := by decide +kernel
theorem dX6_draft_52 : decode cX6_draft 52 = .ok (.iload_n 1, 1) := by decide +kernel
theorem dX6_draft_53 : decode cX6_draft 53 = .ok (.invokevirtual 53, 3) := by decide +kernel
theorem dX6_draft_56 : decode cX6_draft 56 = .ok (.aload_n 0, 1) := by decide +kernel
theorem dX6_draft_57 : decode cX6_draft 57 = .ok (.bipush 24, 2) := by decide +kernel
theorem dX6_draft_59 : decode cX6_draft 59 = .ok (.iload_n 2, 1) := by decide +kernel
theorem dX6_draft_60 : decode cX6_draft 60 = .ok (.aload_n 0, 1) := by decide +kernel
theorem dX6_draft_61 : decode cX6_draft 61 = .ok (.iload_n 1, 1) := by decide +kernel
theorem dX6_draft_62 : decode cX6_draft 62 = .ok (.iload_n 2, 1) := by decide +kernel
theorem dX6_draft_63 : decode cX6_draft 63 = .ok (.invokevirtual 57, 3) := by decide +kernel
theorem dX6_draft_66 : decode cX6_draft 66 = .ok (.invokevirtual 60, 3) := by decide +kernel
theorem dX6_draft_69 : decode cX6_draft 69 = .ok (.return_, 1) := by decide +kernel
theorem dX6_allele_0 : decode cX6_allele 0 = .ok (.iload_n 3, 1) := by decide +kernel
theorem dX6_allele_1 : decode cX6_allele 1 = .ok (.iconst 1, 1) := by decide +kernel
theorem dX6_allele_2 : decode cX6_allele 2 = .ok (.if_icmp .lt 9, 3) := by decide +kernel
theorem dX6_allele_5 : decode cX6_allele 5 = .ok (.iload_n 3, 1) := by decide +kernel
theorem dX6_allele_6 : decode cX6_allele 6 = .ok (.bipush 8, 2) := by decide +kernel
theorem dX6_allele_8 : decode cX6_allele 8 = .ok (.if_icmp .le 7, 3) := by decide +kernel
theorem dX6_allele_11 : decode cX6_allele 11 = .ok (.iconst 1, 1) := by decide +kernel
theorem dX6_allele_12 : decode cX6_allele 12 = .ok (.goto 4, 3) := by decide +kernel
theorem dX6_allele_15 : decode cX6_allele 15 = .ok (.iconst 0, 1) := by decide +kernel
theorem dX6_allele_16 : decode cX6_allele 16 = .ok (.istore 4, 2) := by decide +kernel
theorem dX6_allele_18 : decode cX6_allele 18 = .ok (.iload 4, 2) := by decide +kernel
theorem dX6_allele_20 : decode cX6_allele 20 = .ok (.ifCond .eq 7, 3) := by decide +kernel
theorem dX6_allele_23 : decode cX6_allele 23 = .ok (.iconst 0, 1) := by decide +kernel
theorem dX6_allele_24 : decode cX6_allele 24 = .ok (.goto 13, 3) := by decide +kernel
theorem dX6_allele_27 : decode cX6_allele 27 = .ok (.lload_n 1, 1) := by decide +kernel
theorem dX6_allele_28 : decode cX6_allele 28 = .ok (.lconst 1, 1) := by decide +kernel
theorem dX6_allele_29 : decode cX6_allele 29 = .ok (.iconst 2, 1) := by decide +kernel
theorem dX6_allele_30 : decode cX6_allele 30 = .ok (.iload_n 3, 1) := by decide +kernel
theorem dX6_allele_31 : decode cX6_allele 31 = .ok (.imul, 1) := by decide +kernel
theorem dX6_allele_32 : decode cX6_allele 32 = .ok (.lshl, 1) := by decide +kernel
theorem dX6_allele_33 : decode cX6_allele 33 = .ok (.lconst 1, 1) := by decide +kernel
theorem dX6_allele_34 : decode cX6_allele 34 = .ok (.lsub, 1) := by decide +kernel
theorem dX6_allele_35 : decode cX6_allele 35 = .ok (.land, 1) := by decide +kernel
theorem dX6_allele_36 : decode cX6_allele 36 = .ok (.l2i, 1) := by decide +kernel
theorem dX6_allele_37 : decode cX6_allele 37 = .ok (.istore 5, 2) := by decide +kernel
theorem dX6_allele_39 : decode cX6_allele 39 = .ok (.aload_n 0, 1) := by decide +kernel
theorem dX6_allele_40 : decode cX6_allele 40 = .ok (.iload 4, 2) := by decide +kernel
theorem dX6_allele_42 : decode cX6_allele 42 = .ok (.aload_n 0, 1) := by decide +kernel
theorem dX6_allele_43 : decode cX6_allele 43 = .ok (.getfield 40, 3) := by decide +kernel
theorem dX6_allele_46 : decode cX6_allele 46 = .ok (.ifCond .eq 26, 3) := by decide +kernel
theorem dX6_allele_49 : decode cX6_allele 49 = .ok (.aload_n 0, 1) := by decide +kernel
theorem dX6_allele_50 : decode cX6_allele 50 = .ok (.bipush 24, 2) := by decide +kernel
theorem dX6_allele_52 : decode cX6_allele 52 = .ok (.iconst 1, 1) := by decide +kernel
theorem dX6_allele_53 : decode cX6_allele 53 = .ok (.invokevirtual 33, 3) := by decide +kernel
theorem dX6_allele_56 : decode cX6_allele 56 = .ok (.iconst 4, 1) := by decide +kernel
theorem dX6_allele_57 : decode cX6_allele 57 = .ok (.if_icmp .eq 15, 3) := by decide +kernel
theorem dX6_allele_60 : decode cX6_allele 60 = .ok (.aload_n 0, 1) := by decide +kernel
theorem dX6_allele_61 : decode cX6_allele 61 = .ok (.bipush 24, 2) := by decide +kernel
theorem dX6_allele_63 : decode cX6_allele 63 = .ok (.iload_n 3, 1) := by decide +kernel
theorem dX6_allele_64 : decode cX6_allele 64 = .ok (.iload 5, 2) := by decide +kernel
theorem dX6_allele_66 : decode cX6_allele 66 = .ok (.invokevirtual 63, 3) := by decide +kernel
theorem dX6_allele_69 : decode cX6_allele 69 = .ok (.ifCond .lt 7, 3) := by decide +kernel
theorem dX6_allele_72 : decode cX6_allele 72 = .ok (.iconst 1, 1) := by decide +kernel
theorem dX6_allele_73 : decode cX6_allele 73 = .ok (.goto 4, 3) := by decide +kernel
theorem dX6_allele_76 : decode cX6_allele 76 = .ok (.iconst 0, 1) := by decide +kernel
theorem dX6_allele_77 : decode cX6_allele 77 = .ok (.invokevirtual 47, 3) := by decide +kernel
theorem dX6_allele_80 : decode cX6_allele 80 = .ok (.ifCond .eq 5, 3) := by decide +kernel
theorem dX6_allele_83 : decode cX6_allele 83 = .ok (.iconst 0, 1) := by decide +kernel
theorem dX6_allele_84 : decode cX6_allele 84 = .ok (.ireturn, 1) := by decide +kernel
theorem dX6_allele_85 : decode cX6_allele 85 = .ok (.aload_n 0, 1) := by decide +kernel
theorem dX6_allele_86 : decode cX6_allele 86 = .ok (.bipush 24, 2) := by decide +kernel
theorem dX6_allele_88 : decode cX6_allele 88 = .ok (.iload_n 3, 1) := by decide +kernel
theorem dX6_allele_89 : decode cX6_allele 89 = .ok (.iload 5, 2) := by decide +kernel
theorem dX6_allele_91 : decode cX6_allele 91 = .ok (.invokevirtual 60, 3) := by decide +kernel
theorem dX6_allele_94 : decode cX6_allele 94 = .ok (.aload_n 0, 1) := by decide +kernel
theorem dX6_allele_95 : decode cX6_allele 95 = .ok (.bipush 24, 2) := by decide +kernel
theorem dX6_allele_97 : decode cX6_allele 97 = .ok (.iconst 1, 1) := by decide +kernel
theorem dX6_allele_98 : decode cX6_allele 98 = .ok (.invokevirtual 33, 3) := by decide +kernel
theorem dX6_allele_101 : decode cX6_allele 101 = .ok (.iconst 1, 1) := by decide +kernel
theorem dX6_allele_102 : decode cX6_allele 102 = .ok (.isub, 1) := by decide +kernel
theorem dX6_allele_103 : decode cX6_allele 103 = .ok (.ireturn, 1) := by decide +kernel
theorem dX6_depth_0 : decode cX6_depth 0 = .ok (.aload_n 0, 1) := by decide +kernel
theorem dX6_depth_1 : decode cX6_depth 1 = .ok (.aload_n 0, 1) := by decide +kernel
theorem dX6_depth_2 : decode cX6_depth 2 = .ok (.getfield 40, 3) := by decide +kernel
theorem dX6_depth_5 : decode cX6_depth 5 = .ok (.ifCond .eq 37, 3) := by decide +kernel
theorem dX6_depth_8 : decode cX6_depth 8 = .ok (.iload_n 1, 1) := by decide +kernel
theorem dX6_depth_9 : decode cX6_depth 9 = .ok (.aload_n 0, 1) := by decide +kernel
theorem dX6_depth_10 : decode cX6_depth 10 = .ok (.bipush 24, 2) := by decide +kernel
theorem dX6_depth_12 : decode cX6_depth 12 = .ok (.iconst 1, 1) := by decide +kernel
theorem dX6_depth_13 : decode cX6_depth 13 = .ok (.invokevirtual 33, 3) := by decide +kernel
theorem dX6_depth_16 : decode cX6_depth 16 = .ok (.invokestatic 67, 3) := by decide +kernel
theorem dX6_depth_19 : decode cX6_depth 19 = .ok (.ifCond .ne 23, 3) := by decide +kernel
theorem dX6_depth_22 : decode cX6_depth 22 = .ok (.iload_n 2, 1) := by decide +kernel
theorem dX6_depth_23 : decode cX6_depth 23 = .ok (.sipush 10000, 3) := by decide +kernel
theorem dX6_depth_26 : decode cX6_depth 26 = .ok (.invokestatic 67, 3) := by decide +kernel
theorem dX6_depth_29 : decode cX6_depth 29 = .ok (.ifCond .ne 13, 3) := by decide +kernel
theorem dX6_depth_32 : decode cX6_depth 32 = .ok (.iload_n 3, 1) := by decide +kernel
theorem dX6_depth_33 : decode cX6_depth 33 = .ok (.sipush 8001, 3) := by decide +kernel
theorem dX6_depth_36 : decode cX6_depth 36 = .ok (.invokestatic 67, 3) := by decide +kernel
theorem dX6_depth_39 : decode cX6_depth 39 = .ok (.ifCond .eq 7, 3) := by decide +kernel
theorem dX6_depth_42 : decode cX6_depth 42 = .ok (.iconst 1, 1) := by decide +kernel
theorem dX6_depth_43 : decode cX6_depth 43 = .ok (.goto 4, 3) := by decide +kernel
theorem dX6_depth_46 : decode cX6_depth 46 = .ok (.iconst 0, 1) := by decide +kernel
theorem dX6_depth_47 : decode cX6_depth 47 = .ok (.iconst 0, 1) := by decide +kernel
theorem dX6_depth_48 : decode cX6_depth 48 = .ok (.invokevirtual 47, 3) := by decide +kernel
theorem dX6_depth_51 : decode cX6_depth 51 = .ok (.ifCond .eq 4, 3) := by decide +kernel
theorem dX6_depth_54 : decode cX6_depth 54 = .ok (.return_, 1) := by decide +kernel
theorem dX6_depth_55 : decode cX6_depth 55 = .ok (.aload_n 0, 1) := by decide +kernel
theorem dX6_depth_56 : decode cX6_depth 56 = .ok (.bipush 24, 2) := by decide +kernel
theorem dX6_depth_58 : decode cX6_depth 58 = .ok (.bipush 11, 2) := by decide +kernel
theorem dX6_depth_60 : decode cX6_depth 60 = .ok (.iload_n 1, 1) := by decide +kernel
theorem dX6_depth_61 : decode cX6_depth 61 = .ok (.iadd, 1) := by decide +kernel
theorem dX6_depth_62 : decode cX6_depth 62 = .ok (.iload_n 2, 1) := by decide +kernel
theorem dX6_depth_63 : decode cX6_depth 63 = .ok (.invokevirtual 29, 3) := by decide +kernel
theorem dX6_depth_66 : decode cX6_depth 66 = .ok (.aload_n 0, 1) := by decide +kernel
theorem dX6_depth_67 : decode cX6_depth 67 = .ok (.bipush 24, 2) := by decide +kernel
theorem dX6_depth_69 : decode cX6_depth 69 = .ok (.bipush 10, 2) := by decide +kernel
theorem dX6_depth_71 : decode cX6_depth 71 = .ok (.iload_n 3, 1) := by decide +kernel
theorem dX6_depth_72 : decode cX6_depth 72 = .ok (.invokevirtual 29, 3) := by decide +kernel
theorem dX6_depth_75 : decode cX6_depth 75 = .ok (.return_, 1) := by decide +kernel
theorem dX6_genotype_0 : decode cX6_genotype 0 = .ok (.aload_n 0, 1) := by decide +kernel
theorem dX6_genotype_1 : decode cX6_genotype 1 = .ok (.bipush 24, 2) := by decide +kernel
theorem dX6_genotype_3 : decode cX6_genotype 3 = .ok (.iconst 1, 1) := by decide +kernel
theorem dX6_genotype_4 : decode cX6_genotype 4 = .ok (.invokevirtual 33, 3) := by decide +kernel
theorem dX6_genotype_7 : decode cX6_genotype 7 = .ok (.istore 5, 2) := by decide +kernel
theorem dX6_genotype_9 : decode cX6_genotype 9 = .ok (.aload_n 0, 1) := by decide +kernel
theorem dX6_genotype_10 : decode cX6_genotype 10 = .ok (.aload_n 0, 1) := by decide +kernel
theorem dX6_genotype_11 : decode cX6_genotype 11 = .ok (.getfield 40, 3) := by decide +kernel
theorem dX6_genotype_14 : decode cX6_genotype 14 = .ok (.ifCond .eq 37, 3) := by decide +kernel
theorem dX6_genotype_17 : decode cX6_genotype 17 = .ok (.iload_n 1, 1) := by decide +kernel
theorem dX6_genotype_18 : decode cX6_genotype 18 = .ok (.iconst 2, 1) := by decide +kernel
theorem dX6_genotype_19 : decode cX6_genotype 19 = .ok (.invokestatic 67, 3) := by decide +kernel
theorem dX6_genotype_22 : decode cX6_genotype 22 = .ok (.ifCond .ne 29, 3) := by decide +kernel
theorem dX6_genotype_25 : decode cX6_genotype 25 = .ok (.iload_n 2, 1) := by decide +kernel
theorem dX6_genotype_26 : decode cX6_genotype 26 = .ok (.iconst 1, 1) := by decide +kernel
theorem dX6_genotype_27 : decode cX6_genotype 27 = .ok (.iadd, 1) := by decide +kernel
theorem dX6_genotype_28 : decode cX6_genotype 28 = .ok (.iload 5, 2) := by decide +kernel
theorem dX6_genotype_30 : decode cX6_genotype 30 = .ok (.iconst 1, 1) := by decide +kernel
theorem dX6_genotype_31 : decode cX6_genotype 31 = .ok (.iadd, 1) := by decide +kernel
theorem dX6_genotype_32 : decode cX6_genotype 32 = .ok (.invokestatic 67, 3) := by decide +kernel
theorem dX6_genotype_35 : decode cX6_genotype 35 = .ok (.ifCond .ne 16, 3) := by decide +kernel
theorem dX6_genotype_38 : decode cX6_genotype 38 = .ok (.iload_n 3, 1) := by decide +kernel
theorem dX6_genotype_39 : decode cX6_genotype 39 = .ok (.iconst 1, 1) := by decide +kernel
theorem dX6_genotype_40 : decode cX6_genotype 40 = .ok (.iadd, 1) := by decide +kernel
theorem dX6_genotype_41 : decode cX6_genotype 41 = .ok (.iload 5, 2) := by decide +kernel
theorem dX6_genotype_43 : decode cX6_genotype 43 = .ok (.iconst 1, 1) := by decide +kernel
theorem dX6_genotype_44 : decode cX6_genotype 44 = .ok (.iadd, 1) := by decide +kernel
theorem dX6_genotype_45 : decode cX6_genotype 45 = .ok (.invokestatic 67, 3) := by decide +kernel
theorem dX6_genotype_48 : decode cX6_genotype 48 = .ok (.ifCond .eq 7, 3) := by decide +kernel
theorem dX6_genotype_51 : decode cX6_genotype 51 = .ok (.iconst 1, 1) := by decide +kernel
theorem dX6_genotype_52 : decode cX6_genotype 52 = .ok (.goto 4, 3) := by decide +kernel
theorem dX6_genotype_55 : decode cX6_genotype 55 = .ok (.iconst 0, 1) := by decide +kernel
theorem dX6_genotype_56 : decode cX6_genotype 56 = .ok (.iconst 0, 1) := by decide +kernel
theorem dX6_genotype_57 : decode cX6_genotype 57 = .ok (.invokevirtual 47, 3) := by decide +kernel
theorem dX6_genotype_60 : decode cX6_genotype 60 = .ok (.ifCond .eq 4, 3) := by decide +kernel
theorem dX6_genotype_63 : decode cX6_genotype 63 = .ok (.return_, 1) := by decide +kernel
theorem dX6_genotype_64 : decode cX6_genotype 64 = .ok (.aload_n 0, 1) := by decide +kernel
theorem dX6_genotype_65 : decode cX6_genotype 65 = .ok (.bipush 24, 2) := by decide +kernel
theorem dX6_genotype_67 : decode cX6_genotype 67 = .ok (.bipush 15, 2) := by decide +kernel
theorem dX6_genotype_69 : decode cX6_genotype 69 = .ok (.iconst 3, 1) := by decide +kernel
theorem dX6_genotype_70 : decode cX6_genotype 70 = .ok (.iload_n 1, 1) := by decide +kernel
theorem dX6_genotype_71 : decode cX6_genotype 71 = .ok (.imul, 1) := by decide +kernel
theorem dX6_genotype_72 : decode cX6_genotype 72 = .ok (.iadd, 1) := by decide +kernel
theorem dX6_genotype_73 : decode cX6_genotype 73 = .ok (.iload_n 2, 1) := by decide +kernel
theorem dX6_genotype_74 : decode cX6_genotype 74 = .ok (.invokevirtual 29, 3) := by decide +kernel
theorem dX6_genotype_77 : decode cX6_genotype 77 = .ok (.aload_n 0, 1) := by decide +kernel
theorem dX6_genotype_78 : decode cX6_genotype 78 = .ok (.bipush 24, 2) := by decide +kernel
theorem dX6_genotype_80 : decode cX6_genotype 80 = .ok (.bipush 15, 2) := by decide +kernel
theorem dX6_genotype_82 : decode cX6_genotype 82 = .ok (.iconst 3, 1) := by decide +kernel
theorem dX6_genotype_83 : decode cX6_genotype 83 = .ok (.iload_n 1, 1) := by decide +kernel
theorem dX6_genotype_84 : decode cX6_genotype 84 = .ok (.imul, 1) := by decide +kernel
theorem dX6_genotype_85 : decode cX6_genotype 85 = .ok (.iadd, 1) := by decide +kernel
theorem dX6_genotype_86 : decode cX6_genotype 86 = .ok (.iconst 1, 1) := by decide +kernel
theorem dX6_genotype_87 : decode cX6_genotype 87 = .ok (.iadd, 1) := by decide +kernel
theorem dX6_genotype_88 : decode cX6_genotype 88 = .ok (.iload_n 3, 1) := by decide +kernel
theorem dX6_genotype_89 : decode cX6_genotype 89 = .ok (.invokevirtual 29, 3) := by decide +kernel
theorem dX6_genotype_92 : decode cX6_genotype 92 = .ok (.aload_n 0, 1) := by decide +kernel
theorem dX6_genotype_93 : decode cX6_genotype 93 = .ok (.bipush 24, 2) := by decide +kernel
theorem dX6_genotype_95 : decode cX6_genotype 95 = .ok (.bipush 15, 2) := by decide +kernel
theorem dX6_genotype_97 : decode cX6_genotype 97 = .ok (.iconst 3, 1) := by decide +kernel
theorem dX6_genotype_98 : decode cX6_genotype 98 = .ok (.iload_n 1, 1) := by decide +kernel
theorem dX6_genotype_99 : decode cX6_genotype 99 = .ok (.imul, 1) := by decide +kernel
theorem dX6_genotype_100 : decode cX6_genotype 100 = .ok (.iadd, 1) := by decide +kernel
theorem dX6_genotype_101 : decode cX6_genotype 101 = .ok (.iconst 2, 1) := by decide +kernel
theorem dX6_genotype_102 : decode cX6_genotype 102 = .ok (.iadd, 1) := by decide +kernel
theorem dX6_genotype_103 : decode cX6_genotype 103 = .ok (.iload 4, 2) := by decide +kernel
theorem dX6_genotype_105 : decode cX6_genotype 105 = .ok (.ifCond .eq 7, 3) := by decide +kernel
theorem dX6_genotype_108 : decode cX6_genotype 108 = .ok (.iconst 1, 1) := by decide +kernel
theorem dX6_genotype_109 : decode cX6_genotype 109 = .ok (.goto 4, 3) := by decide +kernel
theorem dX6_genotype_112 : decode cX6_genotype 112 = .ok (.iconst 0, 1) := by decide +kernel
theorem dX6_genotype_113 : decode cX6_genotype 113 = .ok (.invokevirtual 29, 3) := by decide +kernel
theorem dX6_genotype_116 : decode cX6_genotype 116 = .ok (.return_, 1) := by decide +kernel
theorem dX6_likelihood_0 : decode cX6_likelihood 0 = .ok (.aload_n 0, 1) := by decide +kernel
theorem dX6_likelihood_1 : decode cX6_likelihood 1 = .ok (.aload_n 0, 1) := by decide +kernel
theorem dX6_likelihood_2 : decode cX6_likelihood 2 = .ok (.getfield 40, 3) := by decide +kernel
theorem dX6_likelihood_5 : decode cX6_likelihood 5 = .ok (.ifCond .eq 38, 3) := by decide +kernel
theorem dX6_likelihood_8 : decode cX6_likelihood 8 = .ok (.iload_n 1, 1) := by decide +kernel
theorem dX6_likelihood_9 : decode cX6_likelihood 9 = .ok (.iconst 2, 1) := by decide +kernel
theorem dX6_likelihood_10 : decode cX6_likelihood 10 = .ok (.invokestatic 67, 3) := by decide +kernel
theorem dX6_likelihood_13 : decode cX6_likelihood 13 = .ok (.ifCond .ne 30, 3) := by decide +kernel
theorem dX6_likelihood_16 : decode cX6_likelihood 16 = .ok (.iload_n 2, 1) := by decide +kernel
theorem dX6_likelihood_17 : decode cX6_likelihood 17 = .ok (.aload_n 0, 1) := by decide +kernel
theorem dX6_likelihood_18 : decode cX6_likelihood 18 = .ok (.bipush 24, 2) := by decide +kernel
theorem dX6_likelihood_20 : decode cX6_likelihood 20 = .ok (.iconst 1, 1) := by decide +kernel
theorem dX6_likelihood_21 : decode cX6_likelihood 21 = .ok (.invokevirtual 33, 3) := by decide +kernel
theorem dX6_likelihood_24 : decode cX6_likelihood 24 = .ok (.invokestatic 70, 3) := by decide +kernel
theorem dX6_likelihood_27 : decode cX6_likelihood 27 = .ok (.invokestatic 67, 3) := by decide +kernel
theorem dX6_likelihood_30 : decode cX6_likelihood 30 = .ok (.ifCond .ne 13, 3) := by decide +kernel
theorem dX6_likelihood_33 : decode cX6_likelihood 33 = .ok (.iload_n 3, 1) := by decide +kernel
theorem dX6_likelihood_34 : decode cX6_likelihood 34 = .ok (.sipush 1000, 3) := by decide +kernel
theorem dX6_likelihood_37 : decode cX6_likelihood 37 = .ok (.invokestatic 67, 3) := by decide +kernel
theorem dX6_likelihood_40 : decode cX6_likelihood 40 = .ok (.ifCond .eq 7, 3) := by decide +kernel
theorem dX6_likelihood_43 : decode cX6_likelihood 43 = .ok (.iconst 1, 1) := by decide +kernel
theorem dX6_likelihood_44 : decode cX6_likelihood 44 = .ok (.goto 4, 3) := by decide +kernel
theorem dX6_likelihood_47 : decode cX6_likelihood 47 = .ok (.iconst 0, 1) := by decide +kernel
theorem dX6_likelihood_48 : decode cX6_likelihood 48 = .ok (.iconst 0, 1) := by decide +kernel
theorem dX6_likelihood_49 : decode cX6_likelihood 49 = .ok (.invokevirtual 47, 3) := by decide +kernel
theorem dX6_likelihood_52 : decode cX6_likelihood 52 = .ok (.ifCond .eq 4, 3) := by decide +kernel
theorem dX6_likelihood_55 : decode cX6_likelihood 55 = .ok (.return_, 1) := by decide +kernel
theorem dX6_likelihood_56 : decode cX6_likelihood 56 = .ok (.aload_n 0, 1) := by decide +kernel
theorem dX6_likelihood_57 : decode cX6_likelihood 57 = .ok (.bipush 24, 2) := by decide +kernel
theorem dX6_likelihood_59 : decode cX6_likelihood 59 = .ok (.bipush 21, 2) := by decide +kernel
theorem dX6_likelihood_61 : decode cX6_likelihood 61 = .ok (.bipush 10, 2) := by decide +kernel
theorem dX6_likelihood_63 : decode cX6_likelihood 63 = .ok (.iload_n 1, 1) := by decide +kernel
theorem dX6_likelihood_64 : decode cX6_likelihood 64 = .ok (.imul, 1) := by decide +kernel
theorem dX6_likelihood_65 : decode cX6_likelihood 65 = .ok (.iadd, 1) := by decide +kernel
theorem dX6_likelihood_66 : decode cX6_likelihood 66 = .ok (.iload_n 2, 1) := by decide +kernel
theorem dX6_likelihood_67 : decode cX6_likelihood 67 = .ok (.iadd, 1) := by decide +kernel
theorem dX6_likelihood_68 : decode cX6_likelihood 68 = .ok (.iload_n 3, 1) := by decide +kernel
theorem dX6_likelihood_69 : decode cX6_likelihood 69 = .ok (.invokevirtual 29, 3) := by decide +kernel
theorem dX6_likelihood_72 : decode cX6_likelihood 72 = .ok (.return_, 1) := by decide +kernel
theorem dX6_add_0 : decode cX6_add 0 = .ok (.aload_n 0, 1) := by decide +kernel
theorem dX6_add_1 : decode cX6_add 1 = .ok (.aload_n 0, 1) := by decide +kernel
theorem dX6_add_2 : decode cX6_add 2 = .ok (.getfield 40, 3) := by decide +kernel
theorem dX6_add_5 : decode cX6_add 5 = .ok (.ifCond .eq 23, 3) := by decide +kernel
theorem dX6_add_8 : decode cX6_add 8 = .ok (.aload_n 0, 1) := by decide +kernel
theorem dX6_add_9 : decode cX6_add 9 = .ok (.bipush 24, 2) := by decide +kernel
theorem dX6_add_11 : decode cX6_add 11 = .ok (.iconst 1, 1) := by decide +kernel
theorem dX6_add_12 : decode cX6_add 12 = .ok (.invokevirtual 33, 3) := by decide +kernel
theorem dX6_add_15 : decode cX6_add 15 = .ok (.iconst 2, 1) := by decide +kernel
theorem dX6_add_16 : decode cX6_add 16 = .ok (.if_icmp .lt 12, 3) := by decide +kernel
theorem dX6_add_19 : decode cX6_add 19 = .ok (.aload_n 0, 1) := by decide +kernel
theorem dX6_add_20 : decode cX6_add 20 = .ok (.getfield 44, 3) := by decide +kernel
theorem dX6_add_23 : decode cX6_add 23 = .ok (.bipush 24, 2) := by decide +kernel
theorem dX6_add_25 : decode cX6_add 25 = .ok (.if_icmp .ne 7, 3) := by decide +kernel
theorem dX6_add_28 : decode cX6_add 28 = .ok (.iconst 1, 1) := by decide +kernel
theorem dX6_add_29 : decode cX6_add 29 = .ok (.goto 4, 3) := by decide +kernel
theorem dX6_add_32 : decode cX6_add 32 = .ok (.iconst 0, 1) := by decide +kernel
theorem dX6_add_33 : decode cX6_add 33 = .ok (.iconst 0, 1) := by decide +kernel
theorem dX6_add_34 : decode cX6_add 34 = .ok (.invokevirtual 47, 3) := by decide +kernel
theorem dX6_add_37 : decode cX6_add 37 = .ok (.ifCond .eq 5, 3) := by decide +kernel
theorem dX6_add_40 : decode cX6_add 40 = .ok (.iconst 0, 1) := by decide +kernel
theorem dX6_add_41 : decode cX6_add 41 = .ok (.ireturn, 1) := by decide +kernel
theorem dX6_add_42 : decode cX6_add 42 = .ok (.aload_n 0, 1) := by decide +kernel
theorem dX6_add_43 : decode cX6_add 43 = .ok (.iconst 0, 1) := by decide +kernel
theorem dX6_add_44 : decode cX6_add 44 = .ok (.putfield 40, 3) := by decide +kernel
theorem dX6_add_47 : decode cX6_add 47 = .ok (.aload_n 0, 1) := by decide +kernel
theorem dX6_add_48 : decode cX6_add 48 = .ok (.bipush 24, 2) := by decide +kernel
theorem dX6_add_50 : decode cX6_add 50 = .ok (.invokevirtual 74, 3) := by decide +kernel
theorem dX6_add_53 : decode cX6_add 53 = .ok (.ireturn, 1) := by decide +kernel
theorem dX6_enter_0 : decode cX6_enter 0 = .ok (.iconst 0, 1) := by decide +kernel
theorem dX6_enter_1 : decode cX6_enter 1 = .ok (.istore_n 2, 1) := by decide +kernel
theorem dX6_enter_2 : decode cX6_enter 2 = .ok (.iload_n 2, 1) := by decide +kernel
theorem dX6_enter_3 : decode cX6_enter 3 = .ok (.aload_n 0, 1) := by decide +kernel
theorem dX6_enter_4 : decode cX6_enter 4 = .ok (.getfield 44, 3) := by decide +kernel
theorem dX6_enter_7 : decode cX6_enter 7 = .ok (.if_icmp .ge 24, 3) := by decide +kernel
theorem dX6_enter_10 : decode cX6_enter 10 = .ok (.aload_n 0, 1) := by decide +kernel
theorem dX6_enter_11 : decode cX6_enter 11 = .ok (.iload_n 2, 1) := by decide +kernel
theorem dX6_enter_12 : decode cX6_enter 12 = .ok (.iconst 0, 1) := by decide +kernel
theorem dX6_enter_13 : decode cX6_enter 13 = .ok (.invokevirtual 33, 3) := by decide +kernel
theorem dX6_enter_16 : decode cX6_enter 16 = .ok (.aload_n 0, 1) := by decide +kernel
theorem dX6_enter_17 : decode cX6_enter 17 = .ok (.iload_n 1, 1) := by decide +kernel
theorem dX6_enter_18 : decode cX6_enter 18 = .ok (.iconst 0, 1) := by decide +kernel
theorem dX6_enter_19 : decode cX6_enter 19 = .ok (.invokevirtual 33, 3) := by decide +kernel
theorem dX6_enter_22 : decode cX6_enter 22 = .ok (.if_icmp .gt 9, 3) := by decide +kernel
theorem dX6_enter_25 : decode cX6_enter 25 = .ok (.iinc 2 1, 3) := by decide +kernel
theorem dX6_enter_28 : decode cX6_enter 28 = .ok (.goto (-26), 3) := by decide +kernel
theorem dX6_enter_31 : decode cX6_enter 31 = .ok (.aload_n 0, 1) := by decide +kernel
theorem dX6_enter_32 : decode cX6_enter 32 = .ok (.iload_n 2, 1) := by decide +kernel
theorem dX6_enter_33 : decode cX6_enter 33 = .ok (.invokevirtual 77, 3) := by decide +kernel
theorem dX6_enter_36 : decode cX6_enter 36 = .ok (.aload_n 0, 1) := by decide +kernel
theorem dX6_enter_37 : decode cX6_enter 37 = .ok (.iload_n 1, 1) := by decide +kernel
theorem dX6_enter_38 : decode cX6_enter 38 = .ok (.iload_n 2, 1) := by decide +kernel
theorem dX6_enter_39 : decode cX6_enter 39 = .ok (.invokevirtual 81, 3) := by decide +kernel
theorem dX6_enter_42 : decode cX6_enter 42 = .ok (.iload_n 2, 1) := by decide +kernel
theorem dX6_enter_43 : decode cX6_enter 43 = .ok (.ireturn, 1) := by decide +kernel
theorem dX6_open_0 : decode cX6_open 0 = .ok (.aload_n 0, 1) := by decide +kernel
theorem dX6_open_1 : decode cX6_open 1 = .ok (.getfield 44, 3) := by decide +kernel
theorem dX6_open_4 : decode cX6_open 4 = .ok (.istore_n 2, 1) := by decide +kernel
theorem dX6_open_5 : decode cX6_open 5 = .ok (.iload_n 2, 1) := by decide +kernel
theorem dX6_open_6 : decode cX6_open 6 = .ok (.iload_n 1, 1) := by decide +kernel
theorem dX6_open_7 : decode cX6_open 7 = .ok (.if_icmp .le 17, 3) := by decide +kernel
theorem dX6_open_10 : decode cX6_open 10 = .ok (.aload_n 0, 1) := by decide +kernel
theorem dX6_open_11 : decode cX6_open 11 = .ok (.iload_n 2, 1) := by decide +kernel
theorem dX6_open_12 : decode cX6_open 12 = .ok (.iconst 1, 1) := by decide +kernel
theorem dX6_open_13 : decode cX6_open 13 = .ok (.isub, 1) := by decide +kernel
theorem dX6_open_14 : decode cX6_open 14 = .ok (.iload_n 2, 1) := by decide +kernel
theorem dX6_open_15 : decode cX6_open 15 = .ok (.invokevirtual 81, 3) := by decide +kernel
theorem dX6_open_18 : decode cX6_open 18 = .ok (.iinc 2 (-1), 3) := by decide +kernel
theorem dX6_open_21 : decode cX6_open 21 = .ok (.goto (-16), 3) := by decide +kernel
theorem dX6_open_24 : decode cX6_open 24 = .ok (.aload_n 0, 1) := by decide +kernel
theorem dX6_open_25 : decode cX6_open 25 = .ok (.dup, 1) := by decide +kernel
theorem dX6_open_26 : decode cX6_open 26 = .ok (.getfield 44, 3) := by decide +kernel
theorem dX6_open_29 : decode cX6_open 29 = .ok (.iconst 1, 1) := by decide +kernel
theorem dX6_open_30 : decode cX6_open 30 = .ok (.iadd, 1) := by decide +kernel
theorem dX6_open_31 : decode cX6_open 31 = .ok (.putfield 44, 3) := by decide +kernel
theorem dX6_open_34 : decode cX6_open 34 = .ok (.return_, 1) := by decide +kernel
theorem dX6_close_0 : decode cX6_close 0 = .ok (.aload_n 0, 1) := by decide +kernel
theorem dX6_close_1 : decode cX6_close 1 = .ok (.dup, 1) := by decide +kernel
theorem dX6_close_2 : decode cX6_close 2 = .ok (.getfield 44, 3) := by decide +kernel
theorem dX6_close_5 : decode cX6_close 5 = .ok (.iconst 1, 1) := by decide +kernel
theorem dX6_close_6 : decode cX6_close 6 = .ok (.isub, 1) := by decide +kernel
theorem dX6_close_7 : decode cX6_close 7 = .ok (.putfield 44, 3) := by decide +kernel
theorem dX6_close_10 : decode cX6_close 10 = .ok (.iload_n 1, 1) := by decide +kernel
theorem dX6_close_11 : decode cX6_close 11 = .ok (.istore_n 2, 1) := by decide +kernel
theorem dX6_close_12 : decode cX6_close 12 = .ok (.iload_n 2, 1) := by decide +kernel
theorem dX6_close_13 : decode cX6_close 13 = .ok (.aload_n 0, 1) := by decide +kernel
theorem dX6_close_14 : decode cX6_close 14 = .ok (.getfield 44, 3) := by decide +kernel
theorem dX6_close_17 : decode cX6_close 17 = .ok (.if_icmp .ge 17, 3) := by decide +kernel
theorem dX6_close_20 : decode cX6_close 20 = .ok (.aload_n 0, 1) := by decide +kernel
theorem dX6_close_21 : decode cX6_close 21 = .ok (.iload_n 2, 1) := by decide +kernel
theorem dX6_close_22 : decode cX6_close 22 = .ok (.iconst 1, 1) := by decide +kernel
theorem dX6_close_23 : decode cX6_close 23 = .ok (.iadd, 1) := by decide +kernel
theorem dX6_close_24 : decode cX6_close 24 = .ok (.iload_n 2, 1) := by decide +kernel
theorem dX6_close_25 : decode cX6_close 25 = .ok (.invokevirtual 81, 3) := by decide +kernel
theorem dX6_close_28 : decode cX6_close 28 = .ok (.iinc 2 1, 3) := by decide +kernel
theorem dX6_close_31 : decode cX6_close 31 = .ok (.goto (-19), 3) := by decide +kernel
theorem dX6_close_34 : decode cX6_close 34 = .ok (.return_, 1) := by decide +kernel
theorem dX6_remove_0 : decode cX6_remove 0 = .ok (.aload_n 0, 1) := by decide +kernel
theorem dX6_remove_1 : decode cX6_remove 1 = .ok (.iload_n 1, 1) := by decide +kernel
theorem dX6_remove_2 : decode cX6_remove 2 = .ok (.aload_n 0, 1) := by decide +kernel
theorem dX6_remove_3 : decode cX6_remove 3 = .ok (.getfield 44, 3) := by decide +kernel
theorem dX6_remove_6 : decode cX6_remove 6 = .ok (.invokestatic 67, 3) := by decide +kernel
theorem dX6_remove_9 : decode cX6_remove 9 = .ok (.iconst 0, 1) := by decide +kernel
theorem dX6_remove_10 : decode cX6_remove 10 = .ok (.invokevirtual 47, 3) := by decide +kernel
theorem dX6_remove_13 : decode cX6_remove 13 = .ok (.ifCond .ne 8, 3) := by decide +kernel
theorem dX6_remove_16 : decode cX6_remove 16 = .ok (.aload_n 0, 1) := by decide +kernel
theorem dX6_remove_17 : decode cX6_remove 17 = .ok (.iload_n 1, 1) := by decide +kernel
theorem dX6_remove_18 : decode cX6_remove 18 = .ok (.invokevirtual 84, 3) := by decide +kernel
theorem dX6_remove_21 : decode cX6_remove 21 = .ok (.return_, 1) := by decide +kernel
theorem dX6_shortest_0 : decode cX6_shortest 0 = .ok (.bipush 9, 2) := by decide +kernel
theorem dX6_shortest_2 : decode cX6_shortest 2 = .ok (.istore_n 2, 1) := by decide +kernel
theorem dX6_shortest_3 : decode cX6_shortest 3 = .ok (.iconst 0, 1) := by decide +kernel
theorem dX6_shortest_4 : decode cX6_shortest 4 = .ok (.istore_n 3, 1) := by decide +kernel
theorem dX6_shortest_5 : decode cX6_shortest 5 = .ok (.iload_n 3, 1) := by decide +kernel
theorem dX6_shortest_6 : decode cX6_shortest 6 = .ok (.aload_n 0, 1) := by decide +kernel
theorem dX6_shortest_7 : decode cX6_shortest 7 = .ok (.iload_n 1, 1) := by decide +kernel
theorem dX6_shortest_8 : decode cX6_shortest 8 = .ok (.iconst 1, 1) := by decide +kernel
theorem dX6_shortest_9 : decode cX6_shortest 9 = .ok (.invokevirtual 33, 3) := by decide +kernel
theorem dX6_shortest_12 : decode cX6_shortest 12 = .ok (.if_icmp .ge 34, 3) := by decide +kernel
theorem dX6_shortest_15 : decode cX6_shortest 15 = .ok (.aload_n 0, 1) := by decide +kernel
theorem dX6_shortest_16 : decode cX6_shortest 16 = .ok (.iload_n 1, 1) := by decide +kernel
theorem dX6_shortest_17 : decode cX6_shortest 17 = .ok (.iconst 2, 1) := by decide +kernel
theorem dX6_shortest_18 : decode cX6_shortest 18 = .ok (.iload_n 3, 1) := by decide +kernel
theorem dX6_shortest_19 : decode cX6_shortest 19 = .ok (.iadd, 1) := by decide +kernel
theorem dX6_shortest_20 : decode cX6_shortest 20 = .ok (.invokevirtual 33, 3) := by decide +kernel
theorem dX6_shortest_23 : decode cX6_shortest 23 = .ok (.iload_n 2, 1) := by decide +kernel
theorem dX6_shortest_24 : decode cX6_shortest 24 = .ok (.if_icmp .ge 14, 3) := by decide +kernel
theorem dX6_shortest_27 : decode cX6_shortest 27 = .ok (.aload_n 0, 1) := by decide +kernel
theorem dX6_shortest_28 : decode cX6_shortest 28 = .ok (.iload_n 1, 1) := by decide +kernel
theorem dX6_shortest_29 : decode cX6_shortest 29 = .ok (.iconst 2, 1) := by decide +kernel
theorem dX6_shortest_30 : decode cX6_shortest 30 = .ok (.iload_n 3, 1) := by decide +kernel
theorem dX6_shortest_31 : decode cX6_shortest 31 = .ok (.iadd, 1) := by decide +kernel
theorem dX6_shortest_32 : decode cX6_shortest 32 = .ok (.invokevirtual 33, 3) := by decide +kernel
theorem dX6_shortest_35 : decode cX6_shortest 35 = .ok (.goto 4, 3) := by decide +kernel
theorem dX6_shortest_38 : decode cX6_shortest 38 = .ok (.iload_n 2, 1) := by decide +kernel
theorem dX6_shortest_39 : decode cX6_shortest 39 = .ok (.istore_n 2, 1) := by decide +kernel
theorem dX6_shortest_40 : decode cX6_shortest 40 = .ok (.iinc 3 1, 3) := by decide +kernel
theorem dX6_shortest_43 : decode cX6_shortest 43 = .ok (.goto (-38), 3) := by decide +kernel
theorem dX6_shortest_46 : decode cX6_shortest 46 = .ok (.iload_n 2, 1) := by decide +kernel
theorem dX6_shortest_47 : decode cX6_shortest 47 = .ok (.ireturn, 1) := by decide +kernel
theorem dX6_same_0 : decode cX6_same 0 = .ok (.iconst 1, 1) := by decide +kernel
theorem dX6_same_1 : decode cX6_same 1 = .ok (.istore_n 3, 1) := by decide +kernel
theorem dX6_same_2 : decode cX6_same 2 = .ok (.iconst 1, 1) := by decide +kernel
theorem dX6_same_3 : decode cX6_same 3 = .ok (.istore 4, 2) := by decide +kernel
theorem dX6_same_5 : decode cX6_same 5 = .ok (.iload 4, 2) := by decide +kernel
theorem dX6_same_7 : decode cX6_same 7 = .ok (.aload_n 0, 1) := by decide +kernel
theorem dX6_same_8 : decode cX6_same 8 = .ok (.iload_n 1, 1) := by decide +kernel
theorem dX6_same_9 : decode cX6_same 9 = .ok (.iconst 1, 1) := by decide +kernel
theorem dX6_same_10 : decode cX6_same 10 = .ok (.invokevirtual 33, 3) := by decide +kernel
theorem dX6_same_13 : decode cX6_same 13 = .ok (.if_icmp .ge 37, 3) := by decide +kernel
theorem dX6_same_16 : decode cX6_same 16 = .ok (.iload_n 3, 1) := by decide +kernel
theorem dX6_same_17 : decode cX6_same 17 = .ok (.ifCond .eq 25, 3) := by decide +kernel
theorem dX6_same_20 : decode cX6_same 20 = .ok (.aload_n 0, 1) := by decide +kernel
theorem dX6_same_21 : decode cX6_same 21 = .ok (.iload_n 1, 1) := by decide +kernel
theorem dX6_same_22 : decode cX6_same 22 = .ok (.iload 4, 2) := by decide +kernel
theorem dX6_same_24 : decode cX6_same 24 = .ok (.iload_n 2, 1) := by decide +kernel
theorem dX6_same_25 : decode cX6_same 25 = .ok (.invokevirtual 87, 3) := by decide +kernel
theorem dX6_same_28 : decode cX6_same 28 = .ok (.aload_n 0, 1) := by decide +kernel
theorem dX6_same_29 : decode cX6_same 29 = .ok (.iload_n 1, 1) := by decide +kernel
theorem dX6_same_30 : decode cX6_same 30 = .ok (.iconst 0, 1) := by decide +kernel
theorem dX6_same_31 : decode cX6_same 31 = .ok (.iload_n 2, 1) := by decide +kernel
theorem dX6_same_32 : decode cX6_same 32 = .ok (.invokevirtual 87, 3) := by decide +kernel
theorem dX6_same_35 : decode cX6_same 35 = .ok (.if_icmp .ne 7, 3) := by decide +kernel
theorem dX6_same_38 : decode cX6_same 38 = .ok (.iconst 1, 1) := by decide +kernel
theorem dX6_same_39 : decode cX6_same 39 = .ok (.goto 4, 3) := by decide +kernel
theorem dX6_same_42 : decode cX6_same 42 = .ok (.iconst 0, 1) := by decide +kernel
theorem dX6_same_43 : decode cX6_same 43 = .ok (.istore_n 3, 1) := by decide +kernel
theorem dX6_same_44 : decode cX6_same 44 = .ok (.iinc 4 1, 3) := by decide +kernel
theorem dX6_same_47 : decode cX6_same 47 = .ok (.goto (-42), 3) := by decide +kernel
theorem dX6_same_50 : decode cX6_same 50 = .ok (.iload_n 3, 1) := by decide +kernel
theorem dX6_same_51 : decode cX6_same 51 = .ok (.ireturn, 1) := by decide +kernel
theorem dX6_edge_0 : decode cX6_edge 0 = .ok (.aload_n 0, 1) := by decide +kernel
theorem dX6_edge_1 : decode cX6_edge 1 = .ok (.iload_n 1, 1) := by decide +kernel
theorem dX6_edge_2 : decode cX6_edge 2 = .ok (.bipush 6, 2) := by decide +kernel
theorem dX6_edge_4 : decode cX6_edge 4 = .ok (.iload_n 2, 1) := by decide +kernel
theorem dX6_edge_5 : decode cX6_edge 5 = .ok (.iadd, 1) := by decide +kernel
theorem dX6_edge_6 : decode cX6_edge 6 = .ok (.invokevirtual 33, 3) := by decide +kernel
theorem dX6_edge_9 : decode cX6_edge 9 = .ok (.istore 4, 2) := by decide +kernel
theorem dX6_edge_11 : decode cX6_edge 11 = .ok (.iload_n 3, 1) := by decide +kernel
theorem dX6_edge_12 : decode cX6_edge 12 = .ok (.ifCond .eq 23, 3) := by decide +kernel
theorem dX6_edge_15 : decode cX6_edge 15 = .ok (.iload 4, 2) := by decide +kernel
theorem dX6_edge_17 : decode cX6_edge 17 = .ok (.iconst 2, 1) := by decide +kernel
theorem dX6_edge_18 : decode cX6_edge 18 = .ok (.aload_n 0, 1) := by decide +kernel
theorem dX6_edge_19 : decode cX6_edge 19 = .ok (.iload_n 1, 1) := by decide +kernel
theorem dX6_edge_20 : decode cX6_edge 20 = .ok (.iconst 2, 1) := by decide +kernel
theorem dX6_edge_21 : decode cX6_edge 21 = .ok (.iload_n 2, 1) := by decide +kernel
theorem dX6_edge_22 : decode cX6_edge 22 = .ok (.iadd, 1) := by decide +kernel
theorem dX6_edge_23 : decode cX6_edge 23 = .ok (.invokevirtual 33, 3) := by decide +kernel
theorem dX6_edge_26 : decode cX6_edge 26 = .ok (.imul, 1) := by decide +kernel
theorem dX6_edge_27 : decode cX6_edge 27 = .ok (.iconst 2, 1) := by decide +kernel
theorem dX6_edge_28 : decode cX6_edge 28 = .ok (.isub, 1) := by decide +kernel
theorem dX6_edge_29 : decode cX6_edge 29 = .ok (.ishr, 1) := by decide +kernel
theorem dX6_edge_30 : decode cX6_edge 30 = .ok (.iconst 3, 1) := by decide +kernel
theorem dX6_edge_31 : decode cX6_edge 31 = .ok (.iand, 1) := by decide +kernel
theorem dX6_edge_32 : decode cX6_edge 32 = .ok (.goto 7, 3) := by decide +kernel
theorem dX6_edge_35 : decode cX6_edge 35 = .ok (.iload 4, 2) := by decide +kernel
theorem dX6_edge_37 : decode cX6_edge 37 = .ok (.iconst 3, 1) := by decide +kernel
theorem dX6_edge_38 : decode cX6_edge 38 = .ok (.iand, 1) := by decide +kernel
theorem dX6_edge_39 : decode cX6_edge 39 = .ok (.ireturn, 1) := by decide +kernel
theorem dX6_step_0 : decode cX6_step 0 = .ok (.aload_n 0, 1) := by decide +kernel
theorem dX6_step_1 : decode cX6_step 1 = .ok (.iload_n 1, 1) := by decide +kernel
theorem dX6_step_2 : decode cX6_step 2 = .ok (.iconst 0, 1) := by decide +kernel
theorem dX6_step_3 : decode cX6_step 3 = .ok (.invokevirtual 33, 3) := by decide +kernel
theorem dX6_step_6 : decode cX6_step 6 = .ok (.istore_n 2, 1) := by decide +kernel
theorem dX6_step_7 : decode cX6_step 7 = .ok (.aload_n 0, 1) := by decide +kernel
theorem dX6_step_8 : decode cX6_step 8 = .ok (.iload_n 1, 1) := by decide +kernel
theorem dX6_step_9 : decode cX6_step 9 = .ok (.invokevirtual 91, 3) := by decide +kernel
theorem dX6_step_12 : decode cX6_step 12 = .ok (.iconst 1, 1) := by decide +kernel
theorem dX6_step_13 : decode cX6_step 13 = .ok (.if_icmp .le 7, 3) := by decide +kernel
theorem dX6_step_16 : decode cX6_step 16 = .ok (.iconst 1, 1) := by decide +kernel
theorem dX6_step_17 : decode cX6_step 17 = .ok (.goto 4, 3) := by decide +kernel
theorem dX6_step_20 : decode cX6_step 20 = .ok (.iconst 0, 1) := by decide +kernel
theorem dX6_step_21 : decode cX6_step 21 = .ok (.istore_n 3, 1) := by decide +kernel
theorem dX6_step_22 : decode cX6_step 22 = .ok (.aload_n 0, 1) := by decide +kernel
theorem dX6_step_23 : decode cX6_step 23 = .ok (.iload_n 1, 1) := by decide +kernel
theorem dX6_step_24 : decode cX6_step 24 = .ok (.iconst 0, 1) := by decide +kernel
theorem dX6_step_25 : decode cX6_step 25 = .ok (.invokevirtual 94, 3) := by decide +kernel
theorem dX6_step_28 : decode cX6_step 28 = .ok (.ifCond .eq 16, 3) := by decide +kernel
theorem dX6_step_31 : decode cX6_step 31 = .ok (.iload_n 3, 1) := by decide +kernel
theorem dX6_step_32 : decode cX6_step 32 = .ok (.ifCond .ne 8, 3) := by decide +kernel
theorem dX6_step_35 : decode cX6_step 35 = .ok (.iload_n 2, 1) := by decide +kernel
theorem dX6_step_36 : decode cX6_step 36 = .ok (.iconst 1, 1) := by decide +kernel
theorem dX6_step_37 : decode cX6_step 37 = .ok (.if_icmp .le 7, 3) := by decide +kernel
theorem dX6_step_40 : decode cX6_step 40 = .ok (.iconst 1, 1) := by decide +kernel
theorem dX6_step_41 : decode cX6_step 41 = .ok (.goto 4, 3) := by decide +kernel
theorem dX6_step_44 : decode cX6_step 44 = .ok (.iconst 0, 1) := by decide +kernel
theorem dX6_step_45 : decode cX6_step 45 = .ok (.istore 4, 2) := by decide +kernel
theorem dX6_step_47 : decode cX6_step 47 = .ok (.iload 4, 2) := by decide +kernel
theorem dX6_step_49 : decode cX6_step 49 = .ok (.ifCond .ne 18, 3) := by decide +kernel
theorem dX6_step_52 : decode cX6_step 52 = .ok (.iload_n 3, 1) := by decide +kernel
theorem dX6_step_53 : decode cX6_step 53 = .ok (.ifCond .eq 12, 3) := by decide +kernel
theorem dX6_step_56 : decode cX6_step 56 = .ok (.aload_n 0, 1) := by decide +kernel
theorem dX6_step_57 : decode cX6_step 57 = .ok (.iload_n 1, 1) := by decide +kernel
theorem dX6_step_58 : decode cX6_step 58 = .ok (.iconst 1, 1) := by decide +kernel
theorem dX6_step_59 : decode cX6_step 59 = .ok (.invokevirtual 94, 3) := by decide +kernel
theorem dX6_step_62 : decode cX6_step 62 = .ok (.ifCond .ne 5, 3) := by decide +kernel
theorem dX6_step_65 : decode cX6_step 65 = .ok (.iconst 0, 1) := by decide +kernel
theorem dX6_step_66 : decode cX6_step 66 = .ok (.ireturn, 1) := by decide +kernel
theorem dX6_step_67 : decode cX6_step 67 = .ok (.iconst 0, 1) := by decide +kernel
theorem dX6_step_68 : decode cX6_step 68 = .ok (.istore 5, 2) := by decide +kernel
theorem dX6_step_70 : decode cX6_step 70 = .ok (.iload 5, 2) := by decide +kernel
theorem dX6_step_72 : decode cX6_step 72 = .ok (.aload_n 0, 1) := by decide +kernel
theorem dX6_step_73 : decode cX6_step 73 = .ok (.iload_n 1, 1) := by decide +kernel
theorem dX6_step_74 : decode cX6_step 74 = .ok (.iconst 1, 1) := by decide +kernel
theorem dX6_step_75 : decode cX6_step 75 = .ok (.invokevirtual 33, 3) := by decide +kernel
theorem dX6_step_78 : decode cX6_step 78 = .ok (.if_icmp .ge 134, 3) := by decide +kernel
theorem dX6_step_81 : decode cX6_step 81 = .ok (.aload_n 0, 1) := by decide +kernel
theorem dX6_step_82 : decode cX6_step 82 = .ok (.iload_n 1, 1) := by decide +kernel
theorem dX6_step_83 : decode cX6_step 83 = .ok (.iconst 2, 1) := by decide +kernel
theorem dX6_step_84 : decode cX6_step 84 = .ok (.iload 5, 2) := by decide +kernel
theorem dX6_step_86 : decode cX6_step 86 = .ok (.iadd, 1) := by decide +kernel
theorem dX6_step_87 : decode cX6_step 87 = .ok (.invokevirtual 33, 3) := by decide +kernel
theorem dX6_step_90 : decode cX6_step 90 = .ok (.iconst 1, 1) := by decide +kernel
theorem dX6_step_91 : decode cX6_step 91 = .ok (.isub, 1) := by decide +kernel
theorem dX6_step_92 : decode cX6_step 92 = .ok (.istore 6, 2) := by decide +kernel
theorem dX6_step_94 : decode cX6_step 94 = .ok (.aload_n 0, 1) := by decide +kernel
theorem dX6_step_95 : decode cX6_step 95 = .ok (.iload_n 1, 1) := by decide +kernel
theorem dX6_step_96 : decode cX6_step 96 = .ok (.bipush 6, 2) := by decide +kernel
theorem dX6_step_98 : decode cX6_step 98 = .ok (.iload 5, 2) := by decide +kernel
theorem dX6_step_100 : decode cX6_step 100 = .ok (.iadd, 1) := by decide +kernel
theorem dX6_step_101 : decode cX6_step 101 = .ok (.invokevirtual 33, 3) := by decide +kernel
theorem dX6_step_104 : decode cX6_step 104 = .ok (.istore 7, 2) := by decide +kernel
theorem dX6_step_106 : decode cX6_step 106 = .ok (.iload 4, 2) := by decide +kernel
theorem dX6_step_108 : decode cX6_step 108 = .ok (.ifCond .eq 10, 3) := by decide +kernel
theorem dX6_step_111 : decode cX6_step 111 = .ok (.iload 7, 2) := by decide +kernel
theorem dX6_step_113 : decode cX6_step 113 = .ok (.iconst 2, 1) := by decide +kernel
theorem dX6_step_114 : decode cX6_step 114 = .ok (.ishr, 1) := by decide +kernel
theorem dX6_step_115 : decode cX6_step 115 = .ok (.goto 14, 3) := by decide +kernel
theorem dX6_step_118 : decode cX6_step 118 = .ok (.iload 7, 2) := by decide +kernel
theorem dX6_step_120 : decode cX6_step 120 = .ok (.iconst 1, 1) := by decide +kernel
theorem dX6_step_121 : decode cX6_step 121 = .ok (.iconst 2, 1) := by decide +kernel
theorem dX6_step_122 : decode cX6_step 122 = .ok (.iload 6, 2) := by decide +kernel
theorem dX6_step_124 : decode cX6_step 124 = .ok (.imul, 1) := by decide +kernel
theorem dX6_step_125 : decode cX6_step 125 = .ok (.ishl, 1) := by decide +kernel
theorem dX6_step_126 : decode cX6_step 126 = .ok (.iconst 1, 1) := by decide +kernel
theorem dX6_step_127 : decode cX6_step 127 = .ok (.isub, 1) := by decide +kernel
theorem dX6_step_128 : decode cX6_step 128 = .ok (.iand, 1) := by decide +kernel
theorem dX6_step_129 : decode cX6_step 129 = .ok (.istore 7, 2) := by decide +kernel
theorem dX6_step_131 : decode cX6_step 131 = .ok (.iload 4, 2) := by decide +kernel
theorem dX6_step_133 : decode cX6_step 133 = .ok (.ifCond .eq 11, 3) := by decide +kernel
theorem dX6_step_136 : decode cX6_step 136 = .ok (.iload_n 3, 1) := by decide +kernel
theorem dX6_step_137 : decode cX6_step 137 = .ok (.ifCond .ne 7, 3) := by decide +kernel
theorem dX6_step_140 : decode cX6_step 140 = .ok (.iconst 1, 1) := by decide +kernel
theorem dX6_step_141 : decode cX6_step 141 = .ok (.goto 4, 3) := by decide +kernel
theorem dX6_step_144 : decode cX6_step 144 = .ok (.iconst 0, 1) := by decide +kernel
theorem dX6_step_145 : decode cX6_step 145 = .ok (.istore 8, 2) := by decide +kernel
theorem dX6_step_147 : decode cX6_step 147 = .ok (.aload_n 0, 1) := by decide +kernel
theorem dX6_step_148 : decode cX6_step 148 = .ok (.iload_n 1, 1) := by decide +kernel
theorem dX6_step_149 : decode cX6_step 149 = .ok (.bipush 6, 2) := by decide +kernel
theorem dX6_step_151 : decode cX6_step 151 = .ok (.iload 5, 2) := by decide +kernel
theorem dX6_step_153 : decode cX6_step 153 = .ok (.iadd, 1) := by decide +kernel
theorem dX6_step_154 : decode cX6_step 154 = .ok (.iload 8, 2) := by decide +kernel
theorem dX6_step_156 : decode cX6_step 156 = .ok (.ifCond .eq 22, 3) := by decide +kernel
theorem dX6_step_159 : decode cX6_step 159 = .ok (.iload 7, 2) := by decide +kernel
theorem dX6_step_161 : decode cX6_step 161 = .ok (.aload_n 0, 1) := by decide +kernel
theorem dX6_step_162 : decode cX6_step 162 = .ok (.getfield 7, 3) := by decide +kernel
theorem dX6_step_165 : decode cX6_step 165 = .ok (.iload_n 2, 1) := by decide +kernel
theorem dX6_step_166 : decode cX6_step 166 = .ok (.iconst 1, 1) := by decide +kernel
theorem dX6_step_167 : decode cX6_step 167 = .ok (.isub, 1) := by decide +kernel
theorem dX6_step_168 : decode cX6_step 168 = .ok (.iaload, 1) := by decide +kernel
theorem dX6_step_169 : decode cX6_step 169 = .ok (.iconst 2, 1) := by decide +kernel
theorem dX6_step_170 : decode cX6_step 170 = .ok (.iload 6, 2) := by decide +kernel
theorem dX6_step_172 : decode cX6_step 172 = .ok (.imul, 1) := by decide +kernel
theorem dX6_step_173 : decode cX6_step 173 = .ok (.ishl, 1) := by decide +kernel
theorem dX6_step_174 : decode cX6_step 174 = .ok (.ior, 1) := by decide +kernel
theorem dX6_step_175 : decode cX6_step 175 = .ok (.goto 5, 3) := by decide +kernel
theorem dX6_step_178 : decode cX6_step 178 = .ok (.iload 7, 2) := by decide +kernel
theorem dX6_step_180 : decode cX6_step 180 = .ok (.invokevirtual 29, 3) := by decide +kernel
theorem dX6_step_183 : decode cX6_step 183 = .ok (.aload_n 0, 1) := by decide +kernel
theorem dX6_step_184 : decode cX6_step 184 = .ok (.iload_n 1, 1) := by decide +kernel
theorem dX6_step_185 : decode cX6_step 185 = .ok (.iconst 2, 1) := by decide +kernel
theorem dX6_step_186 : decode cX6_step 186 = .ok (.iload 5, 2) := by decide +kernel
theorem dX6_step_188 : decode cX6_step 188 = .ok (.iadd, 1) := by decide +kernel
theorem dX6_step_189 : decode cX6_step 189 = .ok (.iload 8, 2) := by decide +kernel
theorem dX6_step_191 : decode cX6_step 191 = .ok (.ifCond .eq 10, 3) := by decide +kernel
theorem dX6_step_194 : decode cX6_step 194 = .ok (.iload 6, 2) := by decide +kernel
theorem dX6_step_196 : decode cX6_step 196 = .ok (.iconst 1, 1) := by decide +kernel
theorem dX6_step_197 : decode cX6_step 197 = .ok (.iadd, 1) := by decide +kernel
theorem dX6_step_198 : decode cX6_step 198 = .ok (.goto 5, 3) := by decide +kernel
theorem dX6_step_201 : decode cX6_step 201 = .ok (.iload 6, 2) := by decide +kernel
theorem dX6_step_203 : decode cX6_step 203 = .ok (.invokevirtual 29, 3) := by decide +kernel
theorem dX6_step_206 : decode cX6_step 206 = .ok (.iinc 5 1, 3) := by decide +kernel
theorem dX6_step_209 : decode cX6_step 209 = .ok (.goto (-139), 3) := by decide +kernel
theorem dX6_step_212 : decode cX6_step 212 = .ok (.aload_n 0, 1) := by decide +kernel
theorem dX6_step_213 : decode cX6_step 213 = .ok (.iload_n 1, 1) := by decide +kernel
theorem dX6_step_214 : decode cX6_step 214 = .ok (.iconst 0, 1) := by decide +kernel
theorem dX6_step_215 : decode cX6_step 215 = .ok (.iload 4, 2) := by decide +kernel
theorem dX6_step_217 : decode cX6_step 217 = .ok (.ifCond .eq 17, 3) := by decide +kernel
theorem dX6_step_220 : decode cX6_step 220 = .ok (.iload_n 3, 1) := by decide +kernel
theorem dX6_step_221 : decode cX6_step 221 = .ok (.ifCond .eq 7, 3) := by decide +kernel
theorem dX6_step_224 : decode cX6_step 224 = .ok (.iload_n 2, 1) := by decide +kernel
theorem dX6_step_225 : decode cX6_step 225 = .ok (.goto 12, 3) := by decide +kernel
theorem dX6_step_228 : decode cX6_step 228 = .ok (.iload_n 2, 1) := by decide +kernel
theorem dX6_step_229 : decode cX6_step 229 = .ok (.iconst 1, 1) := by decide +kernel
theorem dX6_step_230 : decode cX6_step 230 = .ok (.isub, 1) := by decide +kernel
theorem dX6_step_231 : decode cX6_step 231 = .ok (.goto 6, 3) := by decide +kernel
theorem dX6_step_234 : decode cX6_step 234 = .ok (.iload_n 2, 1) := by decide +kernel
theorem dX6_step_235 : decode cX6_step 235 = .ok (.iconst 1, 1) := by decide +kernel
theorem dX6_step_236 : decode cX6_step 236 = .ok (.iadd, 1) := by decide +kernel
theorem dX6_step_237 : decode cX6_step 237 = .ok (.invokevirtual 29, 3) := by decide +kernel
theorem dX6_step_240 : decode cX6_step 240 = .ok (.iconst 1, 1) := by decide +kernel
theorem dX6_step_241 : decode cX6_step 241 = .ok (.ireturn, 1) := by decide +kernel
theorem dX6_normalise_0 : decode cX6_normalise 0 = .ok (.aload_n 0, 1) := by decide +kernel
theorem dX6_normalise_1 : decode cX6_normalise 1 = .ok (.iload_n 1, 1) := by decide +kernel
theorem dX6_normalise_2 : decode cX6_normalise 2 = .ok (.aload_n 0, 1) := by decide +kernel
theorem dX6_normalise_3 : decode cX6_normalise 3 = .ok (.getfield 44, 3) := by decide +kernel
theorem dX6_normalise_6 : decode cX6_normalise 6 = .ok (.invokestatic 67, 3) := by decide +kernel
theorem dX6_normalise_9 : decode cX6_normalise 9 = .ok (.iconst 0, 1) := by decide +kernel
theorem dX6_normalise_10 : decode cX6_normalise 10 = .ok (.invokevirtual 47, 3) := by decide +kernel
theorem dX6_normalise_13 : decode cX6_normalise 13 = .ok (.ifCond .eq 5, 3) := by decide +kernel
theorem dX6_normalise_16 : decode cX6_normalise 16 = .ok (.iconst 0, 1) := by decide +kernel
theorem dX6_normalise_17 : decode cX6_normalise 17 = .ok (.ireturn, 1) := by decide +kernel
theorem dX6_normalise_18 : decode cX6_normalise 18 = .ok (.aload_n 0, 1) := by decide +kernel
theorem dX6_normalise_19 : decode cX6_normalise 19 = .ok (.iload_n 1, 1) := by decide +kernel
theorem dX6_normalise_20 : decode cX6_normalise 20 = .ok (.bipush 25, 2) := by decide +kernel
theorem dX6_normalise_22 : decode cX6_normalise 22 = .ok (.invokevirtual 81, 3) := by decide +kernel
theorem dX6_normalise_25 : decode cX6_normalise 25 = .ok (.iconst 1, 1) := by decide +kernel
theorem dX6_normalise_26 : decode cX6_normalise 26 = .ok (.istore_n 2, 1) := by decide +kernel
theorem dX6_normalise_27 : decode cX6_normalise 27 = .ok (.iload_n 2, 1) := by decide +kernel
theorem dX6_normalise_28 : decode cX6_normalise 28 = .ok (.ifCond .eq 13, 3) := by decide +kernel
theorem dX6_normalise_31 : decode cX6_normalise 31 = .ok (.aload_n 0, 1) := by decide +kernel
theorem dX6_normalise_32 : decode cX6_normalise 32 = .ok (.bipush 25, 2) := by decide +kernel
theorem dX6_normalise_34 : decode cX6_normalise 34 = .ok (.invokevirtual 98, 3) := by decide +kernel
theorem dX6_normalise_37 : decode cX6_normalise 37 = .ok (.istore_n 2, 1) := by decide +kernel
theorem dX6_normalise_38 : decode cX6_normalise 38 = .ok (.goto (-11), 3) := by decide +kernel
theorem dX6_normalise_41 : decode cX6_normalise 41 = .ok (.aload_n 0, 1) := by decide +kernel
theorem dX6_normalise_42 : decode cX6_normalise 42 = .ok (.iload_n 1, 1) := by decide +kernel
theorem dX6_normalise_43 : decode cX6_normalise 43 = .ok (.invokevirtual 84, 3) := by decide +kernel
theorem dX6_normalise_46 : decode cX6_normalise 46 = .ok (.aload_n 0, 1) := by decide +kernel
theorem dX6_normalise_47 : decode cX6_normalise 47 = .ok (.bipush 25, 2) := by decide +kernel
theorem dX6_normalise_49 : decode cX6_normalise 49 = .ok (.invokevirtual 74, 3) := by decide +kernel
theorem dX6_normalise_52 : decode cX6_normalise 52 = .ok (.ireturn, 1) := by decide +kernel
theorem dX6_part_0 : decode cX6_part 0 = .ok (.aload_n 0, 1) := by decide +kernel
theorem dX6_part_1 : decode cX6_part 1 = .ok (.bipush 25, 2) := by decide +kernel
theorem dX6_part_3 : decode cX6_part 3 = .ok (.aload_n 0, 1) := by decide +kernel
theorem dX6_part_4 : decode cX6_part 4 = .ok (.iload_n 1, 1) := by decide +kernel
theorem dX6_part_5 : decode cX6_part 5 = .ok (.iconst 0, 1) := by decide +kernel
theorem dX6_part_6 : decode cX6_part 6 = .ok (.invokevirtual 33, 3) := by decide +kernel
theorem dX6_part_9 : decode cX6_part 9 = .ok (.invokevirtual 53, 3) := by decide +kernel
theorem dX6_part_12 : decode cX6_part 12 = .ok (.aload_n 0, 1) := by decide +kernel
theorem dX6_part_13 : decode cX6_part 13 = .ok (.bipush 25, 2) := by decide +kernel
theorem dX6_part_15 : decode cX6_part 15 = .ok (.aload_n 0, 1) := by decide +kernel
theorem dX6_part_16 : decode cX6_part 16 = .ok (.iload_n 1, 1) := by decide +kernel
theorem dX6_part_17 : decode cX6_part 17 = .ok (.iconst 2, 1) := by decide +kernel
theorem dX6_part_18 : decode cX6_part 18 = .ok (.invokevirtual 33, 3) := by decide +kernel
theorem dX6_part_21 : decode cX6_part 21 = .ok (.aload_n 0, 1) := by decide +kernel
theorem dX6_part_22 : decode cX6_part 22 = .ok (.iload_n 1, 1) := by decide +kernel
theorem dX6_part_23 : decode cX6_part 23 = .ok (.bipush 6, 2) := by decide +kernel
theorem dX6_part_25 : decode cX6_part 25 = .ok (.invokevirtual 33, 3) := by decide +kernel
theorem dX6_part_28 : decode cX6_part 28 = .ok (.invokevirtual 60, 3) := by decide +kernel
theorem dX6_part_31 : decode cX6_part 31 = .ok (.aload_n 0, 1) := by decide +kernel
theorem dX6_part_32 : decode cX6_part 32 = .ok (.bipush 25, 2) := by decide +kernel
theorem dX6_part_34 : decode cX6_part 34 = .ok (.aload_n 0, 1) := by decide +kernel
theorem dX6_part_35 : decode cX6_part 35 = .ok (.iload_n 1, 1) := by decide +kernel
theorem dX6_part_36 : decode cX6_part 36 = .ok (.iconst 2, 1) := by decide +kernel
theorem dX6_part_37 : decode cX6_part 37 = .ok (.iload_n 2, 1) := by decide +kernel
theorem dX6_part_38 : decode cX6_part 38 = .ok (.iadd, 1) := by decide +kernel
theorem dX6_part_39 : decode cX6_part 39 = .ok (.invokevirtual 33, 3) := by decide +kernel
theorem dX6_part_42 : decode cX6_part 42 = .ok (.aload_n 0, 1) := by decide +kernel
theorem dX6_part_43 : decode cX6_part 43 = .ok (.iload_n 1, 1) := by decide +kernel
theorem dX6_part_44 : decode cX6_part 44 = .ok (.bipush 6, 2) := by decide +kernel
theorem dX6_part_46 : decode cX6_part 46 = .ok (.iload_n 2, 1) := by decide +kernel
theorem dX6_part_47 : decode cX6_part 47 = .ok (.iadd, 1) := by decide +kernel
theorem dX6_part_48 : decode cX6_part 48 = .ok (.invokevirtual 33, 3) := by decide +kernel
theorem dX6_part_51 : decode cX6_part 51 = .ok (.invokevirtual 60, 3) := by decide +kernel
theorem dX6_part_54 : decode cX6_part 54 = .ok (.aload_n 0, 1) := by decide +kernel
theorem dX6_part_55 : decode cX6_part 55 = .ok (.bipush 25, 2) := by decide +kernel
theorem dX6_part_57 : decode cX6_part 57 = .ok (.bipush 10, 2) := by decide +kernel
theorem dX6_part_59 : decode cX6_part 59 = .ok (.aload_n 0, 1) := by decide +kernel
theorem dX6_part_60 : decode cX6_part 60 = .ok (.iload_n 1, 1) := by decide +kernel
theorem dX6_part_61 : decode cX6_part 61 = .ok (.bipush 10, 2) := by decide +kernel
theorem dX6_part_63 : decode cX6_part 63 = .ok (.invokevirtual 33, 3) := by decide +kernel
theorem dX6_part_66 : decode cX6_part 66 = .ok (.invokevirtual 29, 3) := by decide +kernel
theorem dX6_part_69 : decode cX6_part 69 = .ok (.aload_n 0, 1) := by decide +kernel
theorem dX6_part_70 : decode cX6_part 70 = .ok (.bipush 25, 2) := by decide +kernel
theorem dX6_part_72 : decode cX6_part 72 = .ok (.bipush 11, 2) := by decide +kernel
theorem dX6_part_74 : decode cX6_part 74 = .ok (.aload_n 0, 1) := by decide +kernel
theorem dX6_part_75 : decode cX6_part 75 = .ok (.iload_n 1, 1) := by decide +kernel
theorem dX6_part_76 : decode cX6_part 76 = .ok (.bipush 11, 2) := by decide +kernel
theorem dX6_part_78 : decode cX6_part 78 = .ok (.invokevirtual 33, 3) := by decide +kernel
theorem dX6_part_81 : decode cX6_part 81 = .ok (.invokevirtual 29, 3) := by decide +kernel
theorem dX6_part_84 : decode cX6_part 84 = .ok (.aload_n 0, 1) := by decide +kernel
theorem dX6_part_85 : decode cX6_part 85 = .ok (.bipush 25, 2) := by decide +kernel
theorem dX6_part_87 : decode cX6_part 87 = .ok (.bipush 12, 2) := by decide +kernel
theorem dX6_part_89 : decode cX6_part 89 = .ok (.aload_n 0, 1) := by decide +kernel
theorem dX6_part_90 : decode cX6_part 90 = .ok (.iload_n 1, 1) := by decide +kernel
theorem dX6_part_91 : decode cX6_part 91 = .ok (.bipush 11, 2) := by decide +kernel
theorem dX6_part_93 : decode cX6_part 93 = .ok (.iload_n 2, 1) := by decide +kernel
theorem dX6_part_94 : decode cX6_part 94 = .ok (.iadd, 1) := by decide +kernel
theorem dX6_part_95 : decode cX6_part 95 = .ok (.invokevirtual 33, 3) := by decide +kernel
theorem dX6_part_98 : decode cX6_part 98 = .ok (.invokevirtual 29, 3) := by decide +kernel
theorem dX6_part_101 : decode cX6_part 101 = .ok (.iconst 0, 1) := by decide +kernel
theorem dX6_part_102 : decode cX6_part 102 = .ok (.istore_n 3, 1) := by decide +kernel
theorem dX6_part_103 : decode cX6_part 103 = .ok (.iload_n 3, 1) := by decide +kernel
theorem dX6_part_104 : decode cX6_part 104 = .ok (.iconst 2, 1) := by decide +kernel
theorem dX6_part_105 : decode cX6_part 105 = .ok (.if_icmp .ge 172, 3) := by decide +kernel
theorem dX6_part_108 : decode cX6_part 108 = .ok (.iconst 0, 1) := by decide +kernel
theorem dX6_part_109 : decode cX6_part 109 = .ok (.istore 4, 2) := by decide +kernel
theorem dX6_part_111 : decode cX6_part 111 = .ok (.iload 4, 2) := by decide +kernel
theorem dX6_part_113 : decode cX6_part 113 = .ok (.iconst 2, 1) := by decide +kernel
theorem dX6_part_114 : decode cX6_part 114 = .ok (.if_icmp .ge 60, 3) := by decide +kernel
theorem dX6_part_117 : decode cX6_part 117 = .ok (.aload_n 0, 1) := by decide +kernel
theorem dX6_part_118 : decode cX6_part 118 = .ok (.iload_n 1, 1) := by decide +kernel
theorem dX6_part_119 : decode cX6_part 119 = .ok (.bipush 15, 2) := by decide +kernel
theorem dX6_part_121 : decode cX6_part 121 = .ok (.iconst 3, 1) := by decide +kernel
theorem dX6_part_122 : decode cX6_part 122 = .ok (.iload_n 3, 1) := by decide +kernel
theorem dX6_part_123 : decode cX6_part 123 = .ok (.imul, 1) := by decide +kernel
theorem dX6_part_124 : decode cX6_part 124 = .ok (.iadd, 1) := by decide +kernel
theorem dX6_part_125 : decode cX6_part 125 = .ok (.iload 4, 2) := by decide +kernel
theorem dX6_part_127 : decode cX6_part 127 = .ok (.iadd, 1) := by decide +kernel
theorem dX6_part_128 : decode cX6_part 128 = .ok (.invokevirtual 33, 3) := by decide +kernel
theorem dX6_part_131 : decode cX6_part 131 = .ok (.istore 5, 2) := by decide +kernel
theorem dX6_part_133 : decode cX6_part 133 = .ok (.aload_n 0, 1) := by decide +kernel
theorem dX6_part_134 : decode cX6_part 134 = .ok (.bipush 25, 2) := by decide +kernel
theorem dX6_part_136 : decode cX6_part 136 = .ok (.bipush 15, 2) := by decide +kernel
theorem dX6_part_138 : decode cX6_part 138 = .ok (.iconst 3, 1) := by decide +kernel
theorem dX6_part_139 : decode cX6_part 139 = .ok (.iload_n 3, 1) := by decide +kernel
theorem dX6_part_140 : decode cX6_part 140 = .ok (.imul, 1) := by decide +kernel
theorem dX6_part_141 : decode cX6_part 141 = .ok (.iadd, 1) := by decide +kernel
theorem dX6_part_142 : decode cX6_part 142 = .ok (.iload 4, 2) := by decide +kernel
theorem dX6_part_144 : decode cX6_part 144 = .ok (.iadd, 1) := by decide +kernel
theorem dX6_part_145 : decode cX6_part 145 = .ok (.iload 5, 2) := by decide +kernel
theorem dX6_part_147 : decode cX6_part 147 = .ok (.ifCond .ge 7, 3) := by decide +kernel
theorem dX6_part_150 : decode cX6_part 150 = .ok (.iconst (-1), 1) := by decide +kernel
theorem dX6_part_151 : decode cX6_part 151 = .ok (.goto 14, 3) := by decide +kernel
theorem dX6_part_154 : decode cX6_part 154 = .ok (.iload 5, 2) := by decide +kernel
theorem dX6_part_156 : decode cX6_part 156 = .ok (.iload_n 2, 1) := by decide +kernel
theorem dX6_part_157 : decode cX6_part 157 = .ok (.if_icmp .ne 7, 3) := by decide +kernel
theorem dX6_part_160 : decode cX6_part 160 = .ok (.iconst 1, 1) := by decide +kernel
theorem dX6_part_161 : decode cX6_part 161 = .ok (.goto 4, 3) := by decide +kernel
theorem dX6_part_164 : decode cX6_part 164 = .ok (.iconst 0, 1) := by decide +kernel
theorem dX6_part_165 : decode cX6_part 165 = .ok (.invokevirtual 29, 3) := by decide +kernel
theorem dX6_part_168 : decode cX6_part 168 = .ok (.iinc 4 1, 3) := by decide +kernel
theorem dX6_part_171 : decode cX6_part 171 = .ok (.goto (-60), 3) := by decide +kernel
theorem dX6_part_174 : decode cX6_part 174 = .ok (.aload_n 0, 1) := by decide +kernel
theorem dX6_part_175 : decode cX6_part 175 = .ok (.bipush 25, 2) := by decide +kernel
theorem dX6_part_177 : decode cX6_part 177 = .ok (.bipush 15, 2) := by decide +kernel
theorem dX6_part_179 : decode cX6_part 179 = .ok (.iconst 3, 1) := by decide +kernel
theorem dX6_part_180 : decode cX6_part 180 = .ok (.iload_n 3, 1) := by decide +kernel
theorem dX6_part_181 : decode cX6_part 181 = .ok (.imul, 1) := by decide +kernel
theorem dX6_part_182 : decode cX6_part 182 = .ok (.iadd, 1) := by decide +kernel
theorem dX6_part_183 : decode cX6_part 183 = .ok (.iconst 2, 1) := by decide +kernel
theorem dX6_part_184 : decode cX6_part 184 = .ok (.iadd, 1) := by decide +kernel
theorem dX6_part_185 : decode cX6_part 185 = .ok (.aload_n 0, 1) := by decide +kernel
theorem dX6_part_186 : decode cX6_part 186 = .ok (.iload_n 1, 1) := by decide +kernel
theorem dX6_part_187 : decode cX6_part 187 = .ok (.bipush 15, 2) := by decide +kernel
theorem dX6_part_189 : decode cX6_part 189 = .ok (.iconst 3, 1) := by decide +kernel
theorem dX6_part_190 : decode cX6_part 190 = .ok (.iload_n 3, 1) := by decide +kernel
theorem dX6_part_191 : decode cX6_part 191 = .ok (.imul, 1) := by decide +kernel
theorem dX6_part_192 : decode cX6_part 192 = .ok (.iadd, 1) := by decide +kernel
theorem dX6_part_193 : decode cX6_part 193 = .ok (.iconst 2, 1) := by decide +kernel
theorem dX6_part_194 : decode cX6_part 194 = .ok (.iadd, 1) := by decide +kernel
theorem dX6_part_195 : decode cX6_part 195 = .ok (.invokevirtual 33, 3) := by decide +kernel
theorem dX6_part_198 : decode cX6_part 198 = .ok (.invokevirtual 29, 3) := by decide +kernel
theorem dX6_part_201 : decode cX6_part 201 = .ok (.bipush 21, 2) := by decide +kernel
theorem dX6_part_203 : decode cX6_part 203 = .ok (.bipush 10, 2) := by decide +kernel
theorem dX6_part_205 : decode cX6_part 205 = .ok (.iload_n 3, 1) := by decide +kernel
theorem dX6_part_206 : decode cX6_part 206 = .ok (.imul, 1) := by decide +kernel
theorem dX6_part_207 : decode cX6_part 207 = .ok (.iadd, 1) := by decide +kernel
theorem dX6_part_208 : decode cX6_part 208 = .ok (.istore 4, 2) := by decide +kernel
theorem dX6_part_210 : decode cX6_part 210 = .ok (.aload_n 0, 1) := by decide +kernel
theorem dX6_part_211 : decode cX6_part 211 = .ok (.bipush 25, 2) := by decide +kernel
theorem dX6_part_213 : decode cX6_part 213 = .ok (.iload 4, 2) := by decide +kernel
theorem dX6_part_215 : decode cX6_part 215 = .ok (.aload_n 0, 1) := by decide +kernel
theorem dX6_part_216 : decode cX6_part 216 = .ok (.iload_n 1, 1) := by decide +kernel
theorem dX6_part_217 : decode cX6_part 217 = .ok (.iload 4, 2) := by decide +kernel
theorem dX6_part_219 : decode cX6_part 219 = .ok (.invokevirtual 33, 3) := by decide +kernel
theorem dX6_part_222 : decode cX6_part 222 = .ok (.invokevirtual 29, 3) := by decide +kernel
theorem dX6_part_225 : decode cX6_part 225 = .ok (.aload_n 0, 1) := by decide +kernel
theorem dX6_part_226 : decode cX6_part 226 = .ok (.bipush 25, 2) := by decide +kernel
theorem dX6_part_228 : decode cX6_part 228 = .ok (.iload 4, 2) := by decide +kernel
theorem dX6_part_230 : decode cX6_part 230 = .ok (.iconst 1, 1) := by decide +kernel
theorem dX6_part_231 : decode cX6_part 231 = .ok (.iadd, 1) := by decide +kernel
theorem dX6_part_232 : decode cX6_part 232 = .ok (.aload_n 0, 1) := by decide +kernel
theorem dX6_part_233 : decode cX6_part 233 = .ok (.iload_n 1, 1) := by decide +kernel
theorem dX6_part_234 : decode cX6_part 234 = .ok (.iload 4, 2) := by decide +kernel
theorem dX6_part_236 : decode cX6_part 236 = .ok (.iconst 0, 1) := by decide +kernel
theorem dX6_part_237 : decode cX6_part 237 = .ok (.iload_n 2, 1) := by decide +kernel
theorem dX6_part_238 : decode cX6_part 238 = .ok (.invokestatic 102, 3) := by decide +kernel
theorem dX6_part_241 : decode cX6_part 241 = .ok (.iadd, 1) := by decide +kernel
theorem dX6_part_242 : decode cX6_part 242 = .ok (.invokevirtual 33, 3) := by decide +kernel
theorem dX6_part_245 : decode cX6_part 245 = .ok (.invokevirtual 29, 3) := by decide +kernel
theorem dX6_part_248 : decode cX6_part 248 = .ok (.aload_n 0, 1) := by decide +kernel
theorem dX6_part_249 : decode cX6_part 249 = .ok (.bipush 25, 2) := by decide +kernel
theorem dX6_part_251 : decode cX6_part 251 = .ok (.iload 4, 2) := by decide +kernel
theorem dX6_part_253 : decode cX6_part 253 = .ok (.iconst 2, 1) := by decide +kernel
theorem dX6_part_254 : decode cX6_part 254 = .ok (.iadd, 1) := by decide +kernel
theorem dX6_part_255 : decode cX6_part 255 = .ok (.aload_n 0, 1) := by decide +kernel
theorem dX6_part_256 : decode cX6_part 256 = .ok (.iload_n 1, 1) := by decide +kernel
theorem dX6_part_257 : decode cX6_part 257 = .ok (.iload 4, 2) := by decide +kernel
theorem dX6_part_259 : decode cX6_part 259 = .ok (.iload_n 2, 1) := by decide +kernel
theorem dX6_part_260 : decode cX6_part 260 = .ok (.iload_n 2, 1) := by decide +kernel
theorem dX6_part_261 : decode cX6_part 261 = .ok (.invokestatic 102, 3) := by decide +kernel
theorem dX6_part_264 : decode cX6_part 264 = .ok (.iadd, 1) := by decide +kernel
theorem dX6_part_265 : decode cX6_part 265 = .ok (.invokevirtual 33, 3) := by decide +kernel
theorem dX6_part_268 : decode cX6_part 268 = .ok (.invokevirtual 29, 3) := by decide +kernel
theorem dX6_part_271 : decode cX6_part 271 = .ok (.iinc 3 1, 3) := by decide +kernel
theorem dX6_part_274 : decode cX6_part 274 = .ok (.goto (-171), 3) := by decide +kernel
theorem dX6_part_277 : decode cX6_part 277 = .ok (.return_, 1) := by decide +kernel
theorem dX6_split_0 : decode cX6_split 0 = .ok (.iload_n 1, 1) := by decide +kernel
theorem dX6_split_1 : decode cX6_split 1 = .ok (.aload_n 0, 1) := by decide +kernel
theorem dX6_split_2 : decode cX6_split 2 = .ok (.getfield 44, 3) := by decide +kernel
theorem dX6_split_5 : decode cX6_split 5 = .ok (.invokestatic 67, 3) := by decide +kernel
theorem dX6_split_8 : decode cX6_split 8 = .ok (.istore_n 2, 1) := by decide +kernel
theorem dX6_split_9 : decode cX6_split 9 = .ok (.iload_n 2, 1) := by decide +kernel
theorem dX6_split_10 : decode cX6_split 10 = .ok (.ifCond .eq 7, 3) := by decide +kernel
theorem dX6_split_13 : decode cX6_split 13 = .ok (.iconst 0, 1) := by decide +kernel
theorem dX6_split_14 : decode cX6_split 14 = .ok (.goto 11, 3) := by decide +kernel
theorem dX6_split_17 : decode cX6_split 17 = .ok (.aload_n 0, 1) := by decide +kernel
theorem dX6_split_18 : decode cX6_split 18 = .ok (.iload_n 1, 1) := by decide +kernel
theorem dX6_split_19 : decode cX6_split 19 = .ok (.iconst 1, 1) := by decide +kernel
theorem dX6_split_20 : decode cX6_split 20 = .ok (.invokevirtual 33, 3) := by decide +kernel
theorem dX6_split_23 : decode cX6_split 23 = .ok (.iconst 1, 1) := by decide +kernel
theorem dX6_split_24 : decode cX6_split 24 = .ok (.isub, 1) := by decide +kernel
theorem dX6_split_25 : decode cX6_split 25 = .ok (.istore_n 3, 1) := by decide +kernel
theorem dX6_split_26 : decode cX6_split 26 = .ok (.aload_n 0, 1) := by decide +kernel
theorem dX6_split_27 : decode cX6_split 27 = .ok (.iload_n 2, 1) := by decide +kernel
theorem dX6_split_28 : decode cX6_split 28 = .ok (.iload_n 3, 1) := by decide +kernel
theorem dX6_split_29 : decode cX6_split 29 = .ok (.iconst 2, 1) := by decide +kernel
theorem dX6_split_30 : decode cX6_split 30 = .ok (.if_icmp .lt 16, 3) := by decide +kernel
theorem dX6_split_33 : decode cX6_split 33 = .ok (.aload_n 0, 1) := by decide +kernel
theorem dX6_split_34 : decode cX6_split 34 = .ok (.getfield 44, 3) := by decide +kernel
theorem dX6_split_37 : decode cX6_split 37 = .ok (.iload_n 3, 1) := by decide +kernel
theorem dX6_split_38 : decode cX6_split 38 = .ok (.iadd, 1) := by decide +kernel
theorem dX6_split_39 : decode cX6_split 39 = .ok (.iconst 1, 1) := by decide +kernel
theorem dX6_split_40 : decode cX6_split 40 = .ok (.isub, 1) := by decide +kernel
theorem dX6_split_41 : decode cX6_split 41 = .ok (.bipush 24, 2) := by decide +kernel
theorem dX6_split_43 : decode cX6_split 43 = .ok (.if_icmp .le 7, 3) := by decide +kernel
theorem dX6_split_46 : decode cX6_split 46 = .ok (.iconst 1, 1) := by decide +kernel
theorem dX6_split_47 : decode cX6_split 47 = .ok (.goto 4, 3) := by decide +kernel
theorem dX6_split_50 : decode cX6_split 50 = .ok (.iconst 0, 1) := by decide +kernel
theorem dX6_split_51 : decode cX6_split 51 = .ok (.invokevirtual 47, 3) := by decide +kernel
theorem dX6_split_54 : decode cX6_split 54 = .ok (.ifCond .eq 5, 3) := by decide +kernel
theorem dX6_split_57 : decode cX6_split 57 = .ok (.iconst 0, 1) := by decide +kernel
theorem dX6_split_58 : decode cX6_split 58 = .ok (.ireturn, 1) := by decide +kernel
theorem dX6_split_59 : decode cX6_split 59 = .ok (.aload_n 0, 1) := by decide +kernel
theorem dX6_split_60 : decode cX6_split 60 = .ok (.iload_n 1, 1) := by decide +kernel
theorem dX6_split_61 : decode cX6_split 61 = .ok (.bipush 26, 2) := by decide +kernel
theorem dX6_split_63 : decode cX6_split 63 = .ok (.invokevirtual 81, 3) := by decide +kernel
theorem dX6_split_66 : decode cX6_split 66 = .ok (.aload_n 0, 1) := by decide +kernel
theorem dX6_split_67 : decode cX6_split 67 = .ok (.iload_n 1, 1) := by decide +kernel
theorem dX6_split_68 : decode cX6_split 68 = .ok (.invokevirtual 84, 3) := by decide +kernel
theorem dX6_split_71 : decode cX6_split 71 = .ok (.iconst 1, 1) := by decide +kernel
theorem dX6_split_72 : decode cX6_split 72 = .ok (.istore 4, 2) := by decide +kernel
theorem dX6_split_74 : decode cX6_split 74 = .ok (.iload 4, 2) := by decide +kernel
theorem dX6_split_76 : decode cX6_split 76 = .ok (.iload_n 3, 1) := by decide +kernel
theorem dX6_split_77 : decode cX6_split 77 = .ok (.if_icmp .gt 39, 3) := by decide +kernel
theorem dX6_split_80 : decode cX6_split 80 = .ok (.aload_n 0, 1) := by decide +kernel
theorem dX6_split_81 : decode cX6_split 81 = .ok (.bipush 26, 2) := by decide +kernel
theorem dX6_split_83 : decode cX6_split 83 = .ok (.iload 4, 2) := by decide +kernel
theorem dX6_split_85 : decode cX6_split 85 = .ok (.invokevirtual 105, 3) := by decide +kernel
theorem dX6_split_88 : decode cX6_split 88 = .ok (.aload_n 0, 1) := by decide +kernel
theorem dX6_split_89 : decode cX6_split 89 = .ok (.iload_n 1, 1) := by decide +kernel
theorem dX6_split_90 : decode cX6_split 90 = .ok (.iload 4, 2) := by decide +kernel
theorem dX6_split_92 : decode cX6_split 92 = .ok (.iadd, 1) := by decide +kernel
theorem dX6_split_93 : decode cX6_split 93 = .ok (.iconst 1, 1) := by decide +kernel
theorem dX6_split_94 : decode cX6_split 94 = .ok (.isub, 1) := by decide +kernel
theorem dX6_split_95 : decode cX6_split 95 = .ok (.invokevirtual 77, 3) := by decide +kernel
theorem dX6_split_98 : decode cX6_split 98 = .ok (.aload_n 0, 1) := by decide +kernel
theorem dX6_split_99 : decode cX6_split 99 = .ok (.bipush 25, 2) := by decide +kernel
theorem dX6_split_101 : decode cX6_split 101 = .ok (.iload_n 1, 1) := by decide +kernel
theorem dX6_split_102 : decode cX6_split 102 = .ok (.iload 4, 2) := by decide +kernel
theorem dX6_split_104 : decode cX6_split 104 = .ok (.iadd, 1) := by decide +kernel
theorem dX6_split_105 : decode cX6_split 105 = .ok (.iconst 1, 1) := by decide +kernel
theorem dX6_split_106 : decode cX6_split 106 = .ok (.isub, 1) := by decide +kernel
theorem dX6_split_107 : decode cX6_split 107 = .ok (.invokevirtual 81, 3) := by decide +kernel
theorem dX6_split_110 : decode cX6_split 110 = .ok (.iinc 4 1, 3) := by decide +kernel
theorem dX6_split_113 : decode cX6_split 113 = .ok (.goto (-39), 3) := by decide +kernel
theorem dX6_split_116 : decode cX6_split 116 = .ok (.iload_n 3, 1) := by decide +kernel
theorem dX6_split_117 : decode cX6_split 117 = .ok (.ireturn, 1) := by decide +kernel
theorem dX6_gather_0 : decode cX6_gather 0 = .ok (.aload_n 0, 1) := by decide +kernel
theorem dX6_gather_1 : decode cX6_gather 1 = .ok (.bipush 25, 2) := by decide +kernel
theorem dX6_gather_3 : decode cX6_gather 3 = .ok (.iconst 2, 1) := by decide +kernel
theorem dX6_gather_4 : decode cX6_gather 4 = .ok (.invokevirtual 33, 3) := by decide +kernel
theorem dX6_gather_7 : decode cX6_gather 7 = .ok (.aload_n 0, 1) := by decide +kernel
theorem dX6_gather_8 : decode cX6_gather 8 = .ok (.iload_n 1, 1) := by decide +kernel
theorem dX6_gather_9 : decode cX6_gather 9 = .ok (.iconst 2, 1) := by decide +kernel
theorem dX6_gather_10 : decode cX6_gather 10 = .ok (.invokevirtual 33, 3) := by decide +kernel
theorem dX6_gather_13 : decode cX6_gather 13 = .ok (.isub, 1) := by decide +kernel
theorem dX6_gather_14 : decode cX6_gather 14 = .ok (.istore_n 3, 1) := by decide +kernel
theorem dX6_gather_15 : decode cX6_gather 15 = .ok (.aload_n 0, 1) := by decide +kernel
theorem dX6_gather_16 : decode cX6_gather 16 = .ok (.bipush 25, 2) := by decide +kernel
theorem dX6_gather_18 : decode cX6_gather 18 = .ok (.bipush 6, 2) := by decide +kernel
theorem dX6_gather_20 : decode cX6_gather 20 = .ok (.invokevirtual 33, 3) := by decide +kernel
theorem dX6_gather_23 : decode cX6_gather 23 = .ok (.iconst 1, 1) := by decide +kernel
theorem dX6_gather_24 : decode cX6_gather 24 = .ok (.iconst 2, 1) := by decide +kernel
theorem dX6_gather_25 : decode cX6_gather 25 = .ok (.iload_n 3, 1) := by decide +kernel
theorem dX6_gather_26 : decode cX6_gather 26 = .ok (.imul, 1) := by decide +kernel
theorem dX6_gather_27 : decode cX6_gather 27 = .ok (.ishl, 1) := by decide +kernel
theorem dX6_gather_28 : decode cX6_gather 28 = .ok (.iconst 1, 1) := by decide +kernel
theorem dX6_gather_29 : decode cX6_gather 29 = .ok (.isub, 1) := by decide +kernel
theorem dX6_gather_30 : decode cX6_gather 30 = .ok (.iand, 1) := by decide +kernel
theorem dX6_gather_31 : decode cX6_gather 31 = .ok (.istore 4, 2) := by decide +kernel
theorem dX6_gather_33 : decode cX6_gather 33 = .ok (.aload_n 0, 1) := by decide +kernel
theorem dX6_gather_34 : decode cX6_gather 34 = .ok (.getfield 22, 3) := by decide +kernel
theorem dX6_gather_37 : decode cX6_gather 37 = .ok (.iconst 4, 1) := by decide +kernel
theorem dX6_gather_38 : decode cX6_gather 38 = .ok (.iload_n 2, 1) := by decide +kernel
theorem dX6_gather_39 : decode cX6_gather 39 = .ok (.imul, 1) := by decide +kernel
theorem dX6_gather_40 : decode cX6_gather 40 = .ok (.iconst 0, 1) := by decide +kernel
theorem dX6_gather_41 : decode cX6_gather 41 = .ok (.iastore, 1) := by decide +kernel
theorem dX6_gather_42 : decode cX6_gather 42 = .ok (.iconst 1, 1) := by decide +kernel
theorem dX6_gather_43 : decode cX6_gather 43 = .ok (.istore 5, 2) := by decide +kernel
theorem dX6_gather_45 : decode cX6_gather 45 = .ok (.iload 5, 2) := by decide +kernel
theorem dX6_gather_47 : decode cX6_gather 47 = .ok (.aload_n 0, 1) := by decide +kernel
theorem dX6_gather_48 : decode cX6_gather 48 = .ok (.iload_n 1, 1) := by decide +kernel
theorem dX6_gather_49 : decode cX6_gather 49 = .ok (.iconst 1, 1) := by decide +kernel
theorem dX6_gather_50 : decode cX6_gather 50 = .ok (.invokevirtual 33, 3) := by decide +kernel
theorem dX6_gather_53 : decode cX6_gather 53 = .ok (.if_icmp .ge 116, 3) := by decide +kernel
theorem dX6_gather_56 : decode cX6_gather 56 = .ok (.aload_n 0, 1) := by decide +kernel
theorem dX6_gather_57 : decode cX6_gather 57 = .ok (.iload_n 1, 1) := by decide +kernel
theorem dX6_gather_58 : decode cX6_gather 58 = .ok (.iconst 2, 1) := by decide +kernel
theorem dX6_gather_59 : decode cX6_gather 59 = .ok (.iload 5, 2) := by decide +kernel
theorem dX6_gather_61 : decode cX6_gather 61 = .ok (.iadd, 1) := by decide +kernel
theorem dX6_gather_62 : decode cX6_gather 62 = .ok (.invokevirtual 33, 3) := by decide +kernel
theorem dX6_gather_65 : decode cX6_gather 65 = .ok (.iload_n 3, 1) := by decide +kernel
theorem dX6_gather_66 : decode cX6_gather 66 = .ok (.iadd, 1) := by decide +kernel
theorem dX6_gather_67 : decode cX6_gather 67 = .ok (.istore 6, 2) := by decide +kernel
theorem dX6_gather_69 : decode cX6_gather 69 = .ok (.iload 6, 2) := by decide +kernel
theorem dX6_gather_71 : decode cX6_gather 71 = .ok (.bipush 8, 2) := by decide +kernel
theorem dX6_gather_73 : decode cX6_gather 73 = .ok (.if_icmp .le 5, 3) := by decide +kernel
theorem dX6_gather_76 : decode cX6_gather 76 = .ok (.iconst 0, 1) := by decide +kernel
theorem dX6_gather_77 : decode cX6_gather 77 = .ok (.ireturn, 1) := by decide +kernel
theorem dX6_gather_78 : decode cX6_gather 78 = .ok (.aload_n 0, 1) := by decide +kernel
theorem dX6_gather_79 : decode cX6_gather 79 = .ok (.iload_n 1, 1) := by decide +kernel
theorem dX6_gather_80 : decode cX6_gather 80 = .ok (.bipush 6, 2) := by decide +kernel
theorem dX6_gather_82 : decode cX6_gather 82 = .ok (.iload 5, 2) := by decide +kernel
theorem dX6_gather_84 : decode cX6_gather 84 = .ok (.iadd, 1) := by decide +kernel
theorem dX6_gather_85 : decode cX6_gather 85 = .ok (.invokevirtual 33, 3) := by decide +kernel
theorem dX6_gather_88 : decode cX6_gather 88 = .ok (.iconst 2, 1) := by decide +kernel
theorem dX6_gather_89 : decode cX6_gather 89 = .ok (.iload_n 3, 1) := by decide +kernel
theorem dX6_gather_90 : decode cX6_gather 90 = .ok (.imul, 1) := by decide +kernel
theorem dX6_gather_91 : decode cX6_gather 91 = .ok (.ishl, 1) := by decide +kernel
theorem dX6_gather_92 : decode cX6_gather 92 = .ok (.iload 4, 2) := by decide +kernel
theorem dX6_gather_94 : decode cX6_gather 94 = .ok (.ior, 1) := by decide +kernel
theorem dX6_gather_95 : decode cX6_gather 95 = .ok (.istore 7, 2) := by decide +kernel
theorem dX6_gather_97 : decode cX6_gather 97 = .ok (.aload_n 0, 1) := by decide +kernel
theorem dX6_gather_98 : decode cX6_gather 98 = .ok (.bipush 25, 2) := by decide +kernel
theorem dX6_gather_100 : decode cX6_gather 100 = .ok (.iload 6, 2) := by decide +kernel
theorem dX6_gather_102 : decode cX6_gather 102 = .ok (.iload 7, 2) := by decide +kernel
theorem dX6_gather_104 : decode cX6_gather 104 = .ok (.invokevirtual 63, 3) := by decide +kernel
theorem dX6_gather_107 : decode cX6_gather 107 = .ok (.istore 8, 2) := by decide +kernel
theorem dX6_gather_109 : decode cX6_gather 109 = .ok (.iload 8, 2) := by decide +kernel
theorem dX6_gather_111 : decode cX6_gather 111 = .ok (.ifCond .ge 16, 3) := by decide +kernel
theorem dX6_gather_114 : decode cX6_gather 114 = .ok (.aload_n 0, 1) := by decide +kernel
theorem dX6_gather_115 : decode cX6_gather 115 = .ok (.bipush 25, 2) := by decide +kernel
theorem dX6_gather_117 : decode cX6_gather 117 = .ok (.iconst 1, 1) := by decide +kernel
theorem dX6_gather_118 : decode cX6_gather 118 = .ok (.invokevirtual 33, 3) := by decide +kernel
theorem dX6_gather_121 : decode cX6_gather 121 = .ok (.iconst 4, 1) := by decide +kernel
theorem dX6_gather_122 : decode cX6_gather 122 = .ok (.if_icmp .ne 5, 3) := by decide +kernel
theorem dX6_gather_125 : decode cX6_gather 125 = .ok (.iconst 0, 1) := by decide +kernel
theorem dX6_gather_126 : decode cX6_gather 126 = .ok (.ireturn, 1) := by decide +kernel
theorem dX6_gather_127 : decode cX6_gather 127 = .ok (.iload 8, 2) := by decide +kernel
theorem dX6_gather_129 : decode cX6_gather 129 = .ok (.ifCond .ge 13, 3) := by decide +kernel
theorem dX6_gather_132 : decode cX6_gather 132 = .ok (.aload_n 0, 1) := by decide +kernel
theorem dX6_gather_133 : decode cX6_gather 133 = .ok (.bipush 25, 2) := by decide +kernel
theorem dX6_gather_135 : decode cX6_gather 135 = .ok (.iload 6, 2) := by decide +kernel
theorem dX6_gather_137 : decode cX6_gather 137 = .ok (.iload 7, 2) := by decide +kernel
theorem dX6_gather_139 : decode cX6_gather 139 = .ok (.invokevirtual 60, 3) := by decide +kernel
theorem dX6_gather_142 : decode cX6_gather 142 = .ok (.aload_n 0, 1) := by decide +kernel
theorem dX6_gather_143 : decode cX6_gather 143 = .ok (.getfield 22, 3) := by decide +kernel
theorem dX6_gather_146 : decode cX6_gather 146 = .ok (.iconst 4, 1) := by decide +kernel
theorem dX6_gather_147 : decode cX6_gather 147 = .ok (.iload_n 2, 1) := by decide +kernel
theorem dX6_gather_148 : decode cX6_gather 148 = .ok (.imul, 1) := by decide +kernel
theorem dX6_gather_149 : decode cX6_gather 149 = .ok (.iload 5, 2) := by decide +kernel
theorem dX6_gather_151 : decode cX6_gather 151 = .ok (.iadd, 1) := by decide +kernel
theorem dX6_gather_152 : decode cX6_gather 152 = .ok (.aload_n 0, 1) := by decide +kernel
theorem dX6_gather_153 : decode cX6_gather 153 = .ok (.bipush 25, 2) := by decide +kernel
theorem dX6_gather_155 : decode cX6_gather 155 = .ok (.iload 6, 2) := by decide +kernel
theorem dX6_gather_157 : decode cX6_gather 157 = .ok (.iload 7, 2) := by decide +kernel
theorem dX6_gather_159 : decode cX6_gather 159 = .ok (.invokevirtual 63, 3) := by decide +kernel
theorem dX6_gather_162 : decode cX6_gather 162 = .ok (.iastore, 1) := by decide +kernel
theorem dX6_gather_163 : decode cX6_gather 163 = .ok (.iinc 5 1, 3) := by decide +kernel
theorem dX6_gather_166 : decode cX6_gather 166 = .ok (.goto (-121), 3) := by decide +kernel
theorem dX6_gather_169 : decode cX6_gather 169 = .ok (.iconst 1, 1) := by decide +kernel
theorem dX6_gather_170 : decode cX6_gather 170 = .ok (.ireturn, 1) := by decide +kernel
theorem dX6_back_0 : decode cX6_back 0 = .ok (.iconst 0, 1) := by decide +kernel
theorem dX6_back_1 : decode cX6_back 1 = .ok (.istore 4, 2) := by decide +kernel
theorem dX6_back_3 : decode cX6_back 3 = .ok (.iload 4, 2) := by decide +kernel
theorem dX6_back_5 : decode cX6_back 5 = .ok (.aload_n 0, 1) := by decide +kernel
theorem dX6_back_6 : decode cX6_back 6 = .ok (.iload_n 1, 1) := by decide +kernel
theorem dX6_back_7 : decode cX6_back 7 = .ok (.iconst 1, 1) := by decide +kernel
theorem dX6_back_8 : decode cX6_back 8 = .ok (.invokevirtual 33, 3) := by decide +kernel
theorem dX6_back_11 : decode cX6_back 11 = .ok (.if_icmp .ge 27, 3) := by decide +kernel
theorem dX6_back_14 : decode cX6_back 14 = .ok (.aload_n 0, 1) := by decide +kernel
theorem dX6_back_15 : decode cX6_back 15 = .ok (.getfield 22, 3) := by decide +kernel
theorem dX6_back_18 : decode cX6_back 18 = .ok (.iconst 4, 1) := by decide +kernel
theorem dX6_back_19 : decode cX6_back 19 = .ok (.iload_n 2, 1) := by decide +kernel
theorem dX6_back_20 : decode cX6_back 20 = .ok (.imul, 1) := by decide +kernel
theorem dX6_back_21 : decode cX6_back 21 = .ok (.iload 4, 2) := by decide +kernel
theorem dX6_back_23 : decode cX6_back 23 = .ok (.iadd, 1) := by decide +kernel
theorem dX6_back_24 : decode cX6_back 24 = .ok (.iaload, 1) := by decide +kernel
theorem dX6_back_25 : decode cX6_back 25 = .ok (.iload_n 3, 1) := by decide +kernel
theorem dX6_back_26 : decode cX6_back 26 = .ok (.if_icmp .ne 6, 3) := by decide +kernel
theorem dX6_back_29 : decode cX6_back 29 = .ok (.iload 4, 2) := by decide +kernel
theorem dX6_back_31 : decode cX6_back 31 = .ok (.ireturn, 1) := by decide +kernel
theorem dX6_back_32 : decode cX6_back 32 = .ok (.iinc 4 1, 3) := by decide +kernel
theorem dX6_back_35 : decode cX6_back 35 = .ok (.goto (-32), 3) := by decide +kernel
theorem dX6_back_38 : decode cX6_back 38 = .ok (.iconst (-1), 1) := by decide +kernel
theorem dX6_back_39 : decode cX6_back 39 = .ok (.ireturn, 1) := by decide +kernel
theorem dX6_likely_0 : decode cX6_likely 0 = .ok (.aload_n 0, 1) := by decide +kernel
theorem dX6_likely_1 : decode cX6_likely 1 = .ok (.iload_n 1, 1) := by decide +kernel
theorem dX6_likely_2 : decode cX6_likely 2 = .ok (.iload_n 2, 1) := by decide +kernel
theorem dX6_likely_3 : decode cX6_likely 3 = .ok (.iload 4, 2) := by decide +kernel
theorem dX6_likely_5 : decode cX6_likely 5 = .ok (.invokevirtual 108, 3) := by decide +kernel
theorem dX6_likely_8 : decode cX6_likely 8 = .ok (.istore 6, 2) := by decide +kernel
theorem dX6_likely_10 : decode cX6_likely 10 = .ok (.aload_n 0, 1) := by decide +kernel
theorem dX6_likely_11 : decode cX6_likely 11 = .ok (.iload_n 1, 1) := by decide +kernel
theorem dX6_likely_12 : decode cX6_likely 12 = .ok (.iload_n 2, 1) := by decide +kernel
theorem dX6_likely_13 : decode cX6_likely 13 = .ok (.iload 5, 2) := by decide +kernel
theorem dX6_likely_15 : decode cX6_likely 15 = .ok (.invokevirtual 108, 3) := by decide +kernel
theorem dX6_likely_18 : decode cX6_likely 18 = .ok (.istore 7, 2) := by decide +kernel
theorem dX6_likely_20 : decode cX6_likely 20 = .ok (.iload 6, 2) := by decide +kernel
theorem dX6_likely_22 : decode cX6_likely 22 = .ok (.ifCond .lt 8, 3) := by decide +kernel
theorem dX6_likely_25 : decode cX6_likely 25 = .ok (.iload 7, 2) := by decide +kernel
theorem dX6_likely_27 : decode cX6_likely 27 = .ok (.ifCond .ge 9, 3) := by decide +kernel
theorem dX6_likely_30 : decode cX6_likely 30 = .ok (.sipush 999, 3) := by decide +kernel
theorem dX6_likely_33 : decode cX6_likely 33 = .ok (.goto 23, 3) := by decide +kernel
theorem dX6_likely_36 : decode cX6_likely 36 = .ok (.aload_n 0, 1) := by decide +kernel
theorem dX6_likely_37 : decode cX6_likely 37 = .ok (.iload_n 1, 1) := by decide +kernel
theorem dX6_likely_38 : decode cX6_likely 38 = .ok (.bipush 21, 2) := by decide +kernel
theorem dX6_likely_40 : decode cX6_likely 40 = .ok (.bipush 10, 2) := by decide +kernel
theorem dX6_likely_42 : decode cX6_likely 42 = .ok (.iload_n 3, 1) := by decide +kernel
theorem dX6_likely_43 : decode cX6_likely 43 = .ok (.imul, 1) := by decide +kernel
theorem dX6_likely_44 : decode cX6_likely 44 = .ok (.iadd, 1) := by decide +kernel
theorem dX6_likely_45 : decode cX6_likely 45 = .ok (.iload 6, 2) := by decide +kernel
theorem dX6_likely_47 : decode cX6_likely 47 = .ok (.iload 7, 2) := by decide +kernel
theorem dX6_likely_49 : decode cX6_likely 49 = .ok (.invokestatic 102, 3) := by decide +kernel
theorem dX6_likely_52 : decode cX6_likely 52 = .ok (.iadd, 1) := by decide +kernel
theorem dX6_likely_53 : decode cX6_likely 53 = .ok (.invokevirtual 33, 3) := by decide +kernel
theorem dX6_likely_56 : decode cX6_likely 56 = .ok (.ireturn, 1) := by decide +kernel
theorem dX6_joinSample_0 : decode cX6_joinSample 0 = .ok (.iconst 0, 1) := by decide +kernel
theorem dX6_joinSample_1 : decode cX6_joinSample 1 = .ok (.istore 4, 2) := by decide +kernel
theorem dX6_joinSample_3 : decode cX6_joinSample 3 = .ok (.iload 4, 2) := by decide +kernel
theorem dX6_joinSample_5 : decode cX6_joinSample 5 = .ok (.iconst 2, 1) := by decide +kernel
theorem dX6_joinSample_6 : decode cX6_joinSample 6 = .ok (.if_icmp .ge 103, 3) := by decide +kernel
theorem dX6_joinSample_9 : decode cX6_joinSample 9 = .ok (.aload_n 0, 1) := by decide +kernel
theorem dX6_joinSample_10 : decode cX6_joinSample 10 = .ok (.iload_n 1, 1) := by decide +kernel
theorem dX6_joinSample_11 : decode cX6_joinSample 11 = .ok (.bipush 15, 2) := by decide +kernel
theorem dX6_joinSample_13 : decode cX6_joinSample 13 = .ok (.iconst 3, 1) := by decide +kernel
theorem dX6_joinSample_14 : decode cX6_joinSample 14 = .ok (.iload_n 3, 1) := by decide +kernel
theorem dX6_joinSample_15 : decode cX6_joinSample 15 = .ok (.imul, 1) := by decide +kernel
theorem dX6_joinSample_16 : decode cX6_joinSample 16 = .ok (.iadd, 1) := by decide +kernel
theorem dX6_joinSample_17 : decode cX6_joinSample 17 = .ok (.iload 4, 2) := by decide +kernel
theorem dX6_joinSample_19 : decode cX6_joinSample 19 = .ok (.iadd, 1) := by decide +kernel
theorem dX6_joinSample_20 : decode cX6_joinSample 20 = .ok (.invokevirtual 33, 3) := by decide +kernel
theorem dX6_joinSample_23 : decode cX6_joinSample 23 = .ok (.istore 5, 2) := by decide +kernel
theorem dX6_joinSample_25 : decode cX6_joinSample 25 = .ok (.aload_n 0, 1) := by decide +kernel
theorem dX6_joinSample_26 : decode cX6_joinSample 26 = .ok (.iload_n 2, 1) := by decide +kernel
theorem dX6_joinSample_27 : decode cX6_joinSample 27 = .ok (.bipush 15, 2) := by decide +kernel
theorem dX6_joinSample_29 : decode cX6_joinSample 29 = .ok (.iconst 3, 1) := by decide +kernel
theorem dX6_joinSample_30 : decode cX6_joinSample 30 = .ok (.iload_n 3, 1) := by decide +kernel
theorem dX6_joinSample_31 : decode cX6_joinSample 31 = .ok (.imul, 1) := by decide +kernel
theorem dX6_joinSample_32 : decode cX6_joinSample 32 = .ok (.iadd, 1) := by decide +kernel
theorem dX6_joinSample_33 : decode cX6_joinSample 33 = .ok (.iload 4, 2) := by decide +kernel
theorem dX6_joinSample_35 : decode cX6_joinSample 35 = .ok (.iadd, 1) := by decide +kernel
theorem dX6_joinSample_36 : decode cX6_joinSample 36 = .ok (.invokevirtual 33, 3) := by decide +kernel
theorem dX6_joinSample_39 : decode cX6_joinSample 39 = .ok (.istore 6, 2) := by decide +kernel
theorem dX6_joinSample_41 : decode cX6_joinSample 41 = .ok (.aload_n 0, 1) := by decide +kernel
theorem dX6_joinSample_42 : decode cX6_joinSample 42 = .ok (.bipush 25, 2) := by decide +kernel
theorem dX6_joinSample_44 : decode cX6_joinSample 44 = .ok (.bipush 15, 2) := by decide +kernel
theorem dX6_joinSample_46 : decode cX6_joinSample 46 = .ok (.iconst 3, 1) := by decide +kernel
theorem dX6_joinSample_47 : decode cX6_joinSample 47 = .ok (.iload_n 3, 1) := by decide +kernel
theorem dX6_joinSample_48 : decode cX6_joinSample 48 = .ok (.imul, 1) := by decide +kernel
theorem dX6_joinSample_49 : decode cX6_joinSample 49 = .ok (.iadd, 1) := by decide +kernel
theorem dX6_joinSample_50 : decode cX6_joinSample 50 = .ok (.iload 4, 2) := by decide +kernel
theorem dX6_joinSample_52 : decode cX6_joinSample 52 = .ok (.iadd, 1) := by decide +kernel
theorem dX6_joinSample_53 : decode cX6_joinSample 53 = .ok (.iload 5, 2) := by decide +kernel
theorem dX6_joinSample_55 : decode cX6_joinSample 55 = .ok (.ifCond .le 13, 3) := by decide +kernel
theorem dX6_joinSample_58 : decode cX6_joinSample 58 = .ok (.aload_n 0, 1) := by decide +kernel
theorem dX6_joinSample_59 : decode cX6_joinSample 59 = .ok (.getfield 22, 3) := by decide +kernel
theorem dX6_joinSample_62 : decode cX6_joinSample 62 = .ok (.iload 5, 2) := by decide +kernel
theorem dX6_joinSample_64 : decode cX6_joinSample 64 = .ok (.iaload, 1) := by decide +kernel
theorem dX6_joinSample_65 : decode cX6_joinSample 65 = .ok (.goto 35, 3) := by decide +kernel
theorem dX6_joinSample_68 : decode cX6_joinSample 68 = .ok (.iload 6, 2) := by decide +kernel
theorem dX6_joinSample_70 : decode cX6_joinSample 70 = .ok (.ifCond .le 15, 3) := by decide +kernel
theorem dX6_joinSample_73 : decode cX6_joinSample 73 = .ok (.aload_n 0, 1) := by decide +kernel
theorem dX6_joinSample_74 : decode cX6_joinSample 74 = .ok (.getfield 22, 3) := by decide +kernel
theorem dX6_joinSample_77 : decode cX6_joinSample 77 = .ok (.iconst 4, 1) := by decide +kernel
theorem dX6_joinSample_78 : decode cX6_joinSample 78 = .ok (.iload 6, 2) := by decide +kernel
theorem dX6_joinSample_80 : decode cX6_joinSample 80 = .ok (.iadd, 1) := by decide +kernel
theorem dX6_joinSample_81 : decode cX6_joinSample 81 = .ok (.iaload, 1) := by decide +kernel
theorem dX6_joinSample_82 : decode cX6_joinSample 82 = .ok (.goto 18, 3) := by decide +kernel
theorem dX6_joinSample_85 : decode cX6_joinSample 85 = .ok (.iload 5, 2) := by decide +kernel
theorem dX6_joinSample_87 : decode cX6_joinSample 87 = .ok (.ifCond .ge 12, 3) := by decide +kernel
theorem dX6_joinSample_90 : decode cX6_joinSample 90 = .ok (.iload 6, 2) := by decide +kernel
theorem dX6_joinSample_92 : decode cX6_joinSample 92 = .ok (.ifCond .ge 7, 3) := by decide +kernel
theorem dX6_joinSample_95 : decode cX6_joinSample 95 = .ok (.iconst (-1), 1) := by decide +kernel
theorem dX6_joinSample_96 : decode cX6_joinSample 96 = .ok (.goto 4, 3) := by decide +kernel
theorem dX6_joinSample_99 : decode cX6_joinSample 99 = .ok (.iconst 0, 1) := by decide +kernel
theorem dX6_joinSample_100 : decode cX6_joinSample 100 = .ok (.invokevirtual 29, 3) := by decide +kernel
theorem dX6_joinSample_103 : decode cX6_joinSample 103 = .ok (.iinc 4 1, 3) := by decide +kernel
theorem dX6_joinSample_106 : decode cX6_joinSample 106 = .ok (.goto (-103), 3) := by decide +kernel
theorem dX6_joinSample_109 : decode cX6_joinSample 109 = .ok (.aload_n 0, 1) := by decide +kernel
theorem dX6_joinSample_110 : decode cX6_joinSample 110 = .ok (.bipush 25, 2) := by decide +kernel
theorem dX6_joinSample_112 : decode cX6_joinSample 112 = .ok (.bipush 15, 2) := by decide +kernel
theorem dX6_joinSample_114 : decode cX6_joinSample 114 = .ok (.iconst 3, 1) := by decide +kernel
theorem dX6_joinSample_115 : decode cX6_joinSample 115 = .ok (.iload_n 3, 1) := by decide +kernel
theorem dX6_joinSample_116 : decode cX6_joinSample 116 = .ok (.imul, 1) := by decide +kernel
theorem dX6_joinSample_117 : decode cX6_joinSample 117 = .ok (.iadd, 1) := by decide +kernel
theorem dX6_joinSample_118 : decode cX6_joinSample 118 = .ok (.iconst 2, 1) := by decide +kernel
theorem dX6_joinSample_119 : decode cX6_joinSample 119 = .ok (.iadd, 1) := by decide +kernel
theorem dX6_joinSample_120 : decode cX6_joinSample 120 = .ok (.aload_n 0, 1) := by decide +kernel
theorem dX6_joinSample_121 : decode cX6_joinSample 121 = .ok (.iload_n 1, 1) := by decide +kernel
theorem dX6_joinSample_122 : decode cX6_joinSample 122 = .ok (.bipush 15, 2) := by decide +kernel
theorem dX6_joinSample_124 : decode cX6_joinSample 124 = .ok (.iconst 3, 1) := by decide +kernel
theorem dX6_joinSample_125 : decode cX6_joinSample 125 = .ok (.iload_n 3, 1) := by decide +kernel
theorem dX6_joinSample_126 : decode cX6_joinSample 126 = .ok (.imul, 1) := by decide +kernel
theorem dX6_joinSample_127 : decode cX6_joinSample 127 = .ok (.iadd, 1) := by decide +kernel
theorem dX6_joinSample_128 : decode cX6_joinSample 128 = .ok (.iconst 2, 1) := by decide +kernel
theorem dX6_joinSample_129 : decode cX6_joinSample 129 = .ok (.iadd, 1) := by decide +kernel
theorem dX6_joinSample_130 : decode cX6_joinSample 130 = .ok (.invokevirtual 33, 3) := by decide +kernel
theorem dX6_joinSample_133 : decode cX6_joinSample 133 = .ok (.aload_n 0, 1) := by decide +kernel
theorem dX6_joinSample_134 : decode cX6_joinSample 134 = .ok (.iload_n 2, 1) := by decide +kernel
theorem dX6_joinSample_135 : decode cX6_joinSample 135 = .ok (.bipush 15, 2) := by decide +kernel
theorem dX6_joinSample_137 : decode cX6_joinSample 137 = .ok (.iconst 3, 1) := by decide +kernel
theorem dX6_joinSample_138 : decode cX6_joinSample 138 = .ok (.iload_n 3, 1) := by decide +kernel
theorem dX6_joinSample_139 : decode cX6_joinSample 139 = .ok (.imul, 1) := by decide +kernel
theorem dX6_joinSample_140 : decode cX6_joinSample 140 = .ok (.iadd, 1) := by decide +kernel
theorem dX6_joinSample_141 : decode cX6_joinSample 141 = .ok (.iconst 2, 1) := by decide +kernel
theorem dX6_joinSample_142 : decode cX6_joinSample 142 = .ok (.iadd, 1) := by decide +kernel
theorem dX6_joinSample_143 : decode cX6_joinSample 143 = .ok (.invokevirtual 33, 3) := by decide +kernel
theorem dX6_joinSample_146 : decode cX6_joinSample 146 = .ok (.imul, 1) := by decide +kernel
theorem dX6_joinSample_147 : decode cX6_joinSample 147 = .ok (.invokevirtual 29, 3) := by decide +kernel
theorem dX6_joinSample_150 : decode cX6_joinSample 150 = .ok (.iconst 0, 1) := by decide +kernel
theorem dX6_joinSample_151 : decode cX6_joinSample 151 = .ok (.istore 4, 2) := by decide +kernel
theorem dX6_joinSample_153 : decode cX6_joinSample 153 = .ok (.iload 4, 2) := by decide +kernel
theorem dX6_joinSample_155 : decode cX6_joinSample 155 = .ok (.aload_n 0, 1) := by decide +kernel
theorem dX6_joinSample_156 : decode cX6_joinSample 156 = .ok (.bipush 25, 2) := by decide +kernel
theorem dX6_joinSample_158 : decode cX6_joinSample 158 = .ok (.iconst 1, 1) := by decide +kernel
theorem dX6_joinSample_159 : decode cX6_joinSample 159 = .ok (.invokevirtual 33, 3) := by decide +kernel
theorem dX6_joinSample_162 : decode cX6_joinSample 162 = .ok (.if_icmp .ge 86, 3) := by decide +kernel
theorem dX6_joinSample_165 : decode cX6_joinSample 165 = .ok (.iconst 0, 1) := by decide +kernel
theorem dX6_joinSample_166 : decode cX6_joinSample 166 = .ok (.istore 5, 2) := by decide +kernel
theorem dX6_joinSample_168 : decode cX6_joinSample 168 = .ok (.iload 5, 2) := by decide +kernel
theorem dX6_joinSample_170 : decode cX6_joinSample 170 = .ok (.iload 4, 2) := by decide +kernel
theorem dX6_joinSample_172 : decode cX6_joinSample 172 = .ok (.if_icmp .gt 70, 3) := by decide +kernel
theorem dX6_joinSample_175 : decode cX6_joinSample 175 = .ok (.aload_n 0, 1) := by decide +kernel
theorem dX6_joinSample_176 : decode cX6_joinSample 176 = .ok (.iload_n 1, 1) := by decide +kernel
theorem dX6_joinSample_177 : decode cX6_joinSample 177 = .ok (.iconst 0, 1) := by decide +kernel
theorem dX6_joinSample_178 : decode cX6_joinSample 178 = .ok (.iload_n 3, 1) := by decide +kernel
theorem dX6_joinSample_179 : decode cX6_joinSample 179 = .ok (.iload 5, 2) := by decide +kernel
theorem dX6_joinSample_181 : decode cX6_joinSample 181 = .ok (.iload 4, 2) := by decide +kernel
theorem dX6_joinSample_183 : decode cX6_joinSample 183 = .ok (.invokevirtual 111, 3) := by decide +kernel
theorem dX6_joinSample_186 : decode cX6_joinSample 186 = .ok (.istore 6, 2) := by decide +kernel
theorem dX6_joinSample_188 : decode cX6_joinSample 188 = .ok (.aload_n 0, 1) := by decide +kernel
theorem dX6_joinSample_189 : decode cX6_joinSample 189 = .ok (.iload_n 2, 1) := by decide +kernel
theorem dX6_joinSample_190 : decode cX6_joinSample 190 = .ok (.iconst 1, 1) := by decide +kernel
theorem dX6_joinSample_191 : decode cX6_joinSample 191 = .ok (.iload_n 3, 1) := by decide +kernel
theorem dX6_joinSample_192 : decode cX6_joinSample 192 = .ok (.iload 5, 2) := by decide +kernel
theorem dX6_joinSample_194 : decode cX6_joinSample 194 = .ok (.iload 4, 2) := by decide +kernel
theorem dX6_joinSample_196 : decode cX6_joinSample 196 = .ok (.invokevirtual 111, 3) := by decide +kernel
theorem dX6_joinSample_199 : decode cX6_joinSample 199 = .ok (.istore 7, 2) := by decide +kernel
theorem dX6_joinSample_201 : decode cX6_joinSample 201 = .ok (.aload_n 0, 1) := by decide +kernel
theorem dX6_joinSample_202 : decode cX6_joinSample 202 = .ok (.bipush 25, 2) := by decide +kernel
theorem dX6_joinSample_204 : decode cX6_joinSample 204 = .ok (.bipush 21, 2) := by decide +kernel
theorem dX6_joinSample_206 : decode cX6_joinSample 206 = .ok (.bipush 10, 2) := by decide +kernel
theorem dX6_joinSample_208 : decode cX6_joinSample 208 = .ok (.iload_n 3, 1) := by decide +kernel
theorem dX6_joinSample_209 : decode cX6_joinSample 209 = .ok (.imul, 1) := by decide +kernel
theorem dX6_joinSample_210 : decode cX6_joinSample 210 = .ok (.iadd, 1) := by decide +kernel
theorem dX6_joinSample_211 : decode cX6_joinSample 211 = .ok (.iload 5, 2) := by decide +kernel
theorem dX6_joinSample_213 : decode cX6_joinSample 213 = .ok (.iload 4, 2) := by decide +kernel
theorem dX6_joinSample_215 : decode cX6_joinSample 215 = .ok (.invokestatic 102, 3) := by decide +kernel
theorem dX6_joinSample_218 : decode cX6_joinSample 218 = .ok (.iadd, 1) := by decide +kernel
theorem dX6_joinSample_219 : decode cX6_joinSample 219 = .ok (.iload 6, 2) := by decide +kernel
theorem dX6_joinSample_221 : decode cX6_joinSample 221 = .ok (.iload 7, 2) := by decide +kernel
theorem dX6_joinSample_223 : decode cX6_joinSample 223 = .ok (.if_icmp .ge 8, 3) := by decide +kernel
theorem dX6_joinSample_226 : decode cX6_joinSample 226 = .ok (.iload 6, 2) := by decide +kernel
theorem dX6_joinSample_228 : decode cX6_joinSample 228 = .ok (.goto 5, 3) := by decide +kernel
theorem dX6_joinSample_231 : decode cX6_joinSample 231 = .ok (.iload 7, 2) := by decide +kernel
theorem dX6_joinSample_233 : decode cX6_joinSample 233 = .ok (.invokevirtual 29, 3) := by decide +kernel
theorem dX6_joinSample_236 : decode cX6_joinSample 236 = .ok (.iinc 5 1, 3) := by decide +kernel
theorem dX6_joinSample_239 : decode cX6_joinSample 239 = .ok (.goto (-71), 3) := by decide +kernel
theorem dX6_joinSample_242 : decode cX6_joinSample 242 = .ok (.iinc 4 1, 3) := by decide +kernel
theorem dX6_joinSample_245 : decode cX6_joinSample 245 = .ok (.goto (-92), 3) := by decide +kernel
theorem dX6_joinSample_248 : decode cX6_joinSample 248 = .ok (.return_, 1) := by decide +kernel
theorem dX6_join_0 : decode cX6_join 0 = .ok (.iload_n 1, 1) := by decide +kernel
theorem dX6_join_1 : decode cX6_join 1 = .ok (.aload_n 0, 1) := by decide +kernel
theorem dX6_join_2 : decode cX6_join 2 = .ok (.getfield 44, 3) := by decide +kernel
theorem dX6_join_5 : decode cX6_join 5 = .ok (.invokestatic 67, 3) := by decide +kernel
theorem dX6_join_8 : decode cX6_join 8 = .ok (.istore_n 2, 1) := by decide +kernel
theorem dX6_join_9 : decode cX6_join 9 = .ok (.iload_n 2, 1) := by decide +kernel
theorem dX6_join_10 : decode cX6_join 10 = .ok (.ifCond .ne 34, 3) := by decide +kernel
theorem dX6_join_13 : decode cX6_join 13 = .ok (.iload_n 1, 1) := by decide +kernel
theorem dX6_join_14 : decode cX6_join 14 = .ok (.iconst 1, 1) := by decide +kernel
theorem dX6_join_15 : decode cX6_join 15 = .ok (.iadd, 1) := by decide +kernel
theorem dX6_join_16 : decode cX6_join 16 = .ok (.aload_n 0, 1) := by decide +kernel
theorem dX6_join_17 : decode cX6_join 17 = .ok (.getfield 44, 3) := by decide +kernel
theorem dX6_join_20 : decode cX6_join 20 = .ok (.if_icmp .eq 20, 3) := by decide +kernel
theorem dX6_join_23 : decode cX6_join 23 = .ok (.aload_n 0, 1) := by decide +kernel
theorem dX6_join_24 : decode cX6_join 24 = .ok (.iload_n 1, 1) := by decide +kernel
theorem dX6_join_25 : decode cX6_join 25 = .ok (.iconst 1, 1) := by decide +kernel
theorem dX6_join_26 : decode cX6_join 26 = .ok (.iadd, 1) := by decide +kernel
theorem dX6_join_27 : decode cX6_join 27 = .ok (.iconst 0, 1) := by decide +kernel
theorem dX6_join_28 : decode cX6_join 28 = .ok (.invokevirtual 33, 3) := by decide +kernel
theorem dX6_join_31 : decode cX6_join 31 = .ok (.aload_n 0, 1) := by decide +kernel
theorem dX6_join_32 : decode cX6_join 32 = .ok (.iload_n 1, 1) := by decide +kernel
theorem dX6_join_33 : decode cX6_join 33 = .ok (.iconst 0, 1) := by decide +kernel
theorem dX6_join_34 : decode cX6_join 34 = .ok (.invokevirtual 33, 3) := by decide +kernel
theorem dX6_join_37 : decode cX6_join 37 = .ok (.if_icmp .eq 7, 3) := by decide +kernel
theorem dX6_join_40 : decode cX6_join 40 = .ok (.iconst 1, 1) := by decide +kernel
theorem dX6_join_41 : decode cX6_join 41 = .ok (.goto 4, 3) := by decide +kernel
theorem dX6_join_44 : decode cX6_join 44 = .ok (.iconst 0, 1) := by decide +kernel
theorem dX6_join_45 : decode cX6_join 45 = .ok (.istore_n 3, 1) := by decide +kernel
theorem dX6_join_46 : decode cX6_join 46 = .ok (.aload_n 0, 1) := by decide +kernel
theorem dX6_join_47 : decode cX6_join 47 = .ok (.iload_n 2, 1) := by decide +kernel
theorem dX6_join_48 : decode cX6_join 48 = .ok (.iload_n 3, 1) := by decide +kernel
theorem dX6_join_49 : decode cX6_join 49 = .ok (.invokevirtual 47, 3) := by decide +kernel
theorem dX6_join_52 : decode cX6_join 52 = .ok (.ifCond .eq 4, 3) := by decide +kernel
theorem dX6_join_55 : decode cX6_join 55 = .ok (.return_, 1) := by decide +kernel
theorem dX6_join_56 : decode cX6_join 56 = .ok (.iload_n 1, 1) := by decide +kernel
theorem dX6_join_57 : decode cX6_join 57 = .ok (.istore 4, 2) := by decide +kernel
theorem dX6_join_59 : decode cX6_join 59 = .ok (.iload_n 1, 1) := by decide +kernel
theorem dX6_join_60 : decode cX6_join 60 = .ok (.iconst 1, 1) := by decide +kernel
theorem dX6_join_61 : decode cX6_join 61 = .ok (.iadd, 1) := by decide +kernel
theorem dX6_join_62 : decode cX6_join 62 = .ok (.istore 5, 2) := by decide +kernel
theorem dX6_join_64 : decode cX6_join 64 = .ok (.aload_n 0, 1) := by decide +kernel
theorem dX6_join_65 : decode cX6_join 65 = .ok (.iload 5, 2) := by decide +kernel
theorem dX6_join_67 : decode cX6_join 67 = .ok (.iconst 2, 1) := by decide +kernel
theorem dX6_join_68 : decode cX6_join 68 = .ok (.invokevirtual 33, 3) := by decide +kernel
theorem dX6_join_71 : decode cX6_join 71 = .ok (.aload_n 0, 1) := by decide +kernel
theorem dX6_join_72 : decode cX6_join 72 = .ok (.iload 4, 2) := by decide +kernel
theorem dX6_join_74 : decode cX6_join 74 = .ok (.iconst 2, 1) := by decide +kernel
theorem dX6_join_75 : decode cX6_join 75 = .ok (.invokevirtual 33, 3) := by decide +kernel
theorem dX6_join_78 : decode cX6_join 78 = .ok (.if_icmp .le 8, 3) := by decide +kernel
theorem dX6_join_81 : decode cX6_join 81 = .ok (.iload 5, 2) := by decide +kernel
theorem dX6_join_83 : decode cX6_join 83 = .ok (.goto 5, 3) := by decide +kernel
theorem dX6_join_86 : decode cX6_join 86 = .ok (.iload 4, 2) := by decide +kernel
theorem dX6_join_88 : decode cX6_join 88 = .ok (.istore 6, 2) := by decide +kernel
theorem dX6_join_90 : decode cX6_join 90 = .ok (.aload_n 0, 1) := by decide +kernel
theorem dX6_join_91 : decode cX6_join 91 = .ok (.bipush 25, 2) := by decide +kernel
theorem dX6_join_93 : decode cX6_join 93 = .ok (.aload_n 0, 1) := by decide +kernel
theorem dX6_join_94 : decode cX6_join 94 = .ok (.iload 4, 2) := by decide +kernel
theorem dX6_join_96 : decode cX6_join 96 = .ok (.iconst 0, 1) := by decide +kernel
theorem dX6_join_97 : decode cX6_join 97 = .ok (.invokevirtual 33, 3) := by decide +kernel
theorem dX6_join_100 : decode cX6_join 100 = .ok (.invokevirtual 53, 3) := by decide +kernel
theorem dX6_join_103 : decode cX6_join 103 = .ok (.aload_n 0, 1) := by decide +kernel
theorem dX6_join_104 : decode cX6_join 104 = .ok (.bipush 25, 2) := by decide +kernel
theorem dX6_join_106 : decode cX6_join 106 = .ok (.aload_n 0, 1) := by decide +kernel
theorem dX6_join_107 : decode cX6_join 107 = .ok (.iload 6, 2) := by decide +kernel
theorem dX6_join_109 : decode cX6_join 109 = .ok (.iconst 2, 1) := by decide +kernel
theorem dX6_join_110 : decode cX6_join 110 = .ok (.invokevirtual 33, 3) := by decide +kernel
theorem dX6_join_113 : decode cX6_join 113 = .ok (.aload_n 0, 1) := by decide +kernel
theorem dX6_join_114 : decode cX6_join 114 = .ok (.iload 6, 2) := by decide +kernel
theorem dX6_join_116 : decode cX6_join 116 = .ok (.bipush 6, 2) := by decide +kernel
theorem dX6_join_118 : decode cX6_join 118 = .ok (.invokevirtual 33, 3) := by decide +kernel
theorem dX6_join_121 : decode cX6_join 121 = .ok (.invokevirtual 60, 3) := by decide +kernel
theorem dX6_join_124 : decode cX6_join 124 = .ok (.aload_n 0, 1) := by decide +kernel
theorem dX6_join_125 : decode cX6_join 125 = .ok (.iload 4, 2) := by decide +kernel
theorem dX6_join_127 : decode cX6_join 127 = .ok (.iconst 0, 1) := by decide +kernel
theorem dX6_join_128 : decode cX6_join 128 = .ok (.invokevirtual 115, 3) := by decide +kernel
theorem dX6_join_131 : decode cX6_join 131 = .ok (.ifCond .eq 17, 3) := by decide +kernel
theorem dX6_join_134 : decode cX6_join 134 = .ok (.aload_n 0, 1) := by decide +kernel
theorem dX6_join_135 : decode cX6_join 135 = .ok (.iload 5, 2) := by decide +kernel
theorem dX6_join_137 : decode cX6_join 137 = .ok (.iconst 1, 1) := by decide +kernel
theorem dX6_join_138 : decode cX6_join 138 = .ok (.invokevirtual 115, 3) := by decide +kernel
theorem dX6_join_141 : decode cX6_join 141 = .ok (.ifCond .eq 7, 3) := by decide +kernel
theorem dX6_join_144 : decode cX6_join 144 = .ok (.iconst 1, 1) := by decide +kernel
theorem dX6_join_145 : decode cX6_join 145 = .ok (.goto 4, 3) := by decide +kernel
theorem dX6_join_148 : decode cX6_join 148 = .ok (.iconst 0, 1) := by decide +kernel
theorem dX6_join_149 : decode cX6_join 149 = .ok (.istore 7, 2) := by decide +kernel
theorem dX6_join_151 : decode cX6_join 151 = .ok (.aload_n 0, 1) := by decide +kernel
theorem dX6_join_152 : decode cX6_join 152 = .ok (.iload 7, 2) := by decide +kernel
theorem dX6_join_154 : decode cX6_join 154 = .ok (.ifCond .eq 7, 3) := by decide +kernel
theorem dX6_join_157 : decode cX6_join 157 = .ok (.iconst 0, 1) := by decide +kernel
theorem dX6_join_158 : decode cX6_join 158 = .ok (.goto 4, 3) := by decide +kernel
theorem dX6_join_161 : decode cX6_join 161 = .ok (.iconst 3, 1) := by decide +kernel
theorem dX6_join_162 : decode cX6_join 162 = .ok (.putfield 25, 3) := by decide +kernel
theorem dX6_join_165 : decode cX6_join 165 = .ok (.iload 7, 2) := by decide +kernel
theorem dX6_join_167 : decode cX6_join 167 = .ok (.ifCond .ne 4, 3) := by decide +kernel
theorem dX6_join_170 : decode cX6_join 170 = .ok (.return_, 1) := by decide +kernel
theorem dX6_join_171 : decode cX6_join 171 = .ok (.aload_n 0, 1) := by decide +kernel
theorem dX6_join_172 : decode cX6_join 172 = .ok (.bipush 25, 2) := by decide +kernel
theorem dX6_join_174 : decode cX6_join 174 = .ok (.bipush 10, 2) := by decide +kernel
theorem dX6_join_176 : decode cX6_join 176 = .ok (.aload_n 0, 1) := by decide +kernel
theorem dX6_join_177 : decode cX6_join 177 = .ok (.iload 4, 2) := by decide +kernel
theorem dX6_join_179 : decode cX6_join 179 = .ok (.bipush 10, 2) := by decide +kernel
theorem dX6_join_181 : decode cX6_join 181 = .ok (.invokevirtual 33, 3) := by decide +kernel
theorem dX6_join_184 : decode cX6_join 184 = .ok (.aload_n 0, 1) := by decide +kernel
theorem dX6_join_185 : decode cX6_join 185 = .ok (.iload 5, 2) := by decide +kernel
theorem dX6_join_187 : decode cX6_join 187 = .ok (.bipush 10, 2) := by decide +kernel
theorem dX6_join_189 : decode cX6_join 189 = .ok (.invokevirtual 33, 3) := by decide +kernel
theorem dX6_join_192 : decode cX6_join 192 = .ok (.if_icmp .le 14, 3) := by decide +kernel
theorem dX6_join_195 : decode cX6_join 195 = .ok (.aload_n 0, 1) := by decide +kernel
theorem dX6_join_196 : decode cX6_join 196 = .ok (.iload 4, 2) := by decide +kernel
theorem dX6_join_198 : decode cX6_join 198 = .ok (.bipush 10, 2) := by decide +kernel
theorem dX6_join_200 : decode cX6_join 200 = .ok (.invokevirtual 33, 3) := by decide +kernel
theorem dX6_join_203 : decode cX6_join 203 = .ok (.goto 11, 3) := by decide +kernel
theorem dX6_join_206 : decode cX6_join 206 = .ok (.aload_n 0, 1) := by decide +kernel
theorem dX6_join_207 : decode cX6_join 207 = .ok (.iload 5, 2) := by decide +kernel
theorem dX6_join_209 : decode cX6_join 209 = .ok (.bipush 10, 2) := by decide +kernel
theorem dX6_join_211 : decode cX6_join 211 = .ok (.invokevirtual 33, 3) := by decide +kernel
theorem dX6_join_214 : decode cX6_join 214 = .ok (.invokevirtual 29, 3) := by decide +kernel
theorem dX6_join_217 : decode cX6_join 217 = .ok (.iconst 0, 1) := by decide +kernel
theorem dX6_join_218 : decode cX6_join 218 = .ok (.istore 8, 2) := by decide +kernel
theorem dX6_join_220 : decode cX6_join 220 = .ok (.iload 8, 2) := by decide +kernel
theorem dX6_join_222 : decode cX6_join 222 = .ok (.aload_n 0, 1) := by decide +kernel
theorem dX6_join_223 : decode cX6_join 223 = .ok (.bipush 25, 2) := by decide +kernel
theorem dX6_join_225 : decode cX6_join 225 = .ok (.iconst 1, 1) := by decide +kernel
theorem dX6_join_226 : decode cX6_join 226 = .ok (.invokevirtual 33, 3) := by decide +kernel
theorem dX6_join_229 : decode cX6_join 229 = .ok (.if_icmp .ge 134, 3) := by decide +kernel
theorem dX6_join_232 : decode cX6_join 232 = .ok (.aload_n 0, 1) := by decide +kernel
theorem dX6_join_233 : decode cX6_join 233 = .ok (.iload 4, 2) := by decide +kernel
theorem dX6_join_235 : decode cX6_join 235 = .ok (.iconst 0, 1) := by decide +kernel
theorem dX6_join_236 : decode cX6_join 236 = .ok (.iload 8, 2) := by decide +kernel
theorem dX6_join_238 : decode cX6_join 238 = .ok (.invokevirtual 108, 3) := by decide +kernel
theorem dX6_join_241 : decode cX6_join 241 = .ok (.istore 9, 2) := by decide +kernel
theorem dX6_join_243 : decode cX6_join 243 = .ok (.aload_n 0, 1) := by decide +kernel
theorem dX6_join_244 : decode cX6_join 244 = .ok (.iload 5, 2) := by decide +kernel
theorem dX6_join_246 : decode cX6_join 246 = .ok (.iconst 1, 1) := by decide +kernel
theorem dX6_join_247 : decode cX6_join 247 = .ok (.iload 8, 2) := by decide +kernel
theorem dX6_join_249 : decode cX6_join 249 = .ok (.invokevirtual 108, 3) := by decide +kernel
theorem dX6_join_252 : decode cX6_join 252 = .ok (.istore 10, 2) := by decide +kernel
theorem dX6_join_254 : decode cX6_join 254 = .ok (.iload 9, 2) := by decide +kernel
theorem dX6_join_256 : decode cX6_join 256 = .ok (.ifCond .ge 7, 3) := by decide +kernel
theorem dX6_join_259 : decode cX6_join 259 = .ok (.iconst 0, 1) := by decide +kernel
theorem dX6_join_260 : decode cX6_join 260 = .ok (.goto 14, 3) := by decide +kernel
theorem dX6_join_263 : decode cX6_join 263 = .ok (.aload_n 0, 1) := by decide +kernel
theorem dX6_join_264 : decode cX6_join 264 = .ok (.iload 4, 2) := by decide +kernel
theorem dX6_join_266 : decode cX6_join 266 = .ok (.bipush 11, 2) := by decide +kernel
theorem dX6_join_268 : decode cX6_join 268 = .ok (.iload 9, 2) := by decide +kernel
theorem dX6_join_270 : decode cX6_join 270 = .ok (.iadd, 1) := by decide +kernel
theorem dX6_join_271 : decode cX6_join 271 = .ok (.invokevirtual 33, 3) := by decide +kernel
theorem dX6_join_274 : decode cX6_join 274 = .ok (.istore 11, 2) := by decide +kernel
theorem dX6_join_276 : decode cX6_join 276 = .ok (.iload 10, 2) := by decide +kernel
theorem dX6_join_278 : decode cX6_join 278 = .ok (.ifCond .ge 7, 3) := by decide +kernel
theorem dX6_join_281 : decode cX6_join 281 = .ok (.iconst 0, 1) := by decide +kernel
theorem dX6_join_282 : decode cX6_join 282 = .ok (.goto 14, 3) := by decide +kernel
theorem dX6_join_285 : decode cX6_join 285 = .ok (.aload_n 0, 1) := by decide +kernel
theorem dX6_join_286 : decode cX6_join 286 = .ok (.iload 5, 2) := by decide +kernel
theorem dX6_join_288 : decode cX6_join 288 = .ok (.bipush 11, 2) := by decide +kernel
theorem dX6_join_290 : decode cX6_join 290 = .ok (.iload 10, 2) := by decide +kernel
theorem dX6_join_292 : decode cX6_join 292 = .ok (.iadd, 1) := by decide +kernel
theorem dX6_join_293 : decode cX6_join 293 = .ok (.invokevirtual 33, 3) := by decide +kernel
theorem dX6_join_296 : decode cX6_join 296 = .ok (.istore 12, 2) := by decide +kernel
theorem dX6_join_298 : decode cX6_join 298 = .ok (.iload 11, 2) := by decide +kernel
theorem dX6_join_300 : decode cX6_join 300 = .ok (.iload 12, 2) := by decide +kernel
theorem dX6_join_302 : decode cX6_join 302 = .ok (.iadd, 1) := by decide +kernel
theorem dX6_join_303 : decode cX6_join 303 = .ok (.sipush 9999, 3) := by decide +kernel
theorem dX6_join_306 : decode cX6_join 306 = .ok (.if_icmp .le 9, 3) := by decide +kernel
theorem dX6_join_309 : decode cX6_join 309 = .ok (.sipush 9999, 3) := by decide +kernel
theorem dX6_join_312 : decode cX6_join 312 = .ok (.goto 8, 3) := by decide +kernel
theorem dX6_join_315 : decode cX6_join 315 = .ok (.iload 11, 2) := by decide +kernel
theorem dX6_join_317 : decode cX6_join 317 = .ok (.iload 12, 2) := by decide +kernel
theorem dX6_join_319 : decode cX6_join 319 = .ok (.iadd, 1) := by decide +kernel
theorem dX6_join_320 : decode cX6_join 320 = .ok (.istore 13, 2) := by decide +kernel
theorem dX6_join_322 : decode cX6_join 322 = .ok (.aload_n 0, 1) := by decide +kernel
theorem dX6_join_323 : decode cX6_join 323 = .ok (.bipush 25, 2) := by decide +kernel
theorem dX6_join_325 : decode cX6_join 325 = .ok (.bipush 11, 2) := by decide +kernel
theorem dX6_join_327 : decode cX6_join 327 = .ok (.iload 8, 2) := by decide +kernel
theorem dX6_join_329 : decode cX6_join 329 = .ok (.iadd, 1) := by decide +kernel
theorem dX6_join_330 : decode cX6_join 330 = .ok (.iload 8, 2) := by decide +kernel
theorem dX6_join_332 : decode cX6_join 332 = .ok (.ifCond .le 8, 3) := by decide +kernel
theorem dX6_join_335 : decode cX6_join 335 = .ok (.iload 13, 2) := by decide +kernel
theorem dX6_join_337 : decode cX6_join 337 = .ok (.goto 17, 3) := by decide +kernel
theorem dX6_join_340 : decode cX6_join 340 = .ok (.iload 11, 2) := by decide +kernel
theorem dX6_join_342 : decode cX6_join 342 = .ok (.iload 12, 2) := by decide +kernel
theorem dX6_join_344 : decode cX6_join 344 = .ok (.if_icmp .le 8, 3) := by decide +kernel
theorem dX6_join_347 : decode cX6_join 347 = .ok (.iload 11, 2) := by decide +kernel
theorem dX6_join_349 : decode cX6_join 349 = .ok (.goto 5, 3) := by decide +kernel
theorem dX6_join_352 : decode cX6_join 352 = .ok (.iload 12, 2) := by decide +kernel
theorem dX6_join_354 : decode cX6_join 354 = .ok (.invokevirtual 29, 3) := by decide +kernel
theorem dX6_join_357 : decode cX6_join 357 = .ok (.iinc 8 1, 3) := by decide +kernel
theorem dX6_join_360 : decode cX6_join 360 = .ok (.goto (-140), 3) := by decide +kernel
theorem dX6_join_363 : decode cX6_join 363 = .ok (.aload_n 0, 1) := by decide +kernel
theorem dX6_join_364 : decode cX6_join 364 = .ok (.iload 4, 2) := by decide +kernel
theorem dX6_join_366 : decode cX6_join 366 = .ok (.iload 5, 2) := by decide +kernel
theorem dX6_join_368 : decode cX6_join 368 = .ok (.iconst 0, 1) := by decide +kernel
theorem dX6_join_369 : decode cX6_join 369 = .ok (.invokevirtual 118, 3) := by decide +kernel
theorem dX6_join_372 : decode cX6_join 372 = .ok (.aload_n 0, 1) := by decide +kernel
theorem dX6_join_373 : decode cX6_join 373 = .ok (.iload 4, 2) := by decide +kernel
theorem dX6_join_375 : decode cX6_join 375 = .ok (.iload 5, 2) := by decide +kernel
theorem dX6_join_377 : decode cX6_join 377 = .ok (.iconst 1, 1) := by decide +kernel
theorem dX6_join_378 : decode cX6_join 378 = .ok (.invokevirtual 118, 3) := by decide +kernel
theorem dX6_join_381 : decode cX6_join 381 = .ok (.aload_n 0, 1) := by decide +kernel
theorem dX6_join_382 : decode cX6_join 382 = .ok (.iload_n 1, 1) := by decide +kernel
theorem dX6_join_383 : decode cX6_join 383 = .ok (.iconst 1, 1) := by decide +kernel
theorem dX6_join_384 : decode cX6_join 384 = .ok (.iadd, 1) := by decide +kernel
theorem dX6_join_385 : decode cX6_join 385 = .ok (.invokevirtual 84, 3) := by decide +kernel
theorem dX6_join_388 : decode cX6_join 388 = .ok (.aload_n 0, 1) := by decide +kernel
theorem dX6_join_389 : decode cX6_join 389 = .ok (.bipush 25, 2) := by decide +kernel
theorem dX6_join_391 : decode cX6_join 391 = .ok (.iload_n 1, 1) := by decide +kernel
theorem dX6_join_392 : decode cX6_join 392 = .ok (.invokevirtual 81, 3) := by decide +kernel
theorem dX6_join_395 : decode cX6_join 395 = .ok (.return_, 1) := by decide +kernel
theorem dX6_write_0 : decode cX6_write 0 = .ok (.aload_n 0, 1) := by decide +kernel
theorem dX6_write_1 : decode cX6_write 1 = .ok (.getfield 16, 3) := by decide +kernel
theorem dX6_write_4 : decode cX6_write 4 = .ok (.aload_n 0, 1) := by decide +kernel
theorem dX6_write_5 : decode cX6_write 5 = .ok (.getfield 121, 3) := by decide +kernel
theorem dX6_write_8 : decode cX6_write 8 = .ok (.iload_n 1, 1) := by decide +kernel
theorem dX6_write_9 : decode cX6_write 9 = .ok (.sipush 255, 3) := by decide +kernel
theorem dX6_write_12 : decode cX6_write 12 = .ok (.iand, 1) := by decide +kernel
theorem dX6_write_13 : decode cX6_write 13 = .ok (.iastore, 1) := by decide +kernel
theorem dX6_write_14 : decode cX6_write 14 = .ok (.aload_n 0, 1) := by decide +kernel
theorem dX6_write_15 : decode cX6_write 15 = .ok (.dup, 1) := by decide +kernel
theorem dX6_write_16 : decode cX6_write 16 = .ok (.getfield 121, 3) := by decide +kernel
theorem dX6_write_19 : decode cX6_write 19 = .ok (.iconst 1, 1) := by decide +kernel
theorem dX6_write_20 : decode cX6_write 20 = .ok (.iadd, 1) := by decide +kernel
theorem dX6_write_21 : decode cX6_write 21 = .ok (.putfield 121, 3) := by decide +kernel
theorem dX6_write_24 : decode cX6_write 24 = .ok (.return_, 1) := by decide +kernel
theorem dX6_writeRow_0 : decode cX6_writeRow 0 = .ok (.iconst 0, 1) := by decide +kernel
theorem dX6_writeRow_1 : decode cX6_writeRow 1 = .ok (.istore 4, 2) := by decide +kernel
theorem dX6_writeRow_3 : decode cX6_writeRow 3 = .ok (.iconst 0, 1) := by decide +kernel
theorem dX6_writeRow_4 : decode cX6_writeRow 4 = .ok (.istore 5, 2) := by decide +kernel
theorem dX6_writeRow_6 : decode cX6_writeRow 6 = .ok (.iload 5, 2) := by decide +kernel
theorem dX6_writeRow_8 : decode cX6_writeRow 8 = .ok (.iload_n 3, 1) := by decide +kernel
theorem dX6_writeRow_9 : decode cX6_writeRow 9 = .ok (.if_icmp .ge 35, 3) := by decide +kernel
theorem dX6_writeRow_12 : decode cX6_writeRow 12 = .ok (.iload 4, 2) := by decide +kernel
theorem dX6_writeRow_14 : decode cX6_writeRow 14 = .ok (.ifCond .ne 17, 3) := by decide +kernel
theorem dX6_writeRow_17 : decode cX6_writeRow 17 = .ok (.aload_n 0, 1) := by decide +kernel
theorem dX6_writeRow_18 : decode cX6_writeRow 18 = .ok (.iload_n 1, 1) := by decide +kernel
theorem dX6_writeRow_19 : decode cX6_writeRow 19 = .ok (.iload_n 2, 1) := by decide +kernel
theorem dX6_writeRow_20 : decode cX6_writeRow 20 = .ok (.iload 5, 2) := by decide +kernel
theorem dX6_writeRow_22 : decode cX6_writeRow 22 = .ok (.iadd, 1) := by decide +kernel
theorem dX6_writeRow_23 : decode cX6_writeRow 23 = .ok (.invokevirtual 33, 3) := by decide +kernel
theorem dX6_writeRow_26 : decode cX6_writeRow 26 = .ok (.bipush 127, 2) := by decide +kernel
theorem dX6_writeRow_28 : decode cX6_writeRow 28 = .ok (.if_icmp .le 7, 3) := by decide +kernel
theorem dX6_writeRow_31 : decode cX6_writeRow 31 = .ok (.iconst 1, 1) := by decide +kernel
theorem dX6_writeRow_32 : decode cX6_writeRow 32 = .ok (.goto 4, 3) := by decide +kernel
theorem dX6_writeRow_35 : decode cX6_writeRow 35 = .ok (.iconst 0, 1) := by decide +kernel
theorem dX6_writeRow_36 : decode cX6_writeRow 36 = .ok (.istore 4, 2) := by decide +kernel
theorem dX6_writeRow_38 : decode cX6_writeRow 38 = .ok (.iinc 5 1, 3) := by decide +kernel
theorem dX6_writeRow_41 : decode cX6_writeRow 41 = .ok (.goto (-35), 3) := by decide +kernel
theorem dX6_writeRow_44 : decode cX6_writeRow 44 = .ok (.aload_n 0, 1) := by decide +kernel
theorem dX6_writeRow_45 : decode cX6_writeRow 45 = .ok (.bipush 16, 2) := by decide +kernel
theorem dX6_writeRow_47 : decode cX6_writeRow 47 = .ok (.iload_n 3, 1) := by decide +kernel
theorem dX6_writeRow_48 : decode cX6_writeRow 48 = .ok (.imul, 1) := by decide +kernel
theorem dX6_writeRow_49 : decode cX6_writeRow 49 = .ok (.iload 4, 2) := by decide +kernel
theorem dX6_writeRow_51 : decode cX6_writeRow 51 = .ok (.ifCond .eq 7, 3) := by decide +kernel
theorem dX6_writeRow_54 : decode cX6_writeRow 54 = .ok (.iconst 2, 1) := by decide +kernel
theorem dX6_writeRow_55 : decode cX6_writeRow 55 = .ok (.goto 4, 3) := by decide +kernel
theorem dX6_writeRow_58 : decode cX6_writeRow 58 = .ok (.iconst 1, 1) := by decide +kernel
theorem dX6_writeRow_59 : decode cX6_writeRow 59 = .ok (.iadd, 1) := by decide +kernel
theorem dX6_writeRow_60 : decode cX6_writeRow 60 = .ok (.invokevirtual 124, 3) := by decide +kernel
theorem dX6_writeRow_63 : decode cX6_writeRow 63 = .ok (.iconst 0, 1) := by decide +kernel
theorem dX6_writeRow_64 : decode cX6_writeRow 64 = .ok (.istore 5, 2) := by decide +kernel
theorem dX6_writeRow_66 : decode cX6_writeRow 66 = .ok (.iload 5, 2) := by decide +kernel
theorem dX6_writeRow_68 : decode cX6_writeRow 68 = .ok (.iload_n 3, 1) := by decide +kernel
theorem dX6_writeRow_69 : decode cX6_writeRow 69 = .ok (.if_icmp .ge 43, 3) := by decide +kernel
theorem dX6_writeRow_72 : decode cX6_writeRow 72 = .ok (.aload_n 0, 1) := by decide +kernel
theorem dX6_writeRow_73 : decode cX6_writeRow 73 = .ok (.aload_n 0, 1) := by decide +kernel
theorem dX6_writeRow_74 : decode cX6_writeRow 74 = .ok (.iload_n 1, 1) := by decide +kernel
theorem dX6_writeRow_75 : decode cX6_writeRow 75 = .ok (.iload_n 2, 1) := by decide +kernel
theorem dX6_writeRow_76 : decode cX6_writeRow 76 = .ok (.iload 5, 2) := by decide +kernel
theorem dX6_writeRow_78 : decode cX6_writeRow 78 = .ok (.iadd, 1) := by decide +kernel
theorem dX6_writeRow_79 : decode cX6_writeRow 79 = .ok (.invokevirtual 33, 3) := by decide +kernel
theorem dX6_writeRow_82 : decode cX6_writeRow 82 = .ok (.invokevirtual 124, 3) := by decide +kernel
theorem dX6_writeRow_85 : decode cX6_writeRow 85 = .ok (.iload 4, 2) := by decide +kernel
theorem dX6_writeRow_87 : decode cX6_writeRow 87 = .ok (.ifCond .eq 19, 3) := by decide +kernel
theorem dX6_writeRow_90 : decode cX6_writeRow 90 = .ok (.aload_n 0, 1) := by decide +kernel
theorem dX6_writeRow_91 : decode cX6_writeRow 91 = .ok (.aload_n 0, 1) := by decide +kernel
theorem dX6_writeRow_92 : decode cX6_writeRow 92 = .ok (.iload_n 1, 1) := by decide +kernel
theorem dX6_writeRow_93 : decode cX6_writeRow 93 = .ok (.iload_n 2, 1) := by decide +kernel
theorem dX6_writeRow_94 : decode cX6_writeRow 94 = .ok (.iload 5, 2) := by decide +kernel
theorem dX6_writeRow_96 : decode cX6_writeRow 96 = .ok (.iadd, 1) := by decide +kernel
theorem dX6_writeRow_97 : decode cX6_writeRow 97 = .ok (.invokevirtual 33, 3) := by decide +kernel
theorem dX6_writeRow_100 : decode cX6_writeRow 100 = .ok (.bipush 8, 2) := by decide +kernel
theorem dX6_writeRow_102 : decode cX6_writeRow 102 = .ok (.ishr, 1) := by decide +kernel
theorem dX6_writeRow_103 : decode cX6_writeRow 103 = .ok (.invokevirtual 124, 3) := by decide +kernel
theorem dX6_writeRow_106 : decode cX6_writeRow 106 = .ok (.iinc 5 1, 3) := by decide +kernel
theorem dX6_writeRow_109 : decode cX6_writeRow 109 = .ok (.goto (-43), 3) := by decide +kernel
theorem dX6_writeRow_112 : decode cX6_writeRow 112 = .ok (.return_, 1) := by decide +kernel
theorem dX6_letter_0 : decode cX6_letter 0 = .ok (.iload_n 0, 1) := by decide +kernel
theorem dX6_letter_1 : decode cX6_letter 1 = .ok (.ifCond .ne 8, 3) := by decide +kernel
theorem dX6_letter_4 : decode cX6_letter 4 = .ok (.bipush 65, 2) := by decide +kernel
theorem dX6_letter_6 : decode cX6_letter 6 = .ok (.goto 25, 3) := by decide +kernel
theorem dX6_letter_9 : decode cX6_letter 9 = .ok (.iload_n 0, 1) := by decide +kernel
theorem dX6_letter_10 : decode cX6_letter 10 = .ok (.iconst 1, 1) := by decide +kernel
theorem dX6_letter_11 : decode cX6_letter 11 = .ok (.if_icmp .ne 8, 3) := by decide +kernel
theorem dX6_letter_14 : decode cX6_letter 14 = .ok (.bipush 67, 2) := by decide +kernel
theorem dX6_letter_16 : decode cX6_letter 16 = .ok (.goto 15, 3) := by decide +kernel
theorem dX6_letter_19 : decode cX6_letter 19 = .ok (.iload_n 0, 1) := by decide +kernel
theorem dX6_letter_20 : decode cX6_letter 20 = .ok (.iconst 2, 1) := by decide +kernel
theorem dX6_letter_21 : decode cX6_letter 21 = .ok (.if_icmp .ne 8, 3) := by decide +kernel
theorem dX6_letter_24 : decode cX6_letter 24 = .ok (.bipush 71, 2) := by decide +kernel
theorem dX6_letter_26 : decode cX6_letter 26 = .ok (.goto 5, 3) := by decide +kernel
theorem dX6_letter_29 : decode cX6_letter 29 = .ok (.bipush 84, 2) := by decide +kernel
theorem dX6_letter_31 : decode cX6_letter 31 = .ok (.ireturn, 1) := by decide +kernel
theorem dX6_writeOut_0 : decode cX6_writeOut 0 = .ok (.aload_n 0, 1) := by decide +kernel
theorem dX6_writeOut_1 : decode cX6_writeOut 1 = .ok (.iconst 0, 1) := by decide +kernel
theorem dX6_writeOut_2 : decode cX6_writeOut 2 = .ok (.putfield 121, 3) := by decide +kernel
theorem dX6_writeOut_5 : decode cX6_writeOut 5 = .ok (.aload_n 0, 1) := by decide +kernel
theorem dX6_writeOut_6 : decode cX6_writeOut 6 = .ok (.aload_n 0, 1) := by decide +kernel
theorem dX6_writeOut_7 : decode cX6_writeOut 7 = .ok (.iload_n 1, 1) := by decide +kernel
theorem dX6_writeOut_8 : decode cX6_writeOut 8 = .ok (.iconst 0, 1) := by decide +kernel
theorem dX6_writeOut_9 : decode cX6_writeOut 9 = .ok (.invokevirtual 33, 3) := by decide +kernel
theorem dX6_writeOut_12 : decode cX6_writeOut 12 = .ok (.invokevirtual 124, 3) := by decide +kernel
theorem dX6_writeOut_15 : decode cX6_writeOut 15 = .ok (.aload_n 0, 1) := by decide +kernel
theorem dX6_writeOut_16 : decode cX6_writeOut 16 = .ok (.aload_n 0, 1) := by decide +kernel
theorem dX6_writeOut_17 : decode cX6_writeOut 17 = .ok (.iload_n 1, 1) := by decide +kernel
theorem dX6_writeOut_18 : decode cX6_writeOut 18 = .ok (.iconst 0, 1) := by decide +kernel
theorem dX6_writeOut_19 : decode cX6_writeOut 19 = .ok (.invokevirtual 33, 3) := by decide +kernel
theorem dX6_writeOut_22 : decode cX6_writeOut 22 = .ok (.bipush 8, 2) := by decide +kernel
theorem dX6_writeOut_24 : decode cX6_writeOut 24 = .ok (.ishr, 1) := by decide +kernel
theorem dX6_writeOut_25 : decode cX6_writeOut 25 = .ok (.invokevirtual 124, 3) := by decide +kernel
theorem dX6_writeOut_28 : decode cX6_writeOut 28 = .ok (.aload_n 0, 1) := by decide +kernel
theorem dX6_writeOut_29 : decode cX6_writeOut 29 = .ok (.aload_n 0, 1) := by decide +kernel
theorem dX6_writeOut_30 : decode cX6_writeOut 30 = .ok (.iload_n 1, 1) := by decide +kernel
theorem dX6_writeOut_31 : decode cX6_writeOut 31 = .ok (.bipush 10, 2) := by decide +kernel
theorem dX6_writeOut_33 : decode cX6_writeOut 33 = .ok (.invokevirtual 33, 3) := by decide +kernel
theorem dX6_writeOut_36 : decode cX6_writeOut 36 = .ok (.invokevirtual 124, 3) := by decide +kernel
theorem dX6_writeOut_39 : decode cX6_writeOut 39 = .ok (.aload_n 0, 1) := by decide +kernel
theorem dX6_writeOut_40 : decode cX6_writeOut 40 = .ok (.aload_n 0, 1) := by decide +kernel
theorem dX6_writeOut_41 : decode cX6_writeOut 41 = .ok (.iload_n 1, 1) := by decide +kernel
theorem dX6_writeOut_42 : decode cX6_writeOut 42 = .ok (.bipush 10, 2) := by decide +kernel
theorem dX6_writeOut_44 : decode cX6_writeOut 44 = .ok (.invokevirtual 33, 3) := by decide +kernel
theorem dX6_writeOut_47 : decode cX6_writeOut 47 = .ok (.bipush 8, 2) := by decide +kernel
theorem dX6_writeOut_49 : decode cX6_writeOut 49 = .ok (.ishr, 1) := by decide +kernel
theorem dX6_writeOut_50 : decode cX6_writeOut 50 = .ok (.invokevirtual 124, 3) := by decide +kernel
theorem dX6_writeOut_53 : decode cX6_writeOut 53 = .ok (.aload_n 0, 1) := by decide +kernel
theorem dX6_writeOut_54 : decode cX6_writeOut 54 = .ok (.iload_n 1, 1) := by decide +kernel
theorem dX6_writeOut_55 : decode cX6_writeOut 55 = .ok (.iconst 1, 1) := by decide +kernel
theorem dX6_writeOut_56 : decode cX6_writeOut 56 = .ok (.invokevirtual 33, 3) := by decide +kernel
theorem dX6_writeOut_59 : decode cX6_writeOut 59 = .ok (.istore_n 2, 1) := by decide +kernel
theorem dX6_writeOut_60 : decode cX6_writeOut 60 = .ok (.aload_n 0, 1) := by decide +kernel
theorem dX6_writeOut_61 : decode cX6_writeOut 61 = .ok (.iload_n 2, 1) := by decide +kernel
theorem dX6_writeOut_62 : decode cX6_writeOut 62 = .ok (.invokevirtual 124, 3) := by decide +kernel
theorem dX6_writeOut_65 : decode cX6_writeOut 65 = .ok (.iconst 0, 1) := by decide +kernel
theorem dX6_writeOut_66 : decode cX6_writeOut 66 = .ok (.istore_n 3, 1) := by decide +kernel
theorem dX6_writeOut_67 : decode cX6_writeOut 67 = .ok (.iload_n 3, 1) := by decide +kernel
theorem dX6_writeOut_68 : decode cX6_writeOut 68 = .ok (.iload_n 2, 1) := by decide +kernel
theorem dX6_writeOut_69 : decode cX6_writeOut 69 = .ok (.if_icmp .ge 71, 3) := by decide +kernel
theorem dX6_writeOut_72 : decode cX6_writeOut 72 = .ok (.aload_n 0, 1) := by decide +kernel
theorem dX6_writeOut_73 : decode cX6_writeOut 73 = .ok (.iload_n 1, 1) := by decide +kernel
theorem dX6_writeOut_74 : decode cX6_writeOut 74 = .ok (.iconst 2, 1) := by decide +kernel
theorem dX6_writeOut_75 : decode cX6_writeOut 75 = .ok (.iload_n 3, 1) := by decide +kernel
theorem dX6_writeOut_76 : decode cX6_writeOut 76 = .ok (.iadd, 1) := by decide +kernel
theorem dX6_writeOut_77 : decode cX6_writeOut 77 = .ok (.invokevirtual 33, 3) := by decide +kernel
theorem dX6_writeOut_80 : decode cX6_writeOut 80 = .ok (.istore 4, 2) := by decide +kernel
theorem dX6_writeOut_82 : decode cX6_writeOut 82 = .ok (.aload_n 0, 1) := by decide +kernel
theorem dX6_writeOut_83 : decode cX6_writeOut 83 = .ok (.bipush 16, 2) := by decide +kernel
theorem dX6_writeOut_85 : decode cX6_writeOut 85 = .ok (.iload 4, 2) := by decide +kernel
theorem dX6_writeOut_87 : decode cX6_writeOut 87 = .ok (.imul, 1) := by decide +kernel
theorem dX6_writeOut_88 : decode cX6_writeOut 88 = .ok (.bipush 7, 2) := by decide +kernel
theorem dX6_writeOut_90 : decode cX6_writeOut 90 = .ok (.iadd, 1) := by decide +kernel
theorem dX6_writeOut_91 : decode cX6_writeOut 91 = .ok (.invokevirtual 124, 3) := by decide +kernel
theorem dX6_writeOut_94 : decode cX6_writeOut 94 = .ok (.iload 4, 2) := by decide +kernel
theorem dX6_writeOut_96 : decode cX6_writeOut 96 = .ok (.iconst 1, 1) := by decide +kernel
theorem dX6_writeOut_97 : decode cX6_writeOut 97 = .ok (.isub, 1) := by decide +kernel
theorem dX6_writeOut_98 : decode cX6_writeOut 98 = .ok (.istore 5, 2) := by decide +kernel
theorem dX6_writeOut_100 : decode cX6_writeOut 100 = .ok (.iload 5, 2) := by decide +kernel
theorem dX6_writeOut_102 : decode cX6_writeOut 102 = .ok (.ifCond .lt 32, 3) := by decide +kernel
theorem dX6_writeOut_105 : decode cX6_writeOut 105 = .ok (.aload_n 0, 1) := by decide +kernel
theorem dX6_writeOut_106 : decode cX6_writeOut 106 = .ok (.aload_n 0, 1) := by decide +kernel
theorem dX6_writeOut_107 : decode cX6_writeOut 107 = .ok (.iload_n 1, 1) := by decide +kernel
theorem dX6_writeOut_108 : decode cX6_writeOut 108 = .ok (.bipush 6, 2) := by decide +kernel
theorem dX6_writeOut_110 : decode cX6_writeOut 110 = .ok (.iload_n 3, 1) := by decide +kernel
theorem dX6_writeOut_111 : decode cX6_writeOut 111 = .ok (.iadd, 1) := by decide +kernel
theorem dX6_writeOut_112 : decode cX6_writeOut 112 = .ok (.invokevirtual 33, 3) := by decide +kernel
theorem dX6_writeOut_115 : decode cX6_writeOut 115 = .ok (.iconst 2, 1) := by decide +kernel
theorem dX6_writeOut_116 : decode cX6_writeOut 116 = .ok (.iload 5, 2) := by decide +kernel
theorem dX6_writeOut_118 : decode cX6_writeOut 118 = .ok (.imul, 1) := by decide +kernel
theorem dX6_writeOut_119 : decode cX6_writeOut 119 = .ok (.ishr, 1) := by decide +kernel
theorem dX6_writeOut_120 : decode cX6_writeOut 120 = .ok (.iconst 3, 1) := by decide +kernel
theorem dX6_writeOut_121 : decode cX6_writeOut 121 = .ok (.iand, 1) := by decide +kernel
theorem dX6_writeOut_122 : decode cX6_writeOut 122 = .ok (.invokestatic 127, 3) := by decide +kernel
theorem dX6_writeOut_125 : decode cX6_writeOut 125 = .ok (.invokevirtual 124, 3) := by decide +kernel
theorem dX6_writeOut_128 : decode cX6_writeOut 128 = .ok (.iinc 5 (-1), 3) := by decide +kernel
theorem dX6_writeOut_131 : decode cX6_writeOut 131 = .ok (.goto (-31), 3) := by decide +kernel
theorem dX6_writeOut_134 : decode cX6_writeOut 134 = .ok (.iinc 3 1, 3) := by decide +kernel
theorem dX6_writeOut_137 : decode cX6_writeOut 137 = .ok (.goto (-70), 3) := by decide +kernel
theorem dX6_writeOut_140 : decode cX6_writeOut 140 = .ok (.aload_n 0, 1) := by decide +kernel
theorem dX6_writeOut_141 : decode cX6_writeOut 141 = .ok (.iload_n 1, 1) := by decide +kernel
theorem dX6_writeOut_142 : decode cX6_writeOut 142 = .ok (.bipush 11, 2) := by decide +kernel
theorem dX6_writeOut_144 : decode cX6_writeOut 144 = .ok (.iload_n 2, 1) := by decide +kernel
theorem dX6_writeOut_145 : decode cX6_writeOut 145 = .ok (.invokevirtual 130, 3) := by decide +kernel
theorem dX6_writeOut_148 : decode cX6_writeOut 148 = .ok (.iconst 0, 1) := by decide +kernel
theorem dX6_writeOut_149 : decode cX6_writeOut 149 = .ok (.istore_n 3, 1) := by decide +kernel
theorem dX6_writeOut_150 : decode cX6_writeOut 150 = .ok (.iload_n 3, 1) := by decide +kernel
theorem dX6_writeOut_151 : decode cX6_writeOut 151 = .ok (.iconst 2, 1) := by decide +kernel
theorem dX6_writeOut_152 : decode cX6_writeOut 152 = .ok (.if_icmp .ge 82, 3) := by decide +kernel
theorem dX6_writeOut_155 : decode cX6_writeOut 155 = .ok (.aload_n 0, 1) := by decide +kernel
theorem dX6_writeOut_156 : decode cX6_writeOut 156 = .ok (.bipush 33, 2) := by decide +kernel
theorem dX6_writeOut_158 : decode cX6_writeOut 158 = .ok (.invokevirtual 124, 3) := by decide +kernel
theorem dX6_writeOut_161 : decode cX6_writeOut 161 = .ok (.iconst 0, 1) := by decide +kernel
theorem dX6_writeOut_162 : decode cX6_writeOut 162 = .ok (.istore 4, 2) := by decide +kernel
theorem dX6_writeOut_164 : decode cX6_writeOut 164 = .ok (.iload 4, 2) := by decide +kernel
theorem dX6_writeOut_166 : decode cX6_writeOut 166 = .ok (.iconst 2, 1) := by decide +kernel
theorem dX6_writeOut_167 : decode cX6_writeOut 167 = .ok (.if_icmp .ge 45, 3) := by decide +kernel
theorem dX6_writeOut_170 : decode cX6_writeOut 170 = .ok (.aload_n 0, 1) := by decide +kernel
theorem dX6_writeOut_171 : decode cX6_writeOut 171 = .ok (.iconst 2, 1) := by decide +kernel
theorem dX6_writeOut_172 : decode cX6_writeOut 172 = .ok (.aload_n 0, 1) := by decide +kernel
theorem dX6_writeOut_173 : decode cX6_writeOut 173 = .ok (.iload_n 1, 1) := by decide +kernel
theorem dX6_writeOut_174 : decode cX6_writeOut 174 = .ok (.bipush 15, 2) := by decide +kernel
theorem dX6_writeOut_176 : decode cX6_writeOut 176 = .ok (.iconst 3, 1) := by decide +kernel
theorem dX6_writeOut_177 : decode cX6_writeOut 177 = .ok (.iload_n 3, 1) := by decide +kernel
theorem dX6_writeOut_178 : decode cX6_writeOut 178 = .ok (.imul, 1) := by decide +kernel
theorem dX6_writeOut_179 : decode cX6_writeOut 179 = .ok (.iadd, 1) := by decide +kernel
theorem dX6_writeOut_180 : decode cX6_writeOut 180 = .ok (.iload 4, 2) := by decide +kernel
theorem dX6_writeOut_182 : decode cX6_writeOut 182 = .ok (.iadd, 1) := by decide +kernel
theorem dX6_writeOut_183 : decode cX6_writeOut 183 = .ok (.invokevirtual 33, 3) := by decide +kernel
theorem dX6_writeOut_186 : decode cX6_writeOut 186 = .ok (.iconst 1, 1) := by decide +kernel
theorem dX6_writeOut_187 : decode cX6_writeOut 187 = .ok (.iadd, 1) := by decide +kernel
theorem dX6_writeOut_188 : decode cX6_writeOut 188 = .ok (.imul, 1) := by decide +kernel
theorem dX6_writeOut_189 : decode cX6_writeOut 189 = .ok (.aload_n 0, 1) := by decide +kernel
theorem dX6_writeOut_190 : decode cX6_writeOut 190 = .ok (.iload_n 1, 1) := by decide +kernel
theorem dX6_writeOut_191 : decode cX6_writeOut 191 = .ok (.bipush 15, 2) := by decide +kernel
theorem dX6_writeOut_193 : decode cX6_writeOut 193 = .ok (.iconst 3, 1) := by decide +kernel
theorem dX6_writeOut_194 : decode cX6_writeOut 194 = .ok (.iload_n 3, 1) := by decide +kernel
theorem dX6_writeOut_195 : decode cX6_writeOut 195 = .ok (.imul, 1) := by decide +kernel
theorem dX6_writeOut_196 : decode cX6_writeOut 196 = .ok (.iadd, 1) := by decide +kernel
theorem dX6_writeOut_197 : decode cX6_writeOut 197 = .ok (.iconst 2, 1) := by decide +kernel
theorem dX6_writeOut_198 : decode cX6_writeOut 198 = .ok (.iadd, 1) := by decide +kernel
theorem dX6_writeOut_199 : decode cX6_writeOut 199 = .ok (.invokevirtual 33, 3) := by decide +kernel
theorem dX6_writeOut_202 : decode cX6_writeOut 202 = .ok (.iadd, 1) := by decide +kernel
theorem dX6_writeOut_203 : decode cX6_writeOut 203 = .ok (.invokevirtual 124, 3) := by decide +kernel
theorem dX6_writeOut_206 : decode cX6_writeOut 206 = .ok (.iinc 4 1, 3) := by decide +kernel
theorem dX6_writeOut_209 : decode cX6_writeOut 209 = .ok (.goto (-45), 3) := by decide +kernel
theorem dX6_writeOut_212 : decode cX6_writeOut 212 = .ok (.aload_n 0, 1) := by decide +kernel
theorem dX6_writeOut_213 : decode cX6_writeOut 213 = .ok (.iload_n 1, 1) := by decide +kernel
theorem dX6_writeOut_214 : decode cX6_writeOut 214 = .ok (.bipush 21, 2) := by decide +kernel
theorem dX6_writeOut_216 : decode cX6_writeOut 216 = .ok (.bipush 10, 2) := by decide +kernel
theorem dX6_writeOut_218 : decode cX6_writeOut 218 = .ok (.iload_n 3, 1) := by decide +kernel
theorem dX6_writeOut_219 : decode cX6_writeOut 219 = .ok (.imul, 1) := by decide +kernel
theorem dX6_writeOut_220 : decode cX6_writeOut 220 = .ok (.iadd, 1) := by decide +kernel
theorem dX6_writeOut_221 : decode cX6_writeOut 221 = .ok (.iload_n 2, 1) := by decide +kernel
theorem dX6_writeOut_222 : decode cX6_writeOut 222 = .ok (.invokestatic 70, 3) := by decide +kernel
theorem dX6_writeOut_225 : decode cX6_writeOut 225 = .ok (.invokevirtual 130, 3) := by decide +kernel
theorem dX6_writeOut_228 : decode cX6_writeOut 228 = .ok (.iinc 3 1, 3) := by decide +kernel
theorem dX6_writeOut_231 : decode cX6_writeOut 231 = .ok (.goto (-81), 3) := by decide +kernel
theorem dX6_writeOut_234 : decode cX6_writeOut 234 = .ok (.return_, 1) := by decide +kernel
theorem dX6_written_0 : decode cX6_written 0 = .ok (.iload_n 1, 1) := by decide +kernel
theorem dX6_written_1 : decode cX6_written 1 = .ok (.aload_n 0, 1) := by decide +kernel
theorem dX6_written_2 : decode cX6_written 2 = .ok (.getfield 44, 3) := by decide +kernel
theorem dX6_written_5 : decode cX6_written 5 = .ok (.invokestatic 67, 3) := by decide +kernel
theorem dX6_written_8 : decode cX6_written 8 = .ok (.istore_n 3, 1) := by decide +kernel
theorem dX6_written_9 : decode cX6_written 9 = .ok (.iload_n 3, 1) := by decide +kernel
theorem dX6_written_10 : decode cX6_written 10 = .ok (.ifCond .ne 8, 3) := by decide +kernel
theorem dX6_written_13 : decode cX6_written 13 = .ok (.aload_n 0, 1) := by decide +kernel
theorem dX6_written_14 : decode cX6_written 14 = .ok (.iload_n 1, 1) := by decide +kernel
theorem dX6_written_15 : decode cX6_written 15 = .ok (.invokevirtual 133, 3) := by decide +kernel
theorem dX6_written_18 : decode cX6_written 18 = .ok (.aload_n 0, 1) := by decide +kernel
theorem dX6_written_19 : decode cX6_written 19 = .ok (.iload_n 3, 1) := by decide +kernel
theorem dX6_written_20 : decode cX6_written 20 = .ok (.iload_n 2, 1) := by decide +kernel
theorem dX6_written_21 : decode cX6_written 21 = .ok (.iconst (-1), 1) := by decide +kernel
theorem dX6_written_22 : decode cX6_written 22 = .ok (.if_icmp .lt 11, 3) := by decide +kernel
theorem dX6_written_25 : decode cX6_written 25 = .ok (.iload_n 2, 1) := by decide +kernel
theorem dX6_written_26 : decode cX6_written 26 = .ok (.aload_n 0, 1) := by decide +kernel
theorem dX6_written_27 : decode cX6_written 27 = .ok (.getfield 121, 3) := by decide +kernel
theorem dX6_written_30 : decode cX6_written 30 = .ok (.if_icmp .lt 7, 3) := by decide +kernel
theorem dX6_written_33 : decode cX6_written 33 = .ok (.iconst 1, 1) := by decide +kernel
theorem dX6_written_34 : decode cX6_written 34 = .ok (.goto 4, 3) := by decide +kernel
theorem dX6_written_37 : decode cX6_written 37 = .ok (.iconst 0, 1) := by decide +kernel
theorem dX6_written_38 : decode cX6_written 38 = .ok (.invokevirtual 47, 3) := by decide +kernel
theorem dX6_written_41 : decode cX6_written 41 = .ok (.ifCond .eq 5, 3) := by decide +kernel
theorem dX6_written_44 : decode cX6_written 44 = .ok (.iconst 0, 1) := by decide +kernel
theorem dX6_written_45 : decode cX6_written 45 = .ok (.ireturn, 1) := by decide +kernel
theorem dX6_written_46 : decode cX6_written 46 = .ok (.iload_n 2, 1) := by decide +kernel
theorem dX6_written_47 : decode cX6_written 47 = .ok (.ifCond .ge 10, 3) := by decide +kernel
theorem dX6_written_50 : decode cX6_written 50 = .ok (.aload_n 0, 1) := by decide +kernel
theorem dX6_written_51 : decode cX6_written 51 = .ok (.getfield 121, 3) := by decide +kernel
theorem dX6_written_54 : decode cX6_written 54 = .ok (.goto 9, 3) := by decide +kernel
theorem dX6_written_57 : decode cX6_written 57 = .ok (.aload_n 0, 1) := by decide +kernel
theorem dX6_written_58 : decode cX6_written 58 = .ok (.getfield 16, 3) := by decide +kernel
theorem dX6_written_61 : decode cX6_written 61 = .ok (.iload_n 2, 1) := by decide +kernel
theorem dX6_written_62 : decode cX6_written 62 = .ok (.iaload, 1) := by decide +kernel
theorem dX6_written_63 : decode cX6_written 63 = .ok (.ireturn, 1) := by decide +kernel
theorem dX6_type_0 : decode cX6_type 0 = .ok (.iload_n 3, 1) := by decide +kernel
theorem dX6_type_1 : decode cX6_type 1 = .ok (.iconst 1, 1) := by decide +kernel
theorem dX6_type_2 : decode cX6_type 2 = .ok (.if_icmp .lt 9, 3) := by decide +kernel
theorem dX6_type_5 : decode cX6_type 5 = .ok (.iload_n 3, 1) := by decide +kernel
theorem dX6_type_6 : decode cX6_type 6 = .ok (.bipush 8, 2) := by decide +kernel
theorem dX6_type_8 : decode cX6_type 8 = .ok (.if_icmp .le 7, 3) := by decide +kernel
theorem dX6_type_11 : decode cX6_type 11 = .ok (.iconst 1, 1) := by decide +kernel
theorem dX6_type_12 : decode cX6_type 12 = .ok (.goto 4, 3) := by decide +kernel
theorem dX6_type_15 : decode cX6_type 15 = .ok (.iconst 0, 1) := by decide +kernel
theorem dX6_type_16 : decode cX6_type 16 = .ok (.istore 4, 2) := by decide +kernel
theorem dX6_type_18 : decode cX6_type 18 = .ok (.aload_n 0, 1) := by decide +kernel
theorem dX6_type_19 : decode cX6_type 19 = .ok (.iload 4, 2) := by decide +kernel
theorem dX6_type_21 : decode cX6_type 21 = .ok (.iload 4, 2) := by decide +kernel
theorem dX6_type_23 : decode cX6_type 23 = .ok (.ifCond .ne 18, 3) := by decide +kernel
theorem dX6_type_26 : decode cX6_type 26 = .ok (.aload_n 0, 1) := by decide +kernel
theorem dX6_type_27 : decode cX6_type 27 = .ok (.getfield 136, 3) := by decide +kernel
theorem dX6_type_30 : decode cX6_type 30 = .ok (.iload_n 3, 1) := by decide +kernel
theorem dX6_type_31 : decode cX6_type 31 = .ok (.iadd, 1) := by decide +kernel
theorem dX6_type_32 : decode cX6_type 32 = .ok (.bipush 120, 2) := by decide +kernel
theorem dX6_type_34 : decode cX6_type 34 = .ok (.if_icmp .le 7, 3) := by decide +kernel
theorem dX6_type_37 : decode cX6_type 37 = .ok (.iconst 1, 1) := by decide +kernel
theorem dX6_type_38 : decode cX6_type 38 = .ok (.goto 4, 3) := by decide +kernel
theorem dX6_type_41 : decode cX6_type 41 = .ok (.iconst 0, 1) := by decide +kernel
theorem dX6_type_42 : decode cX6_type 42 = .ok (.invokevirtual 47, 3) := by decide +kernel
theorem dX6_type_45 : decode cX6_type 45 = .ok (.ifCond .eq 4, 3) := by decide +kernel
theorem dX6_type_48 : decode cX6_type 48 = .ok (.return_, 1) := by decide +kernel
theorem dX6_type_49 : decode cX6_type 49 = .ok (.iload_n 3, 1) := by decide +kernel
theorem dX6_type_50 : decode cX6_type 50 = .ok (.iconst 1, 1) := by decide +kernel
theorem dX6_type_51 : decode cX6_type 51 = .ok (.isub, 1) := by decide +kernel
theorem dX6_type_52 : decode cX6_type 52 = .ok (.istore 5, 2) := by decide +kernel
theorem dX6_type_54 : decode cX6_type 54 = .ok (.iload 5, 2) := by decide +kernel
theorem dX6_type_56 : decode cX6_type 56 = .ok (.ifCond .lt 40, 3) := by decide +kernel
theorem dX6_type_59 : decode cX6_type 59 = .ok (.aload_n 0, 1) := by decide +kernel
theorem dX6_type_60 : decode cX6_type 60 = .ok (.getfield 19, 3) := by decide +kernel
theorem dX6_type_63 : decode cX6_type 63 = .ok (.aload_n 0, 1) := by decide +kernel
theorem dX6_type_64 : decode cX6_type 64 = .ok (.getfield 136, 3) := by decide +kernel
theorem dX6_type_67 : decode cX6_type 67 = .ok (.lload_n 1, 1) := by decide +kernel
theorem dX6_type_68 : decode cX6_type 68 = .ok (.bipush 8, 2) := by decide +kernel
theorem dX6_type_70 : decode cX6_type 70 = .ok (.iload 5, 2) := by decide +kernel
theorem dX6_type_72 : decode cX6_type 72 = .ok (.imul, 1) := by decide +kernel
theorem dX6_type_73 : decode cX6_type 73 = .ok (.lshr, 1) := by decide +kernel
theorem dX6_type_74 : decode cX6_type 74 = .ok (.ldc2_w 139, 3) := by decide +kernel
theorem dX6_type_77 : decode cX6_type 77 = .ok (.land, 1) := by decide +kernel
theorem dX6_type_78 : decode cX6_type 78 = .ok (.l2i, 1) := by decide +kernel
theorem dX6_type_79 : decode cX6_type 79 = .ok (.iastore, 1) := by decide +kernel
theorem dX6_type_80 : decode cX6_type 80 = .ok (.aload_n 0, 1) := by decide +kernel
theorem dX6_type_81 : decode cX6_type 81 = .ok (.dup, 1) := by decide +kernel
theorem dX6_type_82 : decode cX6_type 82 = .ok (.getfield 136, 3) := by decide +kernel
theorem dX6_type_85 : decode cX6_type 85 = .ok (.iconst 1, 1) := by decide +kernel
theorem dX6_type_86 : decode cX6_type 86 = .ok (.iadd, 1) := by decide +kernel
theorem dX6_type_87 : decode cX6_type 87 = .ok (.putfield 136, 3) := by decide +kernel
theorem dX6_type_90 : decode cX6_type 90 = .ok (.iinc 5 (-1), 3) := by decide +kernel
theorem dX6_type_93 : decode cX6_type 93 = .ok (.goto (-39), 3) := by decide +kernel
theorem dX6_type_96 : decode cX6_type 96 = .ok (.return_, 1) := by decide +kernel
theorem dX6_byteAt_0 : decode cX6_byteAt 0 = .ok (.iload_n 1, 1) := by decide +kernel
theorem dX6_byteAt_1 : decode cX6_byteAt 1 = .ok (.aload_n 0, 1) := by decide +kernel
theorem dX6_byteAt_2 : decode cX6_byteAt 2 = .ok (.getfield 136, 3) := by decide +kernel
theorem dX6_byteAt_5 : decode cX6_byteAt 5 = .ok (.if_icmp .ge 12, 3) := by decide +kernel
theorem dX6_byteAt_8 : decode cX6_byteAt 8 = .ok (.aload_n 0, 1) := by decide +kernel
theorem dX6_byteAt_9 : decode cX6_byteAt 9 = .ok (.getfield 19, 3) := by decide +kernel
theorem dX6_byteAt_12 : decode cX6_byteAt 12 = .ok (.iload_n 1, 1) := by decide +kernel
theorem dX6_byteAt_13 : decode cX6_byteAt 13 = .ok (.iaload, 1) := by decide +kernel
theorem dX6_byteAt_14 : decode cX6_byteAt 14 = .ok (.goto 4, 3) := by decide +kernel
theorem dX6_byteAt_17 : decode cX6_byteAt 17 = .ok (.iconst 0, 1) := by decide +kernel
theorem dX6_byteAt_18 : decode cX6_byteAt 18 = .ok (.ireturn, 1) := by decide +kernel
theorem dX6_twoAt_0 : decode cX6_twoAt 0 = .ok (.aload_n 0, 1) := by decide +kernel
theorem dX6_twoAt_1 : decode cX6_twoAt 1 = .ok (.iload_n 1, 1) := by decide +kernel
theorem dX6_twoAt_2 : decode cX6_twoAt 2 = .ok (.invokevirtual 141, 3) := by decide +kernel
theorem dX6_twoAt_5 : decode cX6_twoAt 5 = .ok (.sipush 256, 3) := by decide +kernel
theorem dX6_twoAt_8 : decode cX6_twoAt 8 = .ok (.aload_n 0, 1) := by decide +kernel
theorem dX6_twoAt_9 : decode cX6_twoAt 9 = .ok (.iload_n 1, 1) := by decide +kernel
theorem dX6_twoAt_10 : decode cX6_twoAt 10 = .ok (.iconst 1, 1) := by decide +kernel
theorem dX6_twoAt_11 : decode cX6_twoAt 11 = .ok (.iadd, 1) := by decide +kernel
theorem dX6_twoAt_12 : decode cX6_twoAt 12 = .ok (.invokevirtual 141, 3) := by decide +kernel
theorem dX6_twoAt_15 : decode cX6_twoAt 15 = .ok (.imul, 1) := by decide +kernel
theorem dX6_twoAt_16 : decode cX6_twoAt 16 = .ok (.iadd, 1) := by decide +kernel
theorem dX6_twoAt_17 : decode cX6_twoAt 17 = .ok (.ireturn, 1) := by decide +kernel
theorem dX6_readRow_0 : decode cX6_readRow 0 = .ok (.aload_n 0, 1) := by decide +kernel
theorem dX6_readRow_1 : decode cX6_readRow 1 = .ok (.iload_n 1, 1) := by decide +kernel
theorem dX6_readRow_2 : decode cX6_readRow 2 = .ok (.invokevirtual 141, 3) := by decide +kernel
theorem dX6_readRow_5 : decode cX6_readRow 5 = .ok (.bipush 15, 2) := by decide +kernel
theorem dX6_readRow_7 : decode cX6_readRow 7 = .ok (.iand, 1) := by decide +kernel
theorem dX6_readRow_8 : decode cX6_readRow 8 = .ok (.iconst 2, 1) := by decide +kernel
theorem dX6_readRow_9 : decode cX6_readRow 9 = .ok (.if_icmp .ne 7, 3) := by decide +kernel
theorem dX6_readRow_12 : decode cX6_readRow 12 = .ok (.iconst 1, 1) := by decide +kernel
theorem dX6_readRow_13 : decode cX6_readRow 13 = .ok (.goto 4, 3) := by decide +kernel
theorem dX6_readRow_16 : decode cX6_readRow 16 = .ok (.iconst 0, 1) := by decide +kernel
theorem dX6_readRow_17 : decode cX6_readRow 17 = .ok (.istore 4, 2) := by decide +kernel
theorem dX6_readRow_19 : decode cX6_readRow 19 = .ok (.iconst 0, 1) := by decide +kernel
theorem dX6_readRow_20 : decode cX6_readRow 20 = .ok (.istore 5, 2) := by decide +kernel
theorem dX6_readRow_22 : decode cX6_readRow 22 = .ok (.iload 5, 2) := by decide +kernel
theorem dX6_readRow_24 : decode cX6_readRow 24 = .ok (.iload_n 3, 1) := by decide +kernel
theorem dX6_readRow_25 : decode cX6_readRow 25 = .ok (.if_icmp .ge 49, 3) := by decide +kernel
theorem dX6_readRow_28 : decode cX6_readRow 28 = .ok (.aload_n 0, 1) := by decide +kernel
theorem dX6_readRow_29 : decode cX6_readRow 29 = .ok (.bipush 25, 2) := by decide +kernel
theorem dX6_readRow_31 : decode cX6_readRow 31 = .ok (.iload_n 2, 1) := by decide +kernel
theorem dX6_readRow_32 : decode cX6_readRow 32 = .ok (.iload 5, 2) := by decide +kernel
theorem dX6_readRow_34 : decode cX6_readRow 34 = .ok (.iadd, 1) := by decide +kernel
theorem dX6_readRow_35 : decode cX6_readRow 35 = .ok (.iload 4, 2) := by decide +kernel
theorem dX6_readRow_37 : decode cX6_readRow 37 = .ok (.ifCond .eq 18, 3) := by decide +kernel
theorem dX6_readRow_40 : decode cX6_readRow 40 = .ok (.aload_n 0, 1) := by decide +kernel
theorem dX6_readRow_41 : decode cX6_readRow 41 = .ok (.iload_n 1, 1) := by decide +kernel
theorem dX6_readRow_42 : decode cX6_readRow 42 = .ok (.iconst 1, 1) := by decide +kernel
theorem dX6_readRow_43 : decode cX6_readRow 43 = .ok (.iadd, 1) := by decide +kernel
theorem dX6_readRow_44 : decode cX6_readRow 44 = .ok (.iconst 2, 1) := by decide +kernel
theorem dX6_readRow_45 : decode cX6_readRow 45 = .ok (.iload 5, 2) := by decide +kernel
theorem dX6_readRow_47 : decode cX6_readRow 47 = .ok (.imul, 1) := by decide +kernel
theorem dX6_readRow_48 : decode cX6_readRow 48 = .ok (.iadd, 1) := by decide +kernel
theorem dX6_readRow_49 : decode cX6_readRow 49 = .ok (.invokevirtual 144, 3) := by decide +kernel
theorem dX6_readRow_52 : decode cX6_readRow 52 = .ok (.goto 13, 3) := by decide +kernel
theorem dX6_readRow_55 : decode cX6_readRow 55 = .ok (.aload_n 0, 1) := by decide +kernel
theorem dX6_readRow_56 : decode cX6_readRow 56 = .ok (.iload_n 1, 1) := by decide +kernel
theorem dX6_readRow_57 : decode cX6_readRow 57 = .ok (.iconst 1, 1) := by decide +kernel
theorem dX6_readRow_58 : decode cX6_readRow 58 = .ok (.iadd, 1) := by decide +kernel
theorem dX6_readRow_59 : decode cX6_readRow 59 = .ok (.iload 5, 2) := by decide +kernel
theorem dX6_readRow_61 : decode cX6_readRow 61 = .ok (.iadd, 1) := by decide +kernel
theorem dX6_readRow_62 : decode cX6_readRow 62 = .ok (.invokevirtual 141, 3) := by decide +kernel
theorem dX6_readRow_65 : decode cX6_readRow 65 = .ok (.invokevirtual 29, 3) := by decide +kernel
theorem dX6_readRow_68 : decode cX6_readRow 68 = .ok (.iinc 5 1, 3) := by decide +kernel
theorem dX6_readRow_71 : decode cX6_readRow 71 = .ok (.goto (-49), 3) := by decide +kernel
theorem dX6_readRow_74 : decode cX6_readRow 74 = .ok (.iload_n 1, 1) := by decide +kernel
theorem dX6_readRow_75 : decode cX6_readRow 75 = .ok (.iconst 1, 1) := by decide +kernel
theorem dX6_readRow_76 : decode cX6_readRow 76 = .ok (.iadd, 1) := by decide +kernel
theorem dX6_readRow_77 : decode cX6_readRow 77 = .ok (.iload 4, 2) := by decide +kernel
theorem dX6_readRow_79 : decode cX6_readRow 79 = .ok (.ifCond .eq 9, 3) := by decide +kernel
theorem dX6_readRow_82 : decode cX6_readRow 82 = .ok (.iconst 2, 1) := by decide +kernel
theorem dX6_readRow_83 : decode cX6_readRow 83 = .ok (.iload_n 3, 1) := by decide +kernel
theorem dX6_readRow_84 : decode cX6_readRow 84 = .ok (.imul, 1) := by decide +kernel
theorem dX6_readRow_85 : decode cX6_readRow 85 = .ok (.goto 4, 3) := by decide +kernel
theorem dX6_readRow_88 : decode cX6_readRow 88 = .ok (.iload_n 3, 1) := by decide +kernel
theorem dX6_readRow_89 : decode cX6_readRow 89 = .ok (.iadd, 1) := by decide +kernel
theorem dX6_readRow_90 : decode cX6_readRow 90 = .ok (.ireturn, 1) := by decide +kernel
theorem dX6_baseOf_0 : decode cX6_baseOf 0 = .ok (.iload_n 0, 1) := by decide +kernel
theorem dX6_baseOf_1 : decode cX6_baseOf 1 = .ok (.bipush 67, 2) := by decide +kernel
theorem dX6_baseOf_3 : decode cX6_baseOf 3 = .ok (.if_icmp .ne 7, 3) := by decide +kernel
theorem dX6_baseOf_6 : decode cX6_baseOf 6 = .ok (.iconst 1, 1) := by decide +kernel
theorem dX6_baseOf_7 : decode cX6_baseOf 7 = .ok (.goto 24, 3) := by decide +kernel
theorem dX6_baseOf_10 : decode cX6_baseOf 10 = .ok (.iload_n 0, 1) := by decide +kernel
theorem dX6_baseOf_11 : decode cX6_baseOf 11 = .ok (.bipush 71, 2) := by decide +kernel
theorem dX6_baseOf_13 : decode cX6_baseOf 13 = .ok (.if_icmp .ne 7, 3) := by decide +kernel
theorem dX6_baseOf_16 : decode cX6_baseOf 16 = .ok (.iconst 2, 1) := by decide +kernel
theorem dX6_baseOf_17 : decode cX6_baseOf 17 = .ok (.goto 14, 3) := by decide +kernel
theorem dX6_baseOf_20 : decode cX6_baseOf 20 = .ok (.iload_n 0, 1) := by decide +kernel
theorem dX6_baseOf_21 : decode cX6_baseOf 21 = .ok (.bipush 84, 2) := by decide +kernel
theorem dX6_baseOf_23 : decode cX6_baseOf 23 = .ok (.if_icmp .ne 7, 3) := by decide +kernel
theorem dX6_baseOf_26 : decode cX6_baseOf 26 = .ok (.iconst 3, 1) := by decide +kernel
theorem dX6_baseOf_27 : decode cX6_baseOf 27 = .ok (.goto 4, 3) := by decide +kernel
theorem dX6_baseOf_30 : decode cX6_baseOf 30 = .ok (.iconst 0, 1) := by decide +kernel
theorem dX6_baseOf_31 : decode cX6_baseOf 31 = .ok (.ireturn, 1) := by decide +kernel
theorem dX6_taken_0 : decode cX6_taken 0 = .ok (.aload_n 0, 1) := by decide +kernel
theorem dX6_taken_1 : decode cX6_taken 1 = .ok (.bipush 25, 2) := by decide +kernel
theorem dX6_taken_3 : decode cX6_taken 3 = .ok (.aload_n 0, 1) := by decide +kernel
theorem dX6_taken_4 : decode cX6_taken 4 = .ok (.iconst 0, 1) := by decide +kernel
theorem dX6_taken_5 : decode cX6_taken 5 = .ok (.invokevirtual 144, 3) := by decide +kernel
theorem dX6_taken_8 : decode cX6_taken 8 = .ok (.invokevirtual 53, 3) := by decide +kernel
theorem dX6_taken_11 : decode cX6_taken 11 = .ok (.aload_n 0, 1) := by decide +kernel
theorem dX6_taken_12 : decode cX6_taken 12 = .ok (.bipush 25, 2) := by decide +kernel
theorem dX6_taken_14 : decode cX6_taken 14 = .ok (.bipush 10, 2) := by decide +kernel
theorem dX6_taken_16 : decode cX6_taken 16 = .ok (.aload_n 0, 1) := by decide +kernel
theorem dX6_taken_17 : decode cX6_taken 17 = .ok (.iconst 2, 1) := by decide +kernel
theorem dX6_taken_18 : decode cX6_taken 18 = .ok (.invokevirtual 144, 3) := by decide +kernel
theorem dX6_taken_21 : decode cX6_taken 21 = .ok (.invokevirtual 29, 3) := by decide +kernel
theorem dX6_taken_24 : decode cX6_taken 24 = .ok (.aload_n 0, 1) := by decide +kernel
theorem dX6_taken_25 : decode cX6_taken 25 = .ok (.iconst 4, 1) := by decide +kernel
theorem dX6_taken_26 : decode cX6_taken 26 = .ok (.invokevirtual 141, 3) := by decide +kernel
theorem dX6_taken_29 : decode cX6_taken 29 = .ok (.istore_n 1, 1) := by decide +kernel
theorem dX6_taken_30 : decode cX6_taken 30 = .ok (.iconst 5, 1) := by decide +kernel
theorem dX6_taken_31 : decode cX6_taken 31 = .ok (.istore_n 2, 1) := by decide +kernel
theorem dX6_taken_32 : decode cX6_taken 32 = .ok (.iload_n 1, 1) := by decide +kernel
theorem dX6_taken_33 : decode cX6_taken 33 = .ok (.iconst 2, 1) := by decide +kernel
theorem dX6_taken_34 : decode cX6_taken 34 = .ok (.if_icmp .lt 19, 3) := by decide +kernel
theorem dX6_taken_37 : decode cX6_taken 37 = .ok (.iload_n 1, 1) := by decide +kernel
theorem dX6_taken_38 : decode cX6_taken 38 = .ok (.iconst 4, 1) := by decide +kernel
theorem dX6_taken_39 : decode cX6_taken 39 = .ok (.if_icmp .gt 14, 3) := by decide +kernel
theorem dX6_taken_42 : decode cX6_taken 42 = .ok (.aload_n 0, 1) := by decide +kernel
theorem dX6_taken_43 : decode cX6_taken 43 = .ok (.iconst 2, 1) := by decide +kernel
theorem dX6_taken_44 : decode cX6_taken 44 = .ok (.invokevirtual 144, 3) := by decide +kernel
theorem dX6_taken_47 : decode cX6_taken 47 = .ok (.sipush 8000, 3) := by decide +kernel
theorem dX6_taken_50 : decode cX6_taken 50 = .ok (.if_icmp .le 5, 3) := by decide +kernel
theorem dX6_taken_53 : decode cX6_taken 53 = .ok (.iconst 0, 1) := by decide +kernel
theorem dX6_taken_54 : decode cX6_taken 54 = .ok (.ireturn, 1) := by decide +kernel
theorem dX6_taken_55 : decode cX6_taken 55 = .ok (.iconst 0, 1) := by decide +kernel
theorem dX6_taken_56 : decode cX6_taken 56 = .ok (.istore_n 3, 1) := by decide +kernel
theorem dX6_taken_57 : decode cX6_taken 57 = .ok (.iload_n 3, 1) := by decide +kernel
theorem dX6_taken_58 : decode cX6_taken 58 = .ok (.iload_n 1, 1) := by decide +kernel
theorem dX6_taken_59 : decode cX6_taken 59 = .ok (.if_icmp .ge 104, 3) := by decide +kernel
theorem dX6_taken_62 : decode cX6_taken 62 = .ok (.aload_n 0, 1) := by decide +kernel
theorem dX6_taken_63 : decode cX6_taken 63 = .ok (.iload_n 2, 1) := by decide +kernel
theorem dX6_taken_64 : decode cX6_taken 64 = .ok (.invokevirtual 141, 3) := by decide +kernel
theorem dX6_taken_67 : decode cX6_taken 67 = .ok (.iconst 4, 1) := by decide +kernel
theorem dX6_taken_68 : decode cX6_taken 68 = .ok (.ishr, 1) := by decide +kernel
theorem dX6_taken_69 : decode cX6_taken 69 = .ok (.istore 4, 2) := by decide +kernel
theorem dX6_taken_71 : decode cX6_taken 71 = .ok (.iload 4, 2) := by decide +kernel
theorem dX6_taken_73 : decode cX6_taken 73 = .ok (.iconst 1, 1) := by decide +kernel
theorem dX6_taken_74 : decode cX6_taken 74 = .ok (.if_icmp .lt 10, 3) := by decide +kernel
theorem dX6_taken_77 : decode cX6_taken 77 = .ok (.iload 4, 2) := by decide +kernel
theorem dX6_taken_79 : decode cX6_taken 79 = .ok (.bipush 8, 2) := by decide +kernel
theorem dX6_taken_81 : decode cX6_taken 81 = .ok (.if_icmp .le 5, 3) := by decide +kernel
theorem dX6_taken_84 : decode cX6_taken 84 = .ok (.iconst 0, 1) := by decide +kernel
theorem dX6_taken_85 : decode cX6_taken 85 = .ok (.ireturn, 1) := by decide +kernel
theorem dX6_taken_86 : decode cX6_taken 86 = .ok (.iconst 0, 1) := by decide +kernel
theorem dX6_taken_87 : decode cX6_taken 87 = .ok (.istore 5, 2) := by decide +kernel
theorem dX6_taken_89 : decode cX6_taken 89 = .ok (.iconst 0, 1) := by decide +kernel
theorem dX6_taken_90 : decode cX6_taken 90 = .ok (.istore 6, 2) := by decide +kernel
theorem dX6_taken_92 : decode cX6_taken 92 = .ok (.iload 6, 2) := by decide +kernel
theorem dX6_taken_94 : decode cX6_taken 94 = .ok (.iload 4, 2) := by decide +kernel
theorem dX6_taken_96 : decode cX6_taken 96 = .ok (.if_icmp .ge 29, 3) := by decide +kernel
theorem dX6_taken_99 : decode cX6_taken 99 = .ok (.iconst 4, 1) := by decide +kernel
theorem dX6_taken_100 : decode cX6_taken 100 = .ok (.iload 5, 2) := by decide +kernel
theorem dX6_taken_102 : decode cX6_taken 102 = .ok (.imul, 1) := by decide +kernel
theorem dX6_taken_103 : decode cX6_taken 103 = .ok (.aload_n 0, 1) := by decide +kernel
theorem dX6_taken_104 : decode cX6_taken 104 = .ok (.iload_n 2, 1) := by decide +kernel
theorem dX6_taken_105 : decode cX6_taken 105 = .ok (.iconst 1, 1) := by decide +kernel
theorem dX6_taken_106 : decode cX6_taken 106 = .ok (.iadd, 1) := by decide +kernel
theorem dX6_taken_107 : decode cX6_taken 107 = .ok (.iload 6, 2) := by decide +kernel
theorem dX6_taken_109 : decode cX6_taken 109 = .ok (.iadd, 1) := by decide +kernel
theorem dX6_taken_110 : decode cX6_taken 110 = .ok (.invokevirtual 141, 3) := by decide +kernel
theorem dX6_taken_113 : decode cX6_taken 113 = .ok (.invokestatic 147, 3) := by decide +kernel
theorem dX6_taken_116 : decode cX6_taken 116 = .ok (.iadd, 1) := by decide +kernel
theorem dX6_taken_117 : decode cX6_taken 117 = .ok (.istore 5, 2) := by decide +kernel
theorem dX6_taken_119 : decode cX6_taken 119 = .ok (.iinc 6 1, 3) := by decide +kernel
theorem dX6_taken_122 : decode cX6_taken 122 = .ok (.goto (-30), 3) := by decide +kernel
theorem dX6_taken_125 : decode cX6_taken 125 = .ok (.aload_n 0, 1) := by decide +kernel
theorem dX6_taken_126 : decode cX6_taken 126 = .ok (.bipush 25, 2) := by decide +kernel
theorem dX6_taken_128 : decode cX6_taken 128 = .ok (.iload 4, 2) := by decide +kernel
theorem dX6_taken_130 : decode cX6_taken 130 = .ok (.iload 5, 2) := by decide +kernel
theorem dX6_taken_132 : decode cX6_taken 132 = .ok (.invokevirtual 63, 3) := by decide +kernel
theorem dX6_taken_135 : decode cX6_taken 135 = .ok (.ifCond .lt 5, 3) := by decide +kernel
theorem dX6_taken_138 : decode cX6_taken 138 = .ok (.iconst 0, 1) := by decide +kernel
theorem dX6_taken_139 : decode cX6_taken 139 = .ok (.ireturn, 1) := by decide +kernel
theorem dX6_taken_140 : decode cX6_taken 140 = .ok (.aload_n 0, 1) := by decide +kernel
theorem dX6_taken_141 : decode cX6_taken 141 = .ok (.bipush 25, 2) := by decide +kernel
theorem dX6_taken_143 : decode cX6_taken 143 = .ok (.iload 4, 2) := by decide +kernel
theorem dX6_taken_145 : decode cX6_taken 145 = .ok (.iload 5, 2) := by decide +kernel
theorem dX6_taken_147 : decode cX6_taken 147 = .ok (.invokevirtual 60, 3) := by decide +kernel
theorem dX6_taken_150 : decode cX6_taken 150 = .ok (.iload_n 2, 1) := by decide +kernel
theorem dX6_taken_151 : decode cX6_taken 151 = .ok (.iconst 1, 1) := by decide +kernel
theorem dX6_taken_152 : decode cX6_taken 152 = .ok (.iadd, 1) := by decide +kernel
theorem dX6_taken_153 : decode cX6_taken 153 = .ok (.iload 4, 2) := by decide +kernel
theorem dX6_taken_155 : decode cX6_taken 155 = .ok (.iadd, 1) := by decide +kernel
theorem dX6_taken_156 : decode cX6_taken 156 = .ok (.istore_n 2, 1) := by decide +kernel
theorem dX6_taken_157 : decode cX6_taken 157 = .ok (.iinc 3 1, 3) := by decide +kernel
theorem dX6_taken_160 : decode cX6_taken 160 = .ok (.goto (-103), 3) := by decide +kernel
theorem dX6_taken_163 : decode cX6_taken 163 = .ok (.aload_n 0, 1) := by decide +kernel
theorem dX6_taken_164 : decode cX6_taken 164 = .ok (.iload_n 2, 1) := by decide +kernel
theorem dX6_taken_165 : decode cX6_taken 165 = .ok (.bipush 11, 2) := by decide +kernel
theorem dX6_taken_167 : decode cX6_taken 167 = .ok (.iload_n 1, 1) := by decide +kernel
theorem dX6_taken_168 : decode cX6_taken 168 = .ok (.invokevirtual 150, 3) := by decide +kernel
theorem dX6_taken_171 : decode cX6_taken 171 = .ok (.istore_n 2, 1) := by decide +kernel
theorem dX6_taken_172 : decode cX6_taken 172 = .ok (.iconst 0, 1) := by decide +kernel
theorem dX6_taken_173 : decode cX6_taken 173 = .ok (.istore_n 3, 1) := by decide +kernel
theorem dX6_taken_174 : decode cX6_taken 174 = .ok (.iload_n 3, 1) := by decide +kernel
theorem dX6_taken_175 : decode cX6_taken 175 = .ok (.iconst 2, 1) := by decide +kernel
theorem dX6_taken_176 : decode cX6_taken 176 = .ok (.if_icmp .ge 95, 3) := by decide +kernel
theorem dX6_taken_179 : decode cX6_taken 179 = .ok (.iconst 0, 1) := by decide +kernel
theorem dX6_taken_180 : decode cX6_taken 180 = .ok (.istore 4, 2) := by decide +kernel
theorem dX6_taken_182 : decode cX6_taken 182 = .ok (.iload 4, 2) := by decide +kernel
theorem dX6_taken_184 : decode cX6_taken 184 = .ok (.iconst 2, 1) := by decide +kernel
theorem dX6_taken_185 : decode cX6_taken 185 = .ok (.if_icmp .ge 38, 3) := by decide +kernel
theorem dX6_taken_188 : decode cX6_taken 188 = .ok (.aload_n 0, 1) := by decide +kernel
theorem dX6_taken_189 : decode cX6_taken 189 = .ok (.bipush 25, 2) := by decide +kernel
theorem dX6_taken_191 : decode cX6_taken 191 = .ok (.bipush 15, 2) := by decide +kernel
theorem dX6_taken_193 : decode cX6_taken 193 = .ok (.iconst 3, 1) := by decide +kernel
theorem dX6_taken_194 : decode cX6_taken 194 = .ok (.iload_n 3, 1) := by decide +kernel
theorem dX6_taken_195 : decode cX6_taken 195 = .ok (.imul, 1) := by decide +kernel
theorem dX6_taken_196 : decode cX6_taken 196 = .ok (.iadd, 1) := by decide +kernel
theorem dX6_taken_197 : decode cX6_taken 197 = .ok (.iload 4, 2) := by decide +kernel
theorem dX6_taken_199 : decode cX6_taken 199 = .ok (.iadd, 1) := by decide +kernel
theorem dX6_taken_200 : decode cX6_taken 200 = .ok (.aload_n 0, 1) := by decide +kernel
theorem dX6_taken_201 : decode cX6_taken 201 = .ok (.iload_n 2, 1) := by decide +kernel
theorem dX6_taken_202 : decode cX6_taken 202 = .ok (.iconst 1, 1) := by decide +kernel
theorem dX6_taken_203 : decode cX6_taken 203 = .ok (.iadd, 1) := by decide +kernel
theorem dX6_taken_204 : decode cX6_taken 204 = .ok (.iload 4, 2) := by decide +kernel
theorem dX6_taken_206 : decode cX6_taken 206 = .ok (.iadd, 1) := by decide +kernel
theorem dX6_taken_207 : decode cX6_taken 207 = .ok (.invokevirtual 141, 3) := by decide +kernel
theorem dX6_taken_210 : decode cX6_taken 210 = .ok (.iconst 2, 1) := by decide +kernel
theorem dX6_taken_211 : decode cX6_taken 211 = .ok (.idiv, 1) := by decide +kernel
theorem dX6_taken_212 : decode cX6_taken 212 = .ok (.iconst 1, 1) := by decide +kernel
theorem dX6_taken_213 : decode cX6_taken 213 = .ok (.isub, 1) := by decide +kernel
theorem dX6_taken_214 : decode cX6_taken 214 = .ok (.invokevirtual 29, 3) := by decide +kernel
theorem dX6_taken_217 : decode cX6_taken 217 = .ok (.iinc 4 1, 3) := by decide +kernel
theorem dX6_taken_220 : decode cX6_taken 220 = .ok (.goto (-38), 3) := by decide +kernel
theorem dX6_taken_223 : decode cX6_taken 223 = .ok (.aload_n 0, 1) := by decide +kernel
theorem dX6_taken_224 : decode cX6_taken 224 = .ok (.bipush 25, 2) := by decide +kernel
theorem dX6_taken_226 : decode cX6_taken 226 = .ok (.bipush 15, 2) := by decide +kernel
theorem dX6_taken_228 : decode cX6_taken 228 = .ok (.iconst 3, 1) := by decide +kernel
theorem dX6_taken_229 : decode cX6_taken 229 = .ok (.iload_n 3, 1) := by decide +kernel
theorem dX6_taken_230 : decode cX6_taken 230 = .ok (.imul, 1) := by decide +kernel
theorem dX6_taken_231 : decode cX6_taken 231 = .ok (.iadd, 1) := by decide +kernel
theorem dX6_taken_232 : decode cX6_taken 232 = .ok (.iconst 2, 1) := by decide +kernel
theorem dX6_taken_233 : decode cX6_taken 233 = .ok (.iadd, 1) := by decide +kernel
theorem dX6_taken_234 : decode cX6_taken 234 = .ok (.aload_n 0, 1) := by decide +kernel
theorem dX6_taken_235 : decode cX6_taken 235 = .ok (.iload_n 2, 1) := by decide +kernel
theorem dX6_taken_236 : decode cX6_taken 236 = .ok (.iconst 1, 1) := by decide +kernel
theorem dX6_taken_237 : decode cX6_taken 237 = .ok (.iadd, 1) := by decide +kernel
theorem dX6_taken_238 : decode cX6_taken 238 = .ok (.invokevirtual 141, 3) := by decide +kernel
theorem dX6_taken_241 : decode cX6_taken 241 = .ok (.iconst 2, 1) := by decide +kernel
theorem dX6_taken_242 : decode cX6_taken 242 = .ok (.irem, 1) := by decide +kernel
theorem dX6_taken_243 : decode cX6_taken 243 = .ok (.invokevirtual 29, 3) := by decide +kernel
theorem dX6_taken_246 : decode cX6_taken 246 = .ok (.aload_n 0, 1) := by decide +kernel
theorem dX6_taken_247 : decode cX6_taken 247 = .ok (.iload_n 2, 1) := by decide +kernel
theorem dX6_taken_248 : decode cX6_taken 248 = .ok (.iconst 3, 1) := by decide +kernel
theorem dX6_taken_249 : decode cX6_taken 249 = .ok (.iadd, 1) := by decide +kernel
theorem dX6_taken_250 : decode cX6_taken 250 = .ok (.bipush 21, 2) := by decide +kernel
theorem dX6_taken_252 : decode cX6_taken 252 = .ok (.bipush 10, 2) := by decide +kernel
theorem dX6_taken_254 : decode cX6_taken 254 = .ok (.iload_n 3, 1) := by decide +kernel
theorem dX6_taken_255 : decode cX6_taken 255 = .ok (.imul, 1) := by decide +kernel
theorem dX6_taken_256 : decode cX6_taken 256 = .ok (.iadd, 1) := by decide +kernel
theorem dX6_taken_257 : decode cX6_taken 257 = .ok (.iload_n 1, 1) := by decide +kernel
theorem dX6_taken_258 : decode cX6_taken 258 = .ok (.invokestatic 70, 3) := by decide +kernel
theorem dX6_taken_261 : decode cX6_taken 261 = .ok (.invokevirtual 150, 3) := by decide +kernel
theorem dX6_taken_264 : decode cX6_taken 264 = .ok (.istore_n 2, 1) := by decide +kernel
theorem dX6_taken_265 : decode cX6_taken 265 = .ok (.iinc 3 1, 3) := by decide +kernel
theorem dX6_taken_268 : decode cX6_taken 268 = .ok (.goto (-94), 3) := by decide +kernel
theorem dX6_taken_271 : decode cX6_taken 271 = .ok (.aload_n 0, 1) := by decide +kernel
theorem dX6_taken_272 : decode cX6_taken 272 = .ok (.iload_n 1, 1) := by decide +kernel
theorem dX6_taken_273 : decode cX6_taken 273 = .ok (.invokevirtual 153, 3) := by decide +kernel
theorem dX6_taken_276 : decode cX6_taken 276 = .ok (.ireturn, 1) := by decide +kernel
theorem dX6_inRange_0 : decode cX6_inRange 0 = .ok (.aload_n 0, 1) := by decide +kernel
theorem dX6_inRange_1 : decode cX6_inRange 1 = .ok (.bipush 25, 2) := by decide +kernel
theorem dX6_inRange_3 : decode cX6_inRange 3 = .ok (.iconst 0, 1) := by decide +kernel
theorem dX6_inRange_4 : decode cX6_inRange 4 = .ok (.invokevirtual 33, 3) := by decide +kernel
theorem dX6_inRange_7 : decode cX6_inRange 7 = .ok (.iconst 1, 1) := by decide +kernel
theorem dX6_inRange_8 : decode cX6_inRange 8 = .ok (.if_icmp .lt 31, 3) := by decide +kernel
theorem dX6_inRange_11 : decode cX6_inRange 11 = .ok (.aload_n 0, 1) := by decide +kernel
theorem dX6_inRange_12 : decode cX6_inRange 12 = .ok (.bipush 25, 2) := by decide +kernel
theorem dX6_inRange_14 : decode cX6_inRange 14 = .ok (.iconst 0, 1) := by decide +kernel
theorem dX6_inRange_15 : decode cX6_inRange 15 = .ok (.invokevirtual 33, 3) := by decide +kernel
theorem dX6_inRange_18 : decode cX6_inRange 18 = .ok (.aload_n 0, 1) := by decide +kernel
theorem dX6_inRange_19 : decode cX6_inRange 19 = .ok (.bipush 25, 2) := by decide +kernel
theorem dX6_inRange_21 : decode cX6_inRange 21 = .ok (.iconst 2, 1) := by decide +kernel
theorem dX6_inRange_22 : decode cX6_inRange 22 = .ok (.invokevirtual 33, 3) := by decide +kernel
theorem dX6_inRange_25 : decode cX6_inRange 25 = .ok (.iadd, 1) := by decide +kernel
theorem dX6_inRange_26 : decode cX6_inRange 26 = .ok (.iconst 1, 1) := by decide +kernel
theorem dX6_inRange_27 : decode cX6_inRange 27 = .ok (.isub, 1) := by decide +kernel
theorem dX6_inRange_28 : decode cX6_inRange 28 = .ok (.aload_n 0, 1) := by decide +kernel
theorem dX6_inRange_29 : decode cX6_inRange 29 = .ok (.getfield 37, 3) := by decide +kernel
theorem dX6_inRange_32 : decode cX6_inRange 32 = .ok (.if_icmp .gt 7, 3) := by decide +kernel
theorem dX6_inRange_35 : decode cX6_inRange 35 = .ok (.iconst 1, 1) := by decide +kernel
theorem dX6_inRange_36 : decode cX6_inRange 36 = .ok (.goto 4, 3) := by decide +kernel
theorem dX6_inRange_39 : decode cX6_inRange 39 = .ok (.iconst 0, 1) := by decide +kernel
theorem dX6_inRange_40 : decode cX6_inRange 40 = .ok (.istore_n 2, 1) := by decide +kernel
theorem dX6_inRange_41 : decode cX6_inRange 41 = .ok (.iconst 0, 1) := by decide +kernel
theorem dX6_inRange_42 : decode cX6_inRange 42 = .ok (.istore_n 3, 1) := by decide +kernel
theorem dX6_inRange_43 : decode cX6_inRange 43 = .ok (.iload_n 3, 1) := by decide +kernel
theorem dX6_inRange_44 : decode cX6_inRange 44 = .ok (.iload_n 1, 1) := by decide +kernel
theorem dX6_inRange_45 : decode cX6_inRange 45 = .ok (.if_icmp .ge 35, 3) := by decide +kernel
theorem dX6_inRange_48 : decode cX6_inRange 48 = .ok (.iload_n 2, 1) := by decide +kernel
theorem dX6_inRange_49 : decode cX6_inRange 49 = .ok (.ifCond .eq 23, 3) := by decide +kernel
theorem dX6_inRange_52 : decode cX6_inRange 52 = .ok (.aload_n 0, 1) := by decide +kernel
theorem dX6_inRange_53 : decode cX6_inRange 53 = .ok (.bipush 25, 2) := by decide +kernel
theorem dX6_inRange_55 : decode cX6_inRange 55 = .ok (.bipush 11, 2) := by decide +kernel
theorem dX6_inRange_57 : decode cX6_inRange 57 = .ok (.iload_n 3, 1) := by decide +kernel
theorem dX6_inRange_58 : decode cX6_inRange 58 = .ok (.iadd, 1) := by decide +kernel
theorem dX6_inRange_59 : decode cX6_inRange 59 = .ok (.invokevirtual 33, 3) := by decide +kernel
theorem dX6_inRange_62 : decode cX6_inRange 62 = .ok (.sipush 9999, 3) := by decide +kernel
theorem dX6_inRange_65 : decode cX6_inRange 65 = .ok (.if_icmp .gt 7, 3) := by decide +kernel
theorem dX6_inRange_68 : decode cX6_inRange 68 = .ok (.iconst 1, 1) := by decide +kernel
theorem dX6_inRange_69 : decode cX6_inRange 69 = .ok (.goto 4, 3) := by decide +kernel
theorem dX6_inRange_72 : decode cX6_inRange 72 = .ok (.iconst 0, 1) := by decide +kernel
theorem dX6_inRange_73 : decode cX6_inRange 73 = .ok (.istore_n 2, 1) := by decide +kernel
theorem dX6_inRange_74 : decode cX6_inRange 74 = .ok (.iinc 3 1, 3) := by decide +kernel
theorem dX6_inRange_77 : decode cX6_inRange 77 = .ok (.goto (-34), 3) := by decide +kernel
theorem dX6_inRange_80 : decode cX6_inRange 80 = .ok (.iconst 0, 1) := by decide +kernel
theorem dX6_inRange_81 : decode cX6_inRange 81 = .ok (.istore_n 3, 1) := by decide +kernel
theorem dX6_inRange_82 : decode cX6_inRange 82 = .ok (.iload_n 3, 1) := by decide +kernel
theorem dX6_inRange_83 : decode cX6_inRange 83 = .ok (.iconst 2, 1) := by decide +kernel
theorem dX6_inRange_84 : decode cX6_inRange 84 = .ok (.if_icmp .ge 101, 3) := by decide +kernel
theorem dX6_inRange_87 : decode cX6_inRange 87 = .ok (.iload_n 2, 1) := by decide +kernel
theorem dX6_inRange_88 : decode cX6_inRange 88 = .ok (.ifCond .eq 41, 3) := by decide +kernel
theorem dX6_inRange_91 : decode cX6_inRange 91 = .ok (.aload_n 0, 1) := by decide +kernel
theorem dX6_inRange_92 : decode cX6_inRange 92 = .ok (.bipush 25, 2) := by decide +kernel
theorem dX6_inRange_94 : decode cX6_inRange 94 = .ok (.bipush 15, 2) := by decide +kernel
theorem dX6_inRange_96 : decode cX6_inRange 96 = .ok (.iconst 3, 1) := by decide +kernel
theorem dX6_inRange_97 : decode cX6_inRange 97 = .ok (.iload_n 3, 1) := by decide +kernel
theorem dX6_inRange_98 : decode cX6_inRange 98 = .ok (.imul, 1) := by decide +kernel
theorem dX6_inRange_99 : decode cX6_inRange 99 = .ok (.iadd, 1) := by decide +kernel
theorem dX6_inRange_100 : decode cX6_inRange 100 = .ok (.invokevirtual 33, 3) := by decide +kernel
theorem dX6_inRange_103 : decode cX6_inRange 103 = .ok (.iload_n 1, 1) := by decide +kernel
theorem dX6_inRange_104 : decode cX6_inRange 104 = .ok (.if_icmp .ge 25, 3) := by decide +kernel
theorem dX6_inRange_107 : decode cX6_inRange 107 = .ok (.aload_n 0, 1) := by decide +kernel
theorem dX6_inRange_108 : decode cX6_inRange 108 = .ok (.bipush 25, 2) := by decide +kernel
theorem dX6_inRange_110 : decode cX6_inRange 110 = .ok (.bipush 15, 2) := by decide +kernel
theorem dX6_inRange_112 : decode cX6_inRange 112 = .ok (.iconst 3, 1) := by decide +kernel
theorem dX6_inRange_113 : decode cX6_inRange 113 = .ok (.iload_n 3, 1) := by decide +kernel
theorem dX6_inRange_114 : decode cX6_inRange 114 = .ok (.imul, 1) := by decide +kernel
theorem dX6_inRange_115 : decode cX6_inRange 115 = .ok (.iadd, 1) := by decide +kernel
theorem dX6_inRange_116 : decode cX6_inRange 116 = .ok (.iconst 1, 1) := by decide +kernel
theorem dX6_inRange_117 : decode cX6_inRange 117 = .ok (.iadd, 1) := by decide +kernel
theorem dX6_inRange_118 : decode cX6_inRange 118 = .ok (.invokevirtual 33, 3) := by decide +kernel
theorem dX6_inRange_121 : decode cX6_inRange 121 = .ok (.iload_n 1, 1) := by decide +kernel
theorem dX6_inRange_122 : decode cX6_inRange 122 = .ok (.if_icmp .ge 7, 3) := by decide +kernel
theorem dX6_inRange_125 : decode cX6_inRange 125 = .ok (.iconst 1, 1) := by decide +kernel
theorem dX6_inRange_126 : decode cX6_inRange 126 = .ok (.goto 4, 3) := by decide +kernel
theorem dX6_inRange_129 : decode cX6_inRange 129 = .ok (.iconst 0, 1) := by decide +kernel
theorem dX6_inRange_130 : decode cX6_inRange 130 = .ok (.istore_n 2, 1) := by decide +kernel
theorem dX6_inRange_131 : decode cX6_inRange 131 = .ok (.iconst 0, 1) := by decide +kernel
theorem dX6_inRange_132 : decode cX6_inRange 132 = .ok (.istore 4, 2) := by decide +kernel
theorem dX6_inRange_134 : decode cX6_inRange 134 = .ok (.iload 4, 2) := by decide +kernel
theorem dX6_inRange_136 : decode cX6_inRange 136 = .ok (.bipush 10, 2) := by decide +kernel
theorem dX6_inRange_138 : decode cX6_inRange 138 = .ok (.if_icmp .ge 41, 3) := by decide +kernel
theorem dX6_inRange_141 : decode cX6_inRange 141 = .ok (.iload_n 2, 1) := by decide +kernel
theorem dX6_inRange_142 : decode cX6_inRange 142 = .ok (.ifCond .eq 29, 3) := by decide +kernel
theorem dX6_inRange_145 : decode cX6_inRange 145 = .ok (.aload_n 0, 1) := by decide +kernel
theorem dX6_inRange_146 : decode cX6_inRange 146 = .ok (.bipush 25, 2) := by decide +kernel
theorem dX6_inRange_148 : decode cX6_inRange 148 = .ok (.bipush 21, 2) := by decide +kernel
theorem dX6_inRange_150 : decode cX6_inRange 150 = .ok (.bipush 10, 2) := by decide +kernel
theorem dX6_inRange_152 : decode cX6_inRange 152 = .ok (.iload_n 3, 1) := by decide +kernel
theorem dX6_inRange_153 : decode cX6_inRange 153 = .ok (.imul, 1) := by decide +kernel
theorem dX6_inRange_154 : decode cX6_inRange 154 = .ok (.iadd, 1) := by decide +kernel
theorem dX6_inRange_155 : decode cX6_inRange 155 = .ok (.iload 4, 2) := by decide +kernel
theorem dX6_inRange_157 : decode cX6_inRange 157 = .ok (.iadd, 1) := by decide +kernel
theorem dX6_inRange_158 : decode cX6_inRange 158 = .ok (.invokevirtual 33, 3) := by decide +kernel
theorem dX6_inRange_161 : decode cX6_inRange 161 = .ok (.sipush 999, 3) := by decide +kernel
theorem dX6_inRange_164 : decode cX6_inRange 164 = .ok (.if_icmp .gt 7, 3) := by decide +kernel
theorem dX6_inRange_167 : decode cX6_inRange 167 = .ok (.iconst 1, 1) := by decide +kernel
theorem dX6_inRange_168 : decode cX6_inRange 168 = .ok (.goto 4, 3) := by decide +kernel
theorem dX6_inRange_171 : decode cX6_inRange 171 = .ok (.iconst 0, 1) := by decide +kernel
theorem dX6_inRange_172 : decode cX6_inRange 172 = .ok (.istore_n 2, 1) := by decide +kernel
theorem dX6_inRange_173 : decode cX6_inRange 173 = .ok (.iinc 4 1, 3) := by decide +kernel
theorem dX6_inRange_176 : decode cX6_inRange 176 = .ok (.goto (-42), 3) := by decide +kernel
theorem dX6_inRange_179 : decode cX6_inRange 179 = .ok (.iinc 3 1, 3) := by decide +kernel
theorem dX6_inRange_182 : decode cX6_inRange 182 = .ok (.goto (-100), 3) := by decide +kernel
theorem dX6_inRange_185 : decode cX6_inRange 185 = .ok (.iload_n 2, 1) := by decide +kernel
theorem dX6_inRange_186 : decode cX6_inRange 186 = .ok (.ifCond .eq 36, 3) := by decide +kernel
theorem dX6_inRange_189 : decode cX6_inRange 189 = .ok (.aload_n 0, 1) := by decide +kernel
theorem dX6_inRange_190 : decode cX6_inRange 190 = .ok (.aload_n 0, 1) := by decide +kernel
theorem dX6_inRange_191 : decode cX6_inRange 191 = .ok (.bipush 25, 2) := by decide +kernel
theorem dX6_inRange_193 : decode cX6_inRange 193 = .ok (.iconst 0, 1) := by decide +kernel
theorem dX6_inRange_194 : decode cX6_inRange 194 = .ok (.invokevirtual 33, 3) := by decide +kernel
theorem dX6_inRange_197 : decode cX6_inRange 197 = .ok (.aload_n 0, 1) := by decide +kernel
theorem dX6_inRange_198 : decode cX6_inRange 198 = .ok (.bipush 25, 2) := by decide +kernel
theorem dX6_inRange_200 : decode cX6_inRange 200 = .ok (.iconst 2, 1) := by decide +kernel
theorem dX6_inRange_201 : decode cX6_inRange 201 = .ok (.invokevirtual 33, 3) := by decide +kernel
theorem dX6_inRange_204 : decode cX6_inRange 204 = .ok (.invokevirtual 57, 3) := by decide +kernel
theorem dX6_inRange_207 : decode cX6_inRange 207 = .ok (.aload_n 0, 1) := by decide +kernel
theorem dX6_inRange_208 : decode cX6_inRange 208 = .ok (.bipush 25, 2) := by decide +kernel
theorem dX6_inRange_210 : decode cX6_inRange 210 = .ok (.bipush 6, 2) := by decide +kernel
theorem dX6_inRange_212 : decode cX6_inRange 212 = .ok (.invokevirtual 33, 3) := by decide +kernel
theorem dX6_inRange_215 : decode cX6_inRange 215 = .ok (.if_icmp .ne 7, 3) := by decide +kernel
theorem dX6_inRange_218 : decode cX6_inRange 218 = .ok (.iconst 1, 1) := by decide +kernel
theorem dX6_inRange_219 : decode cX6_inRange 219 = .ok (.goto 4, 3) := by decide +kernel
theorem dX6_inRange_222 : decode cX6_inRange 222 = .ok (.iconst 0, 1) := by decide +kernel
theorem dX6_inRange_223 : decode cX6_inRange 223 = .ok (.ireturn, 1) := by decide +kernel
theorem dX6_read_0 : decode cX6_read 0 = .ok (.aload_n 0, 1) := by decide +kernel
theorem dX6_read_1 : decode cX6_read 1 = .ok (.getfield 44, 3) := by decide +kernel
theorem dX6_read_4 : decode cX6_read 4 = .ok (.bipush 24, 2) := by decide +kernel
theorem dX6_read_6 : decode cX6_read 6 = .ok (.if_icmp .ne 7, 3) := by decide +kernel
theorem dX6_read_9 : decode cX6_read 9 = .ok (.iconst 1, 1) := by decide +kernel
theorem dX6_read_10 : decode cX6_read 10 = .ok (.goto 4, 3) := by decide +kernel
theorem dX6_read_13 : decode cX6_read 13 = .ok (.iconst 0, 1) := by decide +kernel
theorem dX6_read_14 : decode cX6_read 14 = .ok (.istore_n 1, 1) := by decide +kernel
theorem dX6_read_15 : decode cX6_read 15 = .ok (.iload_n 1, 1) := by decide +kernel
theorem dX6_read_16 : decode cX6_read 16 = .ok (.ifCond .ne 14, 3) := by decide +kernel
theorem dX6_read_19 : decode cX6_read 19 = .ok (.aload_n 0, 1) := by decide +kernel
theorem dX6_read_20 : decode cX6_read 20 = .ok (.invokevirtual 156, 3) := by decide +kernel
theorem dX6_read_23 : decode cX6_read 23 = .ok (.ifCond .eq 7, 3) := by decide +kernel
theorem dX6_read_26 : decode cX6_read 26 = .ok (.iconst 1, 1) := by decide +kernel
theorem dX6_read_27 : decode cX6_read 27 = .ok (.goto 4, 3) := by decide +kernel
theorem dX6_read_30 : decode cX6_read 30 = .ok (.iconst 0, 1) := by decide +kernel
theorem dX6_read_31 : decode cX6_read 31 = .ok (.istore_n 2, 1) := by decide +kernel
theorem dX6_read_32 : decode cX6_read 32 = .ok (.iload_n 2, 1) := by decide +kernel
theorem dX6_read_33 : decode cX6_read 33 = .ok (.ifCond .eq 9, 3) := by decide +kernel
theorem dX6_read_36 : decode cX6_read 36 = .ok (.aload_n 0, 1) := by decide +kernel
theorem dX6_read_37 : decode cX6_read 37 = .ok (.bipush 25, 2) := by decide +kernel
theorem dX6_read_39 : decode cX6_read 39 = .ok (.invokevirtual 133, 3) := by decide +kernel
theorem dX6_read_42 : decode cX6_read 42 = .ok (.iload_n 2, 1) := by decide +kernel
theorem dX6_read_43 : decode cX6_read 43 = .ok (.ifCond .eq 18, 3) := by decide +kernel
theorem dX6_read_46 : decode cX6_read 46 = .ok (.aload_n 0, 1) := by decide +kernel
theorem dX6_read_47 : decode cX6_read 47 = .ok (.getfield 121, 3) := by decide +kernel
theorem dX6_read_50 : decode cX6_read 50 = .ok (.aload_n 0, 1) := by decide +kernel
theorem dX6_read_51 : decode cX6_read 51 = .ok (.getfield 136, 3) := by decide +kernel
theorem dX6_read_54 : decode cX6_read 54 = .ok (.if_icmp .ne 7, 3) := by decide +kernel
theorem dX6_read_57 : decode cX6_read 57 = .ok (.iconst 1, 1) := by decide +kernel
theorem dX6_read_58 : decode cX6_read 58 = .ok (.goto 4, 3) := by decide +kernel
theorem dX6_read_61 : decode cX6_read 61 = .ok (.iconst 0, 1) := by decide +kernel
theorem dX6_read_62 : decode cX6_read 62 = .ok (.istore_n 2, 1) := by decide +kernel
theorem dX6_read_63 : decode cX6_read 63 = .ok (.iconst 0, 1) := by decide +kernel
theorem dX6_read_64 : decode cX6_read 64 = .ok (.istore_n 3, 1) := by decide +kernel
theorem dX6_read_65 : decode cX6_read 65 = .ok (.iload_n 3, 1) := by decide +kernel
theorem dX6_read_66 : decode cX6_read 66 = .ok (.aload_n 0, 1) := by decide +kernel
theorem dX6_read_67 : decode cX6_read 67 = .ok (.getfield 136, 3) := by decide +kernel
theorem dX6_read_70 : decode cX6_read 70 = .ok (.if_icmp .ge 34, 3) := by decide +kernel
theorem dX6_read_73 : decode cX6_read 73 = .ok (.iload_n 2, 1) := by decide +kernel
theorem dX6_read_74 : decode cX6_read 74 = .ok (.ifCond .eq 30, 3) := by decide +kernel
theorem dX6_read_77 : decode cX6_read 77 = .ok (.aload_n 0, 1) := by decide +kernel
theorem dX6_read_78 : decode cX6_read 78 = .ok (.getfield 16, 3) := by decide +kernel
theorem dX6_read_81 : decode cX6_read 81 = .ok (.iload_n 3, 1) := by decide +kernel
theorem dX6_read_82 : decode cX6_read 82 = .ok (.iaload, 1) := by decide +kernel
theorem dX6_read_83 : decode cX6_read 83 = .ok (.aload_n 0, 1) := by decide +kernel
theorem dX6_read_84 : decode cX6_read 84 = .ok (.getfield 19, 3) := by decide +kernel
theorem dX6_read_87 : decode cX6_read 87 = .ok (.iload_n 3, 1) := by decide +kernel
theorem dX6_read_88 : decode cX6_read 88 = .ok (.iaload, 1) := by decide +kernel
theorem dX6_read_89 : decode cX6_read 89 = .ok (.if_icmp .ne 7, 3) := by decide +kernel
theorem dX6_read_92 : decode cX6_read 92 = .ok (.iconst 1, 1) := by decide +kernel
theorem dX6_read_93 : decode cX6_read 93 = .ok (.goto 4, 3) := by decide +kernel
theorem dX6_read_96 : decode cX6_read 96 = .ok (.iconst 0, 1) := by decide +kernel
theorem dX6_read_97 : decode cX6_read 97 = .ok (.istore_n 2, 1) := by decide +kernel
theorem dX6_read_98 : decode cX6_read 98 = .ok (.iinc 3 1, 3) := by decide +kernel
theorem dX6_read_101 : decode cX6_read 101 = .ok (.goto (-36), 3) := by decide +kernel
theorem dX6_read_104 : decode cX6_read 104 = .ok (.aload_n 0, 1) := by decide +kernel
theorem dX6_read_105 : decode cX6_read 105 = .ok (.iconst 0, 1) := by decide +kernel
theorem dX6_read_106 : decode cX6_read 106 = .ok (.putfield 136, 3) := by decide +kernel
theorem dX6_read_109 : decode cX6_read 109 = .ok (.aload_n 0, 1) := by decide +kernel
theorem dX6_read_110 : decode cX6_read 110 = .ok (.iload_n 1, 1) := by decide +kernel
theorem dX6_read_111 : decode cX6_read 111 = .ok (.ifCond .eq 7, 3) := by decide +kernel
theorem dX6_read_114 : decode cX6_read 114 = .ok (.iconst 2, 1) := by decide +kernel
theorem dX6_read_115 : decode cX6_read 115 = .ok (.goto 12, 3) := by decide +kernel
theorem dX6_read_118 : decode cX6_read 118 = .ok (.iload_n 2, 1) := by decide +kernel
theorem dX6_read_119 : decode cX6_read 119 = .ok (.ifCond .eq 7, 3) := by decide +kernel
theorem dX6_read_122 : decode cX6_read 122 = .ok (.iconst 0, 1) := by decide +kernel
theorem dX6_read_123 : decode cX6_read 123 = .ok (.goto 4, 3) := by decide +kernel
theorem dX6_read_126 : decode cX6_read 126 = .ok (.iconst 1, 1) := by decide +kernel
theorem dX6_read_127 : decode cX6_read 127 = .ok (.putfield 25, 3) := by decide +kernel
theorem dX6_read_130 : decode cX6_read 130 = .ok (.iload_n 2, 1) := by decide +kernel
theorem dX6_read_131 : decode cX6_read 131 = .ok (.ifCond .eq 12, 3) := by decide +kernel
theorem dX6_read_134 : decode cX6_read 134 = .ok (.aload_n 0, 1) := by decide +kernel
theorem dX6_read_135 : decode cX6_read 135 = .ok (.bipush 25, 2) := by decide +kernel
theorem dX6_read_137 : decode cX6_read 137 = .ok (.invokevirtual 74, 3) := by decide +kernel
theorem dX6_read_140 : decode cX6_read 140 = .ok (.goto 4, 3) := by decide +kernel
theorem dX6_read_143 : decode cX6_read 143 = .ok (.iconst 0, 1) := by decide +kernel
theorem dX6_read_144 : decode cX6_read 144 = .ok (.ireturn, 1) := by decide +kernel
theorem dX6_records_0 : decode cX6_records 0 = .ok (.aload_n 0, 1) := by decide +kernel
theorem dX6_records_1 : decode cX6_records 1 = .ok (.iconst 0, 1) := by decide +kernel
theorem dX6_records_2 : decode cX6_records 2 = .ok (.putfield 25, 3) := by decide +kernel
theorem dX6_records_5 : decode cX6_records 5 = .ok (.aload_n 0, 1) := by decide +kernel
theorem dX6_records_6 : decode cX6_records 6 = .ok (.getfield 44, 3) := by decide +kernel
theorem dX6_records_9 : decode cX6_records 9 = .ok (.ireturn, 1) := by decide +kernel
theorem dX6_binOf_0 : decode cX6_binOf 0 = .ok (.aload_n 0, 1) := by decide +kernel
theorem dX6_binOf_1 : decode cX6_binOf 1 = .ok (.iload_n 1, 1) := by decide +kernel
theorem dX6_binOf_2 : decode cX6_binOf 2 = .ok (.iconst 0, 1) := by decide +kernel
theorem dX6_binOf_3 : decode cX6_binOf 3 = .ok (.invokevirtual 33, 3) := by decide +kernel
theorem dX6_binOf_6 : decode cX6_binOf 6 = .ok (.istore_n 2, 1) := by decide +kernel
theorem dX6_binOf_7 : decode cX6_binOf 7 = .ok (.iload_n 2, 1) := by decide +kernel
theorem dX6_binOf_8 : decode cX6_binOf 8 = .ok (.aload_n 0, 1) := by decide +kernel
theorem dX6_binOf_9 : decode cX6_binOf 9 = .ok (.iload_n 1, 1) := by decide +kernel
theorem dX6_binOf_10 : decode cX6_binOf 10 = .ok (.iconst 2, 1) := by decide +kernel
theorem dX6_binOf_11 : decode cX6_binOf 11 = .ok (.invokevirtual 33, 3) := by decide +kernel
theorem dX6_binOf_14 : decode cX6_binOf 14 = .ok (.iadd, 1) := by decide +kernel
theorem dX6_binOf_15 : decode cX6_binOf 15 = .ok (.iconst 1, 1) := by decide +kernel
theorem dX6_binOf_16 : decode cX6_binOf 16 = .ok (.isub, 1) := by decide +kernel
theorem dX6_binOf_17 : decode cX6_binOf 17 = .ok (.istore_n 3, 1) := by decide +kernel
theorem dX6_binOf_18 : decode cX6_binOf 18 = .ok (.iload_n 2, 1) := by decide +kernel
theorem dX6_binOf_19 : decode cX6_binOf 19 = .ok (.bipush 8, 2) := by decide +kernel
theorem dX6_binOf_21 : decode cX6_binOf 21 = .ok (.idiv, 1) := by decide +kernel
theorem dX6_binOf_22 : decode cX6_binOf 22 = .ok (.iload_n 3, 1) := by decide +kernel
theorem dX6_binOf_23 : decode cX6_binOf 23 = .ok (.bipush 8, 2) := by decide +kernel
theorem dX6_binOf_25 : decode cX6_binOf 25 = .ok (.idiv, 1) := by decide +kernel
theorem dX6_binOf_26 : decode cX6_binOf 26 = .ok (.if_icmp .ne 11, 3) := by decide +kernel
theorem dX6_binOf_29 : decode cX6_binOf 29 = .ok (.bipush 11, 2) := by decide +kernel
theorem dX6_binOf_31 : decode cX6_binOf 31 = .ok (.iload_n 2, 1) := by decide +kernel
theorem dX6_binOf_32 : decode cX6_binOf 32 = .ok (.bipush 8, 2) := by decide +kernel
theorem dX6_binOf_34 : decode cX6_binOf 34 = .ok (.idiv, 1) := by decide +kernel
theorem dX6_binOf_35 : decode cX6_binOf 35 = .ok (.iadd, 1) := by decide +kernel
theorem dX6_binOf_36 : decode cX6_binOf 36 = .ok (.ireturn, 1) := by decide +kernel
theorem dX6_binOf_37 : decode cX6_binOf 37 = .ok (.iload_n 2, 1) := by decide +kernel
theorem dX6_binOf_38 : decode cX6_binOf 38 = .ok (.bipush 32, 2) := by decide +kernel
theorem dX6_binOf_40 : decode cX6_binOf 40 = .ok (.idiv, 1) := by decide +kernel
theorem dX6_binOf_41 : decode cX6_binOf 41 = .ok (.iload_n 3, 1) := by decide +kernel
theorem dX6_binOf_42 : decode cX6_binOf 42 = .ok (.bipush 32, 2) := by decide +kernel
theorem dX6_binOf_44 : decode cX6_binOf 44 = .ok (.idiv, 1) := by decide +kernel
theorem dX6_binOf_45 : decode cX6_binOf 45 = .ok (.if_icmp .ne 10, 3) := by decide +kernel
theorem dX6_binOf_48 : decode cX6_binOf 48 = .ok (.iconst 3, 1) := by decide +kernel
theorem dX6_binOf_49 : decode cX6_binOf 49 = .ok (.iload_n 2, 1) := by decide +kernel
theorem dX6_binOf_50 : decode cX6_binOf 50 = .ok (.bipush 32, 2) := by decide +kernel
theorem dX6_binOf_52 : decode cX6_binOf 52 = .ok (.idiv, 1) := by decide +kernel
theorem dX6_binOf_53 : decode cX6_binOf 53 = .ok (.iadd, 1) := by decide +kernel
theorem dX6_binOf_54 : decode cX6_binOf 54 = .ok (.ireturn, 1) := by decide +kernel
theorem dX6_binOf_55 : decode cX6_binOf 55 = .ok (.iload_n 2, 1) := by decide +kernel
theorem dX6_binOf_56 : decode cX6_binOf 56 = .ok (.sipush 128, 3) := by decide +kernel
theorem dX6_binOf_59 : decode cX6_binOf 59 = .ok (.idiv, 1) := by decide +kernel
theorem dX6_binOf_60 : decode cX6_binOf 60 = .ok (.iload_n 3, 1) := by decide +kernel
theorem dX6_binOf_61 : decode cX6_binOf 61 = .ok (.sipush 128, 3) := by decide +kernel
theorem dX6_binOf_64 : decode cX6_binOf 64 = .ok (.idiv, 1) := by decide +kernel
theorem dX6_binOf_65 : decode cX6_binOf 65 = .ok (.if_icmp .ne 13, 3) := by decide +kernel
theorem dX6_binOf_68 : decode cX6_binOf 68 = .ok (.iconst 1, 1) := by decide +kernel
theorem dX6_binOf_69 : decode cX6_binOf 69 = .ok (.iload_n 2, 1) := by decide +kernel
theorem dX6_binOf_70 : decode cX6_binOf 70 = .ok (.sipush 128, 3) := by decide +kernel
theorem dX6_binOf_73 : decode cX6_binOf 73 = .ok (.idiv, 1) := by decide +kernel
theorem dX6_binOf_74 : decode cX6_binOf 74 = .ok (.iadd, 1) := by decide +kernel
theorem dX6_binOf_75 : decode cX6_binOf 75 = .ok (.goto 4, 3) := by decide +kernel
theorem dX6_binOf_78 : decode cX6_binOf 78 = .ok (.iconst 0, 1) := by decide +kernel
theorem dX6_binOf_79 : decode cX6_binOf 79 = .ok (.ireturn, 1) := by decide +kernel
theorem dX6_about_0 : decode cX6_about 0 = .ok (.aload_n 0, 1) := by decide +kernel
theorem dX6_about_1 : decode cX6_about 1 = .ok (.iload_n 1, 1) := by decide +kernel
theorem dX6_about_2 : decode cX6_about 2 = .ok (.aload_n 0, 1) := by decide +kernel
theorem dX6_about_3 : decode cX6_about 3 = .ok (.getfield 44, 3) := by decide +kernel
theorem dX6_about_6 : decode cX6_about 6 = .ok (.invokestatic 67, 3) := by decide +kernel
theorem dX6_about_9 : decode cX6_about 9 = .ok (.ifCond .ne 11, 3) := by decide +kernel
theorem dX6_about_12 : decode cX6_about 12 = .ok (.iload_n 2, 1) := by decide +kernel
theorem dX6_about_13 : decode cX6_about 13 = .ok (.iconst 5, 1) := by decide +kernel
theorem dX6_about_14 : decode cX6_about 14 = .ok (.invokestatic 67, 3) := by decide +kernel
theorem dX6_about_17 : decode cX6_about 17 = .ok (.ifCond .eq 7, 3) := by decide +kernel
theorem dX6_about_20 : decode cX6_about 20 = .ok (.iconst 1, 1) := by decide +kernel
theorem dX6_about_21 : decode cX6_about 21 = .ok (.goto 4, 3) := by decide +kernel
theorem dX6_about_24 : decode cX6_about 24 = .ok (.iconst 0, 1) := by decide +kernel
theorem dX6_about_25 : decode cX6_about 25 = .ok (.iconst 0, 1) := by decide +kernel
theorem dX6_about_26 : decode cX6_about 26 = .ok (.invokevirtual 47, 3) := by decide +kernel
theorem dX6_about_29 : decode cX6_about 29 = .ok (.ifCond .eq 5, 3) := by decide +kernel
theorem dX6_about_32 : decode cX6_about 32 = .ok (.iconst 0, 1) := by decide +kernel
theorem dX6_about_33 : decode cX6_about 33 = .ok (.ireturn, 1) := by decide +kernel
theorem dX6_about_34 : decode cX6_about 34 = .ok (.iload_n 2, 1) := by decide +kernel
theorem dX6_about_35 : decode cX6_about 35 = .ok (.ifCond .ne 12, 3) := by decide +kernel
theorem dX6_about_38 : decode cX6_about 38 = .ok (.aload_n 0, 1) := by decide +kernel
theorem dX6_about_39 : decode cX6_about 39 = .ok (.iload_n 1, 1) := by decide +kernel
theorem dX6_about_40 : decode cX6_about 40 = .ok (.iconst 0, 1) := by decide +kernel
theorem dX6_about_41 : decode cX6_about 41 = .ok (.invokevirtual 33, 3) := by decide +kernel
theorem dX6_about_44 : decode cX6_about 44 = .ok (.goto 51, 3) := by decide +kernel
theorem dX6_about_47 : decode cX6_about 47 = .ok (.iload_n 2, 1) := by decide +kernel
theorem dX6_about_48 : decode cX6_about 48 = .ok (.iconst 1, 1) := by decide +kernel
theorem dX6_about_49 : decode cX6_about 49 = .ok (.if_icmp .ne 12, 3) := by decide +kernel
theorem dX6_about_52 : decode cX6_about 52 = .ok (.aload_n 0, 1) := by decide +kernel
theorem dX6_about_53 : decode cX6_about 53 = .ok (.iload_n 1, 1) := by decide +kernel
theorem dX6_about_54 : decode cX6_about 54 = .ok (.iconst 1, 1) := by decide +kernel
theorem dX6_about_55 : decode cX6_about 55 = .ok (.invokevirtual 33, 3) := by decide +kernel
theorem dX6_about_58 : decode cX6_about 58 = .ok (.goto 37, 3) := by decide +kernel
theorem dX6_about_61 : decode cX6_about 61 = .ok (.iload_n 2, 1) := by decide +kernel
theorem dX6_about_62 : decode cX6_about 62 = .ok (.iconst 2, 1) := by decide +kernel
theorem dX6_about_63 : decode cX6_about 63 = .ok (.if_icmp .ne 12, 3) := by decide +kernel
theorem dX6_about_66 : decode cX6_about 66 = .ok (.aload_n 0, 1) := by decide +kernel
theorem dX6_about_67 : decode cX6_about 67 = .ok (.iload_n 1, 1) := by decide +kernel
theorem dX6_about_68 : decode cX6_about 68 = .ok (.iconst 2, 1) := by decide +kernel
theorem dX6_about_69 : decode cX6_about 69 = .ok (.invokevirtual 33, 3) := by decide +kernel
theorem dX6_about_72 : decode cX6_about 72 = .ok (.goto 23, 3) := by decide +kernel
theorem dX6_about_75 : decode cX6_about 75 = .ok (.iload_n 2, 1) := by decide +kernel
theorem dX6_about_76 : decode cX6_about 76 = .ok (.iconst 3, 1) := by decide +kernel
theorem dX6_about_77 : decode cX6_about 77 = .ok (.if_icmp .ne 13, 3) := by decide +kernel
theorem dX6_about_80 : decode cX6_about 80 = .ok (.aload_n 0, 1) := by decide +kernel
theorem dX6_about_81 : decode cX6_about 81 = .ok (.iload_n 1, 1) := by decide +kernel
theorem dX6_about_82 : decode cX6_about 82 = .ok (.bipush 10, 2) := by decide +kernel
theorem dX6_about_84 : decode cX6_about 84 = .ok (.invokevirtual 33, 3) := by decide +kernel
theorem dX6_about_87 : decode cX6_about 87 = .ok (.goto 8, 3) := by decide +kernel
theorem dX6_about_90 : decode cX6_about 90 = .ok (.aload_n 0, 1) := by decide +kernel
theorem dX6_about_91 : decode cX6_about 91 = .ok (.iload_n 1, 1) := by decide +kernel
theorem dX6_about_92 : decode cX6_about 92 = .ok (.invokevirtual 160, 3) := by decide +kernel
theorem dX6_about_95 : decode cX6_about 95 = .ok (.ireturn, 1) := by decide +kernel
theorem dX6_base_0 : decode cX6_base 0 = .ok (.iload_n 1, 1) := by decide +kernel
theorem dX6_base_1 : decode cX6_base 1 = .ok (.aload_n 0, 1) := by decide +kernel
theorem dX6_base_2 : decode cX6_base 2 = .ok (.getfield 44, 3) := by decide +kernel
theorem dX6_base_5 : decode cX6_base 5 = .ok (.invokestatic 67, 3) := by decide +kernel
theorem dX6_base_8 : decode cX6_base 8 = .ok (.ifCond .ne 16, 3) := by decide +kernel
theorem dX6_base_11 : decode cX6_base 11 = .ok (.iload_n 2, 1) := by decide +kernel
theorem dX6_base_12 : decode cX6_base 12 = .ok (.aload_n 0, 1) := by decide +kernel
theorem dX6_base_13 : decode cX6_base 13 = .ok (.iload_n 1, 1) := by decide +kernel
theorem dX6_base_14 : decode cX6_base 14 = .ok (.iconst 1, 1) := by decide +kernel
theorem dX6_base_15 : decode cX6_base 15 = .ok (.invokevirtual 33, 3) := by decide +kernel
theorem dX6_base_18 : decode cX6_base 18 = .ok (.invokestatic 67, 3) := by decide +kernel
theorem dX6_base_21 : decode cX6_base 21 = .ok (.ifCond .eq 7, 3) := by decide +kernel
theorem dX6_base_24 : decode cX6_base 24 = .ok (.iconst 1, 1) := by decide +kernel
theorem dX6_base_25 : decode cX6_base 25 = .ok (.goto 4, 3) := by decide +kernel
theorem dX6_base_28 : decode cX6_base 28 = .ok (.iconst 0, 1) := by decide +kernel
theorem dX6_base_29 : decode cX6_base 29 = .ok (.istore 4, 2) := by decide +kernel
theorem dX6_base_31 : decode cX6_base 31 = .ok (.iload 4, 2) := by decide +kernel
theorem dX6_base_33 : decode cX6_base 33 = .ok (.ifCond .eq 7, 3) := by decide +kernel
theorem dX6_base_36 : decode cX6_base 36 = .ok (.iconst 0, 1) := by decide +kernel
theorem dX6_base_37 : decode cX6_base 37 = .ok (.goto 11, 3) := by decide +kernel
theorem dX6_base_40 : decode cX6_base 40 = .ok (.aload_n 0, 1) := by decide +kernel
theorem dX6_base_41 : decode cX6_base 41 = .ok (.iload_n 1, 1) := by decide +kernel
theorem dX6_base_42 : decode cX6_base 42 = .ok (.iconst 2, 1) := by decide +kernel
theorem dX6_base_43 : decode cX6_base 43 = .ok (.iload_n 2, 1) := by decide +kernel
theorem dX6_base_44 : decode cX6_base 44 = .ok (.iadd, 1) := by decide +kernel
theorem dX6_base_45 : decode cX6_base 45 = .ok (.invokevirtual 33, 3) := by decide +kernel
theorem dX6_base_48 : decode cX6_base 48 = .ok (.istore 5, 2) := by decide +kernel
theorem dX6_base_50 : decode cX6_base 50 = .ok (.aload_n 0, 1) := by decide +kernel
theorem dX6_base_51 : decode cX6_base 51 = .ok (.iload 4, 2) := by decide +kernel
theorem dX6_base_53 : decode cX6_base 53 = .ok (.iload_n 3, 1) := by decide +kernel
theorem dX6_base_54 : decode cX6_base 54 = .ok (.iconst (-1), 1) := by decide +kernel
theorem dX6_base_55 : decode cX6_base 55 = .ok (.if_icmp .lt 9, 3) := by decide +kernel
theorem dX6_base_58 : decode cX6_base 58 = .ok (.iload_n 3, 1) := by decide +kernel
theorem dX6_base_59 : decode cX6_base 59 = .ok (.iload 5, 2) := by decide +kernel
theorem dX6_base_61 : decode cX6_base 61 = .ok (.if_icmp .lt 7, 3) := by decide +kernel
theorem dX6_base_64 : decode cX6_base 64 = .ok (.iconst 1, 1) := by decide +kernel
theorem dX6_base_65 : decode cX6_base 65 = .ok (.goto 4, 3) := by decide +kernel
theorem dX6_base_68 : decode cX6_base 68 = .ok (.iconst 0, 1) := by decide +kernel
theorem dX6_base_69 : decode cX6_base 69 = .ok (.invokevirtual 47, 3) := by decide +kernel
theorem dX6_base_72 : decode cX6_base 72 = .ok (.ifCond .eq 5, 3) := by decide +kernel
theorem dX6_base_75 : decode cX6_base 75 = .ok (.iconst 0, 1) := by decide +kernel
theorem dX6_base_76 : decode cX6_base 76 = .ok (.ireturn, 1) := by decide +kernel
theorem dX6_base_77 : decode cX6_base 77 = .ok (.iload_n 3, 1) := by decide +kernel
theorem dX6_base_78 : decode cX6_base 78 = .ok (.ifCond .ge 8, 3) := by decide +kernel
theorem dX6_base_81 : decode cX6_base 81 = .ok (.iload 5, 2) := by decide +kernel
theorem dX6_base_83 : decode cX6_base 83 = .ok (.goto 23, 3) := by decide +kernel
theorem dX6_base_86 : decode cX6_base 86 = .ok (.aload_n 0, 1) := by decide +kernel
theorem dX6_base_87 : decode cX6_base 87 = .ok (.iload_n 1, 1) := by decide +kernel
theorem dX6_base_88 : decode cX6_base 88 = .ok (.bipush 6, 2) := by decide +kernel
theorem dX6_base_90 : decode cX6_base 90 = .ok (.iload_n 2, 1) := by decide +kernel
theorem dX6_base_91 : decode cX6_base 91 = .ok (.iadd, 1) := by decide +kernel
theorem dX6_base_92 : decode cX6_base 92 = .ok (.invokevirtual 33, 3) := by decide +kernel
theorem dX6_base_95 : decode cX6_base 95 = .ok (.iconst 2, 1) := by decide +kernel
theorem dX6_base_96 : decode cX6_base 96 = .ok (.iload 5, 2) := by decide +kernel
theorem dX6_base_98 : decode cX6_base 98 = .ok (.iconst 1, 1) := by decide +kernel
theorem dX6_base_99 : decode cX6_base 99 = .ok (.isub, 1) := by decide +kernel
theorem dX6_base_100 : decode cX6_base 100 = .ok (.iload_n 3, 1) := by decide +kernel
theorem dX6_base_101 : decode cX6_base 101 = .ok (.isub, 1) := by decide +kernel
theorem dX6_base_102 : decode cX6_base 102 = .ok (.imul, 1) := by decide +kernel
theorem dX6_base_103 : decode cX6_base 103 = .ok (.ishr, 1) := by decide +kernel
theorem dX6_base_104 : decode cX6_base 104 = .ok (.iconst 3, 1) := by decide +kernel
theorem dX6_base_105 : decode cX6_base 105 = .ok (.iand, 1) := by decide +kernel
theorem dX6_base_106 : decode cX6_base 106 = .ok (.ireturn, 1) := by decide +kernel
theorem dX6_isBad_0 : decode cX6_isBad 0 = .ok (.iload_n 1, 1) := by decide +kernel
theorem dX6_isBad_1 : decode cX6_isBad 1 = .ok (.iconst 1, 1) := by decide +kernel
theorem dX6_isBad_2 : decode cX6_isBad 2 = .ok (.if_icmp .lt 15, 3) := by decide +kernel
theorem dX6_isBad_5 : decode cX6_isBad 5 = .ok (.iload_n 1, 1) := by decide +kernel
theorem dX6_isBad_6 : decode cX6_isBad 6 = .ok (.iload_n 2, 1) := by decide +kernel
theorem dX6_isBad_7 : decode cX6_isBad 7 = .ok (.if_icmp .gt 10, 3) := by decide +kernel
theorem dX6_isBad_10 : decode cX6_isBad 10 = .ok (.iload_n 2, 1) := by decide +kernel
theorem dX6_isBad_11 : decode cX6_isBad 11 = .ok (.sipush 255, 3) := by decide +kernel
theorem dX6_isBad_14 : decode cX6_isBad 14 = .ok (.if_icmp .le 7, 3) := by decide +kernel
theorem dX6_isBad_17 : decode cX6_isBad 17 = .ok (.iconst 1, 1) := by decide +kernel
theorem dX6_isBad_18 : decode cX6_isBad 18 = .ok (.goto 4, 3) := by decide +kernel
theorem dX6_isBad_21 : decode cX6_isBad 21 = .ok (.iconst 0, 1) := by decide +kernel
theorem dX6_isBad_22 : decode cX6_isBad 22 = .ok (.ireturn, 1) := by decide +kernel
theorem dX6_spans_0 : decode cX6_spans 0 = .ok (.aload_n 0, 1) := by decide +kernel
theorem dX6_spans_1 : decode cX6_spans 1 = .ok (.iload_n 1, 1) := by decide +kernel
theorem dX6_spans_2 : decode cX6_spans 2 = .ok (.iconst 0, 1) := by decide +kernel
theorem dX6_spans_3 : decode cX6_spans 3 = .ok (.invokevirtual 33, 3) := by decide +kernel
theorem dX6_spans_6 : decode cX6_spans 6 = .ok (.iload_n 3, 1) := by decide +kernel
theorem dX6_spans_7 : decode cX6_spans 7 = .ok (.if_icmp .gt 24, 3) := by decide +kernel
theorem dX6_spans_10 : decode cX6_spans 10 = .ok (.aload_n 0, 1) := by decide +kernel
theorem dX6_spans_11 : decode cX6_spans 11 = .ok (.iload_n 1, 1) := by decide +kernel
theorem dX6_spans_12 : decode cX6_spans 12 = .ok (.iconst 0, 1) := by decide +kernel
theorem dX6_spans_13 : decode cX6_spans 13 = .ok (.invokevirtual 33, 3) := by decide +kernel
theorem dX6_spans_16 : decode cX6_spans 16 = .ok (.aload_n 0, 1) := by decide +kernel
theorem dX6_spans_17 : decode cX6_spans 17 = .ok (.iload_n 1, 1) := by decide +kernel
theorem dX6_spans_18 : decode cX6_spans 18 = .ok (.iconst 2, 1) := by decide +kernel
theorem dX6_spans_19 : decode cX6_spans 19 = .ok (.invokevirtual 33, 3) := by decide +kernel
theorem dX6_spans_22 : decode cX6_spans 22 = .ok (.iadd, 1) := by decide +kernel
theorem dX6_spans_23 : decode cX6_spans 23 = .ok (.iload_n 2, 1) := by decide +kernel
theorem dX6_spans_24 : decode cX6_spans 24 = .ok (.if_icmp .le 7, 3) := by decide +kernel
theorem dX6_spans_27 : decode cX6_spans 27 = .ok (.iconst 1, 1) := by decide +kernel
theorem dX6_spans_28 : decode cX6_spans 28 = .ok (.goto 4, 3) := by decide +kernel
theorem dX6_spans_31 : decode cX6_spans 31 = .ok (.iconst 0, 1) := by decide +kernel
theorem dX6_spans_32 : decode cX6_spans 32 = .ok (.ireturn, 1) := by decide +kernel
theorem dX6_found_0 : decode cX6_found 0 = .ok (.aload_n 0, 1) := by decide +kernel
theorem dX6_found_1 : decode cX6_found 1 = .ok (.aload_n 0, 1) := by decide +kernel
theorem dX6_found_2 : decode cX6_found 2 = .ok (.iload_n 1, 1) := by decide +kernel
theorem dX6_found_3 : decode cX6_found 3 = .ok (.iload_n 2, 1) := by decide +kernel
theorem dX6_found_4 : decode cX6_found 4 = .ok (.invokevirtual 163, 3) := by decide +kernel
theorem dX6_found_7 : decode cX6_found 7 = .ok (.iconst 0, 1) := by decide +kernel
theorem dX6_found_8 : decode cX6_found 8 = .ok (.invokevirtual 47, 3) := by decide +kernel
theorem dX6_found_11 : decode cX6_found 11 = .ok (.ifCond .eq 5, 3) := by decide +kernel
theorem dX6_found_14 : decode cX6_found 14 = .ok (.iconst 0, 1) := by decide +kernel
theorem dX6_found_15 : decode cX6_found 15 = .ok (.ireturn, 1) := by decide +kernel
theorem dX6_found_16 : decode cX6_found 16 = .ok (.iconst 0, 1) := by decide +kernel
theorem dX6_found_17 : decode cX6_found 17 = .ok (.istore_n 3, 1) := by decide +kernel
theorem dX6_found_18 : decode cX6_found 18 = .ok (.iconst 0, 1) := by decide +kernel
theorem dX6_found_19 : decode cX6_found 19 = .ok (.istore 4, 2) := by decide +kernel
theorem dX6_found_21 : decode cX6_found 21 = .ok (.iload 4, 2) := by decide +kernel
theorem dX6_found_23 : decode cX6_found 23 = .ok (.aload_n 0, 1) := by decide +kernel
theorem dX6_found_24 : decode cX6_found 24 = .ok (.getfield 44, 3) := by decide +kernel
theorem dX6_found_27 : decode cX6_found 27 = .ok (.if_icmp .ge 28, 3) := by decide +kernel
theorem dX6_found_30 : decode cX6_found 30 = .ok (.aload_n 0, 1) := by decide +kernel
theorem dX6_found_31 : decode cX6_found 31 = .ok (.iload 4, 2) := by decide +kernel
theorem dX6_found_33 : decode cX6_found 33 = .ok (.iload_n 1, 1) := by decide +kernel
theorem dX6_found_34 : decode cX6_found 34 = .ok (.iload_n 2, 1) := by decide +kernel
theorem dX6_found_35 : decode cX6_found 35 = .ok (.invokevirtual 166, 3) := by decide +kernel
theorem dX6_found_38 : decode cX6_found 38 = .ok (.ifCond .eq 9, 3) := by decide +kernel
theorem dX6_found_41 : decode cX6_found 41 = .ok (.iload_n 3, 1) := by decide +kernel
theorem dX6_found_42 : decode cX6_found 42 = .ok (.iconst 1, 1) := by decide +kernel
theorem dX6_found_43 : decode cX6_found 43 = .ok (.iadd, 1) := by decide +kernel
theorem dX6_found_44 : decode cX6_found 44 = .ok (.goto 4, 3) := by decide +kernel
theorem dX6_found_47 : decode cX6_found 47 = .ok (.iload_n 3, 1) := by decide +kernel
theorem dX6_found_48 : decode cX6_found 48 = .ok (.istore_n 3, 1) := by decide +kernel
theorem dX6_found_49 : decode cX6_found 49 = .ok (.iinc 4 1, 3) := by decide +kernel
theorem dX6_found_52 : decode cX6_found 52 = .ok (.goto (-31), 3) := by decide +kernel
theorem dX6_found_55 : decode cX6_found 55 = .ok (.iload_n 3, 1) := by decide +kernel
theorem dX6_found_56 : decode cX6_found 56 = .ok (.ireturn, 1) := by decide +kernel
theorem dX6_mean_0 : decode cX6_mean 0 = .ok (.aload_n 0, 1) := by decide +kernel
theorem dX6_mean_1 : decode cX6_mean 1 = .ok (.iload_n 1, 1) := by decide +kernel
theorem dX6_mean_2 : decode cX6_mean 2 = .ok (.iload_n 2, 1) := by decide +kernel
theorem dX6_mean_3 : decode cX6_mean 3 = .ok (.invokevirtual 163, 3) := by decide +kernel
theorem dX6_mean_6 : decode cX6_mean 6 = .ok (.istore_n 3, 1) := by decide +kernel
theorem dX6_mean_7 : decode cX6_mean 7 = .ok (.iconst 0, 1) := by decide +kernel
theorem dX6_mean_8 : decode cX6_mean 8 = .ok (.istore 4, 2) := by decide +kernel
theorem dX6_mean_10 : decode cX6_mean 10 = .ok (.fconst 0, 1) := by decide +kernel
theorem dX6_mean_11 : decode cX6_mean 11 = .ok (.fstore 5, 2) := by decide +kernel
theorem dX6_mean_13 : decode cX6_mean 13 = .ok (.iconst 0, 1) := by decide +kernel
theorem dX6_mean_14 : decode cX6_mean 14 = .ok (.istore 6, 2) := by decide +kernel
theorem dX6_mean_16 : decode cX6_mean 16 = .ok (.iload 6, 2) := by decide +kernel
theorem dX6_mean_18 : decode cX6_mean 18 = .ok (.aload_n 0, 1) := by decide +kernel
theorem dX6_mean_19 : decode cX6_mean 19 = .ok (.getfield 44, 3) := by decide +kernel
theorem dX6_mean_22 : decode cX6_mean 22 = .ok (.if_icmp .ge 43, 3) := by decide +kernel
theorem dX6_mean_25 : decode cX6_mean 25 = .ok (.aload_n 0, 1) := by decide +kernel
theorem dX6_mean_26 : decode cX6_mean 26 = .ok (.iload 6, 2) := by decide +kernel
theorem dX6_mean_28 : decode cX6_mean 28 = .ok (.iload_n 1, 1) := by decide +kernel
theorem dX6_mean_29 : decode cX6_mean 29 = .ok (.iload_n 2, 1) := by decide +kernel
theorem dX6_mean_30 : decode cX6_mean 30 = .ok (.invokevirtual 166, 3) := by decide +kernel
theorem dX6_mean_33 : decode cX6_mean 33 = .ok (.ifCond .ne 6, 3) := by decide +kernel
theorem dX6_mean_36 : decode cX6_mean 36 = .ok (.goto 23, 3) := by decide +kernel
theorem dX6_mean_39 : decode cX6_mean 39 = .ok (.fload 5, 2) := by decide +kernel
theorem dX6_mean_41 : decode cX6_mean 41 = .ok (.aload_n 0, 1) := by decide +kernel
theorem dX6_mean_42 : decode cX6_mean 42 = .ok (.iload 6, 2) := by decide +kernel
theorem dX6_mean_44 : decode cX6_mean 44 = .ok (.bipush 10, 2) := by decide +kernel
theorem dX6_mean_46 : decode cX6_mean 46 = .ok (.invokevirtual 33, 3) := by decide +kernel
theorem dX6_mean_49 : decode cX6_mean 49 = .ok (.i2f, 1) := by decide +kernel
theorem dX6_mean_50 : decode cX6_mean 50 = .ok (.ldc 170, 2) := by decide +kernel
theorem dX6_mean_52 : decode cX6_mean 52 = .ok (.fmul, 1) := by decide +kernel
theorem dX6_mean_53 : decode cX6_mean 53 = .ok (.fadd, 1) := by decide +kernel
theorem dX6_mean_54 : decode cX6_mean 54 = .ok (.fstore 5, 2) := by decide +kernel
theorem dX6_mean_56 : decode cX6_mean 56 = .ok (.iinc 4 1, 3) := by decide +kernel
theorem dX6_mean_59 : decode cX6_mean 59 = .ok (.iinc 6 1, 3) := by decide +kernel
theorem dX6_mean_62 : decode cX6_mean 62 = .ok (.goto (-46), 3) := by decide +kernel
theorem dX6_mean_65 : decode cX6_mean 65 = .ok (.aload_n 0, 1) := by decide +kernel
theorem dX6_mean_66 : decode cX6_mean 66 = .ok (.iload_n 3, 1) := by decide +kernel
theorem dX6_mean_67 : decode cX6_mean 67 = .ok (.iload 4, 2) := by decide +kernel
theorem dX6_mean_69 : decode cX6_mean 69 = .ok (.ifCond .ne 7, 3) := by decide +kernel
theorem dX6_mean_72 : decode cX6_mean 72 = .ok (.iconst 1, 1) := by decide +kernel
theorem dX6_mean_73 : decode cX6_mean 73 = .ok (.goto 4, 3) := by decide +kernel
theorem dX6_mean_76 : decode cX6_mean 76 = .ok (.iconst 0, 1) := by decide +kernel
theorem dX6_mean_77 : decode cX6_mean 77 = .ok (.invokevirtual 47, 3) := by decide +kernel
theorem dX6_mean_80 : decode cX6_mean 80 = .ok (.ifCond .eq 7, 3) := by decide +kernel
theorem dX6_mean_83 : decode cX6_mean 83 = .ok (.fconst 0, 1) := by decide +kernel
theorem dX6_mean_84 : decode cX6_mean 84 = .ok (.goto 9, 3) := by decide +kernel
theorem dX6_mean_87 : decode cX6_mean 87 = .ok (.fload 5, 2) := by decide +kernel
theorem dX6_mean_89 : decode cX6_mean 89 = .ok (.iload 4, 2) := by decide +kernel
theorem dX6_mean_91 : decode cX6_mean 91 = .ok (.i2f, 1) := by decide +kernel
theorem dX6_mean_92 : decode cX6_mean 92 = .ok (.fdiv, 1) := by decide +kernel
theorem dX6_mean_93 : decode cX6_mean 93 = .ok (.freturn, 1) := by decide +kernel
